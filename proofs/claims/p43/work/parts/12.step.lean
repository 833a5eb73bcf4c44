theorem xF9 : xFs.all (fun r => Nat.blt r.2.2.1 9) = true := by decide +kernel
theorem xDecl_ok : (List.range 9).all (fun ci => match vwCl[ci]? with
  | some u => (List.range u.2.2).all (fun k => decide ((u.2.1 k).1 = xRC ci))
  | none => true) = true := by decide +kernel
theorem xDecl {ci own bb : Nat} {u : vw_C} (h9 : ci < 9) (hu : vwCl[ci]? = some u) (ho : own = ci) (hb : bb < u.2.2) : (u.2.1 bb).1 = xRC own := by
  subst ho
  have h10 : own < 9 := h9
  have h1 := List.all_eq_true.mp xDecl_ok own (List.mem_range.mpr h10)
  rw [hu] at h1
  have h2 := List.all_eq_true.mp h1 bb (List.mem_range.mpr hb)
  exact of_decide_eq_true h2
/-- Math.min, as the tables have it -/
def xMNok : Bool := tables_1.any (fun w => decide (w = .static Lib.Math.min.name) && goodWord w) && (tables_1.any (fun w => decide (w = .initialized "java/lang/Math") && goodWord w) && tables_1.any (fun w => decide (w = .code Lib.Math.min.name Lib.Math.min.code 2 (some .int)) && goodWord w))
theorem xMN_ok : xMNok = true := by decide +kernel
theorem xMN_in : Cond.static Lib.Math.min.name ∈ xBig ∧ Cond.initialized "java/lang/Math" ∈ xBig ∧ Cond.code Lib.Math.min.name Lib.Math.min.code 2 (some .int) ∈ xBig := by
  have h := xMN_ok
  simp only [xMNok, Bool.and_eq_true, List.any_eq_true, decide_eq_true_eq] at h
  obtain ⟨⟨w, h1, rfl, h2⟩, ⟨u, h3, rfl, h4⟩, ⟨v, h5, rfl, h6⟩⟩ := h
  exact ⟨xBig_wd h1 h2, xBig_wd h3 h4, xBig_wd h5 h6⟩
/-- Math.max, as the tables have it -/
def xMXok : Bool := tables_1.any (fun w => decide (w = .static Lib.Math.max.name) && goodWord w) && (tables_1.any (fun w => decide (w = .initialized "java/lang/Math") && goodWord w) && tables_1.any (fun w => decide (w = .code Lib.Math.max.name Lib.Math.max.code 2 (some .int)) && goodWord w))
theorem xMX_ok : xMXok = true := by decide +kernel
theorem xMX_in : Cond.static Lib.Math.max.name ∈ xBig ∧ Cond.initialized "java/lang/Math" ∈ xBig ∧ Cond.code Lib.Math.max.name Lib.Math.max.code 2 (some .int) ∈ xBig := by
  have h := xMX_ok
  simp only [xMXok, Bool.and_eq_true, List.any_eq_true, decide_eq_true_eq] at h
  obtain ⟨⟨w, h1, rfl, h2⟩, ⟨u, h3, rfl, h4⟩, ⟨v, h5, rfl, h6⟩⟩ := h
  exact ⟨xBig_wd h1 h2, xBig_wd h3 h4, xBig_wd h5 h6⟩
theorem xgo_some {pc len : Nat} {off : Int} {lv : xLv} {st : List Value} {h : List xE} {sl fr : Nat} {v : Bool} {O O' : xO} {S' : xS} (hs : xgo pc len off lv st h sl fr v O = some (S', O')) :
    O' = O ∧ ∃ t : Nat, (pc : Int) + off = (t : Int) ∧ S' = (bif v then (t, lv, st, h, sl, fr) else (pc + len, lv, st, h, sl, fr)) := by
  unfold xgo at hs
  split at hs
  · rename_i t ht
    cases v with
    | true =>
      cases hs
      exact ⟨rfl, t, xjmp_some ht, rfl⟩
    | false =>
      cases hs
      exact ⟨rfl, t, xjmp_some ht, rfl⟩
  · cases hs
theorem xgo_mono {pc len t : Nat} {lv : xLv} {st : List Value} {h : List xE} {sl fr : Nat} {v : Bool} {O O' : xO} {S' : xS} (hS : S' = (bif v then (t, lv, st, h, sl, fr) else (pc + len, lv, st, h, sl, fr))) (hm : ∀ X ∈ O.2, X ∈ O'.2) : xMono h sl fr O S' O' := by
  subst hS
  cases v with
  | true => exact ⟨Nat.le_refl _, Nat.le_refl _, Nat.le_refl _, hm⟩
  | false => exact ⟨Nat.le_refl _, Nat.le_refl _, Nat.le_refl _, hm⟩
theorem xcall_some {Ms : List xM} {C : xCT} {pc : Nat} {lv : xLv} {st : List Value} {h : List xE} {sl fr : Nat} {O O' : xO} {a bb : Nat} {S' : xS} (h7 : bb ≠ 7) (h8 : bb ≠ 8) (h9 : bb ≠ 9) (hs : xcall Ms C pc lv st h sl fr O a bb = some (S', O')) :
    ∃ (M' : xM) (as rest : List Value) (r : xR), Ms[a]? = some M' ∧ bb / 2 = xMk M' ∧ xpop (bif Nat.beq (xMk M') 1 then xMp M' else xMp M' + 1) [] st = some (as, rest) ∧ xcat rest ≤ 8 ∧
      (xMk M' = 1 ∨ ∃ (q : Nat) (As0 : List Value) (fs : List Value), as = .ref (q + 1) :: As0 ∧ h[q]? = some (.inr (xMo M', fs))) ∧ C a as h O = some (r, O') ∧ S' = (pc + 3, lv, r.2.1.toList ++ rest, r.1, sl + r.2.2.1, Nat.max fr (r.2.2.2 + 1)) := by
  unfold xcall at hs
  split at hs
  · exact absurd rfl h9
  · exact absurd rfl h8
  · exact absurd rfl h7
  · split at hs
    · cases hs
    · rename_i M' hM
      split at hs
      · cases hs
      · rename_i as rest hp
        replace hs := xbif hs
        obtain ⟨hc, hs⟩ := hs
        simp only [Bool.and_eq_true] at hc
        obtain ⟨⟨c1, c2⟩, c3⟩ := hc
        split at hs
        · cases hs
        · rename_i h' ret sl' d' O1 hC
          cases hs
          rw [xnth_eq] at hM
          refine ⟨M', as, rest, (h', ret, sl', d'), hM, Nat.eq_of_beq_eq_true c1, hp, Nat.le_of_ble_eq_true c2, ?_, hC, rfl⟩
          split at c3
          · rename_i hk
            exact Or.inl hk
          · split at c3
            · rename_i q As0
              split at c3
              · rename_i ci fs hq
                rw [xnth_eq] at hq
                have e1 : ci = xMo M' := Nat.eq_of_beq_eq_true c3
                subst e1
                exact Or.inr ⟨q, As0, fs, rfl, hq⟩
              · cases c3
            · cases c3
theorem xobj_some {Ms : List xM} {C : xCT} {pc : Nat} {lv : xLv} {st : List Value} {h : List xE} {sl fr : Nat} {O O' : xO} {a : Nat} {S' : xS} (hs : xcall Ms C pc lv st h sl fr O a 9 = some (S', O')) :
    ∃ (q : Nat) (r : List Value), st = .ref q :: r ∧ xcat r ≤ 8 ∧ S' = (pc + 3, lv, r, h, sl, Nat.max fr 1) ∧ O' = O := by
  cases st with
  | nil => exact absurd (show (none : Option (xS × xO)) = some (S', O') from hs) (by simp)
  | cons v r =>
    cases v with
    | ref q =>
      have hs : (bif Nat.ble (xcat r) 8 then some ((pc + 3, lv, r, h, sl, Nat.max fr 1), O) else none) = some (S', O') := hs
      replace hs := xbif hs
      obtain ⟨hc, hs⟩ := hs
      cases hs
      exact ⟨q, r, rfl, Nat.le_of_ble_eq_true hc, rfl, rfl⟩
    | _ => exact absurd (show (none : Option (xS × xO)) = some (S', O') from hs) (by simp)
theorem xmin_some {Ms : List xM} {C : xCT} {pc : Nat} {lv : xLv} {st : List Value} {h : List xE} {sl fr : Nat} {O O' : xO} {a : Nat} {S' : xS} (hs : xcall Ms C pc lv st h sl fr O a 8 = some (S', O')) :
    ∃ (y x : Int32) (r : List Value), st = .int y :: .int x :: r ∧ xcat r ≤ 8 ∧ S' = (pc + 3, lv, .int (if y < x then y else x) :: r, h, sl, Nat.max fr 1) ∧ O' = O := by
  have hn : ∀ w : xS × xO, (none : Option (xS × xO)) ≠ some w := fun w q => by cases q
  cases st with
  | nil => exact absurd hs (hn _)
  | cons v r =>
    cases v with
    | int y =>
      cases r with
      | nil => exact absurd hs (hn _)
      | cons w r =>
        cases w with
        | int x =>
          have hs : (bif Nat.ble (xcat r) 8 then some ((pc + 3, lv, .int (if y < x then y else x) :: r, h, sl, Nat.max fr 1), O) else none) = some (S', O') := hs
          replace hs := xbif hs
          obtain ⟨hc, hs⟩ := hs
          cases hs
          exact ⟨y, x, r, rfl, Nat.le_of_ble_eq_true hc, rfl, rfl⟩
        | _ => exact absurd hs (hn _)
    | _ => exact absurd hs (hn _)
theorem xmax_some {Ms : List xM} {C : xCT} {pc : Nat} {lv : xLv} {st : List Value} {h : List xE} {sl fr : Nat} {O O' : xO} {a : Nat} {S' : xS} (hs : xcall Ms C pc lv st h sl fr O a 7 = some (S', O')) :
    ∃ (y x : Int32) (r : List Value), st = .int y :: .int x :: r ∧ xcat r ≤ 8 ∧ S' = (pc + 3, lv, .int (if x < y then y else x) :: r, h, sl, Nat.max fr 1) ∧ O' = O := by
  have hn : ∀ w : xS × xO, (none : Option (xS × xO)) ≠ some w := fun w q => by cases q
  cases st with
  | nil => exact absurd hs (hn _)
  | cons v r =>
    cases v with
    | int y =>
      cases r with
      | nil => exact absurd hs (hn _)
      | cons w r =>
        cases w with
        | int x =>
          have hs : (bif Nat.ble (xcat r) 8 then some ((pc + 3, lv, .int (if x < y then y else x) :: r, h, sl, Nat.max fr 1), O) else none) = some (S', O') := hs
          replace hs := xbif hs
          obtain ⟨hc, hs⟩ := hs
          cases hs
          exact ⟨y, x, r, rfl, Nat.le_of_ble_eq_true hc, rfl, rfl⟩
        | _ => exact absurd hs (hn _)
    | _ => exact absurd hs (hn _)
section XT
variable {p : Program} {l : Launch} {e : Env} {R : Room} {s : State} {m : MethodId} {args : Array Value} {below : List Frame} {meth : Method} {c : Code} {Q : State → Prop} {D : va_G} {ca : Nat → ClassId} {b L n0 : Nat} {o : Nat → Nat} {ρ : Nat → Int32 × Int64} {xs : Nat → Int32} {M : xM}
theorem xfork {P : Prop} {pc len t : Nat} {lv : xLv} {st : List Value} {h : List xE} {sl fr : Nat} {v : Bool} {S' : xS} (hS : S' = (bif v then (t, lv, st, h, sl, fr) else (pc + len, lv, st, h, sl, fr))) (hv : v = true ↔ P) (k : xAt p l e R s m args below meth c Q D ca b o ρ M n0 S') :
    (P → xAt p l e R s m args below meth c Q D ca b o ρ M n0 (t, lv, st, h, sl, fr)) ∧ (¬ P → xAt p l e R s m args below meth c Q D ca b o ρ M n0 (pc + len, lv, st, h, sl, fr)) := by
  subst hS
  cases v with
  | true => exact ⟨fun _ => k, fun hn => absurd (hv.mp rfl) hn⟩
  | false => exact ⟨fun hp => absurd (hv.mpr hp) (by decide), fun _ => k⟩
theorem xstore {pc q sl fr : Nat} {lv : xLv} {st : List Value} {h : List xE} {e' : xE} (k : xAt p l e R s m args below meth c Q D ca b o ρ M n0 (pc, lv, st, h.set q e', sl, fr)) {locs1 : List Loc} {ls : Array Slot} {H1 : Heap} (hn : n0 ≤ h.length) (hl : lv_has ls (xMn M) (lv.map (xSl b o ρ)))
    (h1 : va_P D vwCl ((xWs b o ρ ca h).set q (o q, xCv b o ρ ca e')) H1) (h2 : va_S (xA o) s.heap H1 locs1) : W p l e R s m args below meth c H1 locs1 (h.length - n0) sl Q (F0 m pc ls (st.map (xSh b o ρ))) := by
  rw [xWs_set] at h1
  have := k H1 locs1 ls h1 h2 (by show n0 ≤ (h.set q e').length; rw [List.length_set]; exact hn) hl
  have e1 : (h.set q e').length = h.length := List.length_set
  rw [show h.length - n0 = (h.set q e').length - n0 by rw [e1]]
  exact this
theorem xmade {pc sl fr : Nat} {lv : xLv} {st : List Value} {h : List xE} {e' : xE} (k : xAt p l e R s m args below meth c Q D ca b o ρ M n0 (pc, lv, .ref (h.length + 1) :: st, h ++ [e'], sl, fr)) {locs1 : List Loc} {ls : Array Slot} {H1 : Heap} {q : Nat} (hs : (∀ i, o (n0 + i) = s.heap.size + i)) (hn : n0 ≤ h.length) (hl : lv_has ls (xMn M) (lv.map (xSl b o ρ)))
    (h1 : va_P D vwCl (xWs b o ρ ca h ++ [(q, xCv b o ρ ca e')]) H1) (hD : va_D (xA o) (xWs b o ρ ca h ++ [(q, xCv b o ρ ca e')])) (h2 : va_S (xA o) s.heap H1 locs1) : W p l e R s m args below meth c H1 locs1 (h.length - n0 + 1) sl Q (F0 m pc ls (.ref q :: st.map (xSh b o ρ))) := by
  intro T hT XT
  have hu := XT.heapSize
  rw [hT] at hu
  have hlast : (xWs b o ρ ca h ++ [(q, xCv b o ρ ca e')])[h.length]? = some (q, xCv b o ρ ca e') := by
    rw [List.getElem?_append_right (by rw [xWs_len]; exact Nat.le_refl _), xWs_len, Nat.sub_self]
    rfl
  have hq1 : xA o q := hD.2 _ _ hlast
  have hq2 : q < H1.size := (h1 _ _ hlast).lt
  have hq : q = o h.length := by
    obtain ⟨j, rfl⟩ := hq1
    by_cases hlt : j < h.length
    · obtain ⟨f, hf⟩ : ∃ f, h[j]? = some f := ⟨h[j], List.getElem?_eq_getElem hlt⟩
      have hg := xWs_get (b := b) (o := o) (ρ := ρ) (ca := ca) hf
      have hg2 : (xWs b o ρ ca h ++ [(o j, xCv b o ρ ca e')])[j]? = some (o j, xCv b o ρ ca f) := by
        rw [List.getElem?_append_left (by rw [xWs_len]; exact hlt)]
        exact hg
      have := hD.1 _ _ _ _ hg2 hlast rfl
      omega
    · have h3 := hs (j - n0)
      rw [show n0 + (j - n0) = j by omega] at h3
      rw [show j = h.length by omega]
  subst hq
  rw [xWs_app] at h1
  have e1 : (h ++ [e']).length = h.length + 1 := by simp
  have e2 : h.length - n0 + 1 = (h ++ [e']).length - n0 := by rw [e1]; omega
  rw [e2] at XT
  exact k H1 locs1 ls h1 h2 (by show n0 ≤ (h ++ [e']).length; rw [e1]; omega) hl T hT XT
set_option maxHeartbeats 4000000 in
set_option maxRecDepth 100000 in
theorem xstep_ok {iv : List (Int × Int)} {Ms : List xM} {C : xCT} (hρ : xIv ρ iv) (hxs : ∀ i, i < L - 1 → xs i = (ρ (i + 2000)).1) (hCs : xCs.all (xCok Ms) = true) (hC : xCsnd D ca b o ρ Ms C) {ins : Instr} {len a bb pc sl fr : Nat} {lv : xLv} {st : List Value} {h : List xE} {O O' : xO} {S' : xS} (hlen : xlen ins = 0 ∨ len = xlen ins) (ha : xAux (xMo M) (xMk M) ins a bb = true)
    (hs : xstep L iv Ms C M ins len a bb pc lv st h sl fr O = some (S', O')) : xMono h sl fr O S' O' ∧ ∀ (p : Program) (l : Launch) (e : Env) (R : Room) (s : State) (m : MethodId) (args : Array Value) (below : List Frame) (meth : Method) (c : Code) (Q : State → Prop) (n0 : Nat) (X : xCtx p s m args meth c D ca b o ρ L xs M n0) (hd : decode (xMc M) pc = .ok (ins, len)) (hO : ∀ P ∈ O'.2, P) (hF : xFits R n0 S') (k : xAt p l e R s m args below meth c Q D ca b o ρ M n0 S'), xAt p l e R s m args below meth c Q D ca b o ρ M n0 (pc, lv, st, h, sl, fr) := by
  cases ins
  case iconst n =>
    obtain rfl : len = 1 := by simpa [xlen] using hlen
    cases hs
    exact ⟨xMono.rf, fun p l e R s m args below meth c Q n0 X hd _ _ k H locs ls a1 a2 a3 a4 => lv_iconst X.1 X.2.1 hd rfl (k H locs ls a1 a2 a3 a4)⟩
  case bipush n =>
    obtain rfl : len = 2 := by simpa [xlen] using hlen
    cases hs
    exact ⟨xMono.rf, fun p l e R s m args below meth c Q n0 X hd _ _ k H locs ls a1 a2 a3 a4 => lv_bipush X.1 X.2.1 hd rfl (k H locs ls a1 a2 a3 a4)⟩
  case sipush n =>
    obtain rfl : len = 3 := by simpa [xlen] using hlen
    cases hs
    exact ⟨xMono.rf, fun p l e R s m args below meth c Q n0 X hd _ _ k H locs ls a1 a2 a3 a4 => lv_sipush X.1 X.2.1 hd rfl (k H locs ls a1 a2 a3 a4)⟩
  case lconst n =>
    obtain rfl : len = 1 := by simpa [xlen] using hlen
    cases hs
    exact ⟨xMono.rf, fun p l e R s m args below meth c Q n0 X hd _ _ k H locs ls a1 a2 a3 a4 => lv_lconst X.1 X.2.1 hd rfl (k H locs ls a1 a2 a3 a4)⟩
  case aconst_null =>
    obtain rfl : len = 1 := by simpa [xlen] using hlen
    cases hs
    exact ⟨xMono.rf, fun p l e R s m args below meth c Q n0 X hd _ _ k H locs ls a1 a2 a3 a4 => lv_null X.1 X.2.1 hd (k H locs ls a1 a2 a3 a4)⟩
  case ldc i =>
    obtain rfl : len = 2 := by simpa [xlen] using hlen
    change (match xnth xI32 a with
      | some q => some ((pc + 2, lv, .int q.2.2.1 :: st, h, sl, fr), O)
      | none => none) = some (S', O') at hs
    rw [xnth_eq] at hs
    change (match xI32[a]? with
      | some q => Nat.beq q.1 (xMo M) && Nat.beq q.2.1 i
      | none => false) = true at ha
    cases hq : xI32[a]? with
    | none => rw [hq] at hs; cases hs
    | some q =>
      rw [hq] at hs ha
      cases hs
      simp only [Bool.and_eq_true] at ha
      have e1 : q.1 = xMo M := Nat.eq_of_beq_eq_true ha.1
      have e2 : q.2.1 = i := Nat.eq_of_beq_eq_true ha.2
      have hw := xBig_of (List.all_eq_true.mp xI32_ok q (List.mem_of_getElem? hq))
      rw [e1, e2] at hw
      exact ⟨xMono.rf, fun p l e R s m args below meth c Q n0 X hd _ _ k H locs ls a1 a2 a3 a4 => lv_ldc X.1 X.2.1 X.2.2.2.1 (X.2.2.2.2.1 _ hw) hd (k H locs ls a1 a2 a3 a4)⟩
  case ldc_w i =>
    obtain rfl : len = 3 := by simpa [xlen] using hlen
    change (match xnth xI32 a with
      | some q => some ((pc + 3, lv, .int q.2.2.1 :: st, h, sl, fr), O)
      | none => none) = some (S', O') at hs
    rw [xnth_eq] at hs
    change (match xI32[a]? with
      | some q => Nat.beq q.1 (xMo M) && Nat.beq q.2.1 i
      | none => false) = true at ha
    cases hq : xI32[a]? with
    | none => rw [hq] at hs; cases hs
    | some q =>
      rw [hq] at hs ha
      cases hs
      simp only [Bool.and_eq_true] at ha
      have e1 : q.1 = xMo M := Nat.eq_of_beq_eq_true ha.1
      have e2 : q.2.1 = i := Nat.eq_of_beq_eq_true ha.2
      have hw := xBig_of (List.all_eq_true.mp xI32_ok q (List.mem_of_getElem? hq))
      rw [e1, e2] at hw
      exact ⟨xMono.rf, fun p l e R s m args below meth c Q n0 X hd _ _ k H locs ls a1 a2 a3 a4 => lv_ldcw X.1 X.2.1 X.2.2.2.1 (X.2.2.2.2.1 _ hw) hd (k H locs ls a1 a2 a3 a4)⟩
  case ldc2_w i =>
    obtain rfl : len = 3 := by simpa [xlen] using hlen
    change (match xnth xI64 a with
      | some q => some ((pc + 3, lv, .long q.2.2.1 :: st, h, sl, fr), O)
      | none => none) = some (S', O') at hs
    rw [xnth_eq] at hs
    change (match xI64[a]? with
      | some q => Nat.beq q.1 (xMo M) && Nat.beq q.2.1 i
      | none => false) = true at ha
    cases hq : xI64[a]? with
    | none => rw [hq] at hs; cases hs
    | some q =>
      rw [hq] at hs ha
      cases hs
      simp only [Bool.and_eq_true] at ha
      have e1 : q.1 = xMo M := Nat.eq_of_beq_eq_true ha.1
      have e2 : q.2.1 = i := Nat.eq_of_beq_eq_true ha.2
      have hw := xBig_of (List.all_eq_true.mp xI64_ok q (List.mem_of_getElem? hq))
      rw [e1, e2] at hw
      exact ⟨xMono.rf, fun p l e R s m args below meth c Q n0 X hd _ _ k H locs ls a1 a2 a3 a4 => lv_ldc2 X.1 X.2.1 X.2.2.2.1 (X.2.2.2.2.1 _ hw) hd (k H locs ls a1 a2 a3 a4)⟩
  case iload i =>
    obtain rfl : len = 2 := by simpa [xlen] using hlen
    change (match xget lv i with
      | some (.int x) => some ((pc + 2, lv, .int x :: st, h, sl, fr), O)
      | some (.float x) => some ((pc + 2, lv, .float x :: st, h, sl, fr), O)
      | _ => none) = some (S', O') at hs
    split at hs
    · rename_i x hg
      cases hs
      exact ⟨xMono.rf, fun p l e R s m args below meth c Q n0 X hd _ _ k H locs ls a1 a2 a3 a4 => lv_iload X.1 X.2.1 hd (xget_at a4 hg) (k H locs ls a1 a2 a3 a4)⟩
    · rename_i x hg
      cases hs
      exact ⟨xMono.rf, fun p l e R s m args below meth c Q n0 X hd _ _ k H locs ls a1 a2 a3 a4 => lv_iload X.1 X.2.1 hd (xget_at a4 hg) (k H locs ls a1 a2 a3 a4)⟩
    · cases hs
  case iload_n i =>
    obtain rfl : len = 1 := by simpa [xlen] using hlen
    change (match xget lv i with
      | some (.int x) => some ((pc + 1, lv, .int x :: st, h, sl, fr), O)
      | some (.float x) => some ((pc + 1, lv, .float x :: st, h, sl, fr), O)
      | _ => none) = some (S', O') at hs
    split at hs
    · rename_i x hg
      cases hs
      exact ⟨xMono.rf, fun p l e R s m args below meth c Q n0 X hd _ _ k H locs ls a1 a2 a3 a4 => lv_iload_n X.1 X.2.1 hd rfl (xget_at a4 hg) (k H locs ls a1 a2 a3 a4)⟩
    · rename_i x hg
      cases hs
      exact ⟨xMono.rf, fun p l e R s m args below meth c Q n0 X hd _ _ k H locs ls a1 a2 a3 a4 => lv_iload_n X.1 X.2.1 hd rfl (xget_at a4 hg) (k H locs ls a1 a2 a3 a4)⟩
    · cases hs
  case lload i =>
    obtain rfl : len = 2 := by simpa [xlen] using hlen
    change (match xget lv i with
      | some (.long x) => some ((pc + 2, lv, .long x :: st, h, sl, fr), O)
      | some (.double x) => some ((pc + 2, lv, .double x :: st, h, sl, fr), O)
      | _ => none) = some (S', O') at hs
    split at hs
    · rename_i x hg
      cases hs
      exact ⟨xMono.rf, fun p l e R s m args below meth c Q n0 X hd _ _ k H locs ls a1 a2 a3 a4 => lv_lload X.1 X.2.1 hd (xget_at a4 hg) (k H locs ls a1 a2 a3 a4)⟩
    · rename_i x hg
      cases hs
      exact ⟨xMono.rf, fun p l e R s m args below meth c Q n0 X hd _ _ k H locs ls a1 a2 a3 a4 => lv_lload X.1 X.2.1 hd (xget_at a4 hg) (k H locs ls a1 a2 a3 a4)⟩
    · cases hs
  case lload_n i =>
    obtain rfl : len = 1 := by simpa [xlen] using hlen
    change (match xget lv i with
      | some (.long x) => some ((pc + 1, lv, .long x :: st, h, sl, fr), O)
      | some (.double x) => some ((pc + 1, lv, .double x :: st, h, sl, fr), O)
      | _ => none) = some (S', O') at hs
    split at hs
    · rename_i x hg
      cases hs
      exact ⟨xMono.rf, fun p l e R s m args below meth c Q n0 X hd _ _ k H locs ls a1 a2 a3 a4 => lv_lload_n X.1 X.2.1 hd rfl (xget_at a4 hg) (k H locs ls a1 a2 a3 a4)⟩
    · rename_i x hg
      cases hs
      exact ⟨xMono.rf, fun p l e R s m args below meth c Q n0 X hd _ _ k H locs ls a1 a2 a3 a4 => lv_lload_n X.1 X.2.1 hd rfl (xget_at a4 hg) (k H locs ls a1 a2 a3 a4)⟩
    · cases hs
  case aload i =>
    obtain rfl : len = 2 := by simpa [xlen] using hlen
    change (match xget lv i with
      | some (.ref x) => some ((pc + 2, lv, .ref x :: st, h, sl, fr), O)
      | some .null => some ((pc + 2, lv, .null :: st, h, sl, fr), O)
      | _ => none) = some (S', O') at hs
    split at hs
    · rename_i x hg
      cases hs
      exact ⟨xMono.rf, fun p l e R s m args below meth c Q n0 X hd _ _ k H locs ls a1 a2 a3 a4 => lv_aload X.1 X.2.1 hd (xget_at a4 hg) (k H locs ls a1 a2 a3 a4)⟩
    · rename_i hg
      cases hs
      exact ⟨xMono.rf, fun p l e R s m args below meth c Q n0 X hd _ _ k H locs ls a1 a2 a3 a4 => lv_aloadN X.1 X.2.1 hd (xget_at a4 hg) (k H locs ls a1 a2 a3 a4)⟩
    · cases hs
  case aload_n i =>
    obtain rfl : len = 1 := by simpa [xlen] using hlen
    change (match xget lv i with
      | some (.ref x) => some ((pc + 1, lv, .ref x :: st, h, sl, fr), O)
      | some .null => some ((pc + 1, lv, .null :: st, h, sl, fr), O)
      | _ => none) = some (S', O') at hs
    split at hs
    · rename_i x hg
      cases hs
      exact ⟨xMono.rf, fun p l e R s m args below meth c Q n0 X hd _ _ k H locs ls a1 a2 a3 a4 => lv_aload_n X.1 X.2.1 hd rfl (xget_at a4 hg) (k H locs ls a1 a2 a3 a4)⟩
    · rename_i hg
      cases hs
      exact ⟨xMono.rf, fun p l e R s m args below meth c Q n0 X hd _ _ k H locs ls a1 a2 a3 a4 => lv_aload_nN X.1 X.2.1 hd rfl (xget_at a4 hg) (k H locs ls a1 a2 a3 a4)⟩
    · cases hs
  case istore i =>
    obtain rfl : len = 2 := by simpa [xlen] using hlen
    replace hs := xbif hs
    obtain ⟨hb, hs⟩ := hs
    split at hs
    · rename_i x r
      cases hs
      exact ⟨xMono.rf, fun p l e R s m args below meth c Q n0 X hd _ _ k H locs ls a1 a2 a3 a4 => lv_istore X.1 X.2.1 hd a4 (Nat.le_of_ble_eq_true hb) (xst1_map b o ρ lv i (.int x)) (fun ls' h' => k H locs ls' a1 a2 a3 h')⟩
    · rename_i x r
      cases hs
      exact ⟨xMono.rf, fun p l e R s m args below meth c Q n0 X hd _ _ k H locs ls a1 a2 a3 a4 => lv_istore X.1 X.2.1 hd a4 (Nat.le_of_ble_eq_true hb) (xst1_map b o ρ lv i (.float x)) (fun ls' h' => k H locs ls' a1 a2 a3 h')⟩
    · cases hs
  case istore_n i =>
    obtain rfl : len = 1 := by simpa [xlen] using hlen
    replace hs := xbif hs
    obtain ⟨hb, hs⟩ := hs
    split at hs
    · rename_i x r
      cases hs
      exact ⟨xMono.rf, fun p l e R s m args below meth c Q n0 X hd _ _ k H locs ls a1 a2 a3 a4 => lv_istore_n X.1 X.2.1 hd rfl a4 (Nat.le_of_ble_eq_true hb) (xst1_map b o ρ lv i (.int x)) (fun ls' h' => k H locs ls' a1 a2 a3 h')⟩
    · rename_i x r
      cases hs
      exact ⟨xMono.rf, fun p l e R s m args below meth c Q n0 X hd _ _ k H locs ls a1 a2 a3 a4 => lv_istore_n X.1 X.2.1 hd rfl a4 (Nat.le_of_ble_eq_true hb) (xst1_map b o ρ lv i (.float x)) (fun ls' h' => k H locs ls' a1 a2 a3 h')⟩
    · cases hs
  case lstore i =>
    obtain rfl : len = 2 := by simpa [xlen] using hlen
    replace hs := xbif hs
    obtain ⟨hb, hs⟩ := hs
    split at hs
    · rename_i x r
      cases hs
      exact ⟨xMono.rf, fun p l e R s m args below meth c Q n0 X hd _ _ k H locs ls a1 a2 a3 a4 => lv_lstore X.1 X.2.1 hd a4 (Nat.le_of_ble_eq_true hb) (xst2_map b o ρ lv i (.long x)) (fun ls' h' => k H locs ls' a1 a2 a3 h')⟩
    · rename_i x r
      cases hs
      exact ⟨xMono.rf, fun p l e R s m args below meth c Q n0 X hd _ _ k H locs ls a1 a2 a3 a4 => lv_lstore X.1 X.2.1 hd a4 (Nat.le_of_ble_eq_true hb) (xst2_map b o ρ lv i (.double x)) (fun ls' h' => k H locs ls' a1 a2 a3 h')⟩
    · cases hs
  case lstore_n i =>
    obtain rfl : len = 1 := by simpa [xlen] using hlen
    replace hs := xbif hs
    obtain ⟨hb, hs⟩ := hs
    split at hs
    · rename_i x r
      cases hs
      exact ⟨xMono.rf, fun p l e R s m args below meth c Q n0 X hd _ _ k H locs ls a1 a2 a3 a4 => lv_lstore_n X.1 X.2.1 hd rfl a4 (Nat.le_of_ble_eq_true hb) (xst2_map b o ρ lv i (.long x)) (fun ls' h' => k H locs ls' a1 a2 a3 h')⟩
    · rename_i x r
      cases hs
      exact ⟨xMono.rf, fun p l e R s m args below meth c Q n0 X hd _ _ k H locs ls a1 a2 a3 a4 => lv_lstore_n X.1 X.2.1 hd rfl a4 (Nat.le_of_ble_eq_true hb) (xst2_map b o ρ lv i (.double x)) (fun ls' h' => k H locs ls' a1 a2 a3 h')⟩
    · cases hs
  case astore i =>
    obtain rfl : len = 2 := by simpa [xlen] using hlen
    replace hs := xbif hs
    obtain ⟨hb, hs⟩ := hs
    split at hs
    · rename_i x r
      cases hs
      exact ⟨xMono.rf, fun p l e R s m args below meth c Q n0 X hd _ _ k H locs ls a1 a2 a3 a4 => lv_astore X.1 X.2.1 hd a4 (Nat.le_of_ble_eq_true hb) (xst1_map b o ρ lv i (.ref x)) (fun ls' h' => k H locs ls' a1 a2 a3 h')⟩
    · rename_i r
      cases hs
      exact ⟨xMono.rf, fun p l e R s m args below meth c Q n0 X hd _ _ k H locs ls a1 a2 a3 a4 => lv_astoreN X.1 X.2.1 hd a4 (Nat.le_of_ble_eq_true hb) (xst1_map b o ρ lv i .null) (fun ls' h' => k H locs ls' a1 a2 a3 h')⟩
    · cases hs
  case astore_n i =>
    obtain rfl : len = 1 := by simpa [xlen] using hlen
    replace hs := xbif hs
    obtain ⟨hb, hs⟩ := hs
    split at hs
    · rename_i x r
      cases hs
      exact ⟨xMono.rf, fun p l e R s m args below meth c Q n0 X hd _ _ k H locs ls a1 a2 a3 a4 => lv_astore_n X.1 X.2.1 hd rfl a4 (Nat.le_of_ble_eq_true hb) (xst1_map b o ρ lv i (.ref x)) (fun ls' h' => k H locs ls' a1 a2 a3 h')⟩
    · rename_i r
      cases hs
      exact ⟨xMono.rf, fun p l e R s m args below meth c Q n0 X hd _ _ k H locs ls a1 a2 a3 a4 => lv_astore_nN X.1 X.2.1 hd rfl a4 (Nat.le_of_ble_eq_true hb) (xst1_map b o ρ lv i .null) (fun ls' h' => k H locs ls' a1 a2 a3 h')⟩
    · cases hs
  case iinc i n =>
    obtain rfl : len = 3 := by simpa [xlen] using hlen
    replace hs := xbif hs
    obtain ⟨hb, hs⟩ := hs
    split at hs
    · rename_i x hg
      cases hs
      refine ⟨xMono.rf, fun p l e R s m args below meth c Q n0 X hd _ _ k H locs ls a1 a2 a3 a4 => ?_⟩
      obtain ⟨kk, hk⟩ := xget_k (b := b) (o := o) (ρ := ρ) hg
      exact lv_iinc X.1 X.2.1 hd a4 hk rfl (Nat.le_of_ble_eq_true hb) (xst1_map b o ρ lv i (.int (x + Int32.ofInt n))) (fun ls' h' => k H locs ls' a1 a2 a3 h')
    · cases hs
  case iadd =>
    obtain rfl : len = 1 := by simpa [xlen] using hlen
    dsimp only [xstep, xdisp, xs_iadd] at hs
    split at hs
    · cases hs
      exact ⟨xMono.rf, fun p l e R s m args below meth c Q n0 X hd _ _ k H locs ls a1 a2 a3 a4 => lv_iadd X.1 X.2.1 hd (k H locs ls a1 a2 a3 a4)⟩
    · rename_i jj kk r
      replace hs := xbif hs
      obtain ⟨hk, hs⟩ := hs
      simp only [Bool.and_eq_true] at hk
      have hk1 := Nat.eq_of_beq_eq_true hk.1
      have hk2 := Nat.eq_of_beq_eq_true hk.2
      cases hs
      refine ⟨xMono.rf, fun p l e R s m args below meth c Q n0 X hd _ _ k H locs ls a1 a2 a3 a4 => lv_iadd (x := (ρ kk.toNat).1) (y := (ρ jj.toNat).1) X.1 X.2.1 hd ?_⟩
      rw [hk1, hk2, ← (xSg.of hρ).1.1]
      exact k H locs ls a1 a2 a3 a4
    · cases hs
  case imul =>
    obtain rfl : len = 1 := by simpa [xlen] using hlen
    dsimp only [xstep, xdisp, xs_imul] at hs
    split at hs
    · cases hs
      exact ⟨xMono.rf, fun p l e R s m args below meth c Q n0 X hd _ _ k H locs ls a1 a2 a3 a4 => lv_imul X.1 X.2.1 hd (k H locs ls a1 a2 a3 a4)⟩
    · rename_i jj kk r
      replace hs := xbif hs
      obtain ⟨hk, hs⟩ := hs
      simp only [Bool.and_eq_true] at hk
      have hk1 := Nat.eq_of_beq_eq_true hk.1
      have hk2 := Nat.eq_of_beq_eq_true hk.2
      cases hs
      refine ⟨xMono.rf, fun p l e R s m args below meth c Q n0 X hd _ _ k H locs ls a1 a2 a3 a4 => lv_imul (x := (ρ kk.toNat).1) (y := (ρ jj.toNat).1) X.1 X.2.1 hd ?_⟩
      rw [hk1, hk2, ← (xSg.of hρ).1.2.2.1]
      exact k H locs ls a1 a2 a3 a4
    · cases hs
  case ior =>
    obtain rfl : len = 1 := by simpa [xlen] using hlen
    replace hs := xi2_some hs
    obtain ⟨x, y, r, rfl, hs⟩ := hs
    cases hs
    exact ⟨xMono.rf, fun p l e R s m args below meth c Q n0 X hd _ _ k H locs ls a1 a2 a3 a4 => lv_ior X.1 X.2.1 hd (k H locs ls a1 a2 a3 a4)⟩
  case ixor =>
    obtain rfl : len = 1 := by simpa [xlen] using hlen
    replace hs := xi2_some hs
    obtain ⟨x, y, r, rfl, hs⟩ := hs
    cases hs
    exact ⟨xMono.rf, fun p l e R s m args below meth c Q n0 X hd _ _ k H locs ls a1 a2 a3 a4 => lv_ixor X.1 X.2.1 hd (k H locs ls a1 a2 a3 a4)⟩
  case ishl =>
    obtain rfl : len = 1 := by simpa [xlen] using hlen
    replace hs := xi2_some hs
    obtain ⟨x, y, r, rfl, hs⟩ := hs
    cases hs
    exact ⟨xMono.rf, fun p l e R s m args below meth c Q n0 X hd _ _ k H locs ls a1 a2 a3 a4 => lv_ishl X.1 X.2.1 hd (k H locs ls a1 a2 a3 a4)⟩
  case ishr =>
    obtain rfl : len = 1 := by simpa [xlen] using hlen
    replace hs := xi2_some hs
    obtain ⟨x, y, r, rfl, hs⟩ := hs
    cases hs
    exact ⟨xMono.rf, fun p l e R s m args below meth c Q n0 X hd _ _ k H locs ls a1 a2 a3 a4 => lv_ishr X.1 X.2.1 hd (k H locs ls a1 a2 a3 a4)⟩
  case iushr =>
    obtain rfl : len = 1 := by simpa [xlen] using hlen
    replace hs := xi2_some hs
    obtain ⟨x, y, r, rfl, hs⟩ := hs
    cases hs
    exact ⟨xMono.rf, fun p l e R s m args below meth c Q n0 X hd _ _ k H locs ls a1 a2 a3 a4 => lv_iushr X.1 X.2.1 hd rfl (k H locs ls a1 a2 a3 a4)⟩
  case ladd =>
    obtain rfl : len = 1 := by simpa [xlen] using hlen
    replace hs := xl2_some hs
    obtain ⟨x, y, r, rfl, hs⟩ := hs
    cases hs
    exact ⟨xMono.rf, fun p l e R s m args below meth c Q n0 X hd _ _ k H locs ls a1 a2 a3 a4 => lv_ladd X.1 X.2.1 hd (k H locs ls a1 a2 a3 a4)⟩
  case lsub =>
    obtain rfl : len = 1 := by simpa [xlen] using hlen
    replace hs := xl2_some hs
    obtain ⟨x, y, r, rfl, hs⟩ := hs
    cases hs
    exact ⟨xMono.rf, fun p l e R s m args below meth c Q n0 X hd _ _ k H locs ls a1 a2 a3 a4 => lv_lsub X.1 X.2.1 hd (k H locs ls a1 a2 a3 a4)⟩
  case lcmp =>
    obtain rfl : len = 1 := by simpa [xlen] using hlen
    dsimp only [xstep, xdisp, xs_lcmp] at hs
    split at hs
    · cases hs
      exact ⟨xMono.rf, fun p l e R s m args below meth c Q n0 X hd _ _ k H locs ls a1 a2 a3 a4 => W.lcmp X.1 X.2.1 hd (k H locs ls a1 a2 a3 a4)⟩
    · rename_i y kk r
      replace hs := xbif hs
      obtain ⟨hk, hs⟩ := hs
      split at hs
      · rename_i v hv
        cases hs
        refine ⟨xMono.rf, fun p l e R s m args below meth c Q n0 X hd _ _ k H locs ls a1 a2 a3 a4 => W.lcmp X.1 X.2.1 (x := (ρ kk.toNat).2) (y := y) hd ?_⟩
        rw [(xcm_ok hρ (Nat.le_of_ble_eq_true hk) hv).1]
        exact k H locs ls a1 a2 a3 a4
      · cases hs
    · rename_i kk x r
      replace hs := xbif hs
      obtain ⟨hk, hs⟩ := hs
      split at hs
      · rename_i v hv
        cases hs
        refine ⟨xMono.rf, fun p l e R s m args below meth c Q n0 X hd _ _ k H locs ls a1 a2 a3 a4 => W.lcmp X.1 X.2.1 (x := x) (y := (ρ kk.toNat).2) hd ?_⟩
        rw [(xcm_ok hρ (Nat.le_of_ble_eq_true hk) hv).2]
        exact k H locs ls a1 a2 a3 a4
      · rcases xbc hs with ⟨hc, g⟩ | ⟨-, g⟩
        · simp only [Bool.and_eq_true, decide_eq_true_eq] at hc
          obtain ⟨hc1, rfl⟩ := hc
          have hc1 := Nat.eq_of_beq_eq_true hc1
          cases g
          refine ⟨xMono.rf, fun p l e R s m args below meth c Q n0 X hd _ _ k H locs ls a1 a2 a3 a4 => W.lcmp X.1 X.2.1 (x := 0) (y := (ρ kk.toNat).2) hd ?_⟩
          rw [hc1, ← (xSg.of hρ).2.2.2.2.2.2.1]
          exact k H locs ls a1 a2 a3 a4
        · rcases xbc g with ⟨hc, g2⟩ | ⟨-, g2⟩
          · simp only [Bool.and_eq_true, decide_eq_true_eq] at hc
            obtain ⟨hc1, rfl⟩ := hc
            have hc1 := Nat.eq_of_beq_eq_true hc1
            cases g2
            refine ⟨xMono.rf, fun p l e R s m args below meth c Q n0 X hd _ _ k H locs ls a1 a2 a3 a4 => W.lcmp X.1 X.2.1 (x := 1) (y := (ρ kk.toNat).2) hd ?_⟩
            rw [hc1, ← (xSg.of hρ).2.2.2.2.2.2.2]
            exact k H locs ls a1 a2 a3 a4
          · cases g2
    · rename_i jj kk r
      replace hs := xbif hs
      obtain ⟨hb, hs⟩ := hs
      simp only [Bool.and_eq_true] at hb
      obtain ⟨hj, hk1, hk2⟩ := hb
      have hj := Nat.eq_of_beq_eq_true hj
      have hk1 := Nat.le_of_ble_eq_true hk1
      have hk2 := Nat.le_of_ble_eq_true hk2
      cases hs
      refine ⟨xMono.rf, fun p l e R s m args below meth c Q n0 X hd _ _ k H locs ls a1 a2 a3 a4 => W.lcmp X.1 X.2.1 (x := (ρ kk.toNat).2) (y := (ρ jj.toNat).2) hd ?_⟩
      have e1 : xSh b o ρ (.float (UInt32.ofNat (kk.toNat + 20))) = .int (lg_cmp (ρ kk.toNat).2 (ρ 3).2) := by
        show Value.int (ρ (UInt32.ofNat (kk.toNat + 20)).toNat).1 = _
        rw [UInt32.toNat_ofNat_of_lt' (by show kk.toNat + 20 < 4294967296; omega), (xSg.of hρ).2.2.2.2.2.1 _ hk1 hk2]
      rw [hj, ← e1]
      exact k H locs ls a1 a2 a3 a4
    · cases hs
  case lshl =>
    obtain rfl : len = 1 := by simpa [xlen] using hlen
    dsimp only [xstep, xdisp, xs_lshl] at hs
    split at hs
    · cases hs
      exact ⟨xMono.rf, fun p l e R s m args below meth c Q n0 X hd _ _ k H locs ls a1 a2 a3 a4 => lv_lshl X.1 X.2.1 hd rfl (k H locs ls a1 a2 a3 a4)⟩
    · rename_i y kk r
      replace hs := xbif hs
      obtain ⟨hk, hs⟩ := hs
      simp only [Bool.and_eq_true, decide_eq_true_eq] at hk
      obtain ⟨hk1, rfl⟩ := hk
      have hk1 := Nat.eq_of_beq_eq_true hk1
      cases hs
      refine ⟨xMono.rf, fun p l e R s m args below meth c Q n0 X hd _ _ k H locs ls a1 a2 a3 a4 => lv_lshl (x := (ρ kk.toNat).2) X.1 X.2.1 hd (by rw [hk1]; exact hρ.2.2.2.1.symm) (k H locs ls a1 a2 a3 a4)⟩
    · cases hs
  case land =>
    obtain rfl : len = 1 := by simpa [xlen] using hlen
    dsimp only [xstep, xdisp, xs_land] at hs
    split at hs
    · cases hs
      exact ⟨xMono.rf, fun p l e R s m args below meth c Q n0 X hd _ _ k H locs ls a1 a2 a3 a4 => lv_land X.1 X.2.1 hd (k H locs ls a1 a2 a3 a4)⟩
    · rename_i y kk r
      replace hs := xbif hs
      obtain ⟨hk, hs⟩ := hs
      simp only [Bool.and_eq_true, decide_eq_true_eq] at hk
      obtain ⟨hk1, rfl⟩ := hk
      have hk1 := Nat.eq_of_beq_eq_true hk1
      cases hs
      refine ⟨xMono.rf, fun p l e R s m args below meth c Q n0 X hd _ _ k H locs ls a1 a2 a3 a4 => lv_land (x := (ρ kk.toNat).2) (y := 4294967295) X.1 X.2.1 hd ?_⟩
      rw [hk1, ← hρ.2.2.2.2.1]
      exact k H locs ls a1 a2 a3 a4
    · cases hs
  case lor =>
    obtain rfl : len = 1 := by simpa [xlen] using hlen
    dsimp only [xstep, xdisp, xs_lor] at hs
    split at hs
    · cases hs
      exact ⟨xMono.rf, fun p l e R s m args below meth c Q n0 X hd _ _ k H locs ls a1 a2 a3 a4 => lv_lor X.1 X.2.1 hd (k H locs ls a1 a2 a3 a4)⟩
    · rename_i jj kk r
      replace hs := xbif hs
      obtain ⟨hk, hs⟩ := hs
      simp only [Bool.and_eq_true] at hk
      have hk1 := Nat.eq_of_beq_eq_true hk.1
      have hk2 := Nat.eq_of_beq_eq_true hk.2
      cases hs
      refine ⟨xMono.rf, fun p l e R s m args below meth c Q n0 X hd _ _ k H locs ls a1 a2 a3 a4 => lv_lor (x := (ρ kk.toNat).2) (y := (ρ jj.toNat).2) X.1 X.2.1 hd ?_⟩
      rw [hk1, hk2, ← hρ.2.2.2.2.2.1]
      exact k H locs ls a1 a2 a3 a4
    · cases hs
  case isub =>
    obtain rfl : len = 1 := by simpa [xlen] using hlen
    dsimp only [xstep, xdisp, xs_isub] at hs
    split at hs
    · cases hs
      exact ⟨xMono.rf, fun p l e R s m args below meth c Q n0 X hd _ _ k H locs ls a1 a2 a3 a4 => lv_isub X.1 X.2.1 hd (k H locs ls a1 a2 a3 a4)⟩
    · rename_i y kk r
      replace hs := xbif hs
      obtain ⟨hk, hs⟩ := hs
      simp only [Bool.and_eq_true, decide_eq_true_eq] at hk
      obtain ⟨hk1, rfl⟩ := hk
      have hk1 := Nat.eq_of_beq_eq_true hk1
      cases hs
      refine ⟨xMono.rf, fun p l e R s m args below meth c Q n0 X hd _ _ k H locs ls a1 a2 a3 a4 => lv_isub (x := (ρ kk.toNat).1) (y := 12) X.1 X.2.1 hd ?_⟩
      rw [hk1, ← hρ.2.2.2.2.2.2.2.1]
      exact k H locs ls a1 a2 a3 a4
    · rename_i jj kk r
      replace hs := xbif hs
      obtain ⟨hk, hs⟩ := hs
      simp only [Bool.and_eq_true] at hk
      have hk1 := Nat.eq_of_beq_eq_true hk.1
      have hk2 := Nat.eq_of_beq_eq_true hk.2
      cases hs
      refine ⟨xMono.rf, fun p l e R s m args below meth c Q n0 X hd _ _ k H locs ls a1 a2 a3 a4 => lv_isub (x := (ρ kk.toNat).1) (y := (ρ jj.toNat).1) X.1 X.2.1 hd ?_⟩
      rw [hk1, hk2, ← (xSg.of hρ).1.2.1]
      exact k H locs ls a1 a2 a3 a4
    · cases hs
  case iand =>
    obtain rfl : len = 1 := by simpa [xlen] using hlen
    dsimp only [xstep, xdisp, xs_iand] at hs
    split at hs
    · cases hs
      exact ⟨xMono.rf, fun p l e R s m args below meth c Q n0 X hd _ _ k H locs ls a1 a2 a3 a4 => lv_iand X.1 X.2.1 hd (k H locs ls a1 a2 a3 a4)⟩
    · rename_i y kk r
      replace hs := xbif hs
      obtain ⟨hk, hs⟩ := hs
      simp only [Bool.and_eq_true, decide_eq_true_eq] at hk
      obtain ⟨hk1, rfl⟩ := hk
      have hk1 := Nat.eq_of_beq_eq_true hk1
      cases hs
      refine ⟨xMono.rf, fun p l e R s m args below meth c Q n0 X hd _ _ k H locs ls a1 a2 a3 a4 => lv_iand (x := (ρ kk.toNat).1) (y := 63) X.1 X.2.1 hd ?_⟩
      have kk2 := k H locs ls a1 a2 a3 a4
      change W p l e R s m args below meth c H locs (h.length - n0) sl Q (F0 m (pc + 1) ls (xSh b o ρ (xsv iv 6) :: r.map (xSh b o ρ))) at kk2
      rw [xsv_ok hρ (by decide), hρ.2.2.1] at kk2
      rw [hk1]
      exact kk2
    · cases hs
  case ineg =>
    obtain rfl : len = 1 := by simpa [xlen] using hlen
    dsimp only [xstep, xdisp, xs_ineg] at hs
    split at hs
    · cases hs
      exact ⟨xMono.rf, fun p l e R s m args below meth c Q n0 X hd _ _ k H locs ls a1 a2 a3 a4 => lv_ineg X.1 X.2.1 hd (k H locs ls a1 a2 a3 a4)⟩
    · rename_i kk r
      replace hs := xbif hs
      obtain ⟨hk, hs⟩ := hs
      have hk1 := Nat.eq_of_beq_eq_true hk
      split at hs
      · rename_i z hz
        replace hs := xbif hs
        obtain ⟨hz1, hs⟩ := hs
        cases hs
        have hy1 := (xg37 (xSg.of hρ) (xfl_ok hρ hz)).2.mp (of_decide_eq_true hz1)
        refine ⟨xMono.rf, fun p l e R s m args below meth c Q n0 X hd _ _ k H locs ls a1 a2 a3 a4 => lv_ineg (x := (ρ kk.toNat).1) X.1 X.2.1 hd ?_⟩
        rw [hk1, ← xdivm (x := (ρ 1).1) hy1, ← (xSg.of hρ).1.2.2.2.1]
        exact k H locs ls a1 a2 a3 a4
      · cases hs
    · cases hs
  case i2l =>
    obtain rfl : len = 1 := by simpa [xlen] using hlen
    dsimp only [xstep, xdisp, xs_i2l] at hs
    split at hs
    · cases hs
      exact ⟨xMono.rf, fun p l e R s m args below meth c Q n0 X hd _ _ k H locs ls a1 a2 a3 a4 => lv_i2l X.1 X.2.1 hd rfl (k H locs ls a1 a2 a3 a4)⟩
    · rename_i kk r
      replace hs := xbif hs
      obtain ⟨hk, hs⟩ := hs
      cases hs
      refine ⟨xMono.rf, fun p l e R s m args below meth c Q n0 X hd _ _ k H locs ls a1 a2 a3 a4 => lv_i2l (x := (ρ kk.toNat).1) X.1 X.2.1 hd rfl ?_⟩
      have e1 : xSh b o ρ (.double kk.toUInt64) = .long (ρ kk.toNat).1.toInt64 := by
        show Value.long (ρ kk.toUInt64.toNat).2 = _
        rw [UInt32.toNat_toUInt64, hρ.2.1 _ (Nat.le_of_ble_eq_true hk)]
      rw [← e1]
      exact k H locs ls a1 a2 a3 a4
    · cases hs
  case i2b =>
    obtain rfl : len = 1 := by simpa [xlen] using hlen
    replace hs := xi1_some hs
    obtain ⟨x, r, rfl, hs⟩ := hs
    cases hs
    exact ⟨xMono.rf, fun p l e R s m args below meth c Q n0 X hd _ _ k H locs ls a1 a2 a3 a4 => lv_i2b X.1 X.2.1 hd rfl (k H locs ls a1 a2 a3 a4)⟩
  case i2s =>
    obtain rfl : len = 1 := by simpa [xlen] using hlen
    replace hs := xi1_some hs
    obtain ⟨x, r, rfl, hs⟩ := hs
    cases hs
    exact ⟨xMono.rf, fun p l e R s m args below meth c Q n0 X hd _ _ k H locs ls a1 a2 a3 a4 => lv_i2s X.1 X.2.1 hd rfl (k H locs ls a1 a2 a3 a4)⟩
  case l2i =>
    obtain rfl : len = 1 := by simpa [xlen] using hlen
    replace hs := xl1_some hs
    obtain ⟨x, r, rfl, hs⟩ := hs
    cases hs
    exact ⟨xMono.rf, fun p l e R s m args below meth c Q n0 X hd _ _ k H locs ls a1 a2 a3 a4 => lv_l2i X.1 X.2.1 hd rfl (k H locs ls a1 a2 a3 a4)⟩
  case idiv =>
    obtain rfl : len = 1 := by simpa [xlen] using hlen
    dsimp only [xstep, xdisp, xs_idiv] at hs
    split at hs
    · rename_i y x r
      replace hs := xif_some hs
      obtain ⟨v, O1, hs, hm, hp⟩ := hs
      replace hs := xbifn hs
      obtain ⟨hv, hs⟩ := hs
      cases hs
      refine ⟨⟨Nat.le_refl _, Nat.le_refl _, Nat.le_refl _, hm⟩, fun p l e R s m args below meth c Q n0 X hd hO _ k H locs ls a1 a2 a3 a4 => ?_⟩
      exact lv_idiv X.1 X.2.1 hd (fun hy => by rw [(hp hO).mpr hy] at hv; cases hv) (k H locs ls a1 a2 a3 a4)
    · rename_i jj kk r
      replace hs := xbif hs
      obtain ⟨hk, hs⟩ := hs
      simp only [Bool.and_eq_true] at hk
      have hk1 := Nat.eq_of_beq_eq_true hk.1
      have hk2 := Nat.eq_of_beq_eq_true hk.2
      split at hs
      · rename_i z hz
        replace hs := xbifn hs
        obtain ⟨hz0, hs⟩ := hs
        have hz0 := of_decide_eq_false hz0
        have hg := xg37 (xSg.of hρ) (xfl_ok hρ hz)
        cases hs
        refine ⟨xMono.rf, fun p l e R s m args below meth c Q n0 X hd _ _ k H locs ls a1 a2 a3 a4 => lv_idiv (x := (ρ kk.toNat).1) (y := (ρ jj.toNat).1) X.1 X.2.1 hd (fun hy => ?_) ?_⟩
        · rw [hk2] at hy
          exact hz0 (hg.1.mpr hy)
        · rw [hk1, hk2, ← (xSg.of hρ).1.2.2.2.1]
          exact k H locs ls a1 a2 a3 a4
      · cases hs
    · cases hs
  case irem =>
    obtain rfl : len = 1 := by simpa [xlen] using hlen
    dsimp only [xstep, xdisp, xs_irem] at hs
    split at hs
    · rename_i y x r
      replace hs := xif_some hs
      obtain ⟨v, O1, hs, hm, hp⟩ := hs
      replace hs := xbifn hs
      obtain ⟨hv, hs⟩ := hs
      cases hs
      refine ⟨⟨Nat.le_refl _, Nat.le_refl _, Nat.le_refl _, hm⟩, fun p l e R s m args below meth c Q n0 X hd hO _ k H locs ls a1 a2 a3 a4 => ?_⟩
      exact lv_irem X.1 X.2.1 hd (fun hy => by rw [(hp hO).mpr hy] at hv; cases hv) (k H locs ls a1 a2 a3 a4)
    · rename_i jj kk r
      replace hs := xbif hs
      obtain ⟨hk, hs⟩ := hs
      simp only [Bool.and_eq_true] at hk
      have hk1 := Nat.eq_of_beq_eq_true hk.1
      have hk2 := Nat.eq_of_beq_eq_true hk.2
      split at hs
      · rename_i z hz
        replace hs := xbifn hs
        obtain ⟨hz0, hs⟩ := hs
        have hz0 := of_decide_eq_false hz0
        have hg := xg37 (xSg.of hρ) (xfl_ok hρ hz)
        rcases xbc hs with ⟨hz1, hs⟩ | ⟨-, hs⟩
        · have hy1 := hg.2.mp (of_decide_eq_true hz1)
          cases hs
          refine ⟨xMono.rf, fun p l e R s m args below meth c Q n0 X hd _ _ k H locs ls a1 a2 a3 a4 => lv_irem (x := (ρ kk.toNat).1) (y := (ρ jj.toNat).1) X.1 X.2.1 hd (fun hy => ?_) ?_⟩
          · rw [hk2] at hy
            exact hz0 (hg.1.mpr hy)
          · rw [hk1, hk2, xremm hy1]
            exact k H locs ls a1 a2 a3 a4
        · skip
          cases hs
          refine ⟨xMono.rf, fun p l e R s m args below meth c Q n0 X hd _ _ k H locs ls a1 a2 a3 a4 => lv_irem (x := (ρ kk.toNat).1) (y := (ρ jj.toNat).1) X.1 X.2.1 hd (fun hy => ?_) ?_⟩
          · rw [hk2] at hy
            exact hz0 (hg.1.mpr hy)
          · rw [hk1, hk2, ← (xSg.of hρ).1.2.2.2.2]
            exact k H locs ls a1 a2 a3 a4
      · cases hs
    · cases hs
  case dup =>
    obtain rfl : len = 1 := by simpa [xlen] using hlen
    dsimp only [xstep, xdisp, xs_dup] at hs
    split at hs
    · rename_i v r
      replace hs := xbif hs
      obtain ⟨hc, hs⟩ := hs
      cases hs
      exact ⟨xMono.rf, fun p l e R s m args below meth c Q n0 X hd _ _ k H locs ls a1 a2 a3 a4 => lv_dup X.1 X.2.1 hd (by rw [xSh_cat]; exact Nat.eq_of_beq_eq_true hc) (k H locs ls a1 a2 a3 a4)⟩
    · cases hs
  case pop =>
    obtain rfl : len = 1 := by simpa [xlen] using hlen
    dsimp only [xstep, xdisp, xs_pop] at hs
    split at hs
    · rename_i v r
      replace hs := xbif hs
      obtain ⟨hc, hs⟩ := hs
      cases hs
      exact ⟨xMono.rf, fun p l e R s m args below meth c Q n0 X hd _ _ k H locs ls a1 a2 a3 a4 => lv_pop X.1 X.2.1 hd (by rw [xSh_cat]; exact Nat.eq_of_beq_eq_true hc) (k H locs ls a1 a2 a3 a4)⟩
    · cases hs
  case pop2 =>
    obtain rfl : len = 1 := by simpa [xlen] using hlen
    dsimp only [xstep, xdisp, xs_pop2] at hs
    split at hs
    · rename_i v r
      replace hs := xbif hs
      obtain ⟨hc, hs⟩ := hs
      cases hs
      exact ⟨xMono.rf, fun p l e R s m args below meth c Q n0 X hd _ _ k H locs ls a1 a2 a3 a4 => lv_pop2_2 X.1 X.2.1 hd (by rw [xSh_cat]; exact Nat.eq_of_beq_eq_true hc) (k H locs ls a1 a2 a3 a4)⟩
    · cases hs
  case dup2 =>
    obtain rfl : len = 1 := by simpa [xlen] using hlen
    dsimp only [xstep, xdisp, xs_dup2] at hs
    split at hs
    · rename_i v w r
      replace hs := xbif hs
      obtain ⟨hc, hs⟩ := hs
      simp only [Bool.and_eq_true] at hc
      cases hs
      exact ⟨xMono.rf, fun p l e R s m args below meth c Q n0 X hd _ _ k H locs ls a1 a2 a3 a4 => lv_dup2_11 X.1 X.2.1 hd (by rw [xSh_cat]; exact Nat.eq_of_beq_eq_true hc.1) (by rw [xSh_cat]; exact Nat.eq_of_beq_eq_true hc.2) (k H locs ls a1 a2 a3 a4)⟩
    · cases hs
  case ifCond cc off =>
    obtain rfl : len = 3 := by simpa [xlen] using hlen
    dsimp only [xstep, xdisp, xs_ifCond] at hs
    split at hs
    · rename_i x r
      cases cc
      case eq =>
        replace hs := xif_some (show xif (x = 0) O (fun b O => xgo pc 3 off lv r h sl fr b O) = some (S', O') from hs)
        obtain ⟨w, O1, hs, hm, hp⟩ := hs
        replace hs := xgo_some hs
        obtain ⟨rfl, t, ht, hS⟩ := hs
        refine ⟨xgo_mono hS hm, fun p l e R s m args below meth c Q n0 X hd hO _ k H locs ls a1 a2 a3 a4 => ?_⟩
        exact lv_if_eq X.1 X.2.1 hd ht (fun hc => (xfork hS (hp hO) k).1 hc H locs ls a1 a2 a3 a4) (fun hc => (xfork hS (hp hO) k).2 hc H locs ls a1 a2 a3 a4)
      case ne =>
        replace hs := xif_some (show xif (x = 0) O (fun b O => xgo pc 3 off lv r h sl fr (!b) O) = some (S', O') from hs)
        obtain ⟨w, O1, hs, hm, hp⟩ := hs
        replace hs := xgo_some hs
        obtain ⟨rfl, t, ht, hS⟩ := hs
        refine ⟨xgo_mono hS hm, fun p l e R s m args below meth c Q n0 X hd hO _ k H locs ls a1 a2 a3 a4 => ?_⟩
        have hv : (!w) = true ↔ ¬ (x = 0) := by
          have := hp hO
          cases w with
          | true => exact ⟨fun q => (by cases q), fun q => absurd (this.mp rfl) q⟩
          | false => exact ⟨fun _ q => (by have := this.mpr q; cases this), fun _ => rfl⟩
        exact lv_if_ne X.1 X.2.1 hd ht (fun hc => (xfork hS hv k).1 hc H locs ls a1 a2 a3 a4) (fun hc => (xfork hS hv k).2 (fun q => q hc) H locs ls a1 a2 a3 a4)
      case lt =>
        replace hs := xif_some (show xif (x < 0) O (fun b O => xgo pc 3 off lv r h sl fr b O) = some (S', O') from hs)
        obtain ⟨w, O1, hs, hm, hp⟩ := hs
        replace hs := xgo_some hs
        obtain ⟨rfl, t, ht, hS⟩ := hs
        refine ⟨xgo_mono hS hm, fun p l e R s m args below meth c Q n0 X hd hO _ k H locs ls a1 a2 a3 a4 => ?_⟩
        exact lv_if_lt X.1 X.2.1 hd ht (fun hc => (xfork hS (hp hO) k).1 hc H locs ls a1 a2 a3 a4) (fun hc => (xfork hS (hp hO) k).2 hc H locs ls a1 a2 a3 a4)
      case ge =>
        replace hs := xif_some (show xif (0 ≤ x) O (fun b O => xgo pc 3 off lv r h sl fr b O) = some (S', O') from hs)
        obtain ⟨w, O1, hs, hm, hp⟩ := hs
        replace hs := xgo_some hs
        obtain ⟨rfl, t, ht, hS⟩ := hs
        refine ⟨xgo_mono hS hm, fun p l e R s m args below meth c Q n0 X hd hO _ k H locs ls a1 a2 a3 a4 => ?_⟩
        exact lv_if_ge X.1 X.2.1 hd ht (fun hc => (xfork hS (hp hO) k).1 hc H locs ls a1 a2 a3 a4) (fun hc => (xfork hS (hp hO) k).2 hc H locs ls a1 a2 a3 a4)
      case gt =>
        replace hs := xif_some (show xif (0 < x) O (fun b O => xgo pc 3 off lv r h sl fr b O) = some (S', O') from hs)
        obtain ⟨w, O1, hs, hm, hp⟩ := hs
        replace hs := xgo_some hs
        obtain ⟨rfl, t, ht, hS⟩ := hs
        refine ⟨xgo_mono hS hm, fun p l e R s m args below meth c Q n0 X hd hO _ k H locs ls a1 a2 a3 a4 => ?_⟩
        exact lv_if_gt X.1 X.2.1 hd ht (fun hc => (xfork hS (hp hO) k).1 hc H locs ls a1 a2 a3 a4) (fun hc => (xfork hS (hp hO) k).2 hc H locs ls a1 a2 a3 a4)
      case le =>
        replace hs := xif_some (show xif (x ≤ 0) O (fun b O => xgo pc 3 off lv r h sl fr b O) = some (S', O') from hs)
        obtain ⟨w, O1, hs, hm, hp⟩ := hs
        replace hs := xgo_some hs
        obtain ⟨rfl, t, ht, hS⟩ := hs
        refine ⟨xgo_mono hS hm, fun p l e R s m args below meth c Q n0 X hd hO _ k H locs ls a1 a2 a3 a4 => ?_⟩
        exact lv_if_le X.1 X.2.1 hd ht (fun hc => (xfork hS (hp hO) k).1 hc H locs ls a1 a2 a3 a4) (fun hc => (xfork hS (hp hO) k).2 hc H locs ls a1 a2 a3 a4)
    · rename_i kk r
      split at hs
      · rename_i w hw
        have hv := xdc_ok (y := 0) hρ hw
        cases cc <;> dsimp only at hv
        case eq =>
          replace hs := xgo_some hs
          obtain ⟨rfl, t, ht, hS⟩ := hs
          refine ⟨xgo_mono hS (fun _ h => h), fun p l e R s m args below meth c Q n0 X hd hO _ k H locs ls a1 a2 a3 a4 => ?_⟩
          exact lv_if_eq (x := (ρ kk.toNat).1) X.1 X.2.1 hd ht (fun hc => (xfork hS hv k).1 hc H locs ls a1 a2 a3 a4) (fun hc => (xfork hS hv k).2 hc H locs ls a1 a2 a3 a4)
        case ne =>
          replace hs := xgo_some hs
          obtain ⟨rfl, t, ht, hS⟩ := hs
          refine ⟨xgo_mono hS (fun _ h => h), fun p l e R s m args below meth c Q n0 X hd hO _ k H locs ls a1 a2 a3 a4 => ?_⟩
          exact lv_if_ne (x := (ρ kk.toNat).1) X.1 X.2.1 hd ht (fun hc => (xfork hS hv k).1 hc H locs ls a1 a2 a3 a4) (fun hc => (xfork hS hv k).2 (fun q => q hc) H locs ls a1 a2 a3 a4)
        case lt =>
          replace hs := xgo_some hs
          obtain ⟨rfl, t, ht, hS⟩ := hs
          refine ⟨xgo_mono hS (fun _ h => h), fun p l e R s m args below meth c Q n0 X hd hO _ k H locs ls a1 a2 a3 a4 => ?_⟩
          exact lv_if_lt (x := (ρ kk.toNat).1) X.1 X.2.1 hd ht (fun hc => (xfork hS hv k).1 hc H locs ls a1 a2 a3 a4) (fun hc => (xfork hS hv k).2 hc H locs ls a1 a2 a3 a4)
        case ge =>
          replace hs := xgo_some hs
          obtain ⟨rfl, t, ht, hS⟩ := hs
          refine ⟨xgo_mono hS (fun _ h => h), fun p l e R s m args below meth c Q n0 X hd hO _ k H locs ls a1 a2 a3 a4 => ?_⟩
          exact lv_if_ge (x := (ρ kk.toNat).1) X.1 X.2.1 hd ht (fun hc => (xfork hS hv k).1 hc H locs ls a1 a2 a3 a4) (fun hc => (xfork hS hv k).2 hc H locs ls a1 a2 a3 a4)
        case gt =>
          replace hs := xgo_some hs
          obtain ⟨rfl, t, ht, hS⟩ := hs
          refine ⟨xgo_mono hS (fun _ h => h), fun p l e R s m args below meth c Q n0 X hd hO _ k H locs ls a1 a2 a3 a4 => ?_⟩
          exact lv_if_gt (x := (ρ kk.toNat).1) X.1 X.2.1 hd ht (fun hc => (xfork hS hv k).1 hc H locs ls a1 a2 a3 a4) (fun hc => (xfork hS hv k).2 hc H locs ls a1 a2 a3 a4)
        case le =>
          replace hs := xgo_some hs
          obtain ⟨rfl, t, ht, hS⟩ := hs
          refine ⟨xgo_mono hS (fun _ h => h), fun p l e R s m args below meth c Q n0 X hd hO _ k H locs ls a1 a2 a3 a4 => ?_⟩
          exact lv_if_le (x := (ρ kk.toNat).1) X.1 X.2.1 hd ht (fun hc => (xfork hS hv k).1 hc H locs ls a1 a2 a3 a4) (fun hc => (xfork hS hv k).2 hc H locs ls a1 a2 a3 a4)
      · split at hs
        · rename_i w hw
          have hv := xbr_ok hρ hw
          cases cc <;> dsimp only at hv
          case eq =>
            replace hs := xgo_some hs
            obtain ⟨rfl, t, ht, hS⟩ := hs
            refine ⟨xgo_mono hS (fun _ h => h), fun p l e R s m args below meth c Q n0 X hd hO _ k H locs ls a1 a2 a3 a4 => ?_⟩
            exact lv_if_eq (x := (ρ kk.toNat).1) X.1 X.2.1 hd ht (fun hc => (xfork hS hv k).1 hc H locs ls a1 a2 a3 a4) (fun hc => (xfork hS hv k).2 hc H locs ls a1 a2 a3 a4)
          case ne =>
            replace hs := xgo_some hs
            obtain ⟨rfl, t, ht, hS⟩ := hs
            refine ⟨xgo_mono hS (fun _ h => h), fun p l e R s m args below meth c Q n0 X hd hO _ k H locs ls a1 a2 a3 a4 => ?_⟩
            exact lv_if_ne (x := (ρ kk.toNat).1) X.1 X.2.1 hd ht (fun hc => (xfork hS hv k).1 hc H locs ls a1 a2 a3 a4) (fun hc => (xfork hS hv k).2 (fun q => q hc) H locs ls a1 a2 a3 a4)
          case lt =>
            replace hs := xgo_some hs
            obtain ⟨rfl, t, ht, hS⟩ := hs
            refine ⟨xgo_mono hS (fun _ h => h), fun p l e R s m args below meth c Q n0 X hd hO _ k H locs ls a1 a2 a3 a4 => ?_⟩
            exact lv_if_lt (x := (ρ kk.toNat).1) X.1 X.2.1 hd ht (fun hc => (xfork hS hv k).1 hc H locs ls a1 a2 a3 a4) (fun hc => (xfork hS hv k).2 hc H locs ls a1 a2 a3 a4)
          case ge =>
            replace hs := xgo_some hs
            obtain ⟨rfl, t, ht, hS⟩ := hs
            refine ⟨xgo_mono hS (fun _ h => h), fun p l e R s m args below meth c Q n0 X hd hO _ k H locs ls a1 a2 a3 a4 => ?_⟩
            exact lv_if_ge (x := (ρ kk.toNat).1) X.1 X.2.1 hd ht (fun hc => (xfork hS hv k).1 hc H locs ls a1 a2 a3 a4) (fun hc => (xfork hS hv k).2 hc H locs ls a1 a2 a3 a4)
          case gt =>
            replace hs := xgo_some hs
            obtain ⟨rfl, t, ht, hS⟩ := hs
            refine ⟨xgo_mono hS (fun _ h => h), fun p l e R s m args below meth c Q n0 X hd hO _ k H locs ls a1 a2 a3 a4 => ?_⟩
            exact lv_if_gt (x := (ρ kk.toNat).1) X.1 X.2.1 hd ht (fun hc => (xfork hS hv k).1 hc H locs ls a1 a2 a3 a4) (fun hc => (xfork hS hv k).2 hc H locs ls a1 a2 a3 a4)
          case le =>
            replace hs := xgo_some hs
            obtain ⟨rfl, t, ht, hS⟩ := hs
            refine ⟨xgo_mono hS (fun _ h => h), fun p l e R s m args below meth c Q n0 X hd hO _ k H locs ls a1 a2 a3 a4 => ?_⟩
            exact lv_if_le (x := (ρ kk.toNat).1) X.1 X.2.1 hd ht (fun hc => (xfork hS hv k).1 hc H locs ls a1 a2 a3 a4) (fun hc => (xfork hS hv k).2 hc H locs ls a1 a2 a3 a4)
        · cases hs
    · cases hs
  case if_icmp cc off =>
    obtain rfl : len = 3 := by simpa [xlen] using hlen
    dsimp only [xstep, xdisp, xs_if_icmp] at hs
    split at hs
    · rename_i y x r
      cases cc
      case eq =>
        replace hs := xif_some (show xif (x = y) O (fun b O => xgo pc 3 off lv r h sl fr b O) = some (S', O') from hs)
        obtain ⟨w, O1, hs, hm, hp⟩ := hs
        replace hs := xgo_some hs
        obtain ⟨rfl, t, ht, hS⟩ := hs
        refine ⟨xgo_mono hS hm, fun p l e R s m args below meth c Q n0 X hd hO _ k H locs ls a1 a2 a3 a4 => ?_⟩
        exact lv_icmp_eq X.1 X.2.1 hd ht (fun hc => (xfork hS (hp hO) k).1 hc H locs ls a1 a2 a3 a4) (fun hc => (xfork hS (hp hO) k).2 hc H locs ls a1 a2 a3 a4)
      case ne =>
        replace hs := xif_some (show xif (x = y) O (fun b O => xgo pc 3 off lv r h sl fr (!b) O) = some (S', O') from hs)
        obtain ⟨w, O1, hs, hm, hp⟩ := hs
        replace hs := xgo_some hs
        obtain ⟨rfl, t, ht, hS⟩ := hs
        refine ⟨xgo_mono hS hm, fun p l e R s m args below meth c Q n0 X hd hO _ k H locs ls a1 a2 a3 a4 => ?_⟩
        have hv : (!w) = true ↔ ¬ (x = y) := by
          have := hp hO
          cases w with
          | true => exact ⟨fun q => (by cases q), fun q => absurd (this.mp rfl) q⟩
          | false => exact ⟨fun _ q => (by have := this.mpr q; cases this), fun _ => rfl⟩
        exact lv_icmp_ne X.1 X.2.1 hd ht (fun hc => (xfork hS hv k).1 hc H locs ls a1 a2 a3 a4) (fun hc => (xfork hS hv k).2 (fun q => q hc) H locs ls a1 a2 a3 a4)
      case lt =>
        replace hs := xif_some (show xif (x < y) O (fun b O => xgo pc 3 off lv r h sl fr b O) = some (S', O') from hs)
        obtain ⟨w, O1, hs, hm, hp⟩ := hs
        replace hs := xgo_some hs
        obtain ⟨rfl, t, ht, hS⟩ := hs
        refine ⟨xgo_mono hS hm, fun p l e R s m args below meth c Q n0 X hd hO _ k H locs ls a1 a2 a3 a4 => ?_⟩
        exact lv_icmp_lt X.1 X.2.1 hd ht (fun hc => (xfork hS (hp hO) k).1 hc H locs ls a1 a2 a3 a4) (fun hc => (xfork hS (hp hO) k).2 hc H locs ls a1 a2 a3 a4)
      case ge =>
        replace hs := xif_some (show xif (y ≤ x) O (fun b O => xgo pc 3 off lv r h sl fr b O) = some (S', O') from hs)
        obtain ⟨w, O1, hs, hm, hp⟩ := hs
        replace hs := xgo_some hs
        obtain ⟨rfl, t, ht, hS⟩ := hs
        refine ⟨xgo_mono hS hm, fun p l e R s m args below meth c Q n0 X hd hO _ k H locs ls a1 a2 a3 a4 => ?_⟩
        exact lv_icmp_ge X.1 X.2.1 hd ht (fun hc => (xfork hS (hp hO) k).1 hc H locs ls a1 a2 a3 a4) (fun hc => (xfork hS (hp hO) k).2 hc H locs ls a1 a2 a3 a4)
      case gt =>
        replace hs := xif_some (show xif (y < x) O (fun b O => xgo pc 3 off lv r h sl fr b O) = some (S', O') from hs)
        obtain ⟨w, O1, hs, hm, hp⟩ := hs
        replace hs := xgo_some hs
        obtain ⟨rfl, t, ht, hS⟩ := hs
        refine ⟨xgo_mono hS hm, fun p l e R s m args below meth c Q n0 X hd hO _ k H locs ls a1 a2 a3 a4 => ?_⟩
        exact lv_icmp_gt X.1 X.2.1 hd ht (fun hc => (xfork hS (hp hO) k).1 hc H locs ls a1 a2 a3 a4) (fun hc => (xfork hS (hp hO) k).2 hc H locs ls a1 a2 a3 a4)
      case le =>
        replace hs := xif_some (show xif (x ≤ y) O (fun b O => xgo pc 3 off lv r h sl fr b O) = some (S', O') from hs)
        obtain ⟨w, O1, hs, hm, hp⟩ := hs
        replace hs := xgo_some hs
        obtain ⟨rfl, t, ht, hS⟩ := hs
        refine ⟨xgo_mono hS hm, fun p l e R s m args below meth c Q n0 X hd hO _ k H locs ls a1 a2 a3 a4 => ?_⟩
        exact lv_icmp_le X.1 X.2.1 hd ht (fun hc => (xfork hS (hp hO) k).1 hc H locs ls a1 a2 a3 a4) (fun hc => (xfork hS (hp hO) k).2 hc H locs ls a1 a2 a3 a4)
    · rename_i y kk r
      split at hs
      · rename_i w hw
        have hv := xdc_ok (y := y) hρ hw
        cases cc <;> dsimp only at hv
        case eq =>
          replace hs := xgo_some hs
          obtain ⟨rfl, t, ht, hS⟩ := hs
          refine ⟨xgo_mono hS (fun _ h => h), fun p l e R s m args below meth c Q n0 X hd hO _ k H locs ls a1 a2 a3 a4 => ?_⟩
          exact lv_icmp_eq (x := (ρ kk.toNat).1) (y := y) X.1 X.2.1 hd ht (fun hc => (xfork hS hv k).1 hc H locs ls a1 a2 a3 a4) (fun hc => (xfork hS hv k).2 hc H locs ls a1 a2 a3 a4)
        case ne =>
          replace hs := xgo_some hs
          obtain ⟨rfl, t, ht, hS⟩ := hs
          refine ⟨xgo_mono hS (fun _ h => h), fun p l e R s m args below meth c Q n0 X hd hO _ k H locs ls a1 a2 a3 a4 => ?_⟩
          exact lv_icmp_ne (x := (ρ kk.toNat).1) (y := y) X.1 X.2.1 hd ht (fun hc => (xfork hS hv k).1 hc H locs ls a1 a2 a3 a4) (fun hc => (xfork hS hv k).2 (fun q => q hc) H locs ls a1 a2 a3 a4)
        case lt =>
          replace hs := xgo_some hs
          obtain ⟨rfl, t, ht, hS⟩ := hs
          refine ⟨xgo_mono hS (fun _ h => h), fun p l e R s m args below meth c Q n0 X hd hO _ k H locs ls a1 a2 a3 a4 => ?_⟩
          exact lv_icmp_lt (x := (ρ kk.toNat).1) (y := y) X.1 X.2.1 hd ht (fun hc => (xfork hS hv k).1 hc H locs ls a1 a2 a3 a4) (fun hc => (xfork hS hv k).2 hc H locs ls a1 a2 a3 a4)
        case ge =>
          replace hs := xgo_some hs
          obtain ⟨rfl, t, ht, hS⟩ := hs
          refine ⟨xgo_mono hS (fun _ h => h), fun p l e R s m args below meth c Q n0 X hd hO _ k H locs ls a1 a2 a3 a4 => ?_⟩
          exact lv_icmp_ge (x := (ρ kk.toNat).1) (y := y) X.1 X.2.1 hd ht (fun hc => (xfork hS hv k).1 hc H locs ls a1 a2 a3 a4) (fun hc => (xfork hS hv k).2 hc H locs ls a1 a2 a3 a4)
        case gt =>
          replace hs := xgo_some hs
          obtain ⟨rfl, t, ht, hS⟩ := hs
          refine ⟨xgo_mono hS (fun _ h => h), fun p l e R s m args below meth c Q n0 X hd hO _ k H locs ls a1 a2 a3 a4 => ?_⟩
          exact lv_icmp_gt (x := (ρ kk.toNat).1) (y := y) X.1 X.2.1 hd ht (fun hc => (xfork hS hv k).1 hc H locs ls a1 a2 a3 a4) (fun hc => (xfork hS hv k).2 hc H locs ls a1 a2 a3 a4)
        case le =>
          replace hs := xgo_some hs
          obtain ⟨rfl, t, ht, hS⟩ := hs
          refine ⟨xgo_mono hS (fun _ h => h), fun p l e R s m args below meth c Q n0 X hd hO _ k H locs ls a1 a2 a3 a4 => ?_⟩
          exact lv_icmp_le (x := (ρ kk.toNat).1) (y := y) X.1 X.2.1 hd ht (fun hc => (xfork hS hv k).1 hc H locs ls a1 a2 a3 a4) (fun hc => (xfork hS hv k).2 hc H locs ls a1 a2 a3 a4)
      · split at hs
        · rename_i w hw
          have hv := xbr_ok hρ hw
          cases cc <;> dsimp only at hv
          case eq =>
            replace hs := xgo_some hs
            obtain ⟨rfl, t, ht, hS⟩ := hs
            refine ⟨xgo_mono hS (fun _ h => h), fun p l e R s m args below meth c Q n0 X hd hO _ k H locs ls a1 a2 a3 a4 => ?_⟩
            exact lv_icmp_eq (x := (ρ kk.toNat).1) (y := y) X.1 X.2.1 hd ht (fun hc => (xfork hS hv k).1 hc H locs ls a1 a2 a3 a4) (fun hc => (xfork hS hv k).2 hc H locs ls a1 a2 a3 a4)
          case ne =>
            replace hs := xgo_some hs
            obtain ⟨rfl, t, ht, hS⟩ := hs
            refine ⟨xgo_mono hS (fun _ h => h), fun p l e R s m args below meth c Q n0 X hd hO _ k H locs ls a1 a2 a3 a4 => ?_⟩
            exact lv_icmp_ne (x := (ρ kk.toNat).1) (y := y) X.1 X.2.1 hd ht (fun hc => (xfork hS hv k).1 hc H locs ls a1 a2 a3 a4) (fun hc => (xfork hS hv k).2 (fun q => q hc) H locs ls a1 a2 a3 a4)
          case lt =>
            replace hs := xgo_some hs
            obtain ⟨rfl, t, ht, hS⟩ := hs
            refine ⟨xgo_mono hS (fun _ h => h), fun p l e R s m args below meth c Q n0 X hd hO _ k H locs ls a1 a2 a3 a4 => ?_⟩
            exact lv_icmp_lt (x := (ρ kk.toNat).1) (y := y) X.1 X.2.1 hd ht (fun hc => (xfork hS hv k).1 hc H locs ls a1 a2 a3 a4) (fun hc => (xfork hS hv k).2 hc H locs ls a1 a2 a3 a4)
          case ge =>
            replace hs := xgo_some hs
            obtain ⟨rfl, t, ht, hS⟩ := hs
            refine ⟨xgo_mono hS (fun _ h => h), fun p l e R s m args below meth c Q n0 X hd hO _ k H locs ls a1 a2 a3 a4 => ?_⟩
            exact lv_icmp_ge (x := (ρ kk.toNat).1) (y := y) X.1 X.2.1 hd ht (fun hc => (xfork hS hv k).1 hc H locs ls a1 a2 a3 a4) (fun hc => (xfork hS hv k).2 hc H locs ls a1 a2 a3 a4)
          case gt =>
            replace hs := xgo_some hs
            obtain ⟨rfl, t, ht, hS⟩ := hs
            refine ⟨xgo_mono hS (fun _ h => h), fun p l e R s m args below meth c Q n0 X hd hO _ k H locs ls a1 a2 a3 a4 => ?_⟩
            exact lv_icmp_gt (x := (ρ kk.toNat).1) (y := y) X.1 X.2.1 hd ht (fun hc => (xfork hS hv k).1 hc H locs ls a1 a2 a3 a4) (fun hc => (xfork hS hv k).2 hc H locs ls a1 a2 a3 a4)
          case le =>
            replace hs := xgo_some hs
            obtain ⟨rfl, t, ht, hS⟩ := hs
            refine ⟨xgo_mono hS (fun _ h => h), fun p l e R s m args below meth c Q n0 X hd hO _ k H locs ls a1 a2 a3 a4 => ?_⟩
            exact lv_icmp_le (x := (ρ kk.toNat).1) (y := y) X.1 X.2.1 hd ht (fun hc => (xfork hS hv k).1 hc H locs ls a1 a2 a3 a4) (fun hc => (xfork hS hv k).2 hc H locs ls a1 a2 a3 a4)
        · cases hs
    · rename_i kk x r
      split at hs
      · rename_i w hw
        have hv := xdc_ok (y := x) hρ hw
        cases cc <;> dsimp only [xsw] at hv
        case eq =>
          replace hs := xgo_some hs
          obtain ⟨rfl, t, ht, hS⟩ := hs
          refine ⟨xgo_mono hS (fun _ h => h), fun p l e R s m args below meth c Q n0 X hd hO _ k H locs ls a1 a2 a3 a4 => ?_⟩
          exact lv_icmp_eq (x := x) (y := (ρ kk.toNat).1) X.1 X.2.1 hd ht (fun hc => (xfork hS (hv.trans ⟨Eq.symm, Eq.symm⟩) k).1 hc H locs ls a1 a2 a3 a4) (fun hc => (xfork hS (hv.trans ⟨Eq.symm, Eq.symm⟩) k).2 hc H locs ls a1 a2 a3 a4)
        case ne =>
          replace hs := xgo_some hs
          obtain ⟨rfl, t, ht, hS⟩ := hs
          refine ⟨xgo_mono hS (fun _ h => h), fun p l e R s m args below meth c Q n0 X hd hO _ k H locs ls a1 a2 a3 a4 => ?_⟩
          exact lv_icmp_ne (x := x) (y := (ρ kk.toNat).1) X.1 X.2.1 hd ht (fun hc => (xfork hS (hv.trans ⟨fun q z => q z.symm, fun q z => q z.symm⟩) k).1 hc H locs ls a1 a2 a3 a4) (fun hc => (xfork hS (hv.trans ⟨fun q z => q z.symm, fun q z => q z.symm⟩) k).2 (fun q => q hc) H locs ls a1 a2 a3 a4)
        case lt =>
          replace hs := xgo_some hs
          obtain ⟨rfl, t, ht, hS⟩ := hs
          refine ⟨xgo_mono hS (fun _ h => h), fun p l e R s m args below meth c Q n0 X hd hO _ k H locs ls a1 a2 a3 a4 => ?_⟩
          exact lv_icmp_lt (x := x) (y := (ρ kk.toNat).1) X.1 X.2.1 hd ht (fun hc => (xfork hS hv k).1 hc H locs ls a1 a2 a3 a4) (fun hc => (xfork hS hv k).2 hc H locs ls a1 a2 a3 a4)
        case ge =>
          replace hs := xgo_some hs
          obtain ⟨rfl, t, ht, hS⟩ := hs
          refine ⟨xgo_mono hS (fun _ h => h), fun p l e R s m args below meth c Q n0 X hd hO _ k H locs ls a1 a2 a3 a4 => ?_⟩
          exact lv_icmp_ge (x := x) (y := (ρ kk.toNat).1) X.1 X.2.1 hd ht (fun hc => (xfork hS hv k).1 hc H locs ls a1 a2 a3 a4) (fun hc => (xfork hS hv k).2 hc H locs ls a1 a2 a3 a4)
        case gt =>
          replace hs := xgo_some hs
          obtain ⟨rfl, t, ht, hS⟩ := hs
          refine ⟨xgo_mono hS (fun _ h => h), fun p l e R s m args below meth c Q n0 X hd hO _ k H locs ls a1 a2 a3 a4 => ?_⟩
          exact lv_icmp_gt (x := x) (y := (ρ kk.toNat).1) X.1 X.2.1 hd ht (fun hc => (xfork hS hv k).1 hc H locs ls a1 a2 a3 a4) (fun hc => (xfork hS hv k).2 hc H locs ls a1 a2 a3 a4)
        case le =>
          replace hs := xgo_some hs
          obtain ⟨rfl, t, ht, hS⟩ := hs
          refine ⟨xgo_mono hS (fun _ h => h), fun p l e R s m args below meth c Q n0 X hd hO _ k H locs ls a1 a2 a3 a4 => ?_⟩
          exact lv_icmp_le (x := x) (y := (ρ kk.toNat).1) X.1 X.2.1 hd ht (fun hc => (xfork hS hv k).1 hc H locs ls a1 a2 a3 a4) (fun hc => (xfork hS hv k).2 hc H locs ls a1 a2 a3 a4)
      · split at hs
        · rename_i w hw
          have hv := xbr_ok hρ hw
          cases cc <;> dsimp only at hv
          case eq =>
            replace hs := xgo_some hs
            obtain ⟨rfl, t, ht, hS⟩ := hs
            refine ⟨xgo_mono hS (fun _ h => h), fun p l e R s m args below meth c Q n0 X hd hO _ k H locs ls a1 a2 a3 a4 => ?_⟩
            exact lv_icmp_eq (x := x) (y := (ρ kk.toNat).1) X.1 X.2.1 hd ht (fun hc => (xfork hS hv k).1 hc H locs ls a1 a2 a3 a4) (fun hc => (xfork hS hv k).2 hc H locs ls a1 a2 a3 a4)
          case ne =>
            replace hs := xgo_some hs
            obtain ⟨rfl, t, ht, hS⟩ := hs
            refine ⟨xgo_mono hS (fun _ h => h), fun p l e R s m args below meth c Q n0 X hd hO _ k H locs ls a1 a2 a3 a4 => ?_⟩
            exact lv_icmp_ne (x := x) (y := (ρ kk.toNat).1) X.1 X.2.1 hd ht (fun hc => (xfork hS hv k).1 hc H locs ls a1 a2 a3 a4) (fun hc => (xfork hS hv k).2 (fun q => q hc) H locs ls a1 a2 a3 a4)
          case lt =>
            replace hs := xgo_some hs
            obtain ⟨rfl, t, ht, hS⟩ := hs
            refine ⟨xgo_mono hS (fun _ h => h), fun p l e R s m args below meth c Q n0 X hd hO _ k H locs ls a1 a2 a3 a4 => ?_⟩
            exact lv_icmp_lt (x := x) (y := (ρ kk.toNat).1) X.1 X.2.1 hd ht (fun hc => (xfork hS hv k).1 hc H locs ls a1 a2 a3 a4) (fun hc => (xfork hS hv k).2 hc H locs ls a1 a2 a3 a4)
          case ge =>
            replace hs := xgo_some hs
            obtain ⟨rfl, t, ht, hS⟩ := hs
            refine ⟨xgo_mono hS (fun _ h => h), fun p l e R s m args below meth c Q n0 X hd hO _ k H locs ls a1 a2 a3 a4 => ?_⟩
            exact lv_icmp_ge (x := x) (y := (ρ kk.toNat).1) X.1 X.2.1 hd ht (fun hc => (xfork hS hv k).1 hc H locs ls a1 a2 a3 a4) (fun hc => (xfork hS hv k).2 hc H locs ls a1 a2 a3 a4)
          case gt =>
            replace hs := xgo_some hs
            obtain ⟨rfl, t, ht, hS⟩ := hs
            refine ⟨xgo_mono hS (fun _ h => h), fun p l e R s m args below meth c Q n0 X hd hO _ k H locs ls a1 a2 a3 a4 => ?_⟩
            exact lv_icmp_gt (x := x) (y := (ρ kk.toNat).1) X.1 X.2.1 hd ht (fun hc => (xfork hS hv k).1 hc H locs ls a1 a2 a3 a4) (fun hc => (xfork hS hv k).2 hc H locs ls a1 a2 a3 a4)
          case le =>
            replace hs := xgo_some hs
            obtain ⟨rfl, t, ht, hS⟩ := hs
            refine ⟨xgo_mono hS (fun _ h => h), fun p l e R s m args below meth c Q n0 X hd hO _ k H locs ls a1 a2 a3 a4 => ?_⟩
            exact lv_icmp_le (x := x) (y := (ρ kk.toNat).1) X.1 X.2.1 hd ht (fun hc => (xfork hS hv k).1 hc H locs ls a1 a2 a3 a4) (fun hc => (xfork hS hv k).2 hc H locs ls a1 a2 a3 a4)
        · cases hs
    · rename_i jj kk r
      rcases xbc hs with ⟨hj, g⟩ | ⟨-, g2⟩
      · have hj := of_decide_eq_true hj
        subst hj
        cases cc <;> try (exact absurd (show (none : Option (xS × xO)) = some (S', O') from g) (by simp))
        case eq =>
          replace hs := xgo_some (show xgo pc 3 off lv r h sl fr true O = some (S', O') from g)
          obtain ⟨rfl, t, ht, hS⟩ := hs
          refine ⟨xgo_mono hS (fun _ h => h), fun p l e R s m args below meth c Q n0 X hd hO _ k H locs ls a1 a2 a3 a4 => ?_⟩
          subst hS
          exact lv_icmp_eq (x := (ρ jj.toNat).1) (y := (ρ jj.toNat).1) X.1 X.2.1 hd ht (fun _ => k H locs ls a1 a2 a3 a4) (fun q => absurd rfl q)
        case ne =>
          replace hs := xgo_some (show xgo pc 3 off lv r h sl fr false O = some (S', O') from g)
          obtain ⟨rfl, t, ht, hS⟩ := hs
          refine ⟨xgo_mono hS (fun _ h => h), fun p l e R s m args below meth c Q n0 X hd hO _ k H locs ls a1 a2 a3 a4 => ?_⟩
          subst hS
          exact lv_icmp_ne (x := (ρ jj.toNat).1) (y := (ρ jj.toNat).1) X.1 X.2.1 hd ht (fun q => absurd rfl q) (fun _ => k H locs ls a1 a2 a3 a4)
      · clear hs
        have hs := g2
        clear g2
        split at hs
        · rename_i w hw
          have hv := xbr_ok hρ hw
          cases cc <;> dsimp only at hv
          case eq =>
            replace hs := xgo_some hs
            obtain ⟨rfl, t, ht, hS⟩ := hs
            refine ⟨xgo_mono hS (fun _ h => h), fun p l e R s m args below meth c Q n0 X hd hO _ k H locs ls a1 a2 a3 a4 => ?_⟩
            exact lv_icmp_eq (x := (ρ kk.toNat).1) (y := (ρ jj.toNat).1) X.1 X.2.1 hd ht (fun hc => (xfork hS hv k).1 hc H locs ls a1 a2 a3 a4) (fun hc => (xfork hS hv k).2 hc H locs ls a1 a2 a3 a4)
          case ne =>
            replace hs := xgo_some hs
            obtain ⟨rfl, t, ht, hS⟩ := hs
            refine ⟨xgo_mono hS (fun _ h => h), fun p l e R s m args below meth c Q n0 X hd hO _ k H locs ls a1 a2 a3 a4 => ?_⟩
            exact lv_icmp_ne (x := (ρ kk.toNat).1) (y := (ρ jj.toNat).1) X.1 X.2.1 hd ht (fun hc => (xfork hS hv k).1 hc H locs ls a1 a2 a3 a4) (fun hc => (xfork hS hv k).2 (fun q => q hc) H locs ls a1 a2 a3 a4)
          case lt =>
            replace hs := xgo_some hs
            obtain ⟨rfl, t, ht, hS⟩ := hs
            refine ⟨xgo_mono hS (fun _ h => h), fun p l e R s m args below meth c Q n0 X hd hO _ k H locs ls a1 a2 a3 a4 => ?_⟩
            exact lv_icmp_lt (x := (ρ kk.toNat).1) (y := (ρ jj.toNat).1) X.1 X.2.1 hd ht (fun hc => (xfork hS hv k).1 hc H locs ls a1 a2 a3 a4) (fun hc => (xfork hS hv k).2 hc H locs ls a1 a2 a3 a4)
          case ge =>
            replace hs := xgo_some hs
            obtain ⟨rfl, t, ht, hS⟩ := hs
            refine ⟨xgo_mono hS (fun _ h => h), fun p l e R s m args below meth c Q n0 X hd hO _ k H locs ls a1 a2 a3 a4 => ?_⟩
            exact lv_icmp_ge (x := (ρ kk.toNat).1) (y := (ρ jj.toNat).1) X.1 X.2.1 hd ht (fun hc => (xfork hS hv k).1 hc H locs ls a1 a2 a3 a4) (fun hc => (xfork hS hv k).2 hc H locs ls a1 a2 a3 a4)
          case gt =>
            replace hs := xgo_some hs
            obtain ⟨rfl, t, ht, hS⟩ := hs
            refine ⟨xgo_mono hS (fun _ h => h), fun p l e R s m args below meth c Q n0 X hd hO _ k H locs ls a1 a2 a3 a4 => ?_⟩
            exact lv_icmp_gt (x := (ρ kk.toNat).1) (y := (ρ jj.toNat).1) X.1 X.2.1 hd ht (fun hc => (xfork hS hv k).1 hc H locs ls a1 a2 a3 a4) (fun hc => (xfork hS hv k).2 hc H locs ls a1 a2 a3 a4)
          case le =>
            replace hs := xgo_some hs
            obtain ⟨rfl, t, ht, hS⟩ := hs
            refine ⟨xgo_mono hS (fun _ h => h), fun p l e R s m args below meth c Q n0 X hd hO _ k H locs ls a1 a2 a3 a4 => ?_⟩
            exact lv_icmp_le (x := (ρ kk.toNat).1) (y := (ρ jj.toNat).1) X.1 X.2.1 hd ht (fun hc => (xfork hS hv k).1 hc H locs ls a1 a2 a3 a4) (fun hc => (xfork hS hv k).2 hc H locs ls a1 a2 a3 a4)
        · cases hs
    · cases hs
  case ifnull off =>
    obtain rfl : len = 3 := by simpa [xlen] using hlen
    dsimp only [xstep, xdisp, xs_ifnull] at hs
    split at hs
    · replace hs := xgo_some hs
      obtain ⟨rfl, t, ht, hS⟩ := hs
      refine ⟨xgo_mono hS (fun _ h => h), fun p l e R s m args below meth c Q n0 X hd hO _ k H locs ls a1 a2 a3 a4 => ?_⟩
      subst hS
      exact lv_ifnullN X.1 X.2.1 hd ht (k H locs ls a1 a2 a3 a4)
    · replace hs := xgo_some hs
      obtain ⟨rfl, t, ht, hS⟩ := hs
      refine ⟨xgo_mono hS (fun _ h => h), fun p l e R s m args below meth c Q n0 X hd hO _ k H locs ls a1 a2 a3 a4 => ?_⟩
      subst hS
      exact lv_ifnull X.1 X.2.1 hd (k H locs ls a1 a2 a3 a4)
    · cases hs
  case ifnonnull off =>
    obtain rfl : len = 3 := by simpa [xlen] using hlen
    dsimp only [xstep, xdisp, xs_ifnonnull] at hs
    split at hs
    · replace hs := xgo_some hs
      obtain ⟨rfl, t, ht, hS⟩ := hs
      refine ⟨xgo_mono hS (fun _ h => h), fun p l e R s m args below meth c Q n0 X hd hO _ k H locs ls a1 a2 a3 a4 => ?_⟩
      subst hS
      exact lv_ifnonnullN X.1 X.2.1 hd (k H locs ls a1 a2 a3 a4)
    · replace hs := xgo_some hs
      obtain ⟨rfl, t, ht, hS⟩ := hs
      refine ⟨xgo_mono hS (fun _ h => h), fun p l e R s m args below meth c Q n0 X hd hO _ k H locs ls a1 a2 a3 a4 => ?_⟩
      subst hS
      exact lv_ifnonnull X.1 X.2.1 hd ht (k H locs ls a1 a2 a3 a4)
    · cases hs
  case goto off =>
    obtain rfl : len = 3 := by simpa [xlen] using hlen
    replace hs := xgo_some (show xgo pc 3 off lv st h sl fr true O = some (S', O') from hs)
    obtain ⟨rfl, t, ht, hS⟩ := hs
    refine ⟨xgo_mono hS (fun _ h => h), fun p l e R s m args below meth c Q n0 X hd hO _ k H locs ls a1 a2 a3 a4 => ?_⟩
    subst hS
    exact lv_goto X.1 X.2.1 hd ht (k H locs ls a1 a2 a3 a4)
  case tableswitch dflt lo hi offs =>
    dsimp only [xstep, xdisp, xs_tableswitch] at hs
    split at hs
    rotate_left
    · rename_i kk r
      replace hs := xbif hs
      obtain ⟨hb, hs⟩ := hs
      replace hs := xgo_some hs
      obtain ⟨rfl, t, ht, hS⟩ := hs
      refine ⟨xgo_mono hS (fun _ h => h), fun p l e R s m args below meth c Q n0 X hd hO _ k H locs ls a1 a2 a3 a4 => ?_⟩
      subst hS
      obtain ⟨q1, q2⟩ := hρ.1 kk.toNat
      simp only [Bool.or_eq_true, decide_eq_true_eq] at hb
      exact lv_tableOut (x := (ρ kk.toNat).1) X.1 X.2.1 hd (by omega) ht (k H locs ls a1 a2 a3 a4)
    · cases hs
    rename_i x r
    obtain ⟨v, O1, hs, hm, hp⟩ := xif_some (show xif (x.toInt < lo) O (fun b O => bif b then xgo pc len dflt lv r h sl fr true O else xif (hi < x.toInt) O (fun b O => bif b then xgo pc len dflt lv r h sl fr true O else (match offs.toList[(x.toInt - lo).toNat]? with
      | some off => xgo pc len off lv r h sl fr true O
      | none => none))) = some (S', O') from hs)
    cases v with
    | true =>
      replace hs := xgo_some (show xgo pc len dflt lv r h sl fr true O1 = some (S', O') from hs)
      obtain ⟨rfl, t, ht, hS⟩ := hs
      refine ⟨xgo_mono hS hm, fun p l e R s m args below meth c Q n0 X hd hO _ k H locs ls a1 a2 a3 a4 => ?_⟩
      subst hS
      exact lv_tableOut X.1 X.2.1 hd (Or.inl ((hp hO).mp rfl)) ht (k H locs ls a1 a2 a3 a4)
    | false =>
      replace hs : xif (hi < x.toInt) O1 (fun b O => bif b then xgo pc len dflt lv r h sl fr true O else (match offs.toList[(x.toInt - lo).toNat]? with
        | some off => xgo pc len off lv r h sl fr true O
        | none => none)) = some (S', O') := hs
      replace hs := xif_some hs
      obtain ⟨v, O2, hs, hm2, hp2⟩ := hs
      cases v with
      | true =>
        replace hs := xgo_some (show xgo pc len dflt lv r h sl fr true O2 = some (S', O') from hs)
        obtain ⟨rfl, t, ht, hS⟩ := hs
        refine ⟨xgo_mono hS (fun Y hY => hm2 Y (hm Y hY)), fun p l e R s m args below meth c Q n0 X hd hO _ k H locs ls a1 a2 a3 a4 => ?_⟩
        subst hS
        exact lv_tableOut X.1 X.2.1 hd (Or.inr ((hp2 hO).mp rfl)) ht (k H locs ls a1 a2 a3 a4)
      | false =>
        change (match offs.toList[(x.toInt - lo).toNat]? with
          | some off => xgo pc len off lv r h sl fr true O2
          | none => none) = some (S', O') at hs
        split at hs
        · rename_i off hoff
          replace hs := xgo_some hs
          obtain ⟨rfl, t, ht, hS⟩ := hs
          refine ⟨xgo_mono hS (fun Y hY => hm2 Y (hm Y hY)), fun p l e R s m args below meth c Q n0 X hd hO _ k H locs ls a1 a2 a3 a4 => ?_⟩
          subst hS
          refine lv_tableIn X.1 X.2.1 hd (fun q => by have := (hp (fun Y hY => hO Y (hm2 Y hY))).mpr q; cases this) (fun q => by have := (hp2 hO).mpr q; cases this) (by rw [← Array.getElem?_toList]; exact hoff) ht (k H locs ls a1 a2 a3 a4)
        · cases hs
  case lookupswitch dflt ps =>
    replace hs := xbif hs
    obtain ⟨hb, hs⟩ := hs
    replace hs := xi1_some hs
    obtain ⟨x, r, rfl, hs⟩ := hs
    replace hs := xgo_some hs
    obtain ⟨rfl, t, ht, hS⟩ := hs
    refine ⟨xgo_mono hS (fun _ h => h), fun p l e R s m args below meth c Q n0 X hd hO _ k H locs ls a1 a2 a3 a4 => ?_⟩
    subst hS
    exact lv_lookup X.1 X.2.1 hd hb rfl ht (k H locs ls a1 a2 a3 a4)
  case getfield i =>
    obtain rfl : len = 3 := by simpa [xlen] using hlen
    dsimp only [xstep, xdisp, xs_getfield] at hs
    split at hs
    · rename_i q r
      split at hs
      · rename_i ci fs hq
        rw [xnth_eq] at hq
        replace hs := xbif hs
        obtain ⟨hc, hs⟩ := hs
        have hc : ci = a := Nat.eq_of_beq_eq_true hc
        subst hc
        split at hs
        · rename_i v hv
          rw [xnth_eq] at hv
          cases hs
          refine ⟨xMono.rf, fun p l e R s m args below meth c Q n0 X hd _ _ k H locs ls a1 a2 a3 a4 => ?_⟩
          obtain ⟨w, hw, hz⟩ := List.any_eq_true.mp ha
          simp only [Bool.and_eq_true] at hz
          obtain ⟨z1, z2, z3, z4⟩ := hz
          have z1 := Nat.eq_of_beq_eq_true z1
          have z2 := Nat.eq_of_beq_eq_true z2
          have z3 := Nat.eq_of_beq_eq_true z3
          have z4 := Nat.eq_of_beq_eq_true z4
          have hok := List.all_eq_true.mp xFs_ok w hw
          unfold xFok at hok
          rw [z1, z2, z3, z4] at hok
          split at hok
          · rename_i u hu
            simp only [Bool.and_eq_true] at hok
            have hlt := Nat.le_of_ble_eq_true hok.1
            have hv2 : (fs.map (xSh b o ρ))[bb]? = some (xSh b o ρ v) := by rw [List.getElem?_map, hv]; rfl
            have hg := xWs_get (b := b) (o := o) (ρ := ρ) (ca := ca) hq
            have h2 := hok.2
            split at h2
            · exact va_get X.1 X.2.1 (own := xRC (xMo M)) (C := u.1) (T := u.2.1) (N := u.2.2) X.2.2.2.2.1 (xLy_at hu).1 X.2.2.2.1 X.2.2.2.2.2.2.1 a1 q hg hu bb hlt (X.2.2.2.2.1 _ (xBig_of h2)) (fun _ h => h) hv2 hd (k H locs ls a1 a2 a3 a4)
            · have hn : va_Nw (.fieldLinkNest (xRC (xMo M)) i (u.2.1 bb).1 (u.2.1 bb).2.1 (u.2.1 bb).2.2.1 "PulledSignals") s := by
                simp only [xWn, decide_eq_true_eq] at h2
                exact X.2.2.2.2.2.1.1 _ (List.mem_of_getElem? h2) rfl
              exact va_getN X.1 X.2.1 (own := xRC (xMo M)) (C := u.1) (T := u.2.1) (N := u.2.2) X.2.2.2.2.1 (xLy_at hu).1 X.2.2.2.1 X.2.2.2.2.2.2.1 a1 q hg hu bb hlt (va_Nw.use rfl hn) (fun _ h => h) hv2 hd (k H locs ls a1 a2 a3 a4)
          · cases hok
        · cases hs
      · cases hs
    · cases hs
  case putfield i =>
    obtain rfl : len = 3 := by simpa [xlen] using hlen
    dsimp only [xstep, xdisp, xs_putfield] at hs
    split at hs
    · rename_i v q r
      split at hs
      · rename_i ci fs hq
        rw [xnth_eq] at hq
        replace hs := xbif hs
        obtain ⟨hc, hs⟩ := hs
        simp only [Bool.and_eq_true] at hc
        obtain ⟨⟨c1, c2⟩, c3⟩ := hc
        have hc : ci = a := Nat.eq_of_beq_eq_true c1
        subst hc
        replace hs := xset_some hs
        obtain ⟨l1, hs⟩ := hs
        replace hs := xset_some hs
        obtain ⟨l2, hs⟩ := hs
        cases hs
        refine ⟨⟨by show _ ≤ (h.set _ _).length; rw [List.length_set]; exact Nat.le_refl _, Nat.le_refl _, Nat.le_refl _, fun _ h => h⟩, fun p l e R s m args below meth c Q n0 X hd _ _ k H locs ls a1 a2 a3 a4 => ?_⟩
        obtain ⟨w, hw, hz⟩ := List.any_eq_true.mp ha
        simp only [Bool.and_eq_true] at hz
        obtain ⟨z1, z2, z3, z4, z5⟩ := hz
        have z1 := Nat.eq_of_beq_eq_true z1
        have z2 := Nat.eq_of_beq_eq_true z2
        have z3 := Nat.eq_of_beq_eq_true z3
        have z4 := Nat.eq_of_beq_eq_true z4
        have hok := List.all_eq_true.mp xFs_ok w hw
        unfold xFok at hok
        rw [z1, z2, z3, z4] at hok
        split at hok
        · rename_i u hu
          simp only [Bool.and_eq_true] at hok
          have hlt := Nat.le_of_ble_eq_true hok.1
          have hg := xWs_get (b := b) (o := o) (ρ := ρ) (ca := ca) hq
          have hf := xfit_ok b o ρ c3
          have hfl : bb < (fs.map (xSh b o ρ)).length := by rw [List.length_map]; exact l1
          have hset : (.inr (ci, (fs.map (xSh b o ρ)).set bb (xSh b o ρ v)) : va_E) = xCv b o ρ ca (.inr (ci, fs.set bb v)) := by
            show _ = (.inr (ci, (fs.set bb v).map (xSh b o ρ)) : va_E)
            rw [List.map_set]
          have kk : ∀ (H1 : Heap) (locs1 : List Loc), va_P D vwCl ((xWs b o ρ ca h).set q (o q, .inr (ci, (fs.map (xSh b o ρ)).set bb (xSh b o ρ v)))) H1 → va_D (xA o) ((xWs b o ρ ca h).set q (o q, .inr (ci, (fs.map (xSh b o ρ)).set bb (xSh b o ρ v)))) → va_S (xA o) s.heap H1 locs1 → W p l e R s m args below meth c H1 locs1 (h.length - n0) sl Q (F0 m (pc + 3) ls (r.map (xSh b o ρ))) := fun H1 locs1 b1 _ b2 => xstore k a3 a4 (by rw [← hset]; exact b1) b2
          cases hfin : (u.2.1 bb).2.2.2 with
          | false =>
            have h2 := hok.2
            split at h2
            · exact va_put X.1 X.2.1 (own := xRC (xMo M)) (C := u.1) (T := u.2.1) (N := u.2.2) X.2.2.2.2.1 (xLy_at hu).1 (xTy ci) (xTy_at hu).1 (xTy_at hu).2 X.2.2.2.1 X.2.2.2.2.2.2.1 a1 (xWs_D X.2.2.2.2.2.2.2.2.1.2) a2 q hg hu bb hlt (X.2.2.2.2.1 _ (xBig_of h2)) (fun _ h => h) hfin ((xTy_at hu).1 bb hlt) hf.1 hf.2 hfl hd kk
            · have hn : va_Nw (.fieldLinkNest (xRC (xMo M)) i (u.2.1 bb).1 (u.2.1 bb).2.1 (u.2.1 bb).2.2.1 "PulledSignals") s := by
                simp only [xWn, decide_eq_true_eq] at h2
                exact X.2.2.2.2.2.1.1 _ (List.mem_of_getElem? h2) rfl
              exact va_putN X.1 X.2.1 (own := xRC (xMo M)) (C := u.1) (T := u.2.1) (N := u.2.2) X.2.2.2.2.1 (xLy_at hu).1 (xTy ci) (xTy_at hu).1 (xTy_at hu).2 X.2.2.2.1 X.2.2.2.2.2.2.1 a1 (xWs_D X.2.2.2.2.2.2.2.2.1.2) a2 q hg hu bb hlt (va_Nw.use rfl hn) (fun _ h => h) hfin ((xTy_at hu).1 bb hlt) hf.1 hf.2 hfl hd kk
          | true =>
            have hF : xFin ci bb = true := by
              unfold xFin
              rw [hu]
              exact hfin
            rw [hF] at z5
            simp only [Bool.not_true, Bool.false_or, Bool.and_eq_true] at z5
            obtain ⟨y1, y2, y3⟩ := z5
            have y1 := Nat.eq_of_beq_eq_true y1
            have y2 := Nat.eq_of_beq_eq_true y2
            have y3 := Nat.eq_of_beq_eq_true y3
            have h2 := hok.2
            rw [y3] at h2
            have hdecl : (u.2.1 bb).1 = xRC (xMo M) := xDecl (by have := List.all_eq_true.mp xF9 w hw; rw [z3] at this; exact Nat.le_of_ble_eq_true this) hu y2 hlt
            exact va_putF X.1 X.2.1 (own := xRC (xMo M)) (C := u.1) (T := u.2.1) (N := u.2.2) X.2.2.2.2.1 (xLy_at hu).1 (xTy ci) (xTy_at hu).1 (xTy_at hu).2 X.2.2.2.1 X.2.2.2.2.2.2.1 a1 (xWs_D X.2.2.2.2.2.2.2.2.1.2) a2 q hg hu bb hlt (X.2.2.2.2.1 _ (xBig_of h2)) (fun _ h => h) hfin (X.2.2.2.2.2.2.2.2.2.2 y1) hdecl ((xTy_at hu).1 bb hlt) hf.1 hf.2 hfl hd kk
        · cases hok
      · cases hs
    · cases hs
  case iaload =>
    obtain rfl : len = 1 := by simpa [xlen] using hlen
    dsimp only [xstep, xdisp, xs_iaload] at hs
    split at hs
    · rename_i i r
      replace hs := xbif hs
      obtain ⟨hb, hs⟩ := hs
      split at hs
      rotate_left
      · cases hs
      rename_i zz hzz
      cases hs
      refine ⟨xMono.rf, fun p l e R s m args below meth c Q n0 X hd _ _ k H locs ls a1 a2 a3 a4 => ?_⟩
      have hilt : i.toNatClampNeg < L - 1 := Nat.not_le.mp fun q => xin_iff hb (Or.inr q)
      have kk2 := k H locs ls a1 a2 a3 a4
      have hz2 : Int32.ofInt zz = xs i.toNatClampNeg := by
        rw [hxs _ hilt, ← xfl_ok hρ hzz, Int32.ofInt_toInt]
      change W p l e R s m args below meth c H locs (h.length - n0) sl Q (F0 m (pc + 1) ls (.int (Int32.ofInt zz) :: r.map (xSh b o ρ))) at kk2
      rw [hz2] at kk2
      have hbo := X.2.2.2.2.2.2.2.2.1
      have hsz := X.2.2.2.2.2.2.2.2.2.1
      have hL0 : L ≠ 0 := fun q => by
        subst q
        exact xin_iff hb (Or.inr (Nat.zero_le _))
      exact va_sld X.1 X.2.1 (X.2.2.2.2.2.2.2.1 hL0) (xBelow X.2.2.2.2.2.2.2.2.1.2 X.2.2.2.2.2.2.2.2.2.1 X.2.2.2.2.2.2.2.2.1.1).1 (xBelow X.2.2.2.2.2.2.2.2.1.2 X.2.2.2.2.2.2.2.2.2.1 X.2.2.2.2.2.2.2.2.1.1).2 a2 (xin_iff hb) hd kk2
    · rename_i i q r
      split at hs
      · rename_i n f hq
        rw [xnth_eq] at hq
        replace hs := xbif hs
        obtain ⟨hb, hs⟩ := hs
        cases hs
        refine ⟨xMono.rf, fun p l e R s m args below meth c Q n0 X hd _ _ k H locs ls a1 a2 a3 a4 => ?_⟩
        exact va_iald X.1 X.2.1 X.2.2.2.2.2.2.1 a1 q 0 (xWs_get hq) rfl (xin_iff hb) hd (k H locs ls a1 a2 a3 a4)
      · cases hs
    · cases hs
  case baload =>
    obtain rfl : len = 1 := by simpa [xlen] using hlen
    dsimp only [xstep, xdisp, xs_baload] at hs
    split at hs
    · rename_i i q r
      split at hs
      · rename_i n f hq
        rw [xnth_eq] at hq
        replace hs := xbif hs
        obtain ⟨hb, hs⟩ := hs
        cases hs
        refine ⟨xMono.rf, fun p l e R s m args below meth c Q n0 X hd _ _ k H locs ls a1 a2 a3 a4 => ?_⟩
        exact va_bald X.1 X.2.1 X.2.2.2.2.2.2.1 a1 q 2 (xWs_get hq) rfl (xin_iff hb) hd (k H locs ls a1 a2 a3 a4)
      · cases hs
    · cases hs
  case laload =>
    obtain rfl : len = 1 := by simpa [xlen] using hlen
    dsimp only [xstep, xdisp, xs_laload] at hs
    split at hs
    · rename_i i q r
      split at hs
      · rename_i n f hq
        rw [xnth_eq] at hq
        replace hs := xbif hs
        obtain ⟨hb, hs⟩ := hs
        cases hs
        refine ⟨xMono.rf, fun p l e R s m args below meth c Q n0 X hd _ _ k H locs ls a1 a2 a3 a4 => ?_⟩
        exact va_lald X.1 X.2.1 X.2.2.2.2.2.2.1 a1 q 1 (xWs_get hq) rfl (xin_iff hb) hd (k H locs ls a1 a2 a3 a4)
      · cases hs
    · cases hs
  case aaload =>
    obtain rfl : len = 1 := by simpa [xlen] using hlen
    dsimp only [xstep, xdisp, xs_aaload] at hs
    split at hs
    · rename_i i q r
      split at hs
      · rename_i t n f hq
        rw [xnth_eq] at hq
        replace hs := xbif hs
        obtain ⟨hb, hs⟩ := hs
        simp only [Bool.and_eq_true, Bool.or_eq_true] at hb
        cases hs
        refine ⟨xMono.rf, fun p l e R s m args below meth c Q n0 X hd _ _ k H locs ls a1 a2 a3 a4 => ?_⟩
        have kk := k H locs ls a1 a2 a3 a4
        have e1 : List.map (xSh b o ρ) (va_rf (f i.toNatClampNeg) :: r) = va_rf ((fun j => (f j).map (xAd b o)) i.toNatClampNeg) :: r.map (xSh b o ρ) := by rw [List.map_cons, xSh_rf]
        change W p l e R s m args below meth c H locs (h.length - n0) sl Q (F0 m (pc + 1) ls (List.map (xSh b o ρ) (va_rf (f i.toNatClampNeg) :: r))) at kk
        rw [e1] at kk
        rcases hb.2 with ht | ht
        · have ht := Nat.eq_of_beq_eq_true ht
          subst ht
          exact va_aldq X.1 X.2.1 X.2.2.2.2.2.2.1 a1 q 3 (C := "PulledSignals$Cell") (xWs_get hq) rfl (xin_iff hb.1) hd kk
        · have ht := Nat.eq_of_beq_eq_true ht
          subst ht
          exact va_aldq X.1 X.2.1 X.2.2.2.2.2.2.1 a1 q 4 (C := "PulledSignals$Shelf") (xWs_get hq) rfl (xin_iff hb.1) hd kk
      · cases hs
    · cases hs
  case iastore =>
    obtain rfl : len = 1 := by simpa [xlen] using hlen
    dsimp only [xstep, xdisp, xs_iastore] at hs
    split at hs
    · rename_i x i q r
      split at hs
      · rename_i n f hq
        rw [xnth_eq] at hq
        replace hs := xbif hs
        obtain ⟨hb, hs⟩ := hs
        replace hs := xset_some hs
        obtain ⟨l2, hs⟩ := hs
        cases hs
        refine ⟨⟨by show _ ≤ (h.set _ _).length; rw [List.length_set]; exact Nat.le_refl _, Nat.le_refl _, Nat.le_refl _, fun _ h => h⟩, fun p l e R s m args below meth c Q n0 X hd _ _ k H locs ls a1 a2 a3 a4 => ?_⟩
        exact va_iast X.1 X.2.1 X.2.2.2.2.2.2.1 a1 (xWs_D X.2.2.2.2.2.2.2.2.1.2) a2 q 0 (xWs_get hq) rfl (xin_iff hb) hd (fun H1 locs1 b1 _ b2 => xstore k a3 a4 b1 b2)
      · cases hs
    · rename_i kk i q r
      split at hs
      · rename_i n f hq
        rw [xnth_eq] at hq
        replace hs := xbif hs
        obtain ⟨hb, hs⟩ := hs
        simp only [Bool.and_eq_true] at hb
        obtain ⟨hb, hz⟩ := hb
        replace hs := xset_some hs
        obtain ⟨l2, hs⟩ := hs
        cases hs
        refine ⟨⟨by show _ ≤ (h.set _ _).length; rw [List.length_set]; exact Nat.le_refl _, Nat.le_refl _, Nat.le_refl _, fun _ h => h⟩, fun p l e R s m args below meth c Q n0 X hd _ _ k H locs ls a1 a2 a3 a4 => ?_⟩
        refine va_iast (x := (ρ kk.toNat).1) X.1 X.2.1 X.2.2.2.2.2.2.1 a1 (xWs_D X.2.2.2.2.2.2.2.2.1.2) a2 q 0 (xWs_get hq) rfl (xin_iff hb) hd (fun H1 locs1 b1 _ b2 => xstore k a3 a4 (xswap (xarr_i fun j hj => ?_) b1) b2)
        have hzj := List.all_eq_true.mp hz j (List.mem_range.mpr hj)
        simp only [Bool.or_eq_true, decide_eq_true_eq] at hzj
        unfold upd
        cases hji : Nat.beq j i.toNatClampNeg with
        | true =>
          rw [if_pos (Nat.eq_of_beq_eq_true hji)]
          show _ = (ρ (bif Nat.beq j i.toNatClampNeg then kk else 7).toNat).1
          rw [hji]
          rfl
        | false =>
          rw [if_neg (Nat.ne_of_beq_eq_false hji)]
          show _ = (ρ (bif Nat.beq j i.toNatClampNeg then kk else 7).toNat).1
          rw [hji] at hzj ⊢
          show f j = (ρ (7 : UInt32).toNat).1
          rw [show (7 : UInt32).toNat = 7 from rfl, hρ.2.2.2.2.2.2.1]
          exact hzj.resolve_left (by decide)
      · cases hs
    · cases hs
  case bastore =>
    obtain rfl : len = 1 := by simpa [xlen] using hlen
    dsimp only [xstep, xdisp, xs_bastore] at hs
    split at hs
    · rename_i x i q r
      split at hs
      · rename_i n f hq
        rw [xnth_eq] at hq
        replace hs := xbif hs
        obtain ⟨hb, hs⟩ := hs
        replace hs := xset_some hs
        obtain ⟨l2, hs⟩ := hs
        cases hs
        refine ⟨⟨by show _ ≤ (h.set _ _).length; rw [List.length_set]; exact Nat.le_refl _, Nat.le_refl _, Nat.le_refl _, fun _ h => h⟩, fun p l e R s m args below meth c Q n0 X hd _ _ k H locs ls a1 a2 a3 a4 => ?_⟩
        exact va_bast X.1 X.2.1 X.2.2.2.2.2.2.1 a1 (xWs_D X.2.2.2.2.2.2.2.2.1.2) a2 q 2 (xWs_get hq) rfl (xin_iff hb) hd (fun H1 locs1 b1 _ b2 => xstore k a3 a4 b1 b2)
      · cases hs
    · cases hs
  case lastore =>
    obtain rfl : len = 1 := by simpa [xlen] using hlen
    dsimp only [xstep, xdisp, xs_lastore] at hs
    split at hs
    · rename_i x i q r
      split at hs
      · rename_i n f hq
        rw [xnth_eq] at hq
        replace hs := xbif hs
        obtain ⟨hb, hs⟩ := hs
        replace hs := xset_some hs
        obtain ⟨l2, hs⟩ := hs
        cases hs
        refine ⟨⟨by show _ ≤ (h.set _ _).length; rw [List.length_set]; exact Nat.le_refl _, Nat.le_refl _, Nat.le_refl _, fun _ h => h⟩, fun p l e R s m args below meth c Q n0 X hd _ _ k H locs ls a1 a2 a3 a4 => ?_⟩
        exact va_last X.1 X.2.1 X.2.2.2.2.2.2.1 a1 (xWs_D X.2.2.2.2.2.2.2.2.1.2) a2 q 1 (xWs_get hq) rfl (xin_iff hb) hd (fun H1 locs1 b1 _ b2 => xstore k a3 a4 b1 b2)
      · cases hs
    · rename_i kk i q r
      split at hs
      · rename_i n f hq
        rw [xnth_eq] at hq
        replace hs := xbif hs
        obtain ⟨hb, hs⟩ := hs
        simp only [Bool.and_eq_true] at hb
        obtain ⟨hb, hk9, hz⟩ := hb
        have hk9 := Nat.le_of_ble_eq_true hk9
        replace hs := xset_some hs
        obtain ⟨l2, hs⟩ := hs
        cases hs
        refine ⟨⟨by show _ ≤ (h.set _ _).length; rw [List.length_set]; exact Nat.le_refl _, Nat.le_refl _, Nat.le_refl _, fun _ h => h⟩, fun p l e R s m args below meth c Q n0 X hd _ _ k H locs ls a1 a2 a3 a4 => ?_⟩
        refine va_last (x := (ρ kk.toNat).2) X.1 X.2.1 X.2.2.2.2.2.2.1 a1 (xWs_D X.2.2.2.2.2.2.2.2.1.2) a2 q 1 (xWs_get hq) rfl (xin_iff hb) hd (fun H1 locs1 b1 _ b2 => xstore k a3 a4 (xswap (xarr_l fun j hj => ?_) b1) b2)
        have hzj := List.all_eq_true.mp hz j (List.mem_range.mpr hj)
        simp only [Bool.or_eq_true, decide_eq_true_eq] at hzj
        unfold vp_updL
        cases hji : Nat.beq j i.toNatClampNeg with
        | true =>
          rw [if_pos (Nat.eq_of_beq_eq_true hji)]
          show _ = (ρ (bif Nat.beq j i.toNatClampNeg then kk.toUInt32 else 7).toNat).2
          rw [hji]
          show _ = (ρ kk.toUInt32.toNat).2
          rw [UInt64.toNat_toUInt32, Nat.mod_eq_of_lt (by omega)]
        | false =>
          rw [if_neg (Nat.ne_of_beq_eq_false hji)]
          show _ = (ρ (bif Nat.beq j i.toNatClampNeg then kk.toUInt32 else 7).toNat).2
          rw [hji] at hzj ⊢
          show f j = (ρ (7 : UInt32).toNat).2
          rw [show (7 : UInt32).toNat = 7 from rfl, hρ.2.2.2.2.2.2.1]
          exact hzj.resolve_left (by decide)
      · cases hs
    · cases hs
  case aastore =>
    obtain rfl : len = 1 := by simpa [xlen] using hlen
    dsimp only [xstep, xdisp, xs_aastore] at hs
    split at hs
    · rename_i v i q r
      split at hs
      · rename_i t n f hq
        rw [xnth_eq] at hq
        split at hs
        · rename_i ci vs hv
          rw [xnth_eq] at hv
          replace hs := xbif hs
          obtain ⟨hb, hs⟩ := hs
          simp only [Bool.and_eq_true, Bool.or_eq_true] at hb
          replace hs := xset_some hs
          obtain ⟨l2, hs⟩ := hs
          cases hs
          refine ⟨⟨by show _ ≤ (h.set _ _).length; rw [List.length_set]; exact Nat.le_refl _, Nat.le_refl _, Nat.le_refl _, fun _ h => h⟩, fun p l e R s m args below meth c Q n0 X hd _ _ k H locs ls a1 a2 a3 a4 => ?_⟩
          have e1 : (fun j => (va_up f i.toNatClampNeg (some (v + 1)) j).map (xAd b o)) = va_up (fun j => (f j).map (xAd b o)) i.toNatClampNeg (some (o v)) := by
            funext j
            unfold va_up
            by_cases hj : j = i.toNatClampNeg
            · rw [if_pos hj, if_pos hj]
              rfl
            · rw [if_neg hj, if_neg hj]
          have hset : (.inl (ca t, n, .inr (.inr (.inr (.inr (va_up (fun j => (f j).map (xAd b o)) i.toNatClampNeg (some (o v))))))) : va_E) = xCv b o ρ ca (.inl (t, n, .inr (.inr (.inr (.inr (va_up f i.toNatClampNeg (some (v + 1)))))))) := by
            show _ = (.inl (ca t, n, .inr (.inr (.inr (.inr (fun j => (va_up f i.toNatClampNeg (some (v + 1)) j).map (xAd b o)))))) : va_E)
            rw [e1]
          rcases hb.2 with ⟨ht, hci⟩ | ⟨ht, hci⟩
          · have ht := Nat.eq_of_beq_eq_true ht
            have hci := Nat.eq_of_beq_eq_true hci
            subst ht
            subst hci
            exact va_astq X.1 X.2.1 X.2.2.2.2.2.2.1 a1 (xWs_D X.2.2.2.2.2.2.2.2.1.2) a2 q 3 v 1 (r := (RX1, TX1, 10)) (xWs_get hq) rfl (xWs_get hv) rfl (xin_iff hb.1) hd (fun H1 locs1 b1 _ b2 => xstore k a3 a4 (by rw [← hset]; exact b1) b2)
          · have ht := Nat.eq_of_beq_eq_true ht
            have hci := Nat.eq_of_beq_eq_true hci
            subst ht
            subst hci
            exact va_astq X.1 X.2.1 X.2.2.2.2.2.2.1 a1 (xWs_D X.2.2.2.2.2.2.2.2.1.2) a2 q 4 v 6 (r := (RX6, TX6, 3)) (xWs_get hq) rfl (xWs_get hv) rfl (xin_iff hb.1) hd (fun H1 locs1 b1 _ b2 => xstore k a3 a4 (by rw [← hset]; exact b1) b2)
        · cases hs
      · cases hs
    · cases hs
  case arraylength =>
    obtain rfl : len = 1 := by simpa [xlen] using hlen
    dsimp only [xstep, xdisp, xs_arraylength] at hs
    split at hs
    · rename_i r
      replace hs := xbifn hs
      obtain ⟨hb, hs⟩ := hs
      cases hs
      refine ⟨xMono.rf, fun p l e R s m args below meth c Q n0 X hd _ _ k H locs ls a1 a2 a3 a4 => ?_⟩
      have hbo := X.2.2.2.2.2.2.2.2.1
      have hsz := X.2.2.2.2.2.2.2.2.2.1
      have hL0 : L ≠ 0 := fun q => by
        subst q
        cases hb
      exact va_slen X.1 X.2.1 (X.2.2.2.2.2.2.2.1 hL0) (xBelow X.2.2.2.2.2.2.2.2.1.2 X.2.2.2.2.2.2.2.2.2.1 X.2.2.2.2.2.2.2.2.1.1).1 (xBelow X.2.2.2.2.2.2.2.2.1.2 X.2.2.2.2.2.2.2.2.2.1 X.2.2.2.2.2.2.2.2.1.1).2 a2 hd (k H locs ls a1 a2 a3 a4)
    · rename_i q r
      split at hs
      · rename_i t n f hq
        rw [xnth_eq] at hq
        replace hs := xbif hs
        obtain ⟨hb, hs⟩ := hs
        cases hs
        refine ⟨xMono.rf, fun p l e R s m args below meth c Q n0 X hd _ _ k H locs ls a1 a2 a3 a4 => ?_⟩
        exact va_alen X.1 X.2.1 X.2.2.2.2.2.2.1 a1 q t (cA := ca t) (x := xVA b o ρ t (n, f)) (xWs_get hq) (xTys_at ca (Nat.le_of_ble_eq_true hb)) (by rcases f with f | f | f | f | f <;> first | rfl | (show Int32.ofNat (xVA b o ρ t (n, .inr (.inr (.inl f)))).1 = Int32.ofNat n; unfold xVA; dsimp only; cases Nat.beq t 0 <;> rfl)) hd (k H locs ls a1 a2 a3 a4)
      · cases hs
    · cases hs
  case newarray ty =>
    obtain rfl : len = 2 := by simpa [xlen] using hlen
    replace hs := xi1_some hs
    obtain ⟨x, r, rfl, hs⟩ := hs
    replace hs := xbifn hs
    obtain ⟨hb, hs⟩ := hs
    simp only [Bool.or_eq_false_iff, decide_eq_false_iff_not, Bool.not_eq_false'] at hb
    obtain ⟨⟨hb1, hb2⟩, hb3⟩ := hb
    have hb2 := Nat.le_of_ble_eq_true hb2
    cases ty <;> try (exact absurd (show false = true from ha) (by decide))
    case int =>
      have ha : a = 0 := Nat.eq_of_beq_eq_true ha
      subst ha
      change xapp h (.inl (0, (x.toNatClampNeg, .inl (fun _ => 0)))) (fun h' => some ((pc + 2, lv, .ref (h.length + 1) :: r, h', sl + x.toNatClampNeg, fr), O)) = some (S', O') at hs
      rw [xapp_eq] at hs
      cases hs
      refine ⟨⟨by show _ ≤ (h ++ _).length; simp, by show sl ≤ sl + _; omega, Nat.le_refl _, fun _ h => h⟩, fun p l e R s m args below meth c Q n0 X hd _ hF k H locs ls a1 a2 a3 a4 => ?_⟩
      have a3 : n0 ≤ h.length := a3
      obtain ⟨f1, f2, -, -⟩ := hF
      have f1 : (h ++ [_]).length - n0 ≤ R.cells := f1
      have f2 : sl + x.toNatClampNeg ≤ R.slots := f2
      rw [List.length_append, List.length_singleton] at f1
      have hK := X.2.2.2.2.2.2.1
      have hsz := X.2.2.2.2.2.2.2.2.2.1
      refine va_newa (atype := .int) X.1 X.2.1 (ty := .int) (a0 := (x.toNatClampNeg, .inl (fun _ => 0))) (X.2.2.2.2.1 _ xAA_in.1) rfl hK a1 (xWs_D X.2.2.2.2.2.2.2.2.1.2) a2 (fun q hq => xA.of X.2.2.2.2.2.2.2.2.2.1 (by omega)) (fun _ => rfl) hb1 rfl (by simp only [componentBytes]; omega) (show h.length - n0 + 1 ≤ R.cells by omega) f2 hd (fun q cA H1 b1 b2 b3 b4 => ?_)
      have e1 : cA = ca 0 := by
        have h1 : s.vm.findClass _ = some cA := (b1.2 5 (cA, .int) rfl).2
        have h2 : s.vm.findClass _ = some (ca 0) := (hK.2 0 _ rfl).2
        exact Option.some.inj (h1.symm.trans h2)
      subst e1
      exact xmade k hsz a3 a4 b2 b3 b4
    case long =>
      have ha : a = 1 := Nat.eq_of_beq_eq_true ha
      subst ha
      change xapp h (.inl (1, (x.toNatClampNeg, .inr (.inl (fun _ => 0))))) (fun h' => some ((pc + 2, lv, .ref (h.length + 1) :: r, h', sl + x.toNatClampNeg, fr), O)) = some (S', O') at hs
      rw [xapp_eq] at hs
      cases hs
      refine ⟨⟨by show _ ≤ (h ++ _).length; simp, by show sl ≤ sl + _; omega, Nat.le_refl _, fun _ h => h⟩, fun p l e R s m args below meth c Q n0 X hd _ hF k H locs ls a1 a2 a3 a4 => ?_⟩
      have a3 : n0 ≤ h.length := a3
      obtain ⟨f1, f2, -, -⟩ := hF
      have f1 : (h ++ [_]).length - n0 ≤ R.cells := f1
      have f2 : sl + x.toNatClampNeg ≤ R.slots := f2
      rw [List.length_append, List.length_singleton] at f1
      have hK := X.2.2.2.2.2.2.1
      have hsz := X.2.2.2.2.2.2.2.2.2.1
      refine va_newa (atype := .long) X.1 X.2.1 (ty := .long) (a0 := (x.toNatClampNeg, .inr (.inl (fun _ => 0)))) (X.2.2.2.2.1 _ xAA_in.2.1) rfl hK a1 (xWs_D X.2.2.2.2.2.2.2.2.1.2) a2 (fun q hq => xA.of X.2.2.2.2.2.2.2.2.2.1 (by omega)) (fun _ => rfl) hb1 rfl (by simp only [componentBytes]; omega) (show h.length - n0 + 1 ≤ R.cells by omega) f2 hd (fun q cA H1 b1 b2 b3 b4 => ?_)
      have e1 : cA = ca 1 := by
        have h1 : s.vm.findClass _ = some cA := (b1.2 5 (cA, .long) rfl).2
        have h2 : s.vm.findClass _ = some (ca 1) := (hK.2 1 _ rfl).2
        exact Option.some.inj (h1.symm.trans h2)
      subst e1
      exact xmade k hsz a3 a4 b2 b3 b4
    case byte =>
      have ha : a = 2 := Nat.eq_of_beq_eq_true ha
      subst ha
      change xapp h (.inl (2, (x.toNatClampNeg, .inl (fun _ => 0)))) (fun h' => some ((pc + 2, lv, .ref (h.length + 1) :: r, h', sl + x.toNatClampNeg, fr), O)) = some (S', O') at hs
      rw [xapp_eq] at hs
      cases hs
      refine ⟨⟨by show _ ≤ (h ++ _).length; simp, by show sl ≤ sl + _; omega, Nat.le_refl _, fun _ h => h⟩, fun p l e R s m args below meth c Q n0 X hd _ hF k H locs ls a1 a2 a3 a4 => ?_⟩
      have a3 : n0 ≤ h.length := a3
      obtain ⟨f1, f2, -, -⟩ := hF
      have f1 : (h ++ [_]).length - n0 ≤ R.cells := f1
      have f2 : sl + x.toNatClampNeg ≤ R.slots := f2
      rw [List.length_append, List.length_singleton] at f1
      have hK := X.2.2.2.2.2.2.1
      have hsz := X.2.2.2.2.2.2.2.2.2.1
      refine va_newa (atype := .byte) X.1 X.2.1 (ty := .byte) (a0 := (x.toNatClampNeg, .inl (fun _ => 0))) (X.2.2.2.2.1 _ xAA_in.2.2.1) rfl hK a1 (xWs_D X.2.2.2.2.2.2.2.2.1.2) a2 (fun q hq => xA.of X.2.2.2.2.2.2.2.2.2.1 (by omega)) (fun _ => rfl) hb1 rfl (by simp only [componentBytes]; omega) (show h.length - n0 + 1 ≤ R.cells by omega) f2 hd (fun q cA H1 b1 b2 b3 b4 => ?_)
      have e1 : cA = ca 2 := by
        have h1 : s.vm.findClass _ = some cA := (b1.2 5 (cA, .byte) rfl).2
        have h2 : s.vm.findClass _ = some (ca 2) := (hK.2 2 _ rfl).2
        exact Option.some.inj (h1.symm.trans h2)
      subst e1
      exact xmade k hsz a3 a4 b2 b3 b4
  case anewarray i =>
    obtain rfl : len = 3 := by simpa [xlen] using hlen
    replace hs := xi1_some hs
    obtain ⟨x, r, rfl, hs⟩ := hs
    replace hs := xbifn hs
    obtain ⟨hb, hs⟩ := hs
    simp only [Bool.or_eq_false_iff, decide_eq_false_iff_not, Bool.not_eq_false'] at hb
    obtain ⟨⟨hb1, hb2⟩, hb3⟩ := hb
    have hb2 := Nat.le_of_ble_eq_true hb2
    obtain ⟨w, hw, hz⟩ := List.any_eq_true.mp ha
    simp only [Bool.and_eq_true, Bool.or_eq_true] at hz
    obtain ⟨z1, z2, z3⟩ := hz
    have z1 := Nat.eq_of_beq_eq_true z1
    have z2 := Nat.eq_of_beq_eq_true z2
    have hok := List.all_eq_true.mp xNs_ok w hw
    unfold xNok at hok
    rcases z3 with ⟨z3, z4⟩ | ⟨z3, z4⟩
    · have z3 := Nat.eq_of_beq_eq_true z3
      have z4 := Nat.eq_of_beq_eq_true z4
      subst z4
      rw [z1, z2, z3] at hok
      have hok : xWd w.2.2.2 (.classLink (xRC (xMo M)) i "PulledSignals$Cell") = true := hok
      change xapp h (.inl (3, (x.toNatClampNeg, .inr (.inr (.inr (.inr (fun _ => none))))))) (fun h' => some ((pc + 3, lv, .ref (h.length + 1) :: r, h', sl + x.toNatClampNeg, fr), O)) = some (S', O') at hs
      rw [xapp_eq] at hs
      cases hs
      refine ⟨⟨by show _ ≤ (h ++ _).length; simp, by show sl ≤ sl + _; omega, Nat.le_refl _, fun _ h => h⟩, fun p l e R s m args below meth c Q n0 X hd _ hF k H locs ls a1 a2 a3 a4 => ?_⟩
      have a3 : n0 ≤ h.length := a3
      obtain ⟨f1, f2, -, -⟩ := hF
      have f1 : (h ++ [_]).length - n0 ≤ R.cells := f1
      have f2 : sl + x.toNatClampNeg ≤ R.slots := f2
      rw [List.length_append, List.length_singleton] at f1
      have hK := X.2.2.2.2.2.2.1
      have hsz := X.2.2.2.2.2.2.2.2.2.1
      refine va_newq X.1 X.2.1 (C := "PulledSignals$Cell") X.2.2.2.1 (X.2.2.2.2.1 _ (xBig_of hok)) (X.2.2.2.2.2.1.1 _ xAA_in.2.2.2.1 rfl) hK a1 (xWs_D X.2.2.2.2.2.2.2.2.1.2) a2 (fun q hq => xA.of X.2.2.2.2.2.2.2.2.2.1 (by omega)) hb1 rfl (by omega) (show h.length - n0 + 1 ≤ R.cells by omega) f2 hd (fun q cA H1 b1 b2 b3 b4 => ?_)
      have e1 : cA = ca 3 := by
        obtain ⟨_, _, _, _, _, h1⟩ := (b1.2 5 (cA, .object "PulledSignals$Cell") rfl).2
        obtain ⟨_, _, _, _, _, h2⟩ := (hK.2 3 _ rfl).2
        exact Option.some.inj (h1.symm.trans h2)
      subst e1
      exact xmade k hsz a3 a4 b2 b3 b4
    · have z3 := Nat.eq_of_beq_eq_true z3
      have z4 := Nat.eq_of_beq_eq_true z4
      subst z4
      rw [z1, z2, z3] at hok
      have hok : xWd w.2.2.2 (.classLink (xRC (xMo M)) i "PulledSignals$Shelf") = true := hok
      change xapp h (.inl (4, (x.toNatClampNeg, .inr (.inr (.inr (.inr (fun _ => none))))))) (fun h' => some ((pc + 3, lv, .ref (h.length + 1) :: r, h', sl + x.toNatClampNeg, fr), O)) = some (S', O') at hs
      rw [xapp_eq] at hs
      cases hs
      refine ⟨⟨by show _ ≤ (h ++ _).length; simp, by show sl ≤ sl + _; omega, Nat.le_refl _, fun _ h => h⟩, fun p l e R s m args below meth c Q n0 X hd _ hF k H locs ls a1 a2 a3 a4 => ?_⟩
      have a3 : n0 ≤ h.length := a3
      obtain ⟨f1, f2, -, -⟩ := hF
      have f1 : (h ++ [_]).length - n0 ≤ R.cells := f1
      have f2 : sl + x.toNatClampNeg ≤ R.slots := f2
      rw [List.length_append, List.length_singleton] at f1
      have hK := X.2.2.2.2.2.2.1
      have hsz := X.2.2.2.2.2.2.2.2.2.1
      refine va_newq X.1 X.2.1 (C := "PulledSignals$Shelf") X.2.2.2.1 (X.2.2.2.2.1 _ (xBig_of hok)) (X.2.2.2.2.2.1.1 _ xAA_in.2.2.2.2 rfl) hK a1 (xWs_D X.2.2.2.2.2.2.2.2.1.2) a2 (fun q hq => xA.of X.2.2.2.2.2.2.2.2.2.1 (by omega)) hb1 rfl (by omega) (show h.length - n0 + 1 ≤ R.cells by omega) f2 hd (fun q cA H1 b1 b2 b3 b4 => ?_)
      have e1 : cA = ca 4 := by
        obtain ⟨_, _, _, _, _, h1⟩ := (b1.2 5 (cA, .object "PulledSignals$Shelf") rfl).2
        obtain ⟨_, _, _, _, _, h2⟩ := (hK.2 4 _ rfl).2
        exact Option.some.inj (h1.symm.trans h2)
      subst e1
      exact xmade k hsz a3 a4 b2 b3 b4
  case new i =>
    obtain rfl : len = 3 := by simpa [xlen] using hlen
    change (match xnth vwCl a with
      | some q => xapp h (.inr (a, xDf a q.2.2)) (fun h' => some ((pc + 3, lv, .ref (h.length + 1) :: st, h', sl + q.2.2, fr), O))
      | none => none) = some (S', O') at hs
    rw [xnth_eq] at hs
    split at hs
    · rename_i u hu
      rw [xapp_eq] at hs
      cases hs
      refine ⟨⟨by show _ ≤ (h ++ _).length; simp, by show sl ≤ sl + _; omega, Nat.le_refl _, fun _ h => h⟩, fun p l e R s m args below meth c Q n0 X hd _ hF k H locs ls a1 a2 a3 a4 => ?_⟩
      have a3 : n0 ≤ h.length := a3
      obtain ⟨f1, f2, -, -⟩ := hF
      have f1 : (h ++ [_]).length - n0 ≤ R.cells := f1
      have f2 : sl + u.2.2 ≤ R.slots := f2
      rw [List.length_append, List.length_singleton] at f1
      have hsz := X.2.2.2.2.2.2.2.2.2.1
      obtain ⟨w, hw, hz⟩ := List.any_eq_true.mp ha
      simp only [Bool.and_eq_true] at hz
      obtain ⟨z1, z2, z3⟩ := hz
      have z1 := Nat.eq_of_beq_eq_true z1
      have z2 := Nat.eq_of_beq_eq_true z2
      have z3 := Nat.eq_of_beq_eq_true z3
      have hok := List.all_eq_true.mp xNs_ok w hw
      unfold xNok at hok
      rw [z1, z2, z3, hu] at hok
      have hok : xWd w.2.2.2 (.classLink (xRC (xMo M)) i u.1) = true := hok
      refine va_new X.1 X.2.1 (own := xRC (xMo M)) (C := u.1) (T := u.2.1) (N := u.2.2) (fs := xDf a u.2.2) X.2.2.2.2.1 (xLy_at hu).1 (xTy a) (xTy_at hu).1 X.2.2.2.1 (X.2.2.2.2.1 _ (xBig_of hok)) (X.2.2.2.2.1 _ (xLy_at hu).2.1) (X.2.2.2.2.1 _ (xLy_at hu).2.2) X.2.2.2.2.2.2.1 a1 (xWs_D X.2.2.2.2.2.2.2.2.1.2) a2 (fun q hq => xA.of X.2.2.2.2.2.2.2.2.2.1 (by omega)) hu (fun j hj => by rw [xDv hu hj, xDf_ok 0 (fun _ => 0) (fun _ => (0, 0)) j hj, xDf_map]) (show h.length - n0 + 1 ≤ R.cells by omega) f2 hd (fun q H1 b2 b3 b4 => ?_)
      have e1 : (.inr (a, xDf a u.2.2) : va_E) = xCv b o ρ ca (.inr (a, xDf a u.2.2)) := by
        show _ = (.inr (a, (xDf a u.2.2).map (xSh b o ρ)) : va_E)
        rw [xDf_map]
      rw [e1] at b2 b3
      exact xmade k hsz a3 a4 b2 b3 b4
    · cases hs
  case invokevirtual i =>
    obtain rfl : len = 3 := by simpa [xlen] using hlen
    obtain ⟨hb, ha⟩ := Bool.and_eq_true_iff.mp ha
    obtain ⟨w, hw, hz⟩ := List.any_eq_true.mp ha
    simp only [Bool.and_eq_true] at hz
    obtain ⟨z1, z2, z3, z4⟩ := hz
    have z1 := Nat.eq_of_beq_eq_true z1
    have z2 := Nat.eq_of_beq_eq_true z2
    have z3 := Nat.eq_of_beq_eq_true z3
    have z4 := Nat.eq_of_beq_eq_true z4
    have hok := List.all_eq_true.mp hCs w hw
    unfold xCok at hok
    rw [z1, z2, z3, z4] at hok
    have hb := Nat.le_of_ble_eq_true hb
    rcases (show bb = 0 ∨ bb = 1 by omega) with hb | hb
    · subst hb
      obtain ⟨M', as, rest, r, hM, hk, hp, hc8, hr, hCr, rfl⟩ := xcall_some (by decide) (by decide) (by decide) (show xcall Ms C pc lv st h sl fr O a 0 = some (S', O') from hs)
      obtain ⟨m1, m2, hMok, m3⟩ := hC _ _ _ _ _ _ _ hM hCr
      refine ⟨⟨m2, Nat.le_add_right _ _, Nat.le_max_left _ _, m1⟩, fun p l e R s m args below meth c Q n0 X hd hO hF k => ?_⟩
      have hk : xMk M' = 0 := hk.symm
      rw [hM] at hok
      have hok2 : xWd w.2.2.2.2 (.methodLink (xRC (xMo M)) i (xMy M')) = true := hok
      rw [hk] at hp
      obtain ⟨vs, p1, p2, p3⟩ := xpop_some hp
      rw [List.append_nil] at p3
      rcases hr with hr | ⟨q, As0, fs, has, hq⟩
      · rw [hk] at hr
        cases hr
      · have hv : vs = As0.reverse ++ [.ref (q + 1)] := by rw [← List.reverse_reverse vs, ← p3, has, List.reverse_cons]
        have hlen2 : As0.length = xMp M' := by
          have h1 : as.length = vs.length := by rw [p3, List.length_reverse]
          have h2 : vs.length = xMp M' + 1 := p1
          rw [has, List.length_cons] at h1
          omega
        rw [has] at m3
        exact xcallV (d' := 0) (nest := false) X hMok hk (xBig_of hok2) (m3 hO) m2 hlen2 (by rw [p2, hv, List.append_assoc]; rfl) hc8 hq rfl hd hF k
    · subst hb
      obtain ⟨M', as, rest, r, hM, hk, hp, hc8, hr, hCr, rfl⟩ := xcall_some (by decide) (by decide) (by decide) (show xcall Ms C pc lv st h sl fr O a 1 = some (S', O') from hs)
      obtain ⟨m1, m2, hMok, m3⟩ := hC _ _ _ _ _ _ _ hM hCr
      refine ⟨⟨m2, Nat.le_add_right _ _, Nat.le_max_left _ _, m1⟩, fun p l e R s m args below meth c Q n0 X hd hO hF k => ?_⟩
      have hk : xMk M' = 0 := hk.symm
      rw [hM] at hok
      have hok2 : xWn w.2.2.2.2 (.methodLinkNest (xRC (xMo M)) i (xMy M') "PulledSignals") = true := hok
      rw [hk] at hp
      obtain ⟨vs, p1, p2, p3⟩ := xpop_some hp
      rw [List.append_nil] at p3
      rcases hr with hr | ⟨q, As0, fs, has, hq⟩
      · rw [hk] at hr
        cases hr
      · have hv : vs = As0.reverse ++ [.ref (q + 1)] := by rw [← List.reverse_reverse vs, ← p3, has, List.reverse_cons]
        have hlen2 : As0.length = xMp M' := by
          have h1 : as.length = vs.length := by rw [p3, List.length_reverse]
          have h2 : vs.length = xMp M' + 1 := p1
          rw [has, List.length_cons] at h1
          omega
        rw [has] at m3
        exact xcallV (d' := 0) (nest := true) X hMok hk (show va_Nw _ s from by simp only [xWn, decide_eq_true_eq] at hok2; exact X.2.2.2.2.2.1.1 _ (List.mem_of_getElem? hok2) rfl) (m3 hO) m2 hlen2 (by rw [p2, hv, List.append_assoc]; rfl) hc8 hq rfl hd hF k
  case invokestatic i =>
    obtain rfl : len = 3 := by simpa [xlen] using hlen
    obtain ⟨hb, ha⟩ := Bool.and_eq_true_iff.mp ha
    obtain ⟨w, hw, hz⟩ := List.any_eq_true.mp ha
    simp only [Bool.and_eq_true] at hz
    obtain ⟨z1, z2, z3, z4⟩ := hz
    have z1 := Nat.eq_of_beq_eq_true z1
    have z2 := Nat.eq_of_beq_eq_true z2
    have z3 := Nat.eq_of_beq_eq_true z3
    have z4 := Nat.eq_of_beq_eq_true z4
    have hok := List.all_eq_true.mp hCs w hw
    unfold xCok at hok
    rw [z1, z2, z3, z4] at hok
    simp only [Bool.or_eq_true] at hb
    rcases hb with hb | hb | hb | hb <;> have hb := Nat.eq_of_beq_eq_true hb
    · subst hb
      obtain ⟨M', as, rest, r, hM, hk, hp, hc8, hr, hCr, rfl⟩ := xcall_some (by decide) (by decide) (by decide) (show xcall Ms C pc lv st h sl fr O a 2 = some (S', O') from hs)
      obtain ⟨m1, m2, hMok, m3⟩ := hC _ _ _ _ _ _ _ hM hCr
      refine ⟨⟨m2, Nat.le_add_right _ _, Nat.le_max_left _ _, m1⟩, fun p l e R s m args below meth c Q n0 X hd hO hF k => ?_⟩
      have hk : xMk M' = 1 := hk.symm
      rw [hM] at hok
      have hok2 : xWd w.2.2.2.2 (.methodLink (xRC (xMo M)) i (xMy M')) = true := hok
      rw [hk] at hp
      obtain ⟨vs, p1, p2, p3⟩ := xpop_some hp
      rw [List.append_nil] at p3
      have hv : vs = as.reverse := by rw [p3, List.reverse_reverse]
      have hlen2 : as.length = xMp M' := by rw [p3, List.length_reverse]; exact p1
      exact xcallS (d' := 0) (nest := false) X hMok hk (xBig_of hok2) (m3 hO) m2 hlen2 (by rw [p2, hv]) hc8 hd hF k
    · subst hb
      obtain ⟨M', as, rest, r, hM, hk, hp, hc8, hr, hCr, rfl⟩ := xcall_some (by decide) (by decide) (by decide) (show xcall Ms C pc lv st h sl fr O a 3 = some (S', O') from hs)
      obtain ⟨m1, m2, hMok, m3⟩ := hC _ _ _ _ _ _ _ hM hCr
      refine ⟨⟨m2, Nat.le_add_right _ _, Nat.le_max_left _ _, m1⟩, fun p l e R s m args below meth c Q n0 X hd hO hF k => ?_⟩
      have hk : xMk M' = 1 := hk.symm
      rw [hM] at hok
      have hok2 : xWn w.2.2.2.2 (.methodLinkNest (xRC (xMo M)) i (xMy M') "PulledSignals") = true := hok
      rw [hk] at hp
      obtain ⟨vs, p1, p2, p3⟩ := xpop_some hp
      rw [List.append_nil] at p3
      have hv : vs = as.reverse := by rw [p3, List.reverse_reverse]
      have hlen2 : as.length = xMp M' := by rw [p3, List.length_reverse]; exact p1
      exact xcallS (d' := 0) (nest := true) X hMok hk (show va_Nw _ s from by simp only [xWn, decide_eq_true_eq] at hok2; exact X.2.2.2.2.2.1.1 _ (List.mem_of_getElem? hok2) rfl) (m3 hO) m2 hlen2 (by rw [p2, hv]) hc8 hd hF k
    · subst hb
      have hok2 : xWd w.2.2.2.2 (.methodLink (xRC (xMo M)) i Lib.Math.max.name) = true := hok
      replace hs := xmax_some (show xcall Ms C pc lv st h sl fr O a 7 = some (S', O') from hs)
      obtain ⟨y, x, r, rfl, hc, rfl, rfl⟩ := hs
      refine ⟨⟨Nat.le_refl _, Nat.le_refl _, Nat.le_max_left _ _, fun _ h => h⟩, fun p l e R s m args below meth c Q n0 X hd hO hF k H locs ls a1 a2 a3 a4 => ?_⟩
      obtain ⟨f1, f2, f3, f4⟩ := hF
      have f1 : h.length - n0 ≤ R.cells := f1
      have f2 : sl ≤ R.slots := f2
      have f3 : Nat.max fr 1 ≤ R.frames := f3
      have f4 : 41 * Nat.max fr 1 ≤ R.locals := f4
      have f5 : 1 ≤ Nat.max fr 1 := Nat.le_max_right _ _
      generalize Nat.max fr 1 = z at f3 f4 f5
      have hcat := xcat_map b o ρ r
      refine va_mmax X.1 X.2.1 (by rw [X.2.2.1]; first | exact a4.1.symm | exact a4.1) (own := xRC (xMo M)) X.2.2.2.1 (X.2.2.2.2.1 _ (xBig_of hok2)) (X.2.2.2.2.1 _ xMX_in.1) (X.2.2.2.2.1 _ xMX_in.2.1) (X.2.2.2.2.1 _ xMX_in.2.2) (by omega) (by omega) f1 f2 hd (k H locs ls a1 a2 a3 a4)
    · subst hb
      have hok2 : xWd w.2.2.2.2 (.methodLink (xRC (xMo M)) i Lib.Math.min.name) = true := hok
      replace hs := xmin_some (show xcall Ms C pc lv st h sl fr O a 8 = some (S', O') from hs)
      obtain ⟨y, x, r, rfl, hc, rfl, rfl⟩ := hs
      refine ⟨⟨Nat.le_refl _, Nat.le_refl _, Nat.le_max_left _ _, fun _ h => h⟩, fun p l e R s m args below meth c Q n0 X hd hO hF k H locs ls a1 a2 a3 a4 => ?_⟩
      obtain ⟨f1, f2, f3, f4⟩ := hF
      have f1 : h.length - n0 ≤ R.cells := f1
      have f2 : sl ≤ R.slots := f2
      have f3 : Nat.max fr 1 ≤ R.frames := f3
      have f4 : 41 * Nat.max fr 1 ≤ R.locals := f4
      have f5 : 1 ≤ Nat.max fr 1 := Nat.le_max_right _ _
      generalize Nat.max fr 1 = z at f3 f4 f5
      have hcat := xcat_map b o ρ r
      refine va_mmin X.1 X.2.1 (by rw [X.2.2.1]; first | exact a4.1.symm | exact a4.1) (own := xRC (xMo M)) X.2.2.2.1 (X.2.2.2.2.1 _ (xBig_of hok2)) (X.2.2.2.2.1 _ xMN_in.1) (X.2.2.2.2.1 _ xMN_in.2.1) (X.2.2.2.2.1 _ xMN_in.2.2) (by omega) (by omega) f1 f2 hd (k H locs ls a1 a2 a3 a4)
  case invokespecial i =>
    obtain rfl : len = 3 := by simpa [xlen] using hlen
    obtain ⟨hb, ha⟩ := Bool.and_eq_true_iff.mp ha
    obtain ⟨w, hw, hz⟩ := List.any_eq_true.mp ha
    simp only [Bool.and_eq_true] at hz
    obtain ⟨z1, z2, z3, z4⟩ := hz
    have z1 := Nat.eq_of_beq_eq_true z1
    have z2 := Nat.eq_of_beq_eq_true z2
    have z3 := Nat.eq_of_beq_eq_true z3
    have z4 := Nat.eq_of_beq_eq_true z4
    have hok := List.all_eq_true.mp hCs w hw
    unfold xCok at hok
    rw [z1, z2, z3, z4] at hok
    simp only [Bool.or_eq_true] at hb
    rcases hb with hb | hb | hb <;> have hb := Nat.eq_of_beq_eq_true hb
    · subst hb
      obtain ⟨M', as, rest, r, hM, hk, hp, hc8, hr, hCr, rfl⟩ := xcall_some (by decide) (by decide) (by decide) (show xcall Ms C pc lv st h sl fr O a 4 = some (S', O') from hs)
      obtain ⟨m1, m2, hMok, m3⟩ := hC _ _ _ _ _ _ _ hM hCr
      refine ⟨⟨m2, Nat.le_add_right _ _, Nat.le_max_left _ _, m1⟩, fun p l e R s m args below meth c Q n0 X hd hO hF k => ?_⟩
      have hk : xMk M' = 2 := hk.symm
      rw [hM] at hok
      have hok2 : xWd w.2.2.2.2 (.methodLink (xRC (xMo M)) i (xMy M')) = true := hok
      rw [hk] at hp
      obtain ⟨vs, p1, p2, p3⟩ := xpop_some hp
      rw [List.append_nil] at p3
      rcases hr with hr | ⟨q, As0, fs, has, hq⟩
      · rw [hk] at hr
        cases hr
      · have hv : vs = As0.reverse ++ [.ref (q + 1)] := by rw [← List.reverse_reverse vs, ← p3, has, List.reverse_cons]
        have hlen2 : As0.length = xMp M' := by
          have h1 : as.length = vs.length := by rw [p3, List.length_reverse]
          have h2 : vs.length = xMp M' + 1 := p1
          rw [has, List.length_cons] at h1
          omega
        rw [has] at m3
        exact xcallI (d' := 0) (nest := false) X hMok hk (xBig_of hok2) (m3 hO) m2 hlen2 (by rw [p2, hv, List.append_assoc]; rfl) hc8 hd hF k
    · subst hb
      obtain ⟨M', as, rest, r, hM, hk, hp, hc8, hr, hCr, rfl⟩ := xcall_some (by decide) (by decide) (by decide) (show xcall Ms C pc lv st h sl fr O a 5 = some (S', O') from hs)
      obtain ⟨m1, m2, hMok, m3⟩ := hC _ _ _ _ _ _ _ hM hCr
      refine ⟨⟨m2, Nat.le_add_right _ _, Nat.le_max_left _ _, m1⟩, fun p l e R s m args below meth c Q n0 X hd hO hF k => ?_⟩
      have hk : xMk M' = 2 := hk.symm
      rw [hM] at hok
      have hok2 : xWn w.2.2.2.2 (.methodLinkNest (xRC (xMo M)) i (xMy M') "PulledSignals") = true := hok
      rw [hk] at hp
      obtain ⟨vs, p1, p2, p3⟩ := xpop_some hp
      rw [List.append_nil] at p3
      rcases hr with hr | ⟨q, As0, fs, has, hq⟩
      · rw [hk] at hr
        cases hr
      · have hv : vs = As0.reverse ++ [.ref (q + 1)] := by rw [← List.reverse_reverse vs, ← p3, has, List.reverse_cons]
        have hlen2 : As0.length = xMp M' := by
          have h1 : as.length = vs.length := by rw [p3, List.length_reverse]
          have h2 : vs.length = xMp M' + 1 := p1
          rw [has, List.length_cons] at h1
          omega
        rw [has] at m3
        exact xcallI (d' := 0) (nest := true) X hMok hk (show va_Nw _ s from by simp only [xWn, decide_eq_true_eq] at hok2; exact X.2.2.2.2.2.1.1 _ (List.mem_of_getElem? hok2) rfl) (m3 hO) m2 hlen2 (by rw [p2, hv, List.append_assoc]; rfl) hc8 hd hF k
    · subst hb
      have hok2 : xWd w.2.2.2.2 (.methodLink (xRC (xMo M)) i Lib.objectInit) = true := hok
      replace hs := xobj_some (show xcall Ms C pc lv st h sl fr O a 9 = some (S', O') from hs)
      obtain ⟨q, r, rfl, hc, rfl, rfl⟩ := hs
      refine ⟨⟨Nat.le_refl _, Nat.le_refl _, Nat.le_max_left _ _, fun _ h => h⟩, fun p l e R s m args below meth c Q n0 X hd hO hF k H locs ls a1 a2 a3 a4 => ?_⟩
      obtain ⟨-, -, f3, f4⟩ := hF
      have f3 : Nat.max fr 1 ≤ R.frames := f3
      have f4 : 41 * Nat.max fr 1 ≤ R.locals := f4
      have f5 : 1 ≤ Nat.max fr 1 := Nat.le_max_right _ _
      generalize Nat.max fr 1 = z at f3 f4 f5
      have hcat := xcat_map b o ρ r
      refine W.objInit X.1 X.2.1 (own := xRC (xMo M)) X.2.2.2.1 (X.2.2.2.2.1 _ (xBig_of hok2)) (X.2.2.2.2.1 _ xOI_in.1) (X.2.2.2.2.1 _ xOI_in.2) rfl (by rw [X.2.2.1]; exact a4.1) rfl hd (by omega) (by show 2 * 0 + _ + 12 ≤ _; omega) (k H locs ls a1 a2 a3 a4)
  all_goals exact absurd (show (none : Option (xS × xO)) = some (S', O') from hs) (by simp)
end XT
