theorem xfind_some : ∀ {l : List xEnt} {pc : Nat} {z : Instr × Nat × Nat × Nat}, xfind l pc = some z → (pc, z) ∈ l
  | [], _, _, h => by cases h
  | q :: l, pc, z, h => by
    unfold xfind at h
    cases hq : Nat.beq q.1 pc with
    | true =>
      rw [hq] at h
      have e1 : q.1 = pc := Nat.eq_of_beq_eq_true hq
      have e2 : q.2 = z := Option.some.inj h
      rw [← e1, ← e2]
      exact List.mem_cons_self
    | false =>
      rw [hq] at h
      exact List.mem_cons_of_mem _ (xfind_some h)
theorem xfet_ok {cc : ByteArray} {own kind : Nat} {t : List (List xEnt)} {pc : Nat} {ins : Instr} {len a b : Nat} (hT : xTok cc own kind t = true) (h : xfet t pc = some (ins, len, a, b)) :
    decode cc pc = .ok (ins, len) ∧ (xlen ins = 0 ∨ len = xlen ins) ∧ xAux own kind ins a b = true := by
  unfold xfet at h
  split at h
  · rename_i bk hb
    rw [xnth_eq] at hb
    have h1 := List.all_eq_true.mp (List.all_eq_true.mp hT bk (List.mem_of_getElem? hb)) _ (xfind_some h)
    simp only [Bool.and_eq_true, Bool.or_eq_true, decide_eq_true_eq] at h1
    obtain ⟨⟨h2, h3⟩, h4⟩ := h1
    refine ⟨h2, ?_, h4⟩
    rcases h3 with h3 | h3
    · exact Or.inl (Nat.eq_of_beq_eq_true h3)
    · exact Or.inr (Nat.eq_of_beq_eq_true h3)
  · cases h
section XU
variable {p : Program} {l : Launch} {e : Env} {R : Room} {s : State} {m : MethodId} {args : Array Value} {below : List Frame} {meth : Method} {c : Code} {Q : State → Prop} {D : va_G} {ca : Nat → ClassId} {b L n0 : Nat} {o : Nat → Nat} {ρ : Nat → Int32 × Int64} {xs : Nat → Int32} {M : xM}
theorem xFits.of {h : List xE} {sl fr : Nat} {O O' : xO} {S S' : xS} (hm : xMono S.2.2.2.1 S.2.2.2.2.1 S.2.2.2.2.2 O S' O') (hF : xFits R n0 S') : xFits R n0 S := by
  obtain ⟨m1, m2, m3, -⟩ := hm
  obtain ⟨f1, f2, f3, f4⟩ := hF
  exact ⟨by omega, by omega, by omega, by omega⟩
theorem xrun_ok {iv : List (Int × Int)} {Ms : List xM} {C : xCT} (hρ : xIv ρ iv) (hxs : ∀ i, i < L - 1 → xs i = (ρ (i + 2000)).1) (hCs : xCs.all (xCok Ms) = true) (hC : xCsnd D ca b o ρ Ms C) (hT : xTok (xMc M) (xMo M) (xMk M) (xMt M) = true) : ∀ (n : Nat) (S : xS) (O : xO) (S' : xS) (O' : xO), xrun L iv Ms C M n S O = some (S', O') →
    xMono S.2.2.2.1 S.2.2.2.2.1 S.2.2.2.2.2 O S' O' ∧ ∀ (p : Program) (l : Launch) (e : Env) (R : Room) (s : State) (m : MethodId) (args : Array Value) (below : List Frame) (meth : Method) (c : Code) (Q : State → Prop) (n0 : Nat) (X : xCtx p s m args meth c D ca b o ρ L xs M n0) (hO : ∀ P ∈ O'.2, P) (hF : xFits R n0 S') (k : xAt p l e R s m args below meth c Q D ca b o ρ M n0 S'), xAt p l e R s m args below meth c Q D ca b o ρ M n0 S
  | 0, S, O, S', O', h => by
    cases h
    exact ⟨⟨Nat.le_refl _, Nat.le_refl _, Nat.le_refl _, fun _ h => h⟩, fun _ _ _ _ _ _ _ _ _ _ _ _ _ _ _ k => k⟩
  | n + 1, (pc, lv, st, h, sl, fr), O, S', O', hs => by
    unfold xrun at hs
    split at hs
    · cases hs
    · rename_i ins len a bb hf
      obtain ⟨hd, hl, ha⟩ := xfet_ok hT hf
      cases hr : xisr ins with
      | true =>
        rw [hr] at hs
        cases hs
        exact ⟨⟨Nat.le_refl _, Nat.le_refl _, Nat.le_refl _, fun _ h => h⟩, fun _ _ _ _ _ _ _ _ _ _ _ _ _ _ _ k => k⟩
      | false =>
        rw [hr] at hs
        replace hs : (match xstep L iv Ms C M ins len a bb pc lv st h sl fr O with
          | none => none
          | some (S', O') => xrun L iv Ms C M n S' O') = some (S', O') := hs
        split at hs
        · cases hs
        · rename_i S1 O1 h1
          obtain ⟨m1, k1⟩ := xstep_ok (xs := xs) hρ hxs hCs hC hl ha h1
          obtain ⟨m2, k2⟩ := xrun_ok hρ hxs hCs hC hT n S1 O1 S' O' hs
          refine ⟨⟨Nat.le_trans m1.1 m2.1, Nat.le_trans m1.2.1 m2.2.1, Nat.le_trans m1.2.2.1 m2.2.2.1, fun Y hY => m2.2.2.2 Y (m1.2.2.2 Y hY)⟩, fun p l e R s m args below meth c Q n0 X hO hF k => ?_⟩
          exact k1 p l e R s m args below meth c Q n0 X hd (fun P hP => hO P (m2.2.2.2 P hP)) (xFits.of (h := h) (sl := sl) (fr := fr) m2 hF) (k2 p l e R s m args below meth c Q n0 X hO hF k)
/-- at a return -/
theorem xend_ok {S : xS} {O O' : xO} {r : xR} (hT : xTok (xMc M) (xMo M) (xMk M) (xMt M) = true) (hs : xend M S O = some (r, O')) : O' = O ∧ r.1 = S.2.2.2.1 ∧ r.2.2.1 = S.2.2.2.2.1 ∧ r.2.2.2 = S.2.2.2.2.2 ∧
    ∀ (p : Program) (l : Launch) (e : Env) (R : Room) (s : State) (m : MethodId) (args : Array Value) (below : List Frame) (meth : Method) (c : Code) (n0 : Nat) (X : xCtx p s m args meth c D ca b o ρ L xs M n0) (hret : meth.sig.returnType = xMr M) (hlk : meth.locks = false), xAt p l e R s m args below meth c (MQ below (xQc D ca b o ρ r.1 r.2.1) args s (r.1.length - n0) r.2.2.1 (xA o)) D ca b o ρ M n0 S := by
  obtain ⟨pc, lv, st, h, sl, fr⟩ := S
  unfold xend at hs
  dsimp only at hs
  split at hs
  · rename_i z hf
    obtain ⟨len, a, bb⟩ := z
    obtain ⟨hd, hl, ha⟩ := xfet_ok hT hf
    obtain rfl : len = 1 := by simpa [xlen] using hl
    split at hs
    · rename_i v hr
      cases hs
      refine ⟨rfl, rfl, rfl, rfl, fun p l e R s m args below meth c n0 X hret hlk H locs ls a1 a2 a3 a4 => ?_⟩
      exact W.iret X.1 X.2.1 (hret.trans hr) (fun t ht _ => ⟨rfl, by rw [ht]; exact a1, va_S.F a2 ht⟩) a2.2.2 hd hlk
    · rename_i v hr
      cases hs
      refine ⟨rfl, rfl, rfl, rfl, fun p l e R s m args below meth c n0 X hret hlk H locs ls a1 a2 a3 a4 => ?_⟩
      exact W.iret (v := (ρ v.toNat).1) X.1 X.2.1 (hret.trans hr) (fun t ht _ => ⟨rfl, by rw [ht]; exact a1, va_S.F a2 ht⟩) a2.2.2 hd hlk
    · rename_i v hr
      obtain ⟨hb, hs⟩ := xbif hs
      cases hs
      simp only [Bool.or_eq_true, decide_eq_true_eq] at hb
      refine ⟨rfl, rfl, rfl, rfl, fun p l e R s m args below meth c n0 X hret hlk H locs ls a1 a2 a3 a4 => ?_⟩
      exact W.zret (ty := .boolean) X.1 X.2.1 (hret.trans hr) (by rcases hb with rfl | rfl <;> decide) (fun t ht _ => ⟨rfl, by rw [ht]; exact a1, va_S.F a2 ht⟩) a2.2.2 hd hlk
    · cases hs
  · rename_i z hf
    obtain ⟨len, a, bb⟩ := z
    obtain ⟨hd, hl, ha⟩ := xfet_ok hT hf
    obtain rfl : len = 1 := by simpa [xlen] using hl
    split at hs
    · rename_i v hr
      cases hs
      refine ⟨rfl, rfl, rfl, rfl, fun p l e R s m args below meth c n0 X hret hlk H locs ls a1 a2 a3 a4 => ?_⟩
      exact W.lret X.1 X.2.1 (hret.trans hr) (fun t ht _ => ⟨rfl, by rw [ht]; exact a1, va_S.F a2 ht⟩) a2.2.2 hd hlk
    · rename_i v hr
      cases hs
      refine ⟨rfl, rfl, rfl, rfl, fun p l e R s m args below meth c n0 X hret hlk H locs ls a1 a2 a3 a4 => ?_⟩
      exact W.lret (v := (ρ v.toNat).2) X.1 X.2.1 (hret.trans hr) (fun t ht _ => ⟨rfl, by rw [ht]; exact a1, va_S.F a2 ht⟩) a2.2.2 hd hlk
    · cases hs
  · rename_i z hf
    obtain ⟨len, a, bb⟩ := z
    obtain ⟨hd, hl, ha⟩ := xfet_ok hT hf
    obtain rfl : len = 1 := by simpa [xlen] using hl
    split at hs
    · rename_i v C hr
      cases hs
      refine ⟨rfl, rfl, rfl, rfl, fun p l e R s m args below meth c n0 X hret hlk H locs ls a1 a2 a3 a4 => ?_⟩
      exact W.aret (rt := .object C) X.1 X.2.1 (hret.trans hr) (Or.inl ⟨_, rfl⟩) (Or.inr ⟨_, rfl⟩) (fun t ht _ => ⟨rfl, by rw [ht]; exact a1, va_S.F a2 ht⟩) a2.2.2 hd hlk
    · rename_i C hr
      cases hs
      refine ⟨rfl, rfl, rfl, rfl, fun p l e R s m args below meth c n0 X hret hlk H locs ls a1 a2 a3 a4 => ?_⟩
      exact W.aret (rt := .object C) X.1 X.2.1 (hret.trans hr) (Or.inl ⟨_, rfl⟩) (Or.inl rfl) (fun t ht _ => ⟨rfl, by rw [ht]; exact a1, va_S.F a2 ht⟩) a2.2.2 hd hlk
    · cases hs
  · rename_i z hf
    obtain ⟨len, a, bb⟩ := z
    obtain ⟨hd, hl, ha⟩ := xfet_ok hT hf
    obtain rfl : len = 1 := by simpa [xlen] using hl
    split at hs
    · rename_i hr
      cases hs
      refine ⟨rfl, rfl, rfl, rfl, fun p l e R s m args below meth c n0 X hret hlk H locs ls a1 a2 a3 a4 => ?_⟩
      exact W.vret X.1 X.2.1 (hret.trans hr) (fun t ht _ => ⟨rfl, by rw [ht]; exact a1, va_S.F a2 ht⟩) a2.2.2 hd hlk
    · cases hs
  · cases hs
end XU
section XV
variable {D : va_G} {ca : Nat → ClassId} {b : Nat} {o : Nat → Nat} {ρ : Nat → Int32 × Int64} {M : xM}
/-- a contract out of the walk of a body -/
theorem xMet_of {as : List Value} {h : List xE} {r : xR} (hok : xMok M = true) (hcat : xcat as ≤ xMn M) (hl : h.length ≤ r.1.length)
    (k : ∀ (p : Program) (l : Launch) (e : Env) (s : State) (m : MethodId) (args : Array Value) (below : List Frame) (meth : Method) (c : Code) (X : xCtx p s m args meth c D ca b o ρ 0 (fun _ => 0) M h.length) (hret : meth.sig.returnType = xMr M) (hlk : meth.locks = false),
      xAt p l e { frames := r.2.2.2, cells := r.1.length - h.length, slots := r.2.2.1, locals := 41 * r.2.2.2 } s m args below meth c (MQ below (xQc D ca b o ρ r.1 r.2.1) args s (r.1.length - h.length) r.2.2.1 (xA o)) D ca b o ρ M h.length (0, lv_args 0 as, [], h, 0, 0)) : xMet D ca b o ρ M as h r := by
  intro l
  obtain ⟨-, g2, g3, g4, g5, g6, g7⟩ := xMok_all hok
  refine Met.ofW (cc := xMc M) (maxL := xMn M) (ret := xMr M) g5 rfl ?_
  intro p e s m args below meth c s₁ B hml hv
  obtain ⟨q1, q2, q3, q4, q6, q7⟩ := hv
  have hts : ∀ w ∈ xws M, w.before args s = true := atoms_spec (ws := xws M) B.pre
  have X : xCtx p s m args meth c D ca b o ρ 0 (fun _ => 0) M h.length := by
    refine ⟨B.exec, B.bytes, hml, ?_, fun w hw => hts w (List.mem_cons_of_mem _ hw), q7, q4, fun q => absurd rfl q, q6, q3, fun hk => ?_⟩
    · rw [g7]
      exact findClass_of_methodNamed B.named
    · exact (name_of_methodNamed B.named B.method).1.trans (xMok_I hok hk).2.1
  have h1 := k p l e s m args below meth c X B.returns B.notSynchronized
  have h2 := h1 s.heap [] ((lg_sl (as.map (xSh b o ρ)) ++ List.replicate (xMn M - (lg_sl (as.map (xSh b o ρ))).length) Slot.unset).toArray) q2 va_S.rf (Nat.le_refl _) (by
    have := lv_entry (as.map (xSh b o ρ)) (n := xMn M) (by rw [xsl_len]; exact hcat)
    rw [← xargs_map] at this
    exact this)
  rw [q1, lg_entry_eq]
  rw [q1] at h2
  have h3 : (0, lv_args 0 as, ([] : List Value), h, 0, 0).2.2.2.1.length - h.length = 0 := Nat.sub_self _
  rw [h3] at h2
  exact h2
theorem xexe_ok {iv : List (Int × Int)} {Ms : List xM} {C : xCT} (hρ : xIv ρ iv) (hCs : xCs.all (xCok Ms) = true) (hC : xCsnd D ca b o ρ Ms C) {n : Nat} {as : List Value} {h : List xE} {O O' : xO} {r : xR} (hok : xMok M = true) (hs : xexe 0 iv Ms C n M as h O = some (r, O')) :
    (∀ X ∈ O.2, X ∈ O'.2) ∧ h.length ≤ r.1.length ∧ ((∀ X ∈ O'.2, X) → xMet D ca b o ρ M as h r) := by
  have hT := (xMok_all hok).1
  unfold xexe at hs
  obtain ⟨hc, hs⟩ := xbif hs
  have hc := Nat.le_of_ble_eq_true hc
  split at hs
  · rename_i S O1 h1
    have hm := (xrun_ok (L := 0) (xs := fun _ => 0) hρ (fun i hi => absurd hi (Nat.not_lt_zero i)) hCs hC hT n _ _ _ _ h1).1
    have he := xend_ok (D := D) (ca := ca) (b := b) (o := o) (ρ := ρ) (L := 0) (xs := fun _ => 0) hT hs
    obtain ⟨rfl, e1, e2, e3, -⟩ := he
    have hl : h.length ≤ r.1.length := by rw [e1]; exact hm.1
    refine ⟨hm.2.2.2, hl, fun hO => xMet_of hok hc hl ?_⟩
    intro p l e s m args below meth c X hret hlk
    refine (xrun_ok (L := 0) (xs := fun _ => 0) hρ (fun i hi => absurd hi (Nat.not_lt_zero i)) hCs hC hT n _ _ _ _ h1).2 p l e _ s m args below meth c _ h.length X hO ⟨by rw [e1]; exact Nat.le_refl _, by rw [e2]; exact Nat.le_refl _, by rw [e3]; exact Nat.le_refl _, by rw [e3]; exact Nat.le_refl _⟩ ?_
    exact (xend_ok hT hs).2.2.2.2 p l e _ s m args below meth c h.length X hret hlk
  · cases hs
theorem xC_ok {B : xCT} {iv : List (Int × Int)} {Ms : List xM} (hB : xCsnd D ca b o ρ Ms B) (hρ : xIv ρ iv) (hCs : xCs.all (xCok Ms) = true) (hMs : ∀ M ∈ Ms, xMok M = true ∨ xMt M = []) (n : Nat) : ∀ d : Nat, xCsnd D ca b o ρ Ms (xC B iv Ms n d)
  | 0 => fun a M as h O r O' hM h1 => by cases h1
  | d + 1 => fun a M as h O r O' hM h1 => by
    unfold xC at h1
    split at h1
    · rename_i z hz
      cases h1
      exact hB a M as h O r O' hM hz
    · rw [xnth_eq, hM] at h1
      replace h1 : xexe 0 iv Ms (xC B iv Ms n d) n M as h O = some (r, O') := h1
      rcases hMs M (List.mem_of_getElem? hM) with hok | hno
      · obtain ⟨k1, k2, k3⟩ := xexe_ok hρ hCs (xC_ok hB hρ hCs hMs n d) hok h1
        exact ⟨k1, k2, hok, k3⟩
      · exfalso
        have hf : ∀ pc, xfet (xMt M) pc = none := fun pc => by rw [hno]; rfl
        unfold xexe at h1
        obtain ⟨-, h1⟩ := xbif h1
        split at h1
        · rename_i S O1 hr
          unfold xend at h1
          dsimp only at h1
          rw [hf] at h1
          cases h1
        · cases h1
end XV
