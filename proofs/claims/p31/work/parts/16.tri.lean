/-! walks without fuel: what a method does from a state on, with bounds for frames and slots -/
def xCd (n d : Nat) : xCT := xC xBt [] xMs n d
abbrev yQ : Type := List xE → Option Value → Prop
/-- within M, from S to S' -/
def yTo (L : Nat) (iv : List (Int × Int)) (M : xM) (S S' : xS) : Prop := ∃ j n0 d0 : Nat, ∀ (n d m : Nat) (cs : List Prop), n0 ≤ n → d0 ≤ d → xrun L iv xMs (xCd n d) M (m + j) S ([], cs) = xrun L iv xMs (xCd n d) M m S' ([], cs)
/-- M comes from here to its end, F frames deep at most, with G slots at most, and Q holds there -/
def yT (L : Nat) (iv : List (Int × Int)) (M : xM) (F G pc : Nat) (lv : xLv) (st : List Value) (h : List xE) (Q : yQ) : Prop := ∀ sl fr : Nat, ∃ (S : xS) (r : xR) (z : Instr × Nat × Nat × Nat), yTo L iv M (pc, lv, st, h, sl, fr) S ∧ xfet (xMt M) S.1 = some z ∧ xisr z.1 = true ∧ (∀ cs, xend M S ([], cs) = some (r, ([], cs))) ∧ r.2.2.1 ≤ sl + G ∧ r.2.2.2 ≤ Nat.max fr F ∧ Q r.1 r.2.1
/-- the method of number a, called with as -/
def yM (a F G : Nat) (as : List Value) (h : List xE) (Q : yQ) : Prop := ∃ (r : xR) (n0 d0 : Nat), (∀ (n d : Nat) (cs : List Prop), n0 ≤ n → d0 ≤ d → xCd n d a as h ([], cs) = some (r, ([], cs))) ∧ r.2.2.1 ≤ G ∧ r.2.2.2 ≤ F ∧ Q r.1 r.2.1
theorem yM.w {a F G F' G' : Nat} {as : List Value} {h : List xE} {Q Q' : yQ} (k : yM a F G as h Q) (hF : F ≤ F') (hG : G ≤ G') (hQ : ∀ h' r, Q h' r → Q' h' r) : yM a F' G' as h Q' := by
  obtain ⟨r, n0, d0, k1, k2, k3, k4⟩ := k
  exact ⟨r, n0, d0, k1, Nat.le_trans k2 hG, Nat.le_trans k3 hF, hQ _ _ k4⟩
theorem yTo.rf {L : Nat} {iv : List (Int × Int)} {M : xM} (S : xS) : yTo L iv M S S := ⟨0, 0, 0, fun n d m cs _ _ => rfl⟩
theorem yTo.cons {L : Nat} {iv : List (Int × Int)} {M : xM} {A B C : xS} {d1 : Nat} (h1 : ∀ (n d m : Nat) (cs : List Prop), d1 ≤ n → d1 ≤ d → xrun L iv xMs (xCd n d) M (m + 1) A ([], cs) = xrun L iv xMs (xCd n d) M m B ([], cs)) (h2 : yTo L iv M B C) : yTo L iv M A C := by
  obtain ⟨j2, n2, d2, h2⟩ := h2
  refine ⟨j2 + 1, Nat.max d1 n2, Nat.max d1 d2, fun n d m cs hn hd => ?_⟩
  have a1 : d1 ≤ n := Nat.le_trans (Nat.le_max_left _ _) hn
  have a2 : n2 ≤ n := Nat.le_trans (Nat.le_max_right _ _) hn
  have b1 : d1 ≤ d := Nat.le_trans (Nat.le_max_left _ _) hd
  have b2 : d2 ≤ d := Nat.le_trans (Nat.le_max_right _ _) hd
  rw [← Nat.add_assoc, h1 n d (m + j2) cs a1 b1, h2 n d m cs a2 b2]
/-- the body gives the call -/
theorem yM.of {a F G : Nat} {M : xM} {as : List Value} {h : List xE} {Q : yQ} {lv : xLv} (hM : xnth xMs a = some M) (hB : (Nat.beq a 254 || Nat.beq a 264) = false) (hc : Nat.ble (xcat as) (xMn M) = true) (hl : lv_args 0 as = lv) (k : yT 0 [] M F G 0 lv [] h Q) : yM a F G as h Q := by
  obtain ⟨S, r, z, ⟨j, n0, d0, k1⟩, hf, hr, he, k2, k3, k4⟩ := k 0 0
  refine ⟨r, Nat.max j n0, d0 + 1, fun n d cs hn hd => ?_, by rw [Nat.zero_add] at k2; exact k2, Nat.le_trans k3 (Nat.max_le.mpr ⟨Nat.zero_le _, Nat.le_refl _⟩), k4⟩
  have a1 : j ≤ n := Nat.le_trans (Nat.le_max_left _ _) hn
  have a2 : n0 ≤ n := Nat.le_trans (Nat.le_max_right _ _) hn
  obtain ⟨m, rfl⟩ : ∃ m, n = m + j := ⟨n - j, by omega⟩
  obtain ⟨d, rfl⟩ : ∃ d', d = d' + 1 := ⟨d - 1, by omega⟩
  have h1 := k1 (m + j) d m cs a2 (by omega)
  have h2 : xrun 0 [] xMs (xCd (m + j) d) M m S ([], cs) = some (S, ([], cs)) := by
    cases m with
    | zero => rfl
    | succ m =>
      obtain ⟨pc, lv, st, hh, sl, fr⟩ := S
      obtain ⟨ins, len, a, b⟩ := z
      show (match xfet (xMt M) pc with
        | none => none
        | some (ins, len, a, b) => bif xisr ins then some ((pc, lv, st, hh, sl, fr), (([], cs) : xO)) else match xstep 0 [] xMs (xCd (m + 1 + j) d) M ins len a b pc lv st hh sl fr ([], cs) with
          | none => none
          | some (S', O') => xrun 0 [] xMs (xCd (m + 1 + j) d) M m S' O') = _
      rw [show xfet (xMt M) pc = some (ins, len, a, b) from hf]
      dsimp only
      rw [show xisr ins = true from hr]
      rfl
  rw [Bool.or_eq_false_iff] at hB
  have e1 : xBt a as h ([], cs) = none := by
    unfold xBt
    rw [hB.1, hB.2]
    rfl
  show (match xBt a as h ([], cs) with
      | some z => some z
      | none => match xnth xMs a with
        | some M => xexe 0 [] xMs (xC xBt [] xMs (m + j) d) (m + j) M as h ([], cs)
        | none => none) = _
  rw [e1, hM]
  show xexe 0 [] xMs (xC xBt [] xMs (m + j) d) (m + j) M as h ([], cs) = _
  unfold xexe
  rw [hc, hl]
  show (match xrun 0 [] xMs (xCd (m + j) d) M (m + j) (0, lv, [], h, 0, 0) ([], cs) with
    | some (S, O') => xend M S O'
    | none => none) = _
  rw [h1, h2]
  exact he _
section YT
variable {L : Nat} {iv : List (Int × Int)} {M : xM} {F G pc pc' len a b : Nat} {ins : Instr} {lv lv' : xLv} {st st' : List Value} {h h' : List xE} {Q : yQ} {r : List Value}
theorem yT.w {F' G' : Nat} {Q' : yQ} (k : yT L iv M F G pc lv st h Q) (hF : F ≤ F') (hG : G ≤ G') (hQ : ∀ h' r, Q h' r → Q' h' r) : yT L iv M F' G' pc lv st h Q' := by
  intro sl fr
  obtain ⟨S, r, z, k1, hf, hr, he, k2, k3, k4⟩ := k sl fr
  exact ⟨S, r, z, k1, hf, hr, he, by omega, Nat.le_trans k3 (Nat.max_le.mpr ⟨Nat.le_max_left _ _, Nat.le_trans hF (Nat.le_max_right _ _)⟩), hQ _ _ k4⟩
/-- a step that needs nothing of what is below -/
theorem yT.s {g : Nat} (hf : xfet (xMt M) pc = some (ins, len, a, b)) (hr : xisr ins = false) (hs : ∀ (C : xCT) (cs : List Prop) (sl fr : Nat), xstep L iv xMs C M ins len a b pc lv st h sl fr ([], cs) = some ((pc', lv', st', h', sl + g, fr), ([], cs))) (k : yT L iv M F G pc' lv' st' h' Q) : yT L iv M F (G + g) pc lv st h Q := by
  intro sl fr
  obtain ⟨S, r, z, k1, hf', hr', he, k2, k3, k4⟩ := k (sl + g) fr
  refine ⟨S, r, z, yTo.cons (d1 := 0) (fun n d m cs _ _ => ?_) k1, hf', hr', he, by omega, k3, k4⟩
  exact xrun_S hf hr (hs _ cs sl fr)
theorem yT.p (hf : xfet (xMt M) pc = some (ins, len, a, b)) (hr : xisr ins = false) (hs : ∀ (C : xCT) (cs : List Prop) (sl fr : Nat), xstep L iv xMs C M ins len a b pc lv st h sl fr ([], cs) = some ((pc', lv', st', h', sl, fr), ([], cs))) (k : yT L iv M F G pc' lv' st' h' Q) : yT L iv M F G pc lv st h Q := yT.s (g := 0) hf hr hs k
theorem yT.ret {ret : Option Value} (hf : xfet (xMt M) pc = some (ins, len, a, b)) (hr : xisr ins = true) (he : ∀ (cs : List Prop) (sl fr : Nat), xend M (pc, lv, st, h, sl, fr) ([], cs) = some ((h, ret, sl, fr), ([], cs))) (hq : Q h ret) : yT L iv M F G pc lv st h Q :=
  fun sl fr => ⟨(pc, lv, st, h, sl, fr), (h, ret, sl, fr), (ins, len, a, b), yTo.rf _, hf, hr, fun cs => he cs sl fr, Nat.le_add_right _ _, Nat.le_max_left _ _, hq⟩
theorem yT.retZ {x : Int32} (hf : xfet (xMt M) pc = some (.ireturn, len, a, b)) (hm : xMr M = some .boolean) (hx : x = 0 ∨ x = 1) (hq : Q h (some (.int x))) : yT L iv M F G pc lv [.int x] h Q := by
  refine yT.ret hf rfl (fun cs sl fr => ?_) hq
  unfold xend
  dsimp only
  rw [hf]
  dsimp only
  rw [hm]
  rcases hx with rfl | rfl <;> rfl
/-! tests -/
theorem xjmp_at {t : Nat} {off : Int} (hj : xjmp pc off = some t) (lv : xLv) (st : List Value) (h : List xE) (sl fr : Nat) (O : xO) : xgo pc len off lv st h sl fr true O = some ((t, lv, st, h, sl, fr), O) := by
  unfold xgo
  rw [hj]
  rfl
theorem xjmp_no {t : Nat} {off : Int} (hj : xjmp pc off = some t) (lv : xLv) (st : List Value) (h : List xE) (sl fr : Nat) (O : xO) : xgo pc len off lv st h sl fr false O = some ((pc + len, lv, st, h, sl, fr), O) := by
  unfold xgo
  rw [hj]
  rfl
theorem yT.if1 {c : ClassFile.Cond} {off : Int} {t : Nat} {x : Int32} {P : Prop} (hf : xfet (xMt M) pc = some (.ifCond c off, len, a, b)) (hj : xjmp pc off = some t) (hp : pc + len = pc')
    (hc : ∃ v : Bool, (v = true ↔ P) ∧ ∀ (cs : List Prop) (k : Bool → xO → Option (xS × xO)), xcond c x ([], cs) k = k v ([], cs)) (k1 : P → yT L iv M F G t lv r h Q) (k2 : ¬ P → yT L iv M F G pc' lv r h Q) : yT L iv M F G pc lv (.int x :: r) h Q := by
  obtain ⟨v, hv, hc⟩ := hc
  subst hp
  cases v with
  | true => exact yT.p hf rfl (fun C cs sl fr => (hc cs _).trans (xjmp_at hj _ _ _ _ _ _)) (k1 (hv.mp rfl))
  | false => exact yT.p hf rfl (fun C cs sl fr => (hc cs _).trans (xjmp_no hj _ _ _ _ _ _)) (k2 (fun p => by have := hv.mpr p; cases this))
theorem yT.if2 {c : ClassFile.Cond} {off : Int} {t : Nat} {x y : Int32} {P : Prop} (hf : xfet (xMt M) pc = some (.if_icmp c off, len, a, b)) (hj : xjmp pc off = some t) (hp : pc + len = pc')
    (hc : ∃ v : Bool, (v = true ↔ P) ∧ ∀ (cs : List Prop) (k : Bool → xO → Option (xS × xO)), xicmp c x y ([], cs) k = k v ([], cs)) (k1 : P → yT L iv M F G t lv r h Q) (k2 : ¬ P → yT L iv M F G pc' lv r h Q) : yT L iv M F G pc lv (.int y :: .int x :: r) h Q := by
  obtain ⟨v, hv, hc⟩ := hc
  subst hp
  cases v with
  | true => exact yT.p hf rfl (fun C cs sl fr => (hc cs _).trans (xjmp_at hj _ _ _ _ _ _)) (k1 (hv.mp rfl))
  | false => exact yT.p hf rfl (fun C cs sl fr => (hc cs _).trans (xjmp_no hj _ _ _ _ _ _)) (k2 (fun p => by have := hv.mpr p; cases this))
/-! what a test says, by numbers -/
theorem i32_lt {x y : Int32} {X Y : Int} (hx : x.toInt = X) (hy : y.toInt = Y) : x < y ↔ X < Y := by
  subst hx; subst hy
  exact Int32.lt_iff_toInt_lt
theorem i32_le {x y : Int32} {X Y : Int} (hx : x.toInt = X) (hy : y.toInt = Y) : x ≤ y ↔ X ≤ Y := by
  subst hx; subst hy
  exact Int32.le_iff_toInt_le
theorem i32_eq {x y : Int32} {X Y : Int} (hx : x.toInt = X) (hy : y.toInt = Y) : x = y ↔ X = Y := by
  subst hx; subst hy
  exact Int32.toInt_inj.symm
theorem i32_0 : (0 : Int32).toInt = 0 := rfl
section YC
variable {x y : Int32} {X Y : Int}
theorem c1_eq (hx : x.toInt = X) : ∃ v : Bool, (v = true ↔ X = 0) ∧ ∀ (cs : List Prop) (k : Bool → xO → Option (xS × xO)), xcond .eq x ([], cs) k = k v ([], cs) := ⟨decide (x = 0), by rw [decide_eq_true_iff]; exact i32_eq hx i32_0, fun _ _ => rfl⟩
theorem c1_ne (hx : x.toInt = X) : ∃ v : Bool, (v = true ↔ X ≠ 0) ∧ ∀ (cs : List Prop) (k : Bool → xO → Option (xS × xO)), xcond .ne x ([], cs) k = k v ([], cs) := ⟨!decide (x = 0), by rw [Bool.not_eq_true', decide_eq_false_iff_not]; exact not_congr (i32_eq hx i32_0), fun _ _ => rfl⟩
theorem c1_lt (hx : x.toInt = X) : ∃ v : Bool, (v = true ↔ X < 0) ∧ ∀ (cs : List Prop) (k : Bool → xO → Option (xS × xO)), xcond .lt x ([], cs) k = k v ([], cs) := ⟨decide (x < 0), by rw [decide_eq_true_iff]; exact i32_lt hx i32_0, fun _ _ => rfl⟩
theorem c1_ge (hx : x.toInt = X) : ∃ v : Bool, (v = true ↔ 0 ≤ X) ∧ ∀ (cs : List Prop) (k : Bool → xO → Option (xS × xO)), xcond .ge x ([], cs) k = k v ([], cs) := ⟨decide (0 ≤ x), by rw [decide_eq_true_iff]; exact i32_le i32_0 hx, fun _ _ => rfl⟩
theorem c1_gt (hx : x.toInt = X) : ∃ v : Bool, (v = true ↔ 0 < X) ∧ ∀ (cs : List Prop) (k : Bool → xO → Option (xS × xO)), xcond .gt x ([], cs) k = k v ([], cs) := ⟨decide (0 < x), by rw [decide_eq_true_iff]; exact i32_lt i32_0 hx, fun _ _ => rfl⟩
theorem c1_le (hx : x.toInt = X) : ∃ v : Bool, (v = true ↔ X ≤ 0) ∧ ∀ (cs : List Prop) (k : Bool → xO → Option (xS × xO)), xcond .le x ([], cs) k = k v ([], cs) := ⟨decide (x ≤ 0), by rw [decide_eq_true_iff]; exact i32_le hx i32_0, fun _ _ => rfl⟩
theorem c2_eq (hx : x.toInt = X) (hy : y.toInt = Y) : ∃ v : Bool, (v = true ↔ X = Y) ∧ ∀ (cs : List Prop) (k : Bool → xO → Option (xS × xO)), xicmp .eq x y ([], cs) k = k v ([], cs) := ⟨decide (x = y), by rw [decide_eq_true_iff]; exact i32_eq hx hy, fun _ _ => rfl⟩
theorem c2_ne (hx : x.toInt = X) (hy : y.toInt = Y) : ∃ v : Bool, (v = true ↔ X ≠ Y) ∧ ∀ (cs : List Prop) (k : Bool → xO → Option (xS × xO)), xicmp .ne x y ([], cs) k = k v ([], cs) := ⟨!decide (x = y), by rw [Bool.not_eq_true', decide_eq_false_iff_not]; exact not_congr (i32_eq hx hy), fun _ _ => rfl⟩
theorem c2_lt (hx : x.toInt = X) (hy : y.toInt = Y) : ∃ v : Bool, (v = true ↔ X < Y) ∧ ∀ (cs : List Prop) (k : Bool → xO → Option (xS × xO)), xicmp .lt x y ([], cs) k = k v ([], cs) := ⟨decide (x < y), by rw [decide_eq_true_iff]; exact i32_lt hx hy, fun _ _ => rfl⟩
theorem c2_ge (hx : x.toInt = X) (hy : y.toInt = Y) : ∃ v : Bool, (v = true ↔ Y ≤ X) ∧ ∀ (cs : List Prop) (k : Bool → xO → Option (xS × xO)), xicmp .ge x y ([], cs) k = k v ([], cs) := ⟨decide (y ≤ x), by rw [decide_eq_true_iff]; exact i32_le hy hx, fun _ _ => rfl⟩
theorem c2_gt (hx : x.toInt = X) (hy : y.toInt = Y) : ∃ v : Bool, (v = true ↔ Y < X) ∧ ∀ (cs : List Prop) (k : Bool → xO → Option (xS × xO)), xicmp .gt x y ([], cs) k = k v ([], cs) := ⟨decide (y < x), by rw [decide_eq_true_iff]; exact i32_lt hy hx, fun _ _ => rfl⟩
theorem c2_le (hx : x.toInt = X) (hy : y.toInt = Y) : ∃ v : Bool, (v = true ↔ X ≤ Y) ∧ ∀ (cs : List Prop) (k : Bool → xO → Option (xS × xO)), xicmp .le x y ([], cs) k = k v ([], cs) := ⟨decide (x ≤ y), by rw [decide_eq_true_iff]; exact i32_le hx hy, fun _ _ => rfl⟩
end YC
/-! switches, divisions -/
theorem yT.tswD {dflt lo hi : Int} {offs : Array Int} {t : Nat} {x : Int32} {X : Int} (hx : x.toInt = X) (hf : xfet (xMt M) pc = some (.tableswitch dflt lo hi offs, len, a, b)) (hj : xjmp pc dflt = some t) (hX : X < lo ∨ hi < X) (k : yT L iv M F G t lv r h Q) : yT L iv M F G pc lv (.int x :: r) h Q := by
  subst hx
  refine yT.p hf rfl (fun C cs sl fr => ?_) k
  show (bif decide (x.toInt < lo) then xgo pc len dflt lv r h sl fr true (([], cs) : xO) else bif decide (hi < x.toInt) then xgo pc len dflt lv r h sl fr true (([], cs) : xO) else (match offs.toList[(x.toInt - lo).toNat]? with
        | some off => xgo pc len off lv r h sl fr true (([], cs) : xO)
        | none => none)) = _
  by_cases h1 : x.toInt < lo
  · rw [decide_eq_true h1]
    exact xjmp_at hj _ _ _ _ _ _
  · rw [decide_eq_false h1, decide_eq_true (hX.resolve_left h1)]
    exact xjmp_at hj _ _ _ _ _ _
theorem yT.tswK {dflt lo hi off : Int} {offs : Array Int} {t : Nat} (i : Nat) {x : Int32} {X : Int} (hx : x.toInt = X) (hf : xfet (xMt M) pc = some (.tableswitch dflt lo hi offs, len, a, b)) (hX : X = lo + (i : Int) ∧ X ≤ hi) (ho : offs.toList[i]? = some off) (hj : xjmp pc off = some t) (k : yT L iv M F G t lv r h Q) : yT L iv M F G pc lv (.int x :: r) h Q := by
  subst hx
  refine yT.p hf rfl (fun C cs sl fr => ?_) k
  show (bif decide (x.toInt < lo) then xgo pc len dflt lv r h sl fr true (([], cs) : xO) else bif decide (hi < x.toInt) then xgo pc len dflt lv r h sl fr true (([], cs) : xO) else (match offs.toList[(x.toInt - lo).toNat]? with
        | some off => xgo pc len off lv r h sl fr true (([], cs) : xO)
        | none => none)) = _
  rw [decide_eq_false (by omega : ¬ x.toInt < lo), decide_eq_false (by omega : ¬ hi < x.toInt), show (x.toInt - lo).toNat = i by omega, ho]
  exact xjmp_at hj _ _ _ _ _ _
theorem yT.lsw {dflt off : Int} {ps : Array (Int × Int)} {t : Nat} {x : Int32} {X : Int} (hx : x.toInt = X) (hf : xfet (xMt M) pc = some (.lookupswitch dflt ps, len, a, b)) (hz : (ps.toList.zip (ps.toList.drop 1)).all (fun (a, next) => a.1 < next.1) = true) (ho : Op.lookupswitch.offset ps.toList dflt X = off) (hj : xjmp pc off = some t) (k : yT L iv M F G t lv r h Q) : yT L iv M F G pc lv (.int x :: r) h Q := by
  subst hx; subst ho
  refine yT.p hf rfl (fun C cs sl fr => ?_) k
  show (bif (ps.toList.zip (ps.toList.drop 1)).all (fun (a, next) => a.1 < next.1) then xgo pc len (Op.lookupswitch.offset ps.toList dflt x.toInt) lv r h sl fr true (([], cs) : xO) else none) = _
  rw [hz]
  exact xjmp_at hj _ _ _ _ _ _
theorem yT.div {x y : Int32} (hy : y ≠ 0) (hf : xfet (xMt M) pc = some (.idiv, len, a, b)) (hp : pc + len = pc') (k : yT L iv M F G pc' lv (.int (x / y) :: r) h Q) : yT L iv M F G pc lv (.int y :: .int x :: r) h Q := by
  subst hp
  refine yT.p hf rfl (fun C cs sl fr => ?_) k
  show (bif decide (y = 0) then none else some ((pc + len, lv, .int (x / y) :: r, h, sl, fr), (([], cs) : xO))) = _
  rw [decide_eq_false hy]
  rfl
theorem yT.rem {x y : Int32} (hy : y ≠ 0) (hf : xfet (xMt M) pc = some (.irem, len, a, b)) (hp : pc + len = pc') (k : yT L iv M F G pc' lv (.int (x - x / y * y) :: r) h Q) : yT L iv M F G pc lv (.int y :: .int x :: r) h Q := by
  subst hp
  refine yT.p hf rfl (fun C cs sl fr => ?_) k
  show (bif decide (y = 0) then none else some ((pc + len, lv, .int (x - x / y * y) :: r, h, sl, fr), (([], cs) : xO))) = _
  rw [decide_eq_false hy]
  rfl
/-! the heap -/
theorem yT.gf {i q : Nat} {fs : List Value} {v : Value} (ho : xnth h q = some (.inr (a, fs))) (hv : xnth fs b = some v) (hf : xfet (xMt M) pc = some (.getfield i, len, a, b)) (hp : pc + len = pc') (k : yT L iv M F G pc' lv (v :: r) h Q) : yT L iv M F G pc lv (.ref (q + 1) :: r) h Q := by
  subst hp
  refine yT.p hf rfl (fun C cs sl fr => ?_) k
  show (match xnth h q with
      | some (.inr (ci, fs)) => bif Nat.beq ci a then (match xnth fs b with
        | some v => some ((pc + len, lv, v :: r, h, sl, fr), (([], cs) : xO))
        | none => none) else none
      | _ => none) = _
  rw [ho]
  show (bif Nat.beq a a then (match xnth fs b with
        | some v => some ((pc + len, lv, v :: r, h, sl, fr), (([], cs) : xO))
        | none => none) else none) = _
  rw [Nat.beq_refl, hv]
  rfl
theorem xnth_lt {α : Type} {l : List α} {i : Nat} {x : α} (h : xnth l i = some x) : i < l.length := by
  rw [xnth_eq] at h
  exact (List.getElem?_eq_some_iff.mp h).1
theorem yT.pf {i q : Nat} {fs : List Value} {v : Value} (ho : xnth h q = some (.inr (a, fs))) (hb : Nat.blt b fs.length = true) (ht : xfit (xTy a b) v = true) (hf : xfet (xMt M) pc = some (.putfield i, len, a, b)) (hp : pc + len = pc') (k : yT L iv M F G pc' lv r (h.set q (.inr (a, fs.set b v))) Q) : yT L iv M F G pc lv (v :: .ref (q + 1) :: r) h Q := by
  subst hp
  refine yT.p hf rfl (fun C cs sl fr => ?_) k
  show (match xnth h q with
      | some (.inr (ci, fs)) => bif Nat.beq ci a && Nat.blt b fs.length && xfit (xTy a b) v then
        xset fs b v (fun fs' => xset h q (.inr (ci, fs')) (fun h' => some ((pc + len, lv, r, h', sl, fr), (([], cs) : xO)))) else none
      | _ => none) = _
  rw [ho]
  show (bif Nat.beq a a && Nat.blt b fs.length && xfit (xTy a b) v then
        xset fs b v (fun fs' => xset h q (.inr (a, fs')) (fun h' => some ((pc + len, lv, r, h', sl, fr), (([], cs) : xO)))) else none) = _
  rw [Nat.beq_refl, hb, ht, xset_eq (by have := Nat.le_of_ble_eq_true hb; omega), xset_eq (xnth_lt ho)]
  rfl
theorem xin_of {i : Int32} {I : Int} {n : Nat} (hi : i.toInt = I) (h : 0 ≤ I ∧ I < (n : Int)) : xin i n = true := by
  subst hi
  unfold xin
  have h1 : ¬ i < 0 := by
    rw [i32_lt rfl i32_0]
    omega
  have h2 : i.toNatClampNeg = i.toInt.toNat := rfl
  rw [decide_eq_false h1, h2]
  cases hb : Nat.ble n i.toInt.toNat with
  | true => exact absurd (Nat.le_of_ble_eq_true hb) (by omega)
  | false => rfl
theorem yT.ia {q n : Nat} {f : Nat → Int32} {i : Int32} {I : Int} (ho : xnth h q = some (.inl (0, n, .inl f))) (hi : i.toInt = I) (hI : 0 ≤ I ∧ I < (n : Int)) (hf : xfet (xMt M) pc = some (.iaload, len, a, b)) (hp : pc + len = pc') (k : yT L iv M F G pc' lv (.int (f I.toNat) :: r) h Q) : yT L iv M F G pc lv (.int i :: .ref (q + 1) :: r) h Q := by
  subst hp
  refine yT.p hf rfl (fun C cs sl fr => ?_) k
  show (match xnth h q with
      | some (.inl (0, n, .inl f)) => bif xin i n then some ((pc + len, lv, Value.int (f i.toNatClampNeg) :: r, h, sl, fr), (([], cs) : xO)) else none
      | _ => none) = _
  rw [ho]
  show (bif xin i n then some ((pc + len, lv, Value.int (f i.toNatClampNeg) :: r, h, sl, fr), (([], cs) : xO)) else none) = _
  rw [xin_of hi hI, ← hi]
  rfl
theorem yT.ba {q n : Nat} {f : Nat → Int32} {i : Int32} {I : Int} (ho : xnth h q = some (.inl (2, n, .inl f))) (hi : i.toInt = I) (hI : 0 ≤ I ∧ I < (n : Int)) (hf : xfet (xMt M) pc = some (.baload, len, a, b)) (hp : pc + len = pc') (k : yT L iv M F G pc' lv (.int (f I.toNat) :: r) h Q) : yT L iv M F G pc lv (.int i :: .ref (q + 1) :: r) h Q := by
  subst hp
  refine yT.p hf rfl (fun C cs sl fr => ?_) k
  show (match xnth h q with
      | some (.inl (2, n, .inl f)) => bif xin i n then some ((pc + len, lv, Value.int (f i.toNatClampNeg) :: r, h, sl, fr), (([], cs) : xO)) else none
      | _ => none) = _
  rw [ho]
  show (bif xin i n then some ((pc + len, lv, Value.int (f i.toNatClampNeg) :: r, h, sl, fr), (([], cs) : xO)) else none) = _
  rw [xin_of hi hI, ← hi]
  rfl
theorem yT.la {q n : Nat} {f : Nat → Int64} {i : Int32} {I : Int} (ho : xnth h q = some (.inl (1, n, .inr (.inl f)))) (hi : i.toInt = I) (hI : 0 ≤ I ∧ I < (n : Int)) (hf : xfet (xMt M) pc = some (.laload, len, a, b)) (hp : pc + len = pc') (k : yT L iv M F G pc' lv (.long (f I.toNat) :: r) h Q) : yT L iv M F G pc lv (.int i :: .ref (q + 1) :: r) h Q := by
  subst hp
  refine yT.p hf rfl (fun C cs sl fr => ?_) k
  show (match xnth h q with
      | some (.inl (1, n, .inr (.inl f))) => bif xin i n then some ((pc + len, lv, Value.long (f i.toNatClampNeg) :: r, h, sl, fr), (([], cs) : xO)) else none
      | _ => none) = _
  rw [ho]
  show (bif xin i n then some ((pc + len, lv, Value.long (f i.toNatClampNeg) :: r, h, sl, fr), (([], cs) : xO)) else none) = _
  rw [xin_of hi hI, ← hi]
  rfl
theorem yT.aa {q n t : Nat} {f : Nat → Option Nat} {i : Int32} {I : Int} (ho : xnth h q = some (.inl (t, n, .inr (.inr (.inr (.inr f)))))) (ht : (Nat.beq t 3 || Nat.beq t 4) = true) (hi : i.toInt = I) (hI : 0 ≤ I ∧ I < (n : Int)) (hf : xfet (xMt M) pc = some (.aaload, len, a, b)) (hp : pc + len = pc') (k : yT L iv M F G pc' lv (va_rf (f I.toNat) :: r) h Q) : yT L iv M F G pc lv (.int i :: .ref (q + 1) :: r) h Q := by
  subst hp
  refine yT.p hf rfl (fun C cs sl fr => ?_) k
  show (match xnth h q with
      | some (.inl (t, n, .inr (.inr (.inr (.inr f))))) => bif xin i n && (Nat.beq t 3 || Nat.beq t 4) then some ((pc + len, lv, va_rf (f i.toNatClampNeg) :: r, h, sl, fr), (([], cs) : xO)) else none
      | _ => none) = _
  rw [ho]
  show (bif xin i n && (Nat.beq t 3 || Nat.beq t 4) then some ((pc + len, lv, va_rf (f i.toNatClampNeg) :: r, h, sl, fr), (([], cs) : xO)) else none) = _
  rw [xin_of hi hI, ht, ← hi]
  rfl
theorem yT.is {q n : Nat} {f : Nat → Int32} {i x : Int32} {I : Int} (ho : xnth h q = some (.inl (0, n, .inl f))) (hi : i.toInt = I) (hI : 0 ≤ I ∧ I < (n : Int)) (hf : xfet (xMt M) pc = some (.iastore, len, a, b)) (hp : pc + len = pc') (k : yT L iv M F G pc' lv r (h.set q (.inl (0, n, .inl (upd f I.toNat x)))) Q) : yT L iv M F G pc lv (.int x :: .int i :: .ref (q + 1) :: r) h Q := by
  subst hp
  refine yT.p hf rfl (fun C cs sl fr => ?_) k
  show (match xnth h q with
      | some (.inl (0, n, .inl f)) => bif xin i n then xset h q (.inl (0, n, .inl (upd f i.toNatClampNeg x))) (fun h' => some ((pc + len, lv, r, h', sl, fr), (([], cs) : xO))) else none
      | _ => none) = _
  rw [ho]
  show (bif xin i n then xset h q (.inl (0, n, .inl (upd f i.toNatClampNeg x))) (fun h' => some ((pc + len, lv, r, h', sl, fr), (([], cs) : xO))) else none) = _
  rw [xin_of hi hI, ← hi, xset_eq (xnth_lt ho)]
  rfl
theorem yT.bs {q n : Nat} {f : Nat → Int32} {i x : Int32} {I : Int} (ho : xnth h q = some (.inl (2, n, .inl f))) (hi : i.toInt = I) (hI : 0 ≤ I ∧ I < (n : Int)) (hn : vp_nar .boolean x = x) (hf : xfet (xMt M) pc = some (.bastore, len, a, b)) (hp : pc + len = pc') (k : yT L iv M F G pc' lv r (h.set q (.inl (2, n, .inl (upd f I.toNat x)))) Q) : yT L iv M F G pc lv (.int x :: .int i :: .ref (q + 1) :: r) h Q := by
  subst hp
  refine yT.p hf rfl (fun C cs sl fr => ?_) k
  show (match xnth h q with
      | some (.inl (2, n, .inl f)) => bif xin i n then xset h q (.inl (2, n, .inl (upd f i.toNatClampNeg (vp_nar .boolean x)))) (fun h' => some ((pc + len, lv, r, h', sl, fr), (([], cs) : xO))) else none
      | _ => none) = _
  rw [ho]
  show (bif xin i n then xset h q (.inl (2, n, .inl (upd f i.toNatClampNeg (vp_nar .boolean x)))) (fun h' => some ((pc + len, lv, r, h', sl, fr), (([], cs) : xO))) else none) = _
  rw [xin_of hi hI, ← hi, xset_eq (xnth_lt ho), hn]
  rfl
theorem yT.ls {q n : Nat} {f : Nat → Int64} {i : Int32} {x : Int64} {I : Int} (ho : xnth h q = some (.inl (1, n, .inr (.inl f)))) (hi : i.toInt = I) (hI : 0 ≤ I ∧ I < (n : Int)) (hf : xfet (xMt M) pc = some (.lastore, len, a, b)) (hp : pc + len = pc') (k : yT L iv M F G pc' lv r (h.set q (.inl (1, n, .inr (.inl (vp_updL f I.toNat x))))) Q) : yT L iv M F G pc lv (.long x :: .int i :: .ref (q + 1) :: r) h Q := by
  subst hp
  refine yT.p hf rfl (fun C cs sl fr => ?_) k
  show (match xnth h q with
      | some (.inl (1, n, .inr (.inl f))) => bif xin i n then xset h q (.inl (1, n, .inr (.inl (vp_updL f i.toNatClampNeg x)))) (fun h' => some ((pc + len, lv, r, h', sl, fr), (([], cs) : xO))) else none
      | _ => none) = _
  rw [ho]
  show (bif xin i n then xset h q (.inl (1, n, .inr (.inl (vp_updL f i.toNatClampNeg x)))) (fun h' => some ((pc + len, lv, r, h', sl, fr), (([], cs) : xO))) else none) = _
  rw [xin_of hi hI, ← hi, xset_eq (xnth_lt ho)]
  rfl
theorem yT.al {q n t : Nat} {w : (Nat → Int32) ⊕ (Nat → Int64) ⊕ (Nat → UInt32) ⊕ (Nat → UInt64) ⊕ (Nat → Option Nat)} (ho : xnth h q = some (.inl (t, n, w))) (ht : Nat.blt t 5 = true) (hf : xfet (xMt M) pc = some (.arraylength, len, a, b)) (hp : pc + len = pc') (k : yT L iv M F G pc' lv (.int (Int32.ofNat n) :: r) h Q) : yT L iv M F G pc lv (.ref (q + 1) :: r) h Q := by
  subst hp
  refine yT.p hf rfl (fun C cs sl fr => ?_) k
  show (match xnth h q with
      | some (.inl (t, n, _)) => bif Nat.blt t 5 then some ((pc + len, lv, Value.int (Int32.ofNat n) :: r, h, sl, fr), (([], cs) : xO)) else none
      | _ => none) = _
  rw [ho]
  show (bif Nat.blt t 5 then some ((pc + len, lv, Value.int (Int32.ofNat n) :: r, h, sl, fr), (([], cs) : xO)) else none) = _
  rw [ht]
  rfl
/-! calls -/
theorem yTo.call {M' : xM} {sl fr : Nat} {as rest : List Value} {rr : xR} {n0 d0 : Nat} (hf : xfet (xMt M) pc = some (ins, len, a, b)) (hr : xisr ins = false) (hI : ∀ (C : xCT) (O : xO), xstep L iv xMs C M ins len a b pc lv st h sl fr O = xcall xMs C pc lv st h sl fr O a b) (hb : Nat.ble b 6 = true) (hM : xnth xMs a = some M')
    (hp : xpop (bif Nat.beq (xMk M') 1 then xMp M' else xMp M' + 1) [] st = some (as, rest))
    (hg : (Nat.beq (b / 2) (xMk M') && Nat.ble (xcat rest) 8 && (match (generalizing := false) xMk M' with
          | 1 => true
          | _ => (match (generalizing := false) as with
            | .ref (q + 1) :: _ => (match xnth h q with
              | some (.inr (ci, _)) => Nat.beq ci (xMo M')
              | _ => false)
            | _ => false))) = true)
    (hc : ∀ (n d : Nat) (cs : List Prop), n0 ≤ n → d0 ≤ d → xCd n d a as h ([], cs) = some (rr, ([], cs))) :
    ∀ (n d m : Nat) (cs : List Prop), Nat.max n0 d0 ≤ n → Nat.max n0 d0 ≤ d → xrun L iv xMs (xCd n d) M (m + 1) (pc, lv, st, h, sl, fr) ([], cs) = xrun L iv xMs (xCd n d) M m (pc + 3, lv, rr.2.1.toList ++ rest, rr.1, sl + rr.2.2.1, Nat.max fr (rr.2.2.2 + 1)) ([], cs) := by
  intro n d m cs hn hd
  refine xrun_S hf hr ?_
  rw [hI]
  have hb := Nat.le_of_ble_eq_true hb
  have e2 : xcall xMs (xCd n d) pc lv st h sl fr ([], cs) a b = (match xnth xMs a with
    | none => none
    | some M' => match xpop (bif Nat.beq (xMk M') 1 then xMp M' else xMp M' + 1) [] st with
      | none => none
      | some (as, r) => bif Nat.beq (b / 2) (xMk M') && Nat.ble (xcat r) 8 && (match (generalizing := false) xMk M' with
          | 1 => true
          | _ => (match (generalizing := false) as with
            | .ref (q + 1) :: _ => (match xnth h q with
              | some (.inr (ci, _)) => Nat.beq ci (xMo M')
              | _ => false)
            | _ => false)) then (match xCd n d a as h ([], cs) with
            | none => none
            | some ((h', ret, sl', d'), O') => some ((pc + 3, lv, ret.toList ++ r, h', sl + sl', Nat.max fr (d' + 1)), O')) else none) := by
    unfold xcall
    split
    · omega
    · omega
    · omega
    · rfl
  rw [e2, hM]
  dsimp only
  rw [hp]
  dsimp only
  rw [hg, hc n d cs (Nat.le_trans (Nat.le_max_left _ _) hn) (Nat.le_trans (Nat.le_max_right _ _) hd)]
  rfl
theorem yT.call {M' : xM} {as rest : List Value} {F' G1 G2 : Nat} {Q' : yQ} (hf : xfet (xMt M) pc = some (ins, len, a, b)) (hr : xisr ins = false) (hI : ∀ (C : xCT) (O : xO) (sl fr : Nat), xstep L iv xMs C M ins len a b pc lv st h sl fr O = xcall xMs C pc lv st h sl fr O a b) (hb : Nat.ble b 6 = true) (hM : xnth xMs a = some M')
    (hp : xpop (bif Nat.beq (xMk M') 1 then xMp M' else xMp M' + 1) [] st = some (as, rest))
    (hg : (Nat.beq (b / 2) (xMk M') && Nat.ble (xcat rest) 8 && (match (generalizing := false) xMk M' with
          | 1 => true
          | _ => (match (generalizing := false) as with
            | .ref (q + 1) :: _ => (match xnth h q with
              | some (.inr (ci, _)) => Nat.beq ci (xMo M')
              | _ => false)
            | _ => false))) = true)
    (hc : yM a F' G1 as h Q') (hF : F' + 1 ≤ F) (hG : G1 + G2 ≤ G) (k : ∀ h' ret, Q' h' ret → yT L iv M F G2 (pc + 3) lv (ret.toList ++ rest) h' Q) : yT L iv M F G pc lv st h Q := by
  intro sl fr
  obtain ⟨rr, n0, d0, c1, c2, c3, c4⟩ := hc
  obtain ⟨S, r, z, k1, hf', hr', he, k2, k3, k4⟩ := k _ _ c4 (sl + rr.2.2.1) (Nat.max fr (rr.2.2.2 + 1))
  refine ⟨S, r, z, yTo.cons (yTo.call hf hr (fun C O => hI C O sl fr) hb hM hp hg c1) k1, hf', hr', he, by omega, Nat.le_trans k3 (Nat.max_le.mpr ⟨Nat.max_le.mpr ⟨Nat.le_max_left _ _, ?_⟩, Nat.le_max_right _ _⟩), k4⟩
  exact Nat.le_trans (Nat.le_trans (Nat.succ_le_succ c3) hF) (Nat.le_max_right _ _)
/-- a call on an object -/
theorem yT.cv {M' : xM} {q ci : Nat} {fs as rest : List Value} {F' G1 G2 : Nat} {Q' : yQ} (hM : xnth xMs a = some M') (ho : xnth h q = some (.inr (ci, fs))) (hc : yM a F' G1 (.ref (q + 1) :: as) h Q') (hp : xpop (xMp M' + 1) [] st = some (.ref (q + 1) :: as, rest)) (hF : F' + 1 ≤ F) (hG : G1 + G2 ≤ G)
    (hg : (Nat.beq (b / 2) (xMk M') && (Nat.ble b 6 && (Nat.ble (xcat rest) 8 && (!(Nat.beq (xMk M') 1) && Nat.beq ci (xMo M'))))) = true) (hf : xfet (xMt M) pc = some (ins, len, a, b)) (hI : (match ins with
      | .invokevirtual _ => true
      | .invokespecial _ => true
      | _ => false) = true) (k : ∀ h' ret, Q' h' ret → yT L iv M F G2 (pc + 3) lv (ret.toList ++ rest) h' Q) : yT L iv M F G pc lv st h Q := by
  simp only [Bool.and_eq_true, Bool.not_eq_true'] at hg
  obtain ⟨g1, g2, g3, g4, g5⟩ := hg
  have hii : xisr ins = false ∧ ∀ (C : xCT) (O : xO) (sl fr : Nat), xstep L iv xMs C M ins len a b pc lv st h sl fr O = xcall xMs C pc lv st h sl fr O a b := by
    revert hI
    cases ins <;> intro hI <;> first | exact ⟨rfl, fun _ _ _ _ => rfl⟩ | cases hI
  refine yT.call hf hii.1 hii.2 g2 hM (as := .ref (q + 1) :: as) (rest := rest) ?_ ?_ hc hF hG k
  · rw [g4]
    exact hp
  · rw [g1, g3]
    show (match xMk M' with
          | 1 => true
          | _ => (match xnth h q with
              | some (.inr (ci, _)) => Nat.beq ci (xMo M')
              | _ => false)) = true
    split
    · rfl
    · rw [ho]
      exact g5
/-- a static call -/
theorem yT.cs {M' : xM} {as rest : List Value} {F' G1 G2 : Nat} {Q' : yQ} (hM : xnth xMs a = some M') (hc : yM a F' G1 as h Q') (hp : xpop (xMp M') [] st = some (as, rest)) (hF : F' + 1 ≤ F) (hG : G1 + G2 ≤ G)
    (hg : (Nat.beq (b / 2) 1 && (Nat.ble b 6 && (Nat.ble (xcat rest) 8 && Nat.beq (xMk M') 1))) = true) {i : Nat} (hf : xfet (xMt M) pc = some (.invokestatic i, len, a, b)) (k : ∀ h' ret, Q' h' ret → yT L iv M F G2 (pc + 3) lv (ret.toList ++ rest) h' Q) : yT L iv M F G pc lv st h Q := by
  simp only [Bool.and_eq_true] at hg
  obtain ⟨g1, g2, g3, g4⟩ := hg
  have g4' := Nat.eq_of_beq_eq_true g4
  refine yT.call hf rfl (fun _ _ _ _ => rfl) g2 hM (as := as) (rest := rest) ?_ ?_ hc hF hG k
  · rw [g4]
    exact hp
  · rw [g4', g1, g3]
    rfl
/-- new objects and arrays -/
theorem yT.nw {i : Nat} {q : vw_C} (hq : xnth vwCl a = some q) (hf : xfet (xMt M) pc = some (.new i, len, a, b)) (hp : pc + len = pc') (k : yT L iv M F G pc' lv (.ref (h.length + 1) :: st) (h ++ [.inr (a, xDf a q.2.2)]) Q) : yT L iv M F (G + q.2.2) pc lv st h Q := by
  subst hp
  refine yT.s hf rfl (fun C cs sl fr => ?_) k
  show (match xnth vwCl a with
    | some q => xapp h (.inr (a, xDf a q.2.2)) (fun h' => some ((pc + len, lv, Value.ref (h.length + 1) :: st, h', sl + q.2.2, fr), (([], cs) : xO)))
    | none => none) = _
  rw [hq]
  exact xapp_eq _ _ _
theorem yT.na {ty : ArrayType} {x : Int32} {X : Int} {w : vp_A} (hx : x.toInt = X) (hX : 0 ≤ X ∧ X ≤ 60000) (ha : Nat.blt a 3 = true) (hw : xnew a X.toNat = some w) (hf : xfet (xMt M) pc = some (.newarray ty, len, a, b)) (hp : pc + len = pc') (k : yT L iv M F G pc' lv (.ref (h.length + 1) :: r) (h ++ [.inl (a, w)]) Q) : yT L iv M F (G + X.toNat) pc lv (.int x :: r) h Q := by
  subst hp; subst hx
  refine yT.s hf rfl (fun C cs sl fr => ?_) k
  show (bif decide (x < 0) || !(Nat.ble x.toInt.toNat 60000) || !(Nat.blt a 3) then none else (match xnew a x.toInt.toNat with
    | some w => xapp h (.inl (a, w)) (fun h' => some ((pc + len, lv, Value.ref (h.length + 1) :: r, h', sl + x.toInt.toNat, fr), (([], cs) : xO)))
    | none => none)) = _
  rw [decide_eq_false (by rw [i32_lt rfl i32_0]; omega), show Nat.ble x.toInt.toNat 60000 = true from Nat.ble_eq_true_of_le (by omega), ha, hw]
  exact xapp_eq _ _ _
end YT
/-! numbers -/
theorem i32_add {x y : Int32} {X Y : Int} (hx : x.toInt = X) (hy : y.toInt = Y) (h : -2147483648 ≤ X + Y ∧ X + Y ≤ 2147483647) : (x + y).toInt = X + Y := by
  subst hx; subst hy
  rw [Int32.toInt_add]
  exact Int.bmod_eq_of_le (by omega) (by omega)
theorem i32_sub {x y : Int32} {X Y : Int} (hx : x.toInt = X) (hy : y.toInt = Y) (h : -2147483648 ≤ X - Y ∧ X - Y ≤ 2147483647) : (x - y).toInt = X - Y := by
  subst hx; subst hy
  rw [Int32.toInt_sub]
  exact Int.bmod_eq_of_le (by omega) (by omega)
theorem i32_mul {x y : Int32} {X Y : Int} (hx : x.toInt = X) (hy : y.toInt = Y) (h : -2147483648 ≤ X * Y ∧ X * Y ≤ 2147483647) : (x * y).toInt = X * Y := by
  subst hx; subst hy
  rw [Int32.toInt_mul]
  exact Int.bmod_eq_of_le (by omega) (by omega)
theorem i32_nat {n : Nat} (h : n < 2147483648) : (Int32.ofNat n).toInt = (n : Int) := Int32.toInt_ofNat_of_lt (by omega)
theorem i32_rng (x : Int32) : -2147483648 ≤ x.toInt ∧ x.toInt ≤ 2147483647 := ⟨Int32.le_toInt x, Int32.toInt_le x⟩
theorem i32_l (x : Int32) : x.toInt64.toInt = x.toInt := Int32.toInt_toInt64 x
