/-! more steps: every number a name of its own, with what is known of it -/
theorem xg_eq {lv : xLv} {i : Nat} {v : Value} : xget (xst1 lv i v) i = some v := by
  unfold xst1 xget
  rw [Nat.beq_refl]
  rfl
theorem xg2_eq {lv : xLv} {i : Nat} {v : Value} : xget (xst2 lv i v) i = some v := by
  unfold xst2 xget
  rw [Nat.beq_refl]
  rfl
theorem xg_flt {p : Nat × Value → Bool} {j : Nat} {w : Value} (hp : p (j, w) = true) : ∀ {lv : xLv}, xget lv j = some w → xget (lv.filter p) j = some w
  | [], h => h
  | (k, u) :: lv, h => by
    unfold xget at h
    cases hk : Nat.beq k j with
    | true =>
      have e := Nat.eq_of_beq_eq_true hk
      subst e
      dsimp only at h
      rw [hk] at h
      obtain rfl : u = w := by injection h
      rw [List.filter_cons, if_pos hp]
      unfold xget
      dsimp only
      rw [hk]
      rfl
    | false =>
      dsimp only at h
      rw [hk] at h
      have ih := xg_flt (lv := lv) hp h
      rw [List.filter_cons]
      cases hq : p (k, u) with
      | false => exact ih
      | true =>
        show xget ((k, u) :: lv.filter p) j = some w
        unfold xget
        dsimp only
        rw [hk]
        exact ih
theorem xg_ne {lv : xLv} {i j : Nat} {v w : Value} (g : xget lv j = some w) (h : (!(Nat.beq i j) && (!(j == i) && !(j + 1 == i && w.category == 2))) = true) : xget (xst1 lv i v) j = some w := by
  rw [Bool.and_eq_true] at h
  obtain ⟨h1, h2⟩ := h
  have h1' : Nat.beq i j = false := by
    cases hb : Nat.beq i j with
    | false => rfl
    | true => rw [hb] at h1; cases h1
  unfold xst1 xget
  dsimp only
  rw [h1']
  exact xg_flt (p := fun q => !(q.1 == i) && !(q.1 + 1 == i && q.2.category == 2)) h2 g
theorem xg2_ne {lv : xLv} {i j : Nat} {v w : Value} (g : xget lv j = some w) (h : (!(Nat.beq i j) && (!(j == i) && (!(j == i + 1) && !(j + 1 == i && w.category == 2)))) = true) : xget (xst2 lv i v) j = some w := by
  rw [Bool.and_eq_true] at h
  obtain ⟨h1, h2⟩ := h
  have h1' : Nat.beq i j = false := by
    cases hb : Nat.beq i j with
    | false => rfl
    | true => rw [hb] at h1; cases h1
  unfold xst2 xget
  dsimp only
  rw [h1']
  exact xg_flt (p := fun q => !(q.1 == i) && (!(q.1 == i + 1) && !(q.1 + 1 == i && q.2.category == 2))) h2 g
theorem i32_c8 (n : Int) (h : -128 ≤ n ∧ n ≤ 127) : (Int8.ofInt n).toInt32.toInt = n := by
  rw [Int8.toInt_toInt32, Int8.toInt_ofInt]
  show Int.bmod n 256 = n
  exact Int.bmod_eq_of_le (by omega) (by omega)
theorem i32_c16 (n : Int) (h : -32768 ≤ n ∧ n ≤ 32767) : (Int16.ofInt n).toInt32.toInt = n := by
  rw [Int16.toInt_toInt32, Int16.toInt_ofInt]
  show Int.bmod n 65536 = n
  exact Int.bmod_eq_of_le (by omega) (by omega)
theorem i32_c (n : Int) (h : -2147483648 ≤ n ∧ n ≤ 2147483647) : (Int32.ofInt n).toInt = n := by
  rw [Int32.toInt_ofInt]
  show Int.bmod n 4294967296 = n
  exact Int.bmod_eq_of_le (by omega) (by omega)
theorem b01 {x : Int32} (h0 : 0 ≤ x.toInt) (h1 : x.toInt ≤ 1) : x = 0 ∨ x = 1 := by
  by_cases h : x.toInt = 0
  · exact Or.inl (Int32.toInt_inj.mp h)
  · exact Or.inr (Int32.toInt_inj.mp (show x.toInt = 1 by omega))
theorem b01i {x : Int32} (h : x = 0 ∨ x = 1) : 0 ≤ x.toInt ∧ x.toInt ≤ 1 := by
  rcases h with rfl | rfl
  · exact ⟨by decide, by decide⟩
  · exact ⟨by decide, by decide⟩
theorem i32_ne0 {y : Int32} {Y : Int} (hy : y.toInt = Y) (h : Y ≠ 0) : y ≠ 0 := fun e => h (by rw [← hy, e]; rfl)
def vrf (v : Value) : Bool := match v with
  | .ref _ => true
  | .null => true
  | _ => false
theorem yM.st {a F G : Nat} {M : xM} {as : List Value} {h : List xE} {Q : yQ} (hM : xnth xMs a = some M) (hB : (Nat.beq a 254 || Nat.beq a 264) = false) (hc : Nat.ble (xcat as) (xMn M) = true) (k : ∀ lv : xLv, (∀ i v, xget (lv_args 0 as) i = some v → xget lv i = some v) → yT 0 [] M F G 0 lv [] h Q) : yM a F G as h Q :=
  yM.of hM hB hc rfl (k _ (fun _ _ h => h))
section YS
variable {L : Nat} {iv : List (Int × Int)} {M : xM} {F G pc pc' len a b : Nat} {ins : Instr} {lv lv' : xLv} {st st' : List Value} {h h' : List xE} {Q : yQ} {r : List Value} {x y : Int32} {X Y : Int}
theorem yT.fi {z : Int32} (hf : xfet (xMt M) pc = some (ins, len, a, b)) (hr : xisr ins = false) (hs : ∀ (C : xCT) (cs : List Prop) (sl fr : Nat), xstep L iv xMs C M ins len a b pc lv st h sl fr ([], cs) = some ((pc', lv, .int z :: r, h, sl, fr), ([], cs))) (k : ∀ z : Int32, yT L iv M F G pc' lv (.int z :: r) h Q) : yT L iv M F G pc lv st h Q := yT.p hf hr hs (k z)
theorem yT.fl {z : Int64} (hf : xfet (xMt M) pc = some (ins, len, a, b)) (hr : xisr ins = false) (hs : ∀ (C : xCT) (cs : List Prop) (sl fr : Nat), xstep L iv xMs C M ins len a b pc lv st h sl fr ([], cs) = some ((pc', lv, .long z :: r, h, sl, fr), ([], cs))) (k : ∀ z : Int64, yT L iv M F G pc' lv (.long z :: r) h Q) : yT L iv M F G pc lv st h Q := yT.p hf hr hs (k z)
theorem yT.kI {n : Int} (hf : xfet (xMt M) pc = some (.iconst n, len, a, b)) (hp : pc + len = pc') (hn : -2147483648 ≤ n ∧ n ≤ 2147483647) (k : ∀ z : Int32, z.toInt = n → yT L iv M F G pc' lv (.int z :: st) h Q) : yT L iv M F G pc lv st h Q := by
  subst hp
  exact yT.p hf rfl (fun _ _ _ _ => rfl) (k _ (i32_c n hn))
theorem yT.kb {n : Int} (hf : xfet (xMt M) pc = some (.bipush n, len, a, b)) (hp : pc + len = pc') (hn : -128 ≤ n ∧ n ≤ 127) (k : ∀ z : Int32, z.toInt = n → yT L iv M F G pc' lv (.int z :: st) h Q) : yT L iv M F G pc lv st h Q := by
  subst hp
  exact yT.p hf rfl (fun _ _ _ _ => rfl) (k _ (i32_c8 n hn))
theorem yT.ks {n : Int} (hf : xfet (xMt M) pc = some (.sipush n, len, a, b)) (hp : pc + len = pc') (hn : -32768 ≤ n ∧ n ≤ 32767) (k : ∀ z : Int32, z.toInt = n → yT L iv M F G pc' lv (.int z :: st) h Q) : yT L iv M F G pc lv st h Q := by
  subst hp
  exact yT.p hf rfl (fun _ _ _ _ => rfl) (k _ (i32_c16 n hn))
theorem yT.ad (px : x.toInt = X) (py : y.toInt = Y) (hf : xfet (xMt M) pc = some (.iadd, len, a, b)) (hp : pc + len = pc') (hn : -2147483648 ≤ X + Y ∧ X + Y ≤ 2147483647) (k : ∀ z : Int32, z.toInt = X + Y → yT L iv M F G pc' lv (.int z :: r) h Q) : yT L iv M F G pc lv (.int y :: .int x :: r) h Q := by
  subst hp
  exact yT.p hf rfl (fun _ _ _ _ => rfl) (k _ (i32_add px py hn))
theorem yT.sb (px : x.toInt = X) (py : y.toInt = Y) (hf : xfet (xMt M) pc = some (.isub, len, a, b)) (hp : pc + len = pc') (hn : -2147483648 ≤ X - Y ∧ X - Y ≤ 2147483647) (k : ∀ z : Int32, z.toInt = X - Y → yT L iv M F G pc' lv (.int z :: r) h Q) : yT L iv M F G pc lv (.int y :: .int x :: r) h Q := by
  subst hp
  exact yT.p hf rfl (fun _ _ _ _ => rfl) (k _ (i32_sub px py hn))
theorem yT.ml (px : x.toInt = X) (py : y.toInt = Y) (hf : xfet (xMt M) pc = some (.imul, len, a, b)) (hp : pc + len = pc') (hn : -2147483648 ≤ X * Y ∧ X * Y ≤ 2147483647) (k : ∀ z : Int32, z.toInt = X * Y → yT L iv M F G pc' lv (.int z :: r) h Q) : yT L iv M F G pc lv (.int y :: .int x :: r) h Q := by
  subst hp
  exact yT.p hf rfl (fun _ _ _ _ => rfl) (k _ (i32_mul px py hn))
/-! locals -/
theorem yT.il {i : Nat} (g : xget lv i = some (.int x)) (hf : xfet (xMt M) pc = some (.iload i, len, a, b)) (hp : pc + len = pc') (k : yT L iv M F G pc' lv (.int x :: st) h Q) : yT L iv M F G pc lv st h Q := by
  subst hp
  refine yT.p hf rfl (fun C cs sl fr => ?_) k
  show (match xget lv i with
    | some (.int x) => some ((pc + len, lv, Value.int x :: st, h, sl, fr), (([], cs) : xO))
    | some (.float x) => some ((pc + len, lv, .float x :: st, h, sl, fr), ([], cs))
    | _ => none) = _
  rw [g]
theorem yT.iln {i : Fin 4} (g : xget lv i = some (.int x)) (hf : xfet (xMt M) pc = some (.iload_n i, len, a, b)) (hp : pc + len = pc') (k : yT L iv M F G pc' lv (.int x :: st) h Q) : yT L iv M F G pc lv st h Q := by
  subst hp
  refine yT.p hf rfl (fun C cs sl fr => ?_) k
  show (match xget lv i with
    | some (.int x) => some ((pc + len, lv, Value.int x :: st, h, sl, fr), (([], cs) : xO))
    | some (.float x) => some ((pc + len, lv, .float x :: st, h, sl, fr), ([], cs))
    | _ => none) = _
  rw [g]
theorem yT.ll {i : Nat} {x : Int64} (g : xget lv i = some (.long x)) (hf : xfet (xMt M) pc = some (.lload i, len, a, b)) (hp : pc + len = pc') (k : yT L iv M F G pc' lv (.long x :: st) h Q) : yT L iv M F G pc lv st h Q := by
  subst hp
  refine yT.p hf rfl (fun C cs sl fr => ?_) k
  show (match xget lv i with
    | some (.long x) => some ((pc + len, lv, Value.long x :: st, h, sl, fr), (([], cs) : xO))
    | some (.double x) => some ((pc + len, lv, .double x :: st, h, sl, fr), ([], cs))
    | _ => none) = _
  rw [g]
theorem yT.lln {i : Fin 4} {x : Int64} (g : xget lv i = some (.long x)) (hf : xfet (xMt M) pc = some (.lload_n i, len, a, b)) (hp : pc + len = pc') (k : yT L iv M F G pc' lv (.long x :: st) h Q) : yT L iv M F G pc lv st h Q := by
  subst hp
  refine yT.p hf rfl (fun C cs sl fr => ?_) k
  show (match xget lv i with
    | some (.long x) => some ((pc + len, lv, Value.long x :: st, h, sl, fr), (([], cs) : xO))
    | some (.double x) => some ((pc + len, lv, .double x :: st, h, sl, fr), ([], cs))
    | _ => none) = _
  rw [g]
theorem xaload {lv : xLv} {i pc' : Nat} {v : Value} {st : List Value} {h : List xE} {sl fr : Nat} {cs : List Prop} (g : xget lv i = some v) (hv : vrf v = true) : (match xget lv i with
    | some (.ref x) => some ((pc', lv, .ref x :: st, h, sl, fr), (([], cs) : xO))
    | some .null => some ((pc', lv, .null :: st, h, sl, fr), ([], cs))
    | _ => none) = some ((pc', lv, v :: st, h, sl, fr), ([], cs)) := by
  rw [g]
  cases v <;> first | rfl | cases hv
theorem yT.aa_ {i : Nat} {v : Value} (g : xget lv i = some v) (hv : vrf v = true) (hf : xfet (xMt M) pc = some (.aload i, len, a, b)) (hp : pc + len = pc') (k : yT L iv M F G pc' lv (v :: st) h Q) : yT L iv M F G pc lv st h Q := by
  subst hp
  exact yT.p hf rfl (fun C cs sl fr => xaload g hv) k
theorem yT.aan {i : Fin 4} {v : Value} (g : xget lv i = some v) (hv : vrf v = true) (hf : xfet (xMt M) pc = some (.aload_n i, len, a, b)) (hp : pc + len = pc') (k : yT L iv M F G pc' lv (v :: st) h Q) : yT L iv M F G pc lv st h Q := by
  subst hp
  exact yT.p hf rfl (fun C cs sl fr => xaload g hv) k
theorem yT.iif {i : Nat} {n : Int} {z : Int32} (g : xget lv i = some (.int x)) (hz : x + Int32.ofInt n = z) (hf : xfet (xMt M) pc = some (.iinc i n, len, a, b)) (hi : Nat.blt i (xMn M) = true) (hp : pc + len = pc') (k : yT L iv M F G pc' (xst1 lv i (.int z)) st h Q) : yT L iv M F G pc lv st h Q := by
  subst hp; subst hz
  refine yT.p hf rfl (fun C cs sl fr => ?_) k
  show (bif Nat.blt i (xMn M) then (match xget lv i with
    | some (.int x) => some ((pc + len, xst1 lv i (.int (x + Int32.ofInt n)), st, h, sl, fr), (([], cs) : xO))
    | _ => none) else none) = _
  rw [g, hi]
  rfl
theorem yT.inc {i : Nat} {n : Int} (g : xget lv i = some (.int x)) (px : x.toInt = X) (hf : xfet (xMt M) pc = some (.iinc i n, len, a, b)) (hi : Nat.blt i (xMn M) = true) (hp : pc + len = pc') (hn : (-2147483648 ≤ n ∧ n ≤ 2147483647) ∧ (-2147483648 ≤ X + n ∧ X + n ≤ 2147483647)) (k : ∀ z : Int32, z.toInt = X + n → yT L iv M F G pc' (xst1 lv i (.int z)) st h Q) : yT L iv M F G pc lv st h Q := yT.iif g rfl hf hi hp (k _ (i32_add px (i32_c n hn.1) hn.2))
theorem yT.incF {i : Nat} {n : Int} (g : xget lv i = some (.int x)) (hf : xfet (xMt M) pc = some (.iinc i n, len, a, b)) (hi : Nat.blt i (xMn M) = true) (hp : pc + len = pc') (k : ∀ z : Int32, yT L iv M F G pc' (xst1 lv i (.int z)) st h Q) : yT L iv M F G pc lv st h Q := yT.iif g rfl hf hi hp (k _)
theorem yT.divF (py : y.toInt = Y) (hy : Y ≠ 0) (hf : xfet (xMt M) pc = some (.idiv, len, a, b)) (hp : pc + len = pc') (k : ∀ z : Int32, yT L iv M F G pc' lv (.int z :: r) h Q) : yT L iv M F G pc lv (.int y :: .int x :: r) h Q := yT.div (i32_ne0 py hy) hf hp (k _)
theorem yT.remF (py : y.toInt = Y) (hy : Y ≠ 0) (hf : xfet (xMt M) pc = some (.irem, len, a, b)) (hp : pc + len = pc') (k : ∀ z : Int32, yT L iv M F G pc' lv (.int z :: r) h Q) : yT L iv M F G pc lv (.int y :: .int x :: r) h Q := yT.rem (i32_ne0 py hy) hf hp (k _)
theorem yT.retI (hf : xfet (xMt M) pc = some (.ireturn, len, a, b)) (hm : xMr M = some .int) (hq : Q h (some (.int x))) : yT L iv M F G pc lv [.int x] h Q := by
  refine yT.ret hf rfl (fun cs sl fr => ?_) hq
  unfold xend
  dsimp only
  rw [hf]
  dsimp only
  rw [hm]
theorem yT.retL {x : Int64} (hf : xfet (xMt M) pc = some (.lreturn, len, a, b)) (hm : xMr M = some .long) (hq : Q h (some (.long x))) : yT L iv M F G pc lv [.long x] h Q := by
  refine yT.ret hf rfl (fun cs sl fr => ?_) hq
  unfold xend
  dsimp only
  rw [hf]
  dsimp only
  rw [hm]
theorem yT.retA {c : String} {v : Value} (hf : xfet (xMt M) pc = some (.areturn, len, a, b)) (hm : xMr M = some (.object c)) (hv : vrf v = true) (hq : Q h (some v)) : yT L iv M F G pc lv [v] h Q := by
  refine yT.ret hf rfl (fun cs sl fr => ?_) hq
  unfold xend
  dsimp only
  rw [hf]
  dsimp only
  rw [hm]
  cases v <;> first | rfl | cases hv
theorem yT.retV (hf : xfet (xMt M) pc = some (.return_, len, a, b)) (hm : xMr M = none) (hq : Q h none) : yT L iv M F G pc lv [] h Q := by
  refine yT.ret hf rfl (fun cs sl fr => ?_) hq
  unfold xend
  dsimp only
  rw [hf]
  dsimp only
  rw [hm]
end YS
theorem xnth_set {α : Type} {l : List α} {i : Nat} {x : α} (hi : i < l.length) : xnth (l.set i x) i = some x := by
  rw [xnth_eq, List.getElem?_set]
  simp [hi]
theorem xnth_set_ne {α : Type} {l : List α} {i j : Nat} {x : α} (hi : i ≠ j) : xnth (l.set i x) j = xnth l j := by
  rw [xnth_eq, xnth_eq, List.getElem?_set]
  simp [hi]
theorem xnth_some {α : Type} {l : List α} {i : Nat} (hi : i < l.length) : ∃ x, xnth l i = some x := ⟨l[i], by rw [xnth_eq]; exact List.getElem?_eq_some_iff.mpr ⟨hi, rfl⟩⟩
/-- from what the call leaves, on -/
def yC (L : Nat) (iv : List (Int × Int)) (M : xM) (F G pc : Nat) (lv : xLv) (st : List Value) (h : List xE) (Q Q' : yQ) (G2 pc' : Nat) (rest : List Value) : Prop := (∀ h' ret, Q' h' ret → yT L iv M F G2 pc' lv (ret.toList ++ rest) h' Q) → yT L iv M F G pc lv st h Q
section YH
variable {L : Nat} {iv : List (Int × Int)} {M : xM} {F G pc pc' len a b : Nat} {ins : Instr} {lv lv' : xLv} {st st' : List Value} {h h' : List xE} {Q : yQ} {r : List Value} {x y : Int32} {X Y : Int} {q : Nat}
theorem yT.cst {M' : xM} {as rest : List Value} {F' G1 G2 i : Nat} {Q' : yQ} (hf : xfet (xMt M) pc = some (.invokestatic i, len, a, b)) (hp' : pc + 3 = pc') (hM : xnth xMs a = some M') (hc : yM a F' G1 as h Q') (hp : xpop (xMp M') [] st = some (as, rest)) (hF : F' + 1 ≤ F) (hG : G1 + G2 ≤ G)
    (hg : (Nat.beq (b / 2) 1 && (Nat.ble b 6 && (Nat.ble (xcat rest) 8 && Nat.beq (xMk M') 1))) = true) : yC L iv M F G pc lv st h Q Q' G2 pc' rest := by
  intro k
  subst hp'
  exact yT.cs hM hc hp hF hG hg hf k
theorem yT.obj {i q : Nat} (hf : xfet (xMt M) pc = some (.invokespecial i, len, a, 9)) (hp : pc + 3 = pc') (hF : 1 ≤ F) (hr : Nat.ble (xcat r) 8 = true) (k : yT L iv M F G pc' lv r h Q) : yT L iv M F G pc lv (.ref q :: r) h Q := by
  subst hp
  intro sl fr
  obtain ⟨S, rr, z, k1, hf', hr', he, k2, k3, k4⟩ := k sl (Nat.max fr 1)
  refine ⟨S, rr, z, yTo.cons (d1 := 0) (fun n d m cs _ _ => xrun_S hf rfl ?_) k1, hf', hr', he, by omega, Nat.le_trans k3 (Nat.max_le.mpr ⟨Nat.max_le.mpr ⟨Nat.le_max_left _ _, Nat.le_trans hF (Nat.le_max_right _ _)⟩, Nat.le_max_right _ _⟩), k4⟩
  show (bif Nat.ble (xcat r) 8 then some ((pc + 3, lv, r, h, sl, Nat.max fr 1), (([], cs) : xO)) else none) = _
  rw [hr]
  rfl
theorem yT.tswJ {t : Nat} (k1 : yT L iv M F G t lv r h Q → yT L iv M F G pc lv (.int x :: r) h Q) (k2 : yT L iv M F G t lv r h Q) : yT L iv M F G pc lv (.int x :: r) h Q := k1 k2
end YH
