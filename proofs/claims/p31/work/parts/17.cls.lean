/-! more steps: every number a name of its own, with what is known of it -/
theorem xg_eq {lv : xLv} {i : Nat} {v : Value} : xget (xst1 lv i v) i = some v := by
  unfold xst1 xget
  rw [Nat.beq_refl]
  rfl
theorem xg2_eq {lv : xLv} {i : Nat} {v : Value} : xget (xst2 lv i v) i = some v := by
  unfold xst2 xget
  rw [Nat.beq_refl]
  rfl
theorem xg_flt {p : Nat × Value → Bool} {j : Nat} {w : Value} (hp : p (j, w) = true) : ∀ {lv : xLv}, xget lv j = some w → xget (lv.filter p) j = some w
  | [], h => h
  | (k, u) :: lv, h => by
    unfold xget at h
    cases hk : Nat.beq k j with
    | true =>
      have e := Nat.eq_of_beq_eq_true hk
      subst e
      dsimp only at h
      rw [hk] at h
      obtain rfl : u = w := by injection h
      rw [List.filter_cons, if_pos hp]
      unfold xget
      dsimp only
      rw [hk]
      rfl
    | false =>
      dsimp only at h
      rw [hk] at h
      have ih := xg_flt (lv := lv) hp h
      rw [List.filter_cons]
      cases hq : p (k, u) with
      | false => exact ih
      | true =>
        show xget ((k, u) :: lv.filter p) j = some w
        unfold xget
        dsimp only
        rw [hk]
        exact ih
theorem xg_ne {lv : xLv} {i j : Nat} {v w : Value} (g : xget lv j = some w) (h : (!(Nat.beq i j) && (!(j == i) && !(j + 1 == i && w.category == 2))) = true) : xget (xst1 lv i v) j = some w := by
  rw [Bool.and_eq_true] at h
  obtain ⟨h1, h2⟩ := h
  have h1' : Nat.beq i j = false := by
    cases hb : Nat.beq i j with
    | false => rfl
    | true => rw [hb] at h1; cases h1
  unfold xst1 xget
  dsimp only
  rw [h1']
  exact xg_flt (p := fun q => !(q.1 == i) && !(q.1 + 1 == i && q.2.category == 2)) h2 g
theorem xg2_ne {lv : xLv} {i j : Nat} {v w : Value} (g : xget lv j = some w) (h : (!(Nat.beq i j) && (!(j == i) && (!(j == i + 1) && !(j + 1 == i && w.category == 2)))) = true) : xget (xst2 lv i v) j = some w := by
  rw [Bool.and_eq_true] at h
  obtain ⟨h1, h2⟩ := h
  have h1' : Nat.beq i j = false := by
    cases hb : Nat.beq i j with
    | false => rfl
    | true => rw [hb] at h1; cases h1
  unfold xst2 xget
  dsimp only
  rw [h1']
  exact xg_flt (p := fun q => !(q.1 == i) && (!(q.1 == i + 1) && !(q.1 + 1 == i && q.2.category == 2))) h2 g
theorem i32_c8 (n : Int) (h : -128 ≤ n ∧ n ≤ 127) : (Int8.ofInt n).toInt32.toInt = n := by
  rw [Int8.toInt_toInt32, Int8.toInt_ofInt]
  show Int.bmod n 256 = n
  exact Int.bmod_eq_of_le (by omega) (by omega)
theorem i32_c16 (n : Int) (h : -32768 ≤ n ∧ n ≤ 32767) : (Int16.ofInt n).toInt32.toInt = n := by
  rw [Int16.toInt_toInt32, Int16.toInt_ofInt]
  show Int.bmod n 65536 = n
  exact Int.bmod_eq_of_le (by omega) (by omega)
theorem i32_c (n : Int) (h : -2147483648 ≤ n ∧ n ≤ 2147483647) : (Int32.ofInt n).toInt = n := by
  rw [Int32.toInt_ofInt]
  show Int.bmod n 4294967296 = n
  exact Int.bmod_eq_of_le (by omega) (by omega)
theorem b01 {x : Int32} (h0 : 0 ≤ x.toInt) (h1 : x.toInt ≤ 1) : x = 0 ∨ x = 1 := by
  by_cases h : x.toInt = 0
  · exact Or.inl (Int32.toInt_inj.mp h)
  · exact Or.inr (Int32.toInt_inj.mp (show x.toInt = 1 by omega))
theorem b01i {x : Int32} (h : x = 0 ∨ x = 1) : 0 ≤ x.toInt ∧ x.toInt ≤ 1 := by
  rcases h with rfl | rfl
  · exact ⟨by decide, by decide⟩
  · exact ⟨by decide, by decide⟩
theorem i32_ne0 {y : Int32} {Y : Int} (hy : y.toInt = Y) (h : Y ≠ 0) : y ≠ 0 := fun e => h (by rw [← hy, e]; rfl)
def vrf (v : Value) : Bool := match v with
  | .ref _ => true
  | .null => true
  | _ => false
theorem yM.st {a F G : Nat} {M : xM} {as : List Value} {h : List xE} {Q : yQ} (hM : xnth xMs a = some M) (hB : (Nat.beq a 254 || Nat.beq a 264) = false) (hc : Nat.ble (xcat as) (xMn M) = true) (k : ∀ lv : xLv, (∀ i v, xget (lv_args 0 as) i = some v → xget lv i = some v) → yT 0 [] M F G 0 lv [] h Q) : yM a F G as h Q :=
  yM.of hM hB hc rfl (k _ (fun _ _ h => h))
section YS
variable {L : Nat} {iv : List (Int × Int)} {M : xM} {F G pc pc' len a b : Nat} {ins : Instr} {lv lv' : xLv} {st st' : List Value} {h h' : List xE} {Q : yQ} {r : List Value} {x y : Int32} {X Y : Int}
theorem yT.fi {z : Int32} (hf : xfet (xMt M) pc = some (ins, len, a, b)) (hr : xisr ins = false) (hs : ∀ (C : xCT) (cs : List Prop) (sl fr : Nat), xstep L iv xMs C M ins len a b pc lv st h sl fr ([], cs) = some ((pc', lv, .int z :: r, h, sl, fr), ([], cs))) (k : ∀ z : Int32, yT L iv M F G pc' lv (.int z :: r) h Q) : yT L iv M F G pc lv st h Q := yT.p hf hr hs (k z)
theorem yT.fl {z : Int64} (hf : xfet (xMt M) pc = some (ins, len, a, b)) (hr : xisr ins = false) (hs : ∀ (C : xCT) (cs : List Prop) (sl fr : Nat), xstep L iv xMs C M ins len a b pc lv st h sl fr ([], cs) = some ((pc', lv, .long z :: r, h, sl, fr), ([], cs))) (k : ∀ z : Int64, yT L iv M F G pc' lv (.long z :: r) h Q) : yT L iv M F G pc lv st h Q := yT.p hf hr hs (k z)
theorem yT.kI {n : Int} (hf : xfet (xMt M) pc = some (.iconst n, len, a, b)) (hp : pc + len = pc') (hn : -2147483648 ≤ n ∧ n ≤ 2147483647) (k : ∀ z : Int32, z.toInt = n → yT L iv M F G pc' lv (.int z :: st) h Q) : yT L iv M F G pc lv st h Q := by
  subst hp
  exact yT.p hf rfl (fun _ _ _ _ => rfl) (k _ (i32_c n hn))
theorem yT.kb {n : Int} (hf : xfet (xMt M) pc = some (.bipush n, len, a, b)) (hp : pc + len = pc') (hn : -128 ≤ n ∧ n ≤ 127) (k : ∀ z : Int32, z.toInt = n → yT L iv M F G pc' lv (.int z :: st) h Q) : yT L iv M F G pc lv st h Q := by
  subst hp
  exact yT.p hf rfl (fun _ _ _ _ => rfl) (k _ (i32_c8 n hn))
theorem yT.ks {n : Int} (hf : xfet (xMt M) pc = some (.sipush n, len, a, b)) (hp : pc + len = pc') (hn : -32768 ≤ n ∧ n ≤ 32767) (k : ∀ z : Int32, z.toInt = n → yT L iv M F G pc' lv (.int z :: st) h Q) : yT L iv M F G pc lv st h Q := by
  subst hp
  exact yT.p hf rfl (fun _ _ _ _ => rfl) (k _ (i32_c16 n hn))
theorem yT.ad (px : x.toInt = X) (py : y.toInt = Y) (hf : xfet (xMt M) pc = some (.iadd, len, a, b)) (hp : pc + len = pc') (hn : -2147483648 ≤ X + Y ∧ X + Y ≤ 2147483647) (k : ∀ z : Int32, z.toInt = X + Y → yT L iv M F G pc' lv (.int z :: r) h Q) : yT L iv M F G pc lv (.int y :: .int x :: r) h Q := by
  subst hp
  exact yT.p hf rfl (fun _ _ _ _ => rfl) (k _ (i32_add px py hn))
theorem yT.sb (px : x.toInt = X) (py : y.toInt = Y) (hf : xfet (xMt M) pc = some (.isub, len, a, b)) (hp : pc + len = pc') (hn : -2147483648 ≤ X - Y ∧ X - Y ≤ 2147483647) (k : ∀ z : Int32, z.toInt = X - Y → yT L iv M F G pc' lv (.int z :: r) h Q) : yT L iv M F G pc lv (.int y :: .int x :: r) h Q := by
  subst hp
  exact yT.p hf rfl (fun _ _ _ _ => rfl) (k _ (i32_sub px py hn))
theorem yT.ml (px : x.toInt = X) (py : y.toInt = Y) (hf : xfet (xMt M) pc = some (.imul, len, a, b)) (hp : pc + len = pc') (hn : -2147483648 ≤ X * Y ∧ X * Y ≤ 2147483647) (k : ∀ z : Int32, z.toInt = X * Y → yT L iv M F G pc' lv (.int z :: r) h Q) : yT L iv M F G pc lv (.int y :: .int x :: r) h Q := by
  subst hp
  exact yT.p hf rfl (fun _ _ _ _ => rfl) (k _ (i32_mul px py hn))
/-! locals -/
theorem yT.il {i : Nat} (g : xget lv i = some (.int x)) (hf : xfet (xMt M) pc = some (.iload i, len, a, b)) (hp : pc + len = pc') (k : yT L iv M F G pc' lv (.int x :: st) h Q) : yT L iv M F G pc lv st h Q := by
  subst hp
  refine yT.p hf rfl (fun C cs sl fr => ?_) k
  show (match xget lv i with
    | some (.int x) => some ((pc + len, lv, Value.int x :: st, h, sl, fr), (([], cs) : xO))
    | some (.float x) => some ((pc + len, lv, .float x :: st, h, sl, fr), ([], cs))
    | _ => none) = _
  rw [g]
theorem yT.iln {i : Fin 4} (g : xget lv i = some (.int x)) (hf : xfet (xMt M) pc = some (.iload_n i, len, a, b)) (hp : pc + len = pc') (k : yT L iv M F G pc' lv (.int x :: st) h Q) : yT L iv M F G pc lv st h Q := by
  subst hp
  refine yT.p hf rfl (fun C cs sl fr => ?_) k
  show (match xget lv i with
    | some (.int x) => some ((pc + len, lv, Value.int x :: st, h, sl, fr), (([], cs) : xO))
    | some (.float x) => some ((pc + len, lv, .float x :: st, h, sl, fr), ([], cs))
    | _ => none) = _
  rw [g]
theorem yT.ll {i : Nat} {x : Int64} (g : xget lv i = some (.long x)) (hf : xfet (xMt M) pc = some (.lload i, len, a, b)) (hp : pc + len = pc') (k : yT L iv M F G pc' lv (.long x :: st) h Q) : yT L iv M F G pc lv st h Q := by
  subst hp
  refine yT.p hf rfl (fun C cs sl fr => ?_) k
  show (match xget lv i with
    | some (.long x) => some ((pc + len, lv, Value.long x :: st, h, sl, fr), (([], cs) : xO))
    | some (.double x) => some ((pc + len, lv, .double x :: st, h, sl, fr), ([], cs))
    | _ => none) = _
  rw [g]
theorem yT.lln {i : Fin 4} {x : Int64} (g : xget lv i = some (.long x)) (hf : xfet (xMt M) pc = some (.lload_n i, len, a, b)) (hp : pc + len = pc') (k : yT L iv M F G pc' lv (.long x :: st) h Q) : yT L iv M F G pc lv st h Q := by
  subst hp
  refine yT.p hf rfl (fun C cs sl fr => ?_) k
  show (match xget lv i with
    | some (.long x) => some ((pc + len, lv, Value.long x :: st, h, sl, fr), (([], cs) : xO))
    | some (.double x) => some ((pc + len, lv, .double x :: st, h, sl, fr), ([], cs))
    | _ => none) = _
  rw [g]
theorem xaload {lv : xLv} {i pc' : Nat} {v : Value} {st : List Value} {h : List xE} {sl fr : Nat} {cs : List Prop} (g : xget lv i = some v) (hv : vrf v = true) : (match xget lv i with
    | some (.ref x) => some ((pc', lv, .ref x :: st, h, sl, fr), (([], cs) : xO))
    | some .null => some ((pc', lv, .null :: st, h, sl, fr), ([], cs))
    | _ => none) = some ((pc', lv, v :: st, h, sl, fr), ([], cs)) := by
  rw [g]
  cases v <;> first | rfl | cases hv
theorem yT.aa_ {i : Nat} {v : Value} (g : xget lv i = some v) (hv : vrf v = true) (hf : xfet (xMt M) pc = some (.aload i, len, a, b)) (hp : pc + len = pc') (k : yT L iv M F G pc' lv (v :: st) h Q) : yT L iv M F G pc lv st h Q := by
  subst hp
  exact yT.p hf rfl (fun C cs sl fr => xaload g hv) k
theorem yT.aan {i : Fin 4} {v : Value} (g : xget lv i = some v) (hv : vrf v = true) (hf : xfet (xMt M) pc = some (.aload_n i, len, a, b)) (hp : pc + len = pc') (k : yT L iv M F G pc' lv (v :: st) h Q) : yT L iv M F G pc lv st h Q := by
  subst hp
  exact yT.p hf rfl (fun C cs sl fr => xaload g hv) k
theorem yT.iif {i : Nat} {n : Int} {z : Int32} (g : xget lv i = some (.int x)) (hz : x + Int32.ofInt n = z) (hf : xfet (xMt M) pc = some (.iinc i n, len, a, b)) (hi : Nat.blt i (xMn M) = true) (hp : pc + len = pc') (k : yT L iv M F G pc' (xst1 lv i (.int z)) st h Q) : yT L iv M F G pc lv st h Q := by
  subst hp; subst hz
  refine yT.p hf rfl (fun C cs sl fr => ?_) k
  show (bif Nat.blt i (xMn M) then (match xget lv i with
    | some (.int x) => some ((pc + len, xst1 lv i (.int (x + Int32.ofInt n)), st, h, sl, fr), (([], cs) : xO))
    | _ => none) else none) = _
  rw [g, hi]
  rfl
theorem yT.inc {i : Nat} {n : Int} (g : xget lv i = some (.int x)) (px : x.toInt = X) (hf : xfet (xMt M) pc = some (.iinc i n, len, a, b)) (hi : Nat.blt i (xMn M) = true) (hp : pc + len = pc') (hn : (-2147483648 ≤ n ∧ n ≤ 2147483647) ∧ (-2147483648 ≤ X + n ∧ X + n ≤ 2147483647)) (k : ∀ z : Int32, z.toInt = X + n → yT L iv M F G pc' (xst1 lv i (.int z)) st h Q) : yT L iv M F G pc lv st h Q := yT.iif g rfl hf hi hp (k _ (i32_add px (i32_c n hn.1) hn.2))
theorem yT.incF {i : Nat} {n : Int} (g : xget lv i = some (.int x)) (hf : xfet (xMt M) pc = some (.iinc i n, len, a, b)) (hi : Nat.blt i (xMn M) = true) (hp : pc + len = pc') (k : ∀ z : Int32, yT L iv M F G pc' (xst1 lv i (.int z)) st h Q) : yT L iv M F G pc lv st h Q := yT.iif g rfl hf hi hp (k _)
theorem yT.divF (py : y.toInt = Y) (hy : Y ≠ 0) (hf : xfet (xMt M) pc = some (.idiv, len, a, b)) (hp : pc + len = pc') (k : ∀ z : Int32, yT L iv M F G pc' lv (.int z :: r) h Q) : yT L iv M F G pc lv (.int y :: .int x :: r) h Q := yT.div (i32_ne0 py hy) hf hp (k _)
theorem yT.remF (py : y.toInt = Y) (hy : Y ≠ 0) (hf : xfet (xMt M) pc = some (.irem, len, a, b)) (hp : pc + len = pc') (k : ∀ z : Int32, yT L iv M F G pc' lv (.int z :: r) h Q) : yT L iv M F G pc lv (.int y :: .int x :: r) h Q := yT.rem (i32_ne0 py hy) hf hp (k _)
theorem yT.retI (hf : xfet (xMt M) pc = some (.ireturn, len, a, b)) (hm : xMr M = some .int) (hq : Q h (some (.int x))) : yT L iv M F G pc lv [.int x] h Q := by
  refine yT.ret hf rfl (fun cs sl fr => ?_) hq
  unfold xend
  dsimp only
  rw [hf]
  dsimp only
  rw [hm]
theorem yT.retL {x : Int64} (hf : xfet (xMt M) pc = some (.lreturn, len, a, b)) (hm : xMr M = some .long) (hq : Q h (some (.long x))) : yT L iv M F G pc lv [.long x] h Q := by
  refine yT.ret hf rfl (fun cs sl fr => ?_) hq
  unfold xend
  dsimp only
  rw [hf]
  dsimp only
  rw [hm]
theorem yT.retA {c : String} {v : Value} (hf : xfet (xMt M) pc = some (.areturn, len, a, b)) (hm : xMr M = some (.object c)) (hv : vrf v = true) (hq : Q h (some v)) : yT L iv M F G pc lv [v] h Q := by
  refine yT.ret hf rfl (fun cs sl fr => ?_) hq
  unfold xend
  dsimp only
  rw [hf]
  dsimp only
  rw [hm]
  cases v <;> first | rfl | cases hv
theorem yT.retV (hf : xfet (xMt M) pc = some (.return_, len, a, b)) (hm : xMr M = none) (hq : Q h none) : yT L iv M F G pc lv [] h Q := by
  refine yT.ret hf rfl (fun cs sl fr => ?_) hq
  unfold xend
  dsimp only
  rw [hf]
  dsimp only
  rw [hm]
end YS
/-! the class's heap by types -/
abbrev cT : Type := Nat × Nat
def cTab (N : Nat) : List (List (Nat × cT)) := [[], [], [], [], [], [], [], [], [],
  [(3, 1, 250), (7, 0, 250), (0, 0, 0)],
  [(3, 17, 0), (3, 2, 24), (3, 1, 24), (0, 0, 0), (0, 0, 0)],
  [(0, 0, 0), (0, 0, 0), (1, 0, 0), (1, 0, 0), (0, 0, 0), (2, 0, 0), (0, 0, 0), (2, 0, 0), (4, 12, 0), (3, 14, 24)],
  [(5, 0, 0), (5, 0, 0), (5, 0, 0), (5, 0, 0), (0, 0, 0), (2, 0, 0), (0, 0, 0), (1, 0, 0)],
  [(3, 14, 250), (3, 14, 250), (3, 14, 750), (3, 14, 250), (3, 14, 250), (3, 14, 250), (3, 14, 250), (6, 0, 750), (0, 0, 0), (0, 0, 0), (0, 0, 0), (1, 0, 0), (1, 0, 0)],
  [(3, 1, N), (6, 0, N), (0, 0, 0)],
  [(3, 17, 0)],
  [(3, 2, 40), (0, 0, 0), (0, 0, 0)],
  [(3, 3, 0), (3, 1, 24), (0, 0, 0), (3, 14, 24), (3, 14, 60), (3, 2, 60), (3, 14, 60), (7, 0, 1000000), (0, 0, 0)],
  [(8, 1, 0), (8, 11, 0), (7, 0, 1), (3, 15, 0), (3, 10, 0), (3, 13, 0), (8, 40, 0), (3, 4, 0), (3, 1, 5)],
  [(8, 61, 0), (8, 62, 0), (8, 63, 0), (8, 64, 0), (8, 65, 0), (8, 66, 0), (7, 0, 1), (8, 67, 0), (8, 68, 0), (8, 69, 0), (8, 70, 0), (8, 71, 0), (7, 0, 250), (7, 0, 1), (0, 0, 0), (8, 72, 0), (7, 0, 100000), (0, 0, 0), (8, 73, 0), (8, 74, 0), (0, 0, 0), (0, 0, 0), (7, 0, 1000), (7, 0, 250), (8, 75, 0), (7, 0, 2000), (8, 76, 0), (8, 77, 0), (8, 78, 0)]]
def cFs (t : cT) : List (Nat × cT) := match xnth (cTab t.2) t.1 with
  | some l => l
  | none => []
def fty (t : cT) (s : Nat) : Nat × cT := match xnth (cFs t) s with
  | some q => q
  | none => (9, 0, 0)
def cN (t : cT) : Nat := (cFs t).length
def cCl (t : cT) : Nat := match xnth [0, 0, 0, 0, 0, 0, 0, 0, 0, 4, 0, 1, 2, 3, 4, 5, 6, 7, 8, 9] t.1 with
  | some c => c
  | none => 0
def vOK (ks : List cT) (σ : Nat → Nat → Int32) (q s : Nat) (c : Nat × cT) (v : Value) : Prop := match c.1 with
  | 0 => ∃ x : Int32, v = .int x
  | 1 => ∃ x : Int32, v = .int x ∧ (x = 0 ∨ x = 1)
  | 2 => ∃ x : Int64, v = .long x
  | 3 => ∃ p, v = .ref (p + 1) ∧ xnth ks p = some c.2 ∧ Nat.beq c.2.1 0 = false
  | 4 => v = .null ∨ ∃ p, v = .ref (p + 1) ∧ xnth ks p = some c.2 ∧ Nat.beq c.2.1 0 = false
  | 5 => ∃ p N, v = .ref (p + 1) ∧ xnth ks p = some (14, N) ∧ N ≤ 750
  | 6 => ∃ x : Int32, v = .int x ∧ 0 ≤ x.toInt ∧ x.toInt ≤ (c.2.2 : Int)
  | 7 => ∃ x : Int32, v = .int x ∧ x = σ q s ∧ 0 ≤ x.toInt ∧ x.toInt ≤ (c.2.2 : Int)
  | 8 => v = .ref (c.2.1 + 1)
  | _ => False
def eOK (ks : List cT) (σ : Nat → Nat → Int32) (ρ : Nat → xE) (q : Nat) (t : cT) (e : xE) : Prop := match Nat.ble 9 t.1 with
  | true => ∃ fs : List Value, e = .inr (cCl t, fs) ∧ fs.length = cN t ∧ ∀ s, s < cN t → ∃ v, xnth fs s = some v ∧ vOK ks σ q s (fty t s) v
  | false => match t.1 with
    | 0 => e = ρ q
    | 1 => ∃ f : Nat → Int32, e = .inl (0, t.2, .inl f)
    | 2 => ∃ f : Nat → Int64, e = .inl (1, t.2, .inr (.inl f))
    | 3 => ∃ f : Nat → Option Nat, e = .inl (3, 24, .inr (.inr (.inr (.inr f)))) ∧ (∀ i, i < 24 → f i = none ∨ ∃ p, f i = some (p + 1) ∧ xnth ks p = some (11, 0)) ∧ ∀ i, σ q i = 1 → f i ≠ none
    | 4 => ∃ f : Nat → Option Nat, e = .inl (4, 8, .inr (.inr (.inr (.inr f)))) ∧ ∀ i, i < 8 → ∃ p, f i = some (p + 1) ∧ xnth ks p = some (16, 0)
    | 5 => e = .inl (0, t.2, .inl (σ q))
    | _ => e = .inl (2, t.2, .inl (σ q))
def HT (ks : List cT) (σ : Nat → Nat → Int32) (ρ : Nat → xE) (h : List xE) : Prop := h.length = ks.length ∧ ∀ q t, xnth ks q = some t → ∃ e, xnth h q = some e ∧ eOK ks σ ρ q t e
def FV (h : List xE) (q a b : Nat) (v : Value) : Prop := ∃ fs, xnth h q = some (.inr (a, fs)) ∧ xnth fs b = some v
theorem xnth_set {α : Type} {l : List α} {i : Nat} {x : α} (hi : i < l.length) : xnth (l.set i x) i = some x := by
  rw [xnth_eq, List.getElem?_set]
  simp [hi]
theorem xnth_set_ne {α : Type} {l : List α} {i j : Nat} {x : α} (hi : i ≠ j) : xnth (l.set i x) j = xnth l j := by
  rw [xnth_eq, xnth_eq, List.getElem?_set]
  simp [hi]
theorem xnth_some {α : Type} {l : List α} {i : Nat} (hi : i < l.length) : ∃ x, xnth l i = some x := ⟨l[i], by rw [xnth_eq]; exact List.getElem?_eq_some_iff.mpr ⟨hi, rfl⟩⟩
section HTs
variable {ks : List cT} {σ : Nat → Nat → Int32} {ρ : Nat → xE} {h h' : List xE} {q : Nat} {t : cT}
theorem HT.set {e : xE} (hT : HT ks σ ρ h) (ho : xnth ks q = some t) (he : eOK ks σ ρ q t e) : HT ks σ ρ (h.set q e) := by
  refine ⟨by rw [List.length_set]; exact hT.1, fun q' t' h' => ?_⟩
  by_cases hq : q = q'
  · subst hq
    rw [ho] at h'
    obtain rfl : t = t' := by injection h'
    exact ⟨e, xnth_set (by rw [hT.1]; exact xnth_lt ho), he⟩
  · rw [xnth_set_ne hq]
    exact hT.2 q' t' h'
theorem HT.obj (hT : HT ks σ ρ h) (ho : xnth ks q = some t) (h9 : Nat.ble 9 t.1 = true) : ∃ fs : List Value, xnth h q = some (.inr (cCl t, fs)) ∧ fs.length = cN t ∧ ∀ s, s < cN t → ∃ v, xnth fs s = some v ∧ vOK ks σ q s (fty t s) v := by
  obtain ⟨e, h1, h2⟩ := hT.2 q t ho
  unfold eOK at h2
  rw [h9] at h2
  obtain ⟨fs, rfl, h3, h4⟩ := h2
  exact ⟨fs, h1, h3, h4⟩
theorem HT.ia {n : Nat} (hT : HT ks σ ρ h) (ho : xnth ks q = some (1, n)) : ∃ f : Nat → Int32, xnth h q = some (.inl (0, n, .inl f)) := by
  obtain ⟨e, h1, f, rfl⟩ := hT.2 q _ ho
  exact ⟨f, h1⟩
theorem HT.la {n : Nat} (hT : HT ks σ ρ h) (ho : xnth ks q = some (2, n)) : ∃ f : Nat → Int64, xnth h q = some (.inl (1, n, .inr (.inl f))) := by
  obtain ⟨e, h1, f, rfl⟩ := hT.2 q _ ho
  exact ⟨f, h1⟩
theorem HT.ca (hT : HT ks σ ρ h) (ho : xnth ks q = some (3, 0)) : ∃ f : Nat → Option Nat, xnth h q = some (.inl (3, 24, .inr (.inr (.inr (.inr f))))) ∧ (∀ i, i < 24 → f i = none ∨ ∃ p, f i = some (p + 1) ∧ xnth ks p = some (11, 0)) ∧ ∀ i, σ q i = 1 → f i ≠ none := by
  obtain ⟨e, h1, f, rfl, h2⟩ := hT.2 q _ ho
  exact ⟨f, h1, h2⟩
theorem HT.sa (hT : HT ks σ ρ h) (ho : xnth ks q = some (4, 0)) : ∃ f : Nat → Option Nat, xnth h q = some (.inl (4, 8, .inr (.inr (.inr (.inr f))))) ∧ ∀ i, i < 8 → ∃ p, f i = some (p + 1) ∧ xnth ks p = some (16, 0) := by
  obtain ⟨e, h1, f, rfl, h2⟩ := hT.2 q _ ho
  exact ⟨f, h1, h2⟩
end HTs
section YH
variable {L : Nat} {iv : List (Int × Int)} {M : xM} {F G pc pc' len a b : Nat} {ins : Instr} {lv lv' : xLv} {st st' : List Value} {h h' : List xE} {Q : yQ} {r : List Value} {x y : Int32} {X Y : Int} {ks : List cT} {σ : Nat → Nat → Int32} {ρ : Nat → xE} {q : Nat} {t : cT}
theorem yT.cgf {i : Nat} (hf : xfet (xMt M) pc = some (.getfield i, len, a, b)) (hp : pc + len = pc') (hT : HT ks σ ρ h) (ho : xnth ks q = some t) (hg : (Nat.ble 9 t.1 && (Nat.beq (cCl t) a && Nat.blt b (cN t))) = true) (k : ∀ v, vOK ks σ q b (fty t b) v → FV h q a b v → yT L iv M F G pc' lv (v :: r) h Q) : yT L iv M F G pc lv (.ref (q + 1) :: r) h Q := by
  rw [Bool.and_eq_true, Bool.and_eq_true] at hg
  obtain ⟨h9, ha, hb⟩ := hg
  obtain ⟨fs, h1, h2, h3⟩ := hT.obj ho h9
  rw [Nat.eq_of_beq_eq_true ha] at h1
  obtain ⟨v, h4, h5⟩ := h3 b (Nat.le_of_ble_eq_true hb)
  exact yT.gf h1 h4 hf hp (k v h5 ⟨fs, h1, h4⟩)
theorem yT.cgk {i : Nat} {v : Value} (hf : xfet (xMt M) pc = some (.getfield i, len, a, b)) (hp : pc + len = pc') (w : FV h q a b v) (k : yT L iv M F G pc' lv (v :: r) h Q) : yT L iv M F G pc lv (.ref (q + 1) :: r) h Q := by
  obtain ⟨fs, h1, h2⟩ := w
  exact yT.gf h1 h2 hf hp k
theorem yT.cpf {i : Nat} {v : Value} (hf : xfet (xMt M) pc = some (.putfield i, len, a, b)) (hp : pc + len = pc') (hT : HT ks σ ρ h) (ho : xnth ks q = some t) (hg : (Nat.ble 9 t.1 && (Nat.beq (cCl t) a && Nat.blt b (cN t))) = true) (hv : vOK ks σ q b (fty t b) v) (hx : xfit (xTy a b) v = true) (k : ∀ h', HT ks σ ρ h' → FV h' q a b v → (∀ q' a' b' v', Nat.beq b b' = false → FV h q' a' b' v' → FV h' q' a' b' v') → yT L iv M F G pc' lv r h' Q) : yT L iv M F G pc lv (v :: .ref (q + 1) :: r) h Q := by
  rw [Bool.and_eq_true, Bool.and_eq_true] at hg
  obtain ⟨h9, ha, hb⟩ := hg
  obtain ⟨fs, h1, h2, h3⟩ := hT.obj ho h9
  have ha' := Nat.eq_of_beq_eq_true ha
  have hb' : b < cN t := Nat.le_of_ble_eq_true hb
  have hq := xnth_lt h1
  rw [ha'] at h1
  have hbf : b < fs.length := by rw [h2]; exact hb'
  refine yT.pf h1 (Nat.ble_eq_true_of_le hbf) hx hf hp (k _ ?_ ?_ ?_)
  · refine hT.set ho ?_
    unfold eOK
    rw [h9]
    refine ⟨fs.set b v, by rw [ha'], by rw [List.length_set]; exact h2, fun s hs => ?_⟩
    by_cases hbs : b = s
    · subst hbs
      exact ⟨v, xnth_set hbf, hv⟩
    · rw [xnth_set_ne hbs]
      exact h3 s hs
  · exact ⟨_, xnth_set hq, xnth_set hbf⟩
  · intro q' a' b' v' hn ⟨fs', e1, e2⟩
    by_cases hqq : q = q'
    · subst hqq
      rw [h1] at e1
      have e1 := Option.some.inj e1
      have e1 := Sum.inr.inj e1
      obtain ⟨rfl, rfl⟩ := Prod.mk.inj e1
      refine ⟨_, xnth_set hq, ?_⟩
      rw [xnth_set_ne (fun e => by subst e; rw [Nat.beq_refl] at hn; cases hn)]
      exact e2
    · exact ⟨fs', by rw [xnth_set_ne hqq]; exact e1, e2⟩
theorem FV.arr {h : List xE} {q : Nat} {w : Nat × vp_A} {w' : Nat × vp_A} (hw : xnth h q = some (.inl w)) : ∀ q' a' b' v', FV h q' a' b' v' → FV (h.set q (.inl w')) q' a' b' v' := by
  intro q' a' b' v' ⟨fs, e1, e2⟩
  by_cases hqq : q = q'
  · subst hqq
    rw [hw] at e1
    cases Option.some.inj e1
  · exact ⟨fs, by rw [xnth_set_ne hqq]; exact e1, e2⟩
theorem yT.cia {n : Nat} (hf : xfet (xMt M) pc = some (.iaload, len, a, b)) (hp : pc + len = pc') (hT : HT ks σ ρ h) (ho : xnth ks q = some (1, n)) (px : x.toInt = X) (hI : 0 ≤ X ∧ X < (n : Int)) (k : ∀ z : Int32, yT L iv M F G pc' lv (.int z :: r) h Q) : yT L iv M F G pc lv (.int x :: .ref (q + 1) :: r) h Q := by
  obtain ⟨f, h1⟩ := hT.ia ho
  exact yT.ia h1 px hI hf hp (k _)
theorem yT.cla {n : Nat} (hf : xfet (xMt M) pc = some (.laload, len, a, b)) (hp : pc + len = pc') (hT : HT ks σ ρ h) (ho : xnth ks q = some (2, n)) (px : x.toInt = X) (hI : 0 ≤ X ∧ X < (n : Int)) (k : ∀ z : Int64, yT L iv M F G pc' lv (.long z :: r) h Q) : yT L iv M F G pc lv (.int x :: .ref (q + 1) :: r) h Q := by
  obtain ⟨f, h1⟩ := hT.la ho
  exact yT.la h1 px hI hf hp (k _)
theorem yT.cis {n : Nat} (hf : xfet (xMt M) pc = some (.iastore, len, a, b)) (hp : pc + len = pc') (hT : HT ks σ ρ h) (ho : xnth ks q = some (1, n)) (px : x.toInt = X) (hI : 0 ≤ X ∧ X < (n : Int)) (k : ∀ h', HT ks σ ρ h' → (∀ q' a' b' v', FV h q' a' b' v' → FV h' q' a' b' v') → yT L iv M F G pc' lv r h' Q) : yT L iv M F G pc lv (.int y :: .int x :: .ref (q + 1) :: r) h Q := by
  obtain ⟨f, h1⟩ := hT.ia ho
  exact yT.is h1 px hI hf hp (k _ (hT.set ho ⟨_, rfl⟩) (FV.arr h1))
theorem yT.cls {n : Nat} {z : Int64} (hf : xfet (xMt M) pc = some (.lastore, len, a, b)) (hp : pc + len = pc') (hT : HT ks σ ρ h) (ho : xnth ks q = some (2, n)) (px : x.toInt = X) (hI : 0 ≤ X ∧ X < (n : Int)) (k : ∀ h', HT ks σ ρ h' → (∀ q' a' b' v', FV h q' a' b' v' → FV h' q' a' b' v') → yT L iv M F G pc' lv r h' Q) : yT L iv M F G pc lv (.long z :: .int x :: .ref (q + 1) :: r) h Q := by
  obtain ⟨f, h1⟩ := hT.la ho
  exact yT.ls h1 px hI hf hp (k _ (hT.set ho ⟨_, rfl⟩) (FV.arr h1))
theorem yT.cca (hf : xfet (xMt M) pc = some (.aaload, len, a, b)) (hp : pc + len = pc') (hT : HT ks σ ρ h) (ho : xnth ks q = some (3, 0)) (px : x.toInt = X) (hI : 0 ≤ X ∧ X < 24) (k0 : yT L iv M F G pc' lv (.null :: r) h Q) (k : ∀ p, xnth ks p = some (11, 0) → yT L iv M F G pc' lv (.ref (p + 1) :: r) h Q) : yT L iv M F G pc lv (.int x :: .ref (q + 1) :: r) h Q := by
  obtain ⟨f, h1, h2, -⟩ := hT.ca ho
  rcases h2 X.toNat (by omega) with e | ⟨p, e, o⟩
  · refine yT.aa h1 rfl px hI hf hp ?_
    rw [e]
    exact k0
  · refine yT.aa h1 rfl px hI hf hp ?_
    rw [e]
    exact k p o
theorem yT.csa (hf : xfet (xMt M) pc = some (.aaload, len, a, b)) (hp : pc + len = pc') (hT : HT ks σ ρ h) (ho : xnth ks q = some (4, 0)) (px : x.toInt = X) (hI : 0 ≤ X ∧ X < 8) (k : ∀ p, xnth ks p = some (16, 0) → yT L iv M F G pc' lv (.ref (p + 1) :: r) h Q) : yT L iv M F G pc lv (.int x :: .ref (q + 1) :: r) h Q := by
  obtain ⟨f, h1, h2⟩ := hT.sa ho
  obtain ⟨p, e, o⟩ := h2 X.toNat (by omega)
  refine yT.aa h1 rfl px hI hf hp ?_
  rw [e]
  exact k p o
def cLen (t : cT) : Option Nat := match t.1 with
  | 1 => some t.2
  | 2 => some t.2
  | 3 => some 24
  | 4 => some 8
  | 5 => some t.2
  | _ => none
theorem yT.cal {n : Nat} (hf : xfet (xMt M) pc = some (.arraylength, len, a, b)) (hp : pc + len = pc') (hT : HT ks σ ρ h) (ho : xnth ks q = some t) (hn : cLen t = some n) (h1 : n < 2147483648) (k : ∀ z : Int32, z.toInt = (n : Int) → yT L iv M F G pc' lv (.int z :: r) h Q) : yT L iv M F G pc lv (.ref (q + 1) :: r) h Q := by
  obtain ⟨t1, t2⟩ := t
  have hk := k _ (i32_nat h1)
  match t1, hn with
  | 1, hn =>
    obtain rfl : t2 = n := Option.some.inj hn
    obtain ⟨f, e⟩ := hT.ia ho
    exact yT.al e rfl hf hp hk
  | 2, hn =>
    obtain rfl : t2 = n := Option.some.inj hn
    obtain ⟨f, e⟩ := hT.la ho
    exact yT.al e rfl hf hp hk
  | 3, hn =>
    obtain rfl : 24 = n := Option.some.inj hn
    obtain ⟨e, h1, f, rfl, h2⟩ := hT.2 q _ ho
    exact yT.al h1 rfl hf hp hk
  | 4, hn =>
    obtain rfl : 8 = n := Option.some.inj hn
    obtain ⟨e, h1, f, rfl, h2⟩ := hT.2 q _ ho
    exact yT.al h1 rfl hf hp hk
  | 5, hn =>
    obtain rfl : t2 = n := Option.some.inj hn
    obtain ⟨e, h1, rfl⟩ := hT.2 q _ ho
    exact yT.al h1 rfl hf hp hk
/-! calls -/
def rOK (ks : List cT) (c : Nat × cT) (r : Option Value) : Prop := match Nat.beq c.1 9 with
  | true => r = none
  | false => ∃ v, r = some v ∧ vOK ks (fun _ _ => 0) 0 0 c v
def CQ (ks : List cT) (σ : Nat → Nat → Int32) (ρ : Nat → xE) (c : Nat × cT) (E : yQ) : yQ := fun h' r => HT ks σ ρ h' ∧ rOK ks c r ∧ E h' r
def yT0 : yQ := fun _ _ => True
/-- from what the call leaves, on -/
def yC (L : Nat) (iv : List (Int × Int)) (M : xM) (F G pc : Nat) (lv : xLv) (st : List Value) (h : List xE) (Q Q' : yQ) (G2 pc' : Nat) (rest : List Value) : Prop := (∀ h' ret, Q' h' ret → yT L iv M F G2 pc' lv (ret.toList ++ rest) h' Q) → yT L iv M F G pc lv st h Q
theorem yT.cc {M' : xM} {as rest : List Value} {F' G1 G2 : Nat} {Q' : yQ} (hf : xfet (xMt M) pc = some (ins, len, a, b)) (hI : (match ins with
      | .invokevirtual _ => true
      | .invokespecial _ => true
      | _ => false) = true) (hp' : pc + 3 = pc') (hT : HT ks σ ρ h) (ho : xnth ks q = some t) (hM : xnth xMs a = some M') (hc : yM a F' G1 (.ref (q + 1) :: as) h Q') (hp : xpop (xMp M' + 1) [] st = some (.ref (q + 1) :: as, rest)) (hF : F' + 1 ≤ F) (hG : G1 + G2 ≤ G)
    (hg : (Nat.beq (b / 2) (xMk M') && (Nat.ble b 6 && (Nat.ble (xcat rest) 8 && (!(Nat.beq (xMk M') 1) && (Nat.ble 9 t.1 && Nat.beq (cCl t) (xMo M')))))) = true) : yC L iv M F G pc lv st h Q Q' G2 pc' rest := by
  intro k
  subst hp'
  simp only [Bool.and_eq_true] at hg
  obtain ⟨g1, g2, g3, g4, g5, g6⟩ := hg
  obtain ⟨fs, h1, h2, h3⟩ := hT.obj ho g5
  exact yT.cv hM h1 hc hp hF hG (by rw [g1, g2, g3, g4, g6]; rfl) hf hI k
theorem yT.cst {M' : xM} {as rest : List Value} {F' G1 G2 i : Nat} {Q' : yQ} (hf : xfet (xMt M) pc = some (.invokestatic i, len, a, b)) (hp' : pc + 3 = pc') (hM : xnth xMs a = some M') (hc : yM a F' G1 as h Q') (hp : xpop (xMp M') [] st = some (as, rest)) (hF : F' + 1 ≤ F) (hG : G1 + G2 ≤ G)
    (hg : (Nat.beq (b / 2) 1 && (Nat.ble b 6 && (Nat.ble (xcat rest) 8 && Nat.beq (xMk M') 1))) = true) : yC L iv M F G pc lv st h Q Q' G2 pc' rest := by
  intro k
  subst hp'
  exact yT.cs hM hc hp hF hG hg hf k
variable {Q' E : yQ} {G2 : Nat} {rest : List Value} {t0 : cT}
theorem kV (c : yC L iv M F G pc lv st h Q (CQ ks σ ρ (9, t0) E) G2 pc' rest) (k : ∀ h', HT ks σ ρ h' → E h' none → yT L iv M F G2 pc' lv rest h' Q) : yT L iv M F G pc lv st h Q :=
  c (fun h' r kk => by
    obtain ⟨k1, k2, k3⟩ := kk
    have e : r = none := k2
    subst e
    exact k h' k1 k3)
theorem kI (c : yC L iv M F G pc lv st h Q (CQ ks σ ρ (0, t0) E) G2 pc' rest) (k : ∀ h' (x : Int32), HT ks σ ρ h' → E h' (some (.int x)) → yT L iv M F G2 pc' lv (.int x :: rest) h' Q) : yT L iv M F G pc lv st h Q :=
  c (fun h' r kk => by
    obtain ⟨k1, k2, k3⟩ := kk
    obtain ⟨v, rfl, x, rfl⟩ := k2
    exact k h' x k1 k3)
theorem kZ (c : yC L iv M F G pc lv st h Q (CQ ks σ ρ (1, t0) E) G2 pc' rest) (k : ∀ h' (x : Int32), HT ks σ ρ h' → E h' (some (.int x)) → (x = 0 ∨ x = 1) → yT L iv M F G2 pc' lv (.int x :: rest) h' Q) : yT L iv M F G pc lv st h Q :=
  c (fun h' r kk => by
    obtain ⟨k1, k2, k3⟩ := kk
    obtain ⟨v, rfl, x, rfl, h⟩ := k2
    exact k h' x k1 k3 h)
theorem kL (c : yC L iv M F G pc lv st h Q (CQ ks σ ρ (2, t0) E) G2 pc' rest) (k : ∀ h' (x : Int64), HT ks σ ρ h' → E h' (some (.long x)) → yT L iv M F G2 pc' lv (.long x :: rest) h' Q) : yT L iv M F G pc lv st h Q :=
  c (fun h' r kk => by
    obtain ⟨k1, k2, k3⟩ := kk
    obtain ⟨v, rfl, x, rfl⟩ := k2
    exact k h' x k1 k3)
theorem kR (c : yC L iv M F G pc lv st h Q (CQ ks σ ρ (3, t0) E) G2 pc' rest) (k : ∀ h' p, HT ks σ ρ h' → E h' (some (.ref (p + 1))) → xnth ks p = some t0 → yT L iv M F G2 pc' lv (.ref (p + 1) :: rest) h' Q) : yT L iv M F G pc lv st h Q :=
  c (fun h' r kk => by
    obtain ⟨k1, k2, k3⟩ := kk
    obtain ⟨v, rfl, x, rfl, h, -⟩ := k2
    exact k h' x k1 k3 h)
theorem kN (c : yC L iv M F G pc lv st h Q (CQ ks σ ρ (4, t0) E) G2 pc' rest) (k0 : ∀ h', HT ks σ ρ h' → E h' (some .null) → yT L iv M F G2 pc' lv (.null :: rest) h' Q) (k : ∀ h' p, HT ks σ ρ h' → E h' (some (.ref (p + 1))) → xnth ks p = some t0 → yT L iv M F G2 pc' lv (.ref (p + 1) :: rest) h' Q) : yT L iv M F G pc lv st h Q :=
  c (fun h' r kk => by
    obtain ⟨k1, k2, k3⟩ := kk
    obtain ⟨v, rfl, h⟩ := k2
    rcases h with rfl | ⟨p, rfl, o, -⟩
    · exact k0 h' k1 k3
    · exact k h' p k1 k3 o)
theorem kS {m : Nat} (c : yC L iv M F G pc lv st h Q (CQ ks σ ρ (6, 0, m) E) G2 pc' rest) (k : ∀ h' (x : Int32), HT ks σ ρ h' → E h' (some (.int x)) → 0 ≤ x.toInt → x.toInt ≤ (m : Int) → yT L iv M F G2 pc' lv (.int x :: rest) h' Q) : yT L iv M F G pc lv st h Q :=
  c (fun h' r kk => by
    obtain ⟨k1, k2, k3⟩ := kk
    obtain ⟨v, rfl, x, rfl, h1, h2⟩ := k2
    exact k h' x k1 k3 h1 h2)
/-! answers -/
theorem qV (hT : HT ks σ ρ h) (e : E h none) : CQ ks σ ρ (9, t0) E h none := And.intro hT (And.intro (show rOK ks (9, t0) none from (rfl : (none : Option Value) = none)) e)
theorem qI (hT : HT ks σ ρ h) (e : E h (some (.int x))) : CQ ks σ ρ (0, t0) E h (some (.int x)) := And.intro hT (And.intro (show rOK ks (0, t0) _ from (⟨_, rfl, _, rfl⟩ : ∃ v, some (Value.int x) = some v ∧ ∃ y : Int32, v = .int y)) e)
theorem qZ (hT : HT ks σ ρ h) (e : E h (some (.int x))) (hx : x = 0 ∨ x = 1) : CQ ks σ ρ (1, t0) E h (some (.int x)) := And.intro hT (And.intro (show rOK ks (1, t0) _ from (⟨_, rfl, _, rfl, hx⟩ : ∃ v, some (Value.int x) = some v ∧ ∃ y : Int32, v = .int y ∧ (y = 0 ∨ y = 1))) e)
theorem qL {z : Int64} (hT : HT ks σ ρ h) (e : E h (some (.long z))) : CQ ks σ ρ (2, t0) E h (some (.long z)) := And.intro hT (And.intro (show rOK ks (2, t0) _ from (⟨_, rfl, _, rfl⟩ : ∃ v, some (Value.long z) = some v ∧ ∃ y : Int64, v = .long y)) e)
theorem qR {p : Nat} (hT : HT ks σ ρ h) (e : E h (some (.ref (p + 1)))) (o : xnth ks p = some t0) (n : Nat.beq t0.1 0 = false) : CQ ks σ ρ (3, t0) E h (some (.ref (p + 1))) := And.intro hT (And.intro (show rOK ks (3, t0) _ from (⟨_, rfl, _, rfl, o, n⟩ : ∃ v, some (Value.ref (p + 1)) = some v ∧ ∃ p, v = .ref (p + 1) ∧ xnth ks p = some t0 ∧ Nat.beq t0.1 0 = false)) e)
theorem qN0 (hT : HT ks σ ρ h) (e : E h (some .null)) : CQ ks σ ρ (4, t0) E h (some .null) := And.intro hT (And.intro (show rOK ks (4, t0) _ from (⟨_, rfl, Or.inl rfl⟩ : ∃ v, some Value.null = some v ∧ (v = .null ∨ ∃ p, v = .ref (p + 1) ∧ xnth ks p = some t0 ∧ Nat.beq t0.1 0 = false))) e)
theorem qN {p : Nat} (hT : HT ks σ ρ h) (e : E h (some (.ref (p + 1)))) (o : xnth ks p = some t0) (n : Nat.beq t0.1 0 = false) : CQ ks σ ρ (4, t0) E h (some (.ref (p + 1))) := And.intro hT (And.intro (show rOK ks (4, t0) _ from (⟨_, rfl, Or.inr ⟨_, rfl, o, n⟩⟩ : ∃ v, some (Value.ref (p + 1)) = some v ∧ (v = .null ∨ ∃ p, v = .ref (p + 1) ∧ xnth ks p = some t0 ∧ Nat.beq t0.1 0 = false))) e)
theorem qS {m : Nat} (hT : HT ks σ ρ h) (e : E h (some (.int x))) (h0 : 0 ≤ x.toInt) (h1 : x.toInt ≤ (m : Int)) : CQ ks σ ρ (6, 0, m) E h (some (.int x)) := And.intro hT (And.intro (show rOK ks (6, 0, m) _ from (⟨_, rfl, _, rfl, h0, h1⟩ : ∃ v, some (Value.int x) = some v ∧ ∃ y : Int32, v = .int y ∧ 0 ≤ y.toInt ∧ y.toInt ≤ (m : Int))) e)
/-! fields by kinds -/
theorem yT.cgI {i : Nat} (hf : xfet (xMt M) pc = some (.getfield i, len, a, b)) (hp : pc + len = pc') (hT : HT ks σ ρ h) (ho : xnth ks q = some t) (hg : (Nat.ble 9 t.1 && (Nat.beq (cCl t) a && Nat.blt b (cN t))) = true) (hk : fty t b = (0, t0)) (k : ∀ x : Int32, FV h q a b (.int x) → yT L iv M F G pc' lv (.int x :: r) h Q) : yT L iv M F G pc lv (.ref (q + 1) :: r) h Q :=
  yT.cgf hf hp hT ho hg (fun v hv w => by
    rw [hk] at hv
    obtain ⟨x, rfl⟩ := hv
    exact k x w)
theorem yT.cgZ {i : Nat} (hf : xfet (xMt M) pc = some (.getfield i, len, a, b)) (hp : pc + len = pc') (hT : HT ks σ ρ h) (ho : xnth ks q = some t) (hg : (Nat.ble 9 t.1 && (Nat.beq (cCl t) a && Nat.blt b (cN t))) = true) (hk : fty t b = (1, t0)) (k : ∀ x : Int32, FV h q a b (.int x) → (x = 0 ∨ x = 1) → yT L iv M F G pc' lv (.int x :: r) h Q) : yT L iv M F G pc lv (.ref (q + 1) :: r) h Q :=
  yT.cgf hf hp hT ho hg (fun v hv w => by
    rw [hk] at hv
    obtain ⟨x, rfl, hx⟩ := hv
    exact k x w hx)
theorem yT.cgL {i : Nat} (hf : xfet (xMt M) pc = some (.getfield i, len, a, b)) (hp : pc + len = pc') (hT : HT ks σ ρ h) (ho : xnth ks q = some t) (hg : (Nat.ble 9 t.1 && (Nat.beq (cCl t) a && Nat.blt b (cN t))) = true) (hk : fty t b = (2, t0)) (k : ∀ x : Int64, FV h q a b (.long x) → yT L iv M F G pc' lv (.long x :: r) h Q) : yT L iv M F G pc lv (.ref (q + 1) :: r) h Q :=
  yT.cgf hf hp hT ho hg (fun v hv w => by
    rw [hk] at hv
    obtain ⟨x, rfl⟩ := hv
    exact k x w)
theorem yT.cgR {i : Nat} (hf : xfet (xMt M) pc = some (.getfield i, len, a, b)) (hp : pc + len = pc') (hT : HT ks σ ρ h) (ho : xnth ks q = some t) (hg : (Nat.ble 9 t.1 && (Nat.beq (cCl t) a && Nat.blt b (cN t))) = true) (hk : fty t b = (3, t0)) (k : ∀ p, FV h q a b (.ref (p + 1)) → xnth ks p = some t0 → yT L iv M F G pc' lv (.ref (p + 1) :: r) h Q) : yT L iv M F G pc lv (.ref (q + 1) :: r) h Q :=
  yT.cgf hf hp hT ho hg (fun v hv w => by
    rw [hk] at hv
    obtain ⟨p, rfl, o, -⟩ := hv
    exact k p w o)
theorem yT.cgN {i : Nat} (hf : xfet (xMt M) pc = some (.getfield i, len, a, b)) (hp : pc + len = pc') (hT : HT ks σ ρ h) (ho : xnth ks q = some t) (hg : (Nat.ble 9 t.1 && (Nat.beq (cCl t) a && Nat.blt b (cN t))) = true) (hk : fty t b = (4, t0)) (k0 : FV h q a b .null → yT L iv M F G pc' lv (.null :: r) h Q) (k : ∀ p, FV h q a b (.ref (p + 1)) → xnth ks p = some t0 → yT L iv M F G pc' lv (.ref (p + 1) :: r) h Q) : yT L iv M F G pc lv (.ref (q + 1) :: r) h Q :=
  yT.cgf hf hp hT ho hg (fun v hv w => by
    rw [hk] at hv
    rcases hv with rfl | ⟨p, rfl, o, -⟩
    · exact k0 w
    · exact k p w o)
theorem yT.cgA {i : Nat} (hf : xfet (xMt M) pc = some (.getfield i, len, a, b)) (hp : pc + len = pc') (hT : HT ks σ ρ h) (ho : xnth ks q = some t) (hg : (Nat.ble 9 t.1 && (Nat.beq (cCl t) a && Nat.blt b (cN t))) = true) (hk : fty t b = (5, t0)) (k : ∀ p N, FV h q a b (.ref (p + 1)) → xnth ks p = some (14, N) → N ≤ 750 → yT L iv M F G pc' lv (.ref (p + 1) :: r) h Q) : yT L iv M F G pc lv (.ref (q + 1) :: r) h Q :=
  yT.cgf hf hp hT ho hg (fun v hv w => by
    rw [hk] at hv
    obtain ⟨p, N, rfl, o, hN⟩ := hv
    exact k p N w o hN)
theorem yT.cgS {i m : Nat} (hf : xfet (xMt M) pc = some (.getfield i, len, a, b)) (hp : pc + len = pc') (hT : HT ks σ ρ h) (ho : xnth ks q = some t) (hg : (Nat.ble 9 t.1 && (Nat.beq (cCl t) a && Nat.blt b (cN t))) = true) (hk : fty t b = (6, 0, m)) (k : ∀ x : Int32, FV h q a b (.int x) → 0 ≤ x.toInt → x.toInt ≤ (m : Int) → yT L iv M F G pc' lv (.int x :: r) h Q) : yT L iv M F G pc lv (.ref (q + 1) :: r) h Q :=
  yT.cgf hf hp hT ho hg (fun v hv w => by
    rw [hk] at hv
    obtain ⟨x, rfl, h0, h1⟩ := hv
    exact k x w h0 h1)
theorem yT.cgX {i m : Nat} (hf : xfet (xMt M) pc = some (.getfield i, len, a, b)) (hp : pc + len = pc') (hT : HT ks σ ρ h) (ho : xnth ks q = some t) (hg : (Nat.ble 9 t.1 && (Nat.beq (cCl t) a && Nat.blt b (cN t))) = true) (hk : fty t b = (7, 0, m)) (k : ∀ x : Int32, FV h q a b (.int x) → 0 ≤ x.toInt → x.toInt ≤ (m : Int) → x = σ q b → yT L iv M F G pc' lv (.int x :: r) h Q) : yT L iv M F G pc lv (.ref (q + 1) :: r) h Q :=
  yT.cgf hf hp hT ho hg (fun v hv w => by
    rw [hk] at hv
    obtain ⟨x, rfl, hx, h0, h1⟩ := hv
    exact k x w h0 h1 hx)
theorem yT.cpI {i : Nat} (hf : xfet (xMt M) pc = some (.putfield i, len, a, b)) (hp : pc + len = pc') (hT : HT ks σ ρ h) (ho : xnth ks q = some t) (hg : (Nat.ble 9 t.1 && (Nat.beq (cCl t) a && Nat.blt b (cN t))) = true) (hk : fty t b = (0, t0)) (ht : xTy a b = .int) (k : ∀ h', HT ks σ ρ h' → FV h' q a b (.int x) → (∀ q' a' b' v', Nat.beq b b' = false → FV h q' a' b' v' → FV h' q' a' b' v') → yT L iv M F G pc' lv r h' Q) : yT L iv M F G pc lv (.int x :: .ref (q + 1) :: r) h Q :=
  yT.cpf hf hp hT ho hg (by rw [hk]; exact (⟨_, rfl⟩ : ∃ y : Int32, Value.int x = .int y)) (by rw [ht]; rfl) k
theorem yT.cpZ {i : Nat} (hf : xfet (xMt M) pc = some (.putfield i, len, a, b)) (hp : pc + len = pc') (hT : HT ks σ ρ h) (ho : xnth ks q = some t) (hg : (Nat.ble 9 t.1 && (Nat.beq (cCl t) a && Nat.blt b (cN t))) = true) (hk : fty t b = (1, t0)) (ht : xTy a b = .boolean) (hx : x = 0 ∨ x = 1) (k : ∀ h', HT ks σ ρ h' → FV h' q a b (.int x) → (∀ q' a' b' v', Nat.beq b b' = false → FV h q' a' b' v' → FV h' q' a' b' v') → yT L iv M F G pc' lv r h' Q) : yT L iv M F G pc lv (.int x :: .ref (q + 1) :: r) h Q :=
  yT.cpf hf hp hT ho hg (by rw [hk]; exact (⟨_, rfl, hx⟩ : ∃ y : Int32, Value.int x = .int y ∧ (y = 0 ∨ y = 1))) (by rw [ht]; rcases hx with rfl | rfl <;> rfl) k
theorem yT.cpL {i : Nat} {z : Int64} (hf : xfet (xMt M) pc = some (.putfield i, len, a, b)) (hp : pc + len = pc') (hT : HT ks σ ρ h) (ho : xnth ks q = some t) (hg : (Nat.ble 9 t.1 && (Nat.beq (cCl t) a && Nat.blt b (cN t))) = true) (hk : fty t b = (2, t0)) (ht : xTy a b = .long) (k : ∀ h', HT ks σ ρ h' → FV h' q a b (.long z) → (∀ q' a' b' v', Nat.beq b b' = false → FV h q' a' b' v' → FV h' q' a' b' v') → yT L iv M F G pc' lv r h' Q) : yT L iv M F G pc lv (.long z :: .ref (q + 1) :: r) h Q :=
  yT.cpf hf hp hT ho hg (by rw [hk]; exact (⟨_, rfl⟩ : ∃ y : Int64, Value.long z = .long y)) (by rw [ht]; rfl) k
theorem yT.cpN {i : Nat} {v : Value} {c : String} (hf : xfet (xMt M) pc = some (.putfield i, len, a, b)) (hp : pc + len = pc') (hT : HT ks σ ρ h) (ho : xnth ks q = some t) (hg : (Nat.ble 9 t.1 && (Nat.beq (cCl t) a && Nat.blt b (cN t))) = true) (hk : fty t b = (4, t0)) (ht : xTy a b = .object c) (hv : v = .null ∨ ∃ p, v = .ref (p + 1) ∧ xnth ks p = some t0) (hn : Nat.beq t0.1 0 = false) (k : ∀ h', HT ks σ ρ h' → FV h' q a b v → (∀ q' a' b' v', Nat.beq b b' = false → FV h q' a' b' v' → FV h' q' a' b' v') → yT L iv M F G pc' lv r h' Q) : yT L iv M F G pc lv (v :: .ref (q + 1) :: r) h Q :=
  yT.cpf hf hp hT ho hg (by rw [hk]; exact (hv.imp id (fun ⟨p, e, o⟩ => ⟨p, e, o, hn⟩) : v = .null ∨ ∃ p, v = .ref (p + 1) ∧ xnth ks p = some t0 ∧ Nat.beq t0.1 0 = false)) (by rw [ht]; rcases hv with rfl | ⟨p, rfl, o⟩ <;> rfl) k
theorem yT.cpS {i m : Nat} (hf : xfet (xMt M) pc = some (.putfield i, len, a, b)) (hp : pc + len = pc') (hT : HT ks σ ρ h) (ho : xnth ks q = some t) (hg : (Nat.ble 9 t.1 && (Nat.beq (cCl t) a && Nat.blt b (cN t))) = true) (hk : fty t b = (6, 0, m)) (ht : xTy a b = .int) (px : x.toInt = X) (hx : 0 ≤ X ∧ X ≤ (m : Int)) (k : ∀ h', HT ks σ ρ h' → FV h' q a b (.int x) → (∀ q' a' b' v', Nat.beq b b' = false → FV h q' a' b' v' → FV h' q' a' b' v') → yT L iv M F G pc' lv r h' Q) : yT L iv M F G pc lv (.int x :: .ref (q + 1) :: r) h Q :=
  yT.cpf hf hp hT ho hg (by rw [hk]; subst px; exact (⟨_, rfl, hx.1, hx.2⟩ : ∃ y : Int32, Value.int x = .int y ∧ 0 ≤ y.toInt ∧ y.toInt ≤ (m : Int))) (by rw [ht]; rfl) k
/-- Object.<init> -/
theorem yT.obj {i q : Nat} (hf : xfet (xMt M) pc = some (.invokespecial i, len, a, 9)) (hp : pc + 3 = pc') (hF : 1 ≤ F) (hr : Nat.ble (xcat r) 8 = true) (k : yT L iv M F G pc' lv r h Q) : yT L iv M F G pc lv (.ref q :: r) h Q := by
  subst hp
  intro sl fr
  obtain ⟨S, rr, z, k1, hf', hr', he, k2, k3, k4⟩ := k sl (Nat.max fr 1)
  refine ⟨S, rr, z, yTo.cons (d1 := 0) (fun n d m cs _ _ => xrun_S hf rfl ?_) k1, hf', hr', he, by omega, Nat.le_trans k3 (Nat.max_le.mpr ⟨Nat.max_le.mpr ⟨Nat.le_max_left _ _, Nat.le_trans hF (Nat.le_max_right _ _)⟩, Nat.le_max_right _ _⟩), k4⟩
  show (bif Nat.ble (xcat r) 8 then some ((pc + 3, lv, r, h, sl, Nat.max fr 1), (([], cs) : xO)) else none) = _
  rw [hr]
  rfl
/-- Math.max -/
theorem yT.mx {i : Nat} (hf : xfet (xMt M) pc = some (.invokestatic i, len, a, 7)) (hp : pc + 3 = pc') (hF : 1 ≤ F) (hr : Nat.ble (xcat r) 8 = true) (k : ∀ z : Int32, (z = x ∨ z = y) → yT L iv M F G pc' lv (.int z :: r) h Q) : yT L iv M F G pc lv (.int y :: .int x :: r) h Q := by
  subst hp
  intro sl fr
  obtain ⟨S, rr, z, k1, hf', hr', he, k2, k3, k4⟩ := k (if x < y then y else x) (by split; exact Or.inr rfl; exact Or.inl rfl) sl (Nat.max fr 1)
  refine ⟨S, rr, z, yTo.cons (d1 := 0) (fun n d m cs _ _ => xrun_S hf rfl ?_) k1, hf', hr', he, by omega, Nat.le_trans k3 (Nat.max_le.mpr ⟨Nat.max_le.mpr ⟨Nat.le_max_left _ _, Nat.le_trans hF (Nat.le_max_right _ _)⟩, Nat.le_max_right _ _⟩), k4⟩
  show (bif Nat.ble (xcat r) 8 then some ((pc + 3, lv, Value.int (if x < y then y else x) :: r, h, sl, Nat.max fr 1), (([], cs) : xO)) else none) = _
  rw [hr]
  rfl
theorem yT.mn {i : Nat} (hf : xfet (xMt M) pc = some (.invokestatic i, len, a, 8)) (hp : pc + 3 = pc') (hF : 1 ≤ F) (hr : Nat.ble (xcat r) 8 = true) (k : ∀ z : Int32, z = (if y < x then y else x) → yT L iv M F G pc' lv (.int z :: r) h Q) : yT L iv M F G pc lv (.int y :: .int x :: r) h Q := by
  subst hp
  intro sl fr
  obtain ⟨S, rr, z, k1, hf', hr', he, k2, k3, k4⟩ := k _ rfl sl (Nat.max fr 1)
  refine ⟨S, rr, z, yTo.cons (d1 := 0) (fun n d m cs _ _ => xrun_S hf rfl ?_) k1, hf', hr', he, by omega, Nat.le_trans k3 (Nat.max_le.mpr ⟨Nat.max_le.mpr ⟨Nat.le_max_left _ _, Nat.le_trans hF (Nat.le_max_right _ _)⟩, Nat.le_max_right _ _⟩), k4⟩
  show (bif Nat.ble (xcat r) 8 then some ((pc + 3, lv, Value.int (if y < x then y else x) :: r, h, sl, Nat.max fr 1), (([], cs) : xO)) else none) = _
  rw [hr]
  rfl
theorem yT.tswJ {t : Nat} (k1 : yT L iv M F G t lv r h Q → yT L iv M F G pc lv (.int x :: r) h Q) (k2 : yT L iv M F G t lv r h Q) : yT L iv M F G pc lv (.int x :: r) h Q := k1 k2
end YH
