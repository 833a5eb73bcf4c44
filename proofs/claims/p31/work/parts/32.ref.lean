/-! the reference's side: tracked rows, what calls leave -/
abbrev sg : Type := Nat → Nat → Int32
/-- what the row of all cells says at a place -/
def nw (σ : sg) (i : Nat) : Int := (σ 61 i).toInt
theorem nw_rng (σ : sg) (i : Nat) : -2147483648 ≤ nw σ i ∧ nw σ i ≤ 2147483647 := i32_rng _
theorem nw_us {σ : sg} {i j : Nat} {v : Int32} (h : j ≠ i) : nw (us σ 61 i v) j = nw σ j := congrArg Int32.toInt (us_ne (fun e => h e.2))
theorem nw_at {σ : sg} {i : Nat} {v : Int32} : nw (us σ 61 i v) i = v.toInt := congrArg Int32.toInt us_eq
theorem nw_o {σ : sg} {q i j : Nat} {v : Int32} (h : q ≠ 61) : nw (us σ q i v) j = nw σ j := congrArg Int32.toInt (us_ne (fun e => h e.1.symm))
def SQI (ks : List cT) (σ : sg) (ρ : Nat → xE) (P : Int32 → Prop) : yQ := fun h' r => HT ks σ ρ h' ∧ ∃ x, r = some (.int x) ∧ P x
def SQL (ks : List cT) (σ : sg) (ρ : Nat → xE) (P : Int64 → Prop) : yQ := fun h' r => HT ks σ ρ h' ∧ ∃ x, r = some (.long x) ∧ P x
def SQV (ks : List cT) (σ : sg) (ρ : Nat → xE) : yQ := fun h' r => HT ks σ ρ h' ∧ r = none
def RQI (ks : List cT) (ρ : Nat → xE) (P : sg → Int32 → Prop) : yQ := fun h' r => ∃ σ', HT ks σ' ρ h' ∧ ∃ x, r = some (.int x) ∧ P σ' x
def RQL (ks : List cT) (ρ : Nat → xE) (P : sg → Int64 → Prop) : yQ := fun h' r => ∃ σ', HT ks σ' ρ h' ∧ ∃ x, r = some (.long x) ∧ P σ' x
def RQV (ks : List cT) (ρ : Nat → xE) (P : sg → Prop) : yQ := fun h' r => ∃ σ', HT ks σ' ρ h' ∧ r = none ∧ P σ'
theorem i64_ext {x y : Int64} (h : x.toInt = y.toInt) : x = y := Int64.toInt_inj.mp h
theorem i64_c (n : Int) (h : -9223372036854775808 ≤ n ∧ n ≤ 9223372036854775807) : (Int64.ofInt n).toInt = n := by
  rw [Int64.toInt_ofInt]
  show Int.bmod n 18446744073709551616 = n
  exact Int.bmod_eq_of_le (by omega) (by omega)
theorem lcmpF (x y : Int64) : ((lg_cmp x y).toInt < 0 ↔ x.toInt < y.toInt) ∧ ((lg_cmp x y).toInt = 0 ↔ x.toInt = y.toInt) ∧ (0 < (lg_cmp x y).toInt ↔ y.toInt < x.toInt) := by
  by_cases h1 : x > y
  · have h2 : y.toInt < x.toInt := Int64.lt_iff_toInt_lt.mp h1
    have e : lg_cmp x y = 1 := by
      unfold lg_cmp
      rw [if_pos h1]
    rw [e, show (1 : Int32).toInt = 1 from rfl]
    omega
  · have h2 : ¬ y.toInt < x.toInt := fun h => h1 (Int64.lt_iff_toInt_lt.mpr h)
    by_cases h3 : x = y
    · have e : lg_cmp x y = 0 := by
        unfold lg_cmp
        rw [if_neg h1, if_pos h3]
      rw [e, h3, show (0 : Int32).toInt = 0 from rfl]
      omega
    · have h4 : x.toInt ≠ y.toInt := fun h => h3 (i64_ext h)
      have e : lg_cmp x y = -1 := by
        unfold lg_cmp
        rw [if_neg h1, if_neg h3]
      rw [e, show (-1 : Int32).toInt = -1 from rfl]
      omega
section YR
variable {L : Nat} {iv : List (Int × Int)} {M : xM} {F G pc pc' len a b : Nat} {ins : Instr} {lv lv' : xLv} {st st' : List Value} {h h' : List xE} {Q Q' : yQ} {r rest : List Value} {x y : Int32} {X Y Z : Int} {ks : List cT} {σ : sg} {ρ : Nat → xE} {q G2 : Nat} {t : cT}
theorem kSI {P : Int32 → Prop} (c : yC L iv M F G pc lv st h Q (SQI ks σ ρ P) G2 pc' rest) (k : ∀ h' x, HT ks σ ρ h' → P x → yT L iv M F G2 pc' lv (.int x :: rest) h' Q) : yT L iv M F G pc lv st h Q :=
  c (fun h' r ⟨k1, x, e, k2⟩ => by subst e; exact k h' x k1 k2)
theorem kSL {P : Int64 → Prop} (c : yC L iv M F G pc lv st h Q (SQL ks σ ρ P) G2 pc' rest) (k : ∀ h' x, HT ks σ ρ h' → P x → yT L iv M F G2 pc' lv (.long x :: rest) h' Q) : yT L iv M F G pc lv st h Q :=
  c (fun h' r ⟨k1, x, e, k2⟩ => by subst e; exact k h' x k1 k2)
theorem kSV (c : yC L iv M F G pc lv st h Q (SQV ks σ ρ) G2 pc' rest) (k : ∀ h', HT ks σ ρ h' → yT L iv M F G2 pc' lv rest h' Q) : yT L iv M F G pc lv st h Q :=
  c (fun h' r ⟨k1, e⟩ => by subst e; exact k h' k1)
theorem kRI {P : sg → Int32 → Prop} (c : yC L iv M F G pc lv st h Q (RQI ks ρ P) G2 pc' rest) (k : ∀ h' σ' x, HT ks σ' ρ h' → P σ' x → yT L iv M F G2 pc' lv (.int x :: rest) h' Q) : yT L iv M F G pc lv st h Q :=
  c (fun h' r ⟨σ', k1, x, e, k2⟩ => by subst e; exact k h' σ' x k1 k2)
theorem kRL {P : sg → Int64 → Prop} (c : yC L iv M F G pc lv st h Q (RQL ks ρ P) G2 pc' rest) (k : ∀ h' σ' x, HT ks σ' ρ h' → P σ' x → yT L iv M F G2 pc' lv (.long x :: rest) h' Q) : yT L iv M F G pc lv st h Q :=
  c (fun h' r ⟨σ', k1, x, e, k2⟩ => by subst e; exact k h' σ' x k1 k2)
theorem kRV {P : sg → Prop} (c : yC L iv M F G pc lv st h Q (RQV ks ρ P) G2 pc' rest) (k : ∀ h' σ', HT ks σ' ρ h' → P σ' → yT L iv M F G2 pc' lv rest h' Q) : yT L iv M F G pc lv st h Q :=
  c (fun h' r ⟨σ', k1, e, k2⟩ => by subst e; exact k h' σ' k1 k2)
theorem yT.ad2 (px : x.toInt = X) (py : y.toInt = Y) (hf : xfet (xMt M) pc = some (.iadd, len, a, b)) (hp : pc + len = pc') (hn : X + Y = Z ∧ -2147483648 ≤ Z ∧ Z ≤ 2147483647) (k : ∀ z : Int32, z.toInt = Z → yT L iv M F G pc' lv (.int z :: r) h Q) : yT L iv M F G pc lv (.int y :: .int x :: r) h Q := by
  obtain ⟨rfl, hn⟩ := hn
  exact yT.ad px py hf hp hn k
theorem yT.sb2 (px : x.toInt = X) (py : y.toInt = Y) (hf : xfet (xMt M) pc = some (.isub, len, a, b)) (hp : pc + len = pc') (hn : X - Y = Z ∧ -2147483648 ≤ Z ∧ Z ≤ 2147483647) (k : ∀ z : Int32, z.toInt = Z → yT L iv M F G pc' lv (.int z :: r) h Q) : yT L iv M F G pc lv (.int y :: .int x :: r) h Q := by
  obtain ⟨rfl, hn⟩ := hn
  exact yT.sb px py hf hp hn k
theorem yT.ml2 (px : x.toInt = X) (py : y.toInt = Y) (hf : xfet (xMt M) pc = some (.imul, len, a, b)) (hp : pc + len = pc') (hn : X * Y = Z ∧ -2147483648 ≤ Z ∧ Z ≤ 2147483647) (k : ∀ z : Int32, z.toInt = Z → yT L iv M F G pc' lv (.int z :: r) h Q) : yT L iv M F G pc lv (.int y :: .int x :: r) h Q := by
  obtain ⟨rfl, hn⟩ := hn
  exact yT.ml px py hf hp hn k
theorem yT.inc2 {i : Nat} {n : Int} (g : xget lv i = some (.int x)) (px : x.toInt = X) (hf : xfet (xMt M) pc = some (.iinc i n, len, a, b)) (hp : pc + len = pc') (hi : Nat.blt i (xMn M) = true) (hn : (-128 ≤ n ∧ n ≤ 127) ∧ X + n = Z ∧ -2147483648 ≤ Z ∧ Z ≤ 2147483647) (k : ∀ z : Int32, z.toInt = Z → yT L iv M F G pc' (xst1 lv i (.int z)) st h Q) : yT L iv M F G pc lv st h Q := by
  obtain ⟨h0, rfl, hn⟩ := hn
  exact yT.inc g px hf hi hp ⟨by omega, hn⟩ k
theorem yT.neg2 (px : x.toInt = X) (hf : xfet (xMt M) pc = some (.ineg, len, a, b)) (hp : pc + len = pc') (hn : -X = Z ∧ -2147483648 ≤ Z ∧ Z ≤ 2147483647) (k : ∀ z : Int32, z.toInt = Z → yT L iv M F G pc' lv (.int z :: r) h Q) : yT L iv M F G pc lv (.int x :: r) h Q := by
  obtain ⟨rfl, hn⟩ := hn
  subst hp
  refine yT.p hf rfl (fun _ _ _ _ => rfl) (k (-x) ?_)
  rw [Int32.toInt_neg, px]
  exact Int.bmod_eq_of_le (by omega) (by omega)
theorem yT.i2l2 (px : x.toInt = X) (hf : xfet (xMt M) pc = some (.i2l, len, a, b)) (hp : pc + len = pc') (k : ∀ z : Int64, z.toInt = X → yT L iv M F G pc' lv (.long z :: r) h Q) : yT L iv M F G pc lv (.int x :: r) h Q := by
  subst hp
  exact yT.p hf rfl (fun _ _ _ _ => rfl) (k _ ((i32_l x).trans px))
theorem yT.lc2 {n : Fin 2} (hf : xfet (xMt M) pc = some (.lconst n, len, a, b)) (hp : pc + len = pc') (hn : ((n : Nat) : Int) = X) (k : ∀ z : Int64, z.toInt = X → yT L iv M F G pc' lv (.long z :: st) h Q) : yT L iv M F G pc lv st h Q := by
  subst hp
  subst hn
  refine yT.p hf rfl (fun _ _ _ _ => rfl) (k _ ?_)
  match n with
  | 0 => rfl
  | 1 => rfl
theorem yT.ld2 {i : Nat} {w : Nat × Nat × Int64 × Nat} (hf : xfet (xMt M) pc = some (.ldc2_w i, len, a, b)) (hp : pc + len = pc') (hw : xnth xI64 a = some w) (hn : w.2.2.1.toInt = X) (k : ∀ z : Int64, z.toInt = X → yT L iv M F G pc' lv (.long z :: st) h Q) : yT L iv M F G pc lv st h Q := by
  subst hp
  refine yT.p hf rfl (fun C cs sl fr => ?_) (k _ hn)
  show (match xnth xI64 a with
    | some q => some ((pc + len, lv, Value.long q.2.2.1 :: st, h, sl, fr), (([], cs) : xO))
    | none => none) = _
  rw [hw]
theorem yT.cmp2 {u v : Int64} {U V : Int} (pu : u.toInt = U) (pv : v.toInt = V) (hf : xfet (xMt M) pc = some (.lcmp, len, a, b)) (hp : pc + len = pc') (k : ∀ z : Int32, (z.toInt < 0 ↔ U < V) ∧ (z.toInt = 0 ↔ U = V) ∧ (0 < z.toInt ↔ V < U) → yT L iv M F G pc' lv (.int z :: r) h Q) : yT L iv M F G pc lv (.long v :: .long u :: r) h Q := by
  subst hp; subst pu; subst pv
  exact yT.p hf rfl (fun _ _ _ _ => rfl) (k _ (lcmpF u v))
theorem yT.tia {n : Nat} (i : Nat) (hf : xfet (xMt M) pc = some (.iaload, len, a, b)) (hp : pc + len = pc') (hT : HT ks σ ρ h) (ho : xnth ks q = some (5, n)) (px : x.toInt = X) (hI : X = (i : Int) ∧ i < n) (k : ∀ z : Int32, z = σ q i → yT L iv M F G pc' lv (.int z :: r) h Q) : yT L iv M F G pc lv (.int x :: .ref (q + 1) :: r) h Q := by
  obtain ⟨e, h1, rfl⟩ := hT.2 q _ ho
  refine yT.ia h1 px ⟨by omega, by omega⟩ hf hp ?_
  rw [show X.toNat = i by omega]
  exact k _ rfl
theorem yT.tba {n : Nat} (i : Nat) (hf : xfet (xMt M) pc = some (.baload, len, a, b)) (hp : pc + len = pc') (hT : HT ks σ ρ h) (ho : xnth ks q = some (6, n)) (px : x.toInt = X) (hI : X = (i : Int) ∧ i < n) (k : ∀ z : Int32, z = σ q i → yT L iv M F G pc' lv (.int z :: r) h Q) : yT L iv M F G pc lv (.int x :: .ref (q + 1) :: r) h Q := by
  obtain ⟨e, h1, rfl⟩ := hT.2 q _ ho
  refine yT.ba h1 px ⟨by omega, by omega⟩ hf hp ?_
  rw [show X.toNat = i by omega]
  exact k _ rfl
theorem yT.tis {n : Nat} (i : Nat) (hf : xfet (xMt M) pc = some (.iastore, len, a, b)) (hp : pc + len = pc') (hT : HT ks σ ρ h) (ho : xnth ks q = some (5, n)) (px : x.toInt = X) (hI : X = (i : Int) ∧ i < n) (k : ∀ h', HT ks (us σ q i y) ρ h' → yT L iv M F G pc' lv r h' Q) : yT L iv M F G pc lv (.int y :: .int x :: .ref (q + 1) :: r) h Q := by
  obtain ⟨e, h1, rfl⟩ := hT.2 q _ ho
  refine yT.is h1 px ⟨by omega, by omega⟩ hf hp ?_
  rw [show X.toNat = i by omega]
  refine k _ (hT.us ho ?_)
  show _ = (Sum.inl (0, n, .inl (us σ q i y q)) : xE)
  rw [us_up]
theorem yT.tbs {n : Nat} (i : Nat) (hf : xfet (xMt M) pc = some (.bastore, len, a, b)) (hp : pc + len = pc') (hT : HT ks σ ρ h) (ho : xnth ks q = some (6, n)) (px : x.toInt = X) (hI : X = (i : Int) ∧ i < n) (hy : y = 0 ∨ y = 1) (k : ∀ h', HT ks (us σ q i y) ρ h' → yT L iv M F G pc' lv r h' Q) : yT L iv M F G pc lv (.int y :: .int x :: .ref (q + 1) :: r) h Q := by
  obtain ⟨e, h1, rfl⟩ := hT.2 q _ ho
  refine yT.bs h1 px ⟨by omega, by omega⟩ (by rcases hy with rfl | rfl <;> decide) hf hp ?_
  rw [show X.toNat = i by omega]
  refine k _ (hT.us ho ?_)
  show _ = (Sum.inl (2, n, .inl (us σ q i y q)) : xE)
  rw [us_up]
end YR
/-- a field of the reference's object that is tracked -/
def fl (σ : sg) (s : Nat) : Int := (σ 60 s).toInt
theorem fl_at {σ : sg} {s : Nat} {v : Int32} : fl (us σ 60 s v) s = v.toInt := congrArg Int32.toInt us_eq
theorem fl_o {σ : sg} {q i s : Nat} {v : Int32} (h : (Nat.beq q 60 && Nat.beq i s) = false) : fl (us σ q i v) s = fl σ s := congrArg Int32.toInt (us_ne (fun e => by
  rw [← e.1, ← e.2, Nat.beq_refl, Nat.beq_refl] at h
  cases h))
/-- a letter of a cell's formula -/
def ltr (σ : sg) (c k : Nat) : Int := if (k : Int) < nw σ (282 * c + 31) then nw σ (282 * c + (k + 32)) else -1
/-- a number's bits as a number -/
def un (x : Int32) : Nat := x.toBitVec.toNat
theorem un_b (x : Int32) : un x < 4294967296 := x.toBitVec.isLt
theorem un_or (x y : Int32) : un x ≤ un (x ||| y) := by
  unfold un
  rw [show (x ||| y).toBitVec = x.toBitVec ||| y.toBitVec from rfl, BitVec.toNat_or]
  exact Nat.left_le_or
theorem un_lt {x y : Int32} (h : un x ≤ un y) (hn : x.toInt ≠ y.toInt) : un x < un y := by
  refine Nat.lt_of_le_of_ne h (fun e => hn ?_)
  have : x.toBitVec = y.toBitVec := BitVec.eq_of_toNat_eq e
  show x.toBitVec.toInt = y.toBitVec.toInt
  rw [this]
theorem yT.or2 {L : Nat} {iv : List (Int × Int)} {M : xM} {F G pc pc' len a b : Nat} {lv : xLv} {h : List xE} {Q : yQ} {r : List Value} {x y : Int32} (hf : xfet (xMt M) pc = some (.ior, len, a, b)) (hp : pc + len = pc') (k : ∀ z : Int32, un x ≤ un z → yT L iv M F G pc' lv (.int z :: r) h Q) : yT L iv M F G pc lv (.int y :: .int x :: r) h Q := by
  subst hp
  exact yT.p hf rfl (fun _ _ _ _ => rfl) (k (x ||| y) (un_or x y))
