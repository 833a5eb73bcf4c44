/-! ===== Int32 by its bits: bt x i ===== -/
def bt (x : Int32) (i : Nat) : Bool := x.toBitVec.getLsbD i
theorem b_ext {x y : Int32} (h : ∀ i, i < 32 → bt x i = bt y i) : x = y := Int32.toBitVec_inj.mp (BitVec.eq_of_getLsbD_eq (fun i hi => h i hi))
theorem b_or (x y : Int32) (i : Nat) : bt (x ||| y) i = (bt x i || bt y i) := by unfold bt; rw [Int32.toBitVec_or, BitVec.getLsbD_or]
theorem b_and (x y : Int32) (i : Nat) : bt (x &&& y) i = (bt x i && bt y i) := by unfold bt; rw [Int32.toBitVec_and, BitVec.getLsbD_and]
theorem b_xor (x y : Int32) (i : Nat) : bt (x ^^^ y) i = (bt x i ^^ bt y i) := by unfold bt; rw [Int32.toBitVec_xor, BitVec.getLsbD_xor]
theorem b_big {x : Int32} {i : Nat} (h : 32 ≤ i) : bt x i = false := BitVec.getLsbD_of_ge _ _ h
theorem b_m1 : ∀ i, i < 32 → bt (-1) i = true := by decide +kernel
theorem b_0 (i : Nat) : bt 0 i = false := BitVec.getLsbD_zero
theorem s_l : ∀ n, n < 32 → ((nI n &&& 31).toBitVec.smod 32).toNat = n := by decide +kernel
theorem s_u : ∀ n, n < 32 → (((nI n).toUInt32 &&& Int32.toUInt32 31).toBitVec % 32).toNat = n := by decide +kernel
theorem b_shl (n : Nat) (hn : n < 32) (x : Int32) {i : Nat} (hi : i < 32) : bt (x <<< (nI n &&& 31)) i = (decide (n ≤ i) && bt x (i - n)) := by
  unfold bt
  rw [Int32.toBitVec_shiftLeft]
  show (x.toBitVec <<< ((nI n &&& 31).toBitVec.smod 32).toNat).getLsbD i = _
  rw [s_l n hn, BitVec.getLsbD_shiftLeft]
  rcases Nat.lt_or_ge i n with h | h
  · simp [h, Nat.not_le.mpr h]
  · simp [hi, h, Nat.not_lt.mpr h]
theorem b_ushr (n : Nat) (hn : n < 32) (x : Int32) (i : Nat) : bt ((x.toUInt32 >>> ((nI n).toUInt32 &&& Int32.toUInt32 31)).toInt32) i = bt x (n + i) := by
  show (x.toUInt32 >>> ((nI n).toUInt32 &&& Int32.toUInt32 31)).toBitVec.getLsbD i = x.toUInt32.toBitVec.getLsbD (n + i)
  rw [UInt32.toBitVec_shiftRight]
  show (x.toUInt32.toBitVec >>> (((nI n).toUInt32 &&& Int32.toUInt32 31).toBitVec % 32).toNat).getLsbD i = _
  rw [s_u n hn, BitVec.getLsbD_ushiftRight]
theorem b_sshr (n : Nat) (hn : n < 32) (x : Int32) {i : Nat} (hi : i < 32) : bt (x >>> (nI n &&& 31)) i = if n + i < 32 then bt x (n + i) else bt x 31 := by
  unfold bt
  rw [Int32.toBitVec_shiftRight]
  show (x.toBitVec.sshiftRight ((nI n &&& 31).toBitVec.smod 32).toNat).getLsbD i = _
  rw [s_l n hn, BitVec.getLsbD_sshiftRight, BitVec.msb_eq_getLsbD_last]
  simp [hi]
/-! bits as the class asks for them -/
theorem b_1 : ∀ i, i < 32 → bt 1 i = decide (i = 0) := by decide +kernel
theorem bq {r x : Int32} {k : Nat} (hx : x.toInt = (k : Int)) (hk : k < 32) : x = nI k := Int32.toInt_inj.mp (by rw [hx, nI_toInt (by omega)])
theorem b_tst {r x : Int32} {k : Nat} (hx : x.toInt = (k : Int)) (hk : k < 32) : ((r >>> (x &&& 31)) &&& 1) = 0 ↔ bt r k = false := by
  obtain rfl := bq (r := r) hx hk
  constructor
  · intro h
    have h1 : bt ((r >>> (nI k &&& 31)) &&& 1) 0 = false := by rw [h]; exact b_0 0
    rw [b_and, b_sshr k hk r (by omega), if_pos (by omega), b_1 0 (by omega)] at h1
    simpa using h1
  · intro h
    refine b_ext (fun i hi => ?_)
    rw [b_and, b_1 i hi, b_0]
    by_cases h0 : i = 0
    · subst h0
      rw [b_sshr k hk r (by omega), if_pos (by omega), Nat.add_zero, h]
      rfl
    · rw [decide_eq_false h0, Bool.and_false]
theorem b_one {x : Int32} {k i : Nat} (hx : x.toInt = (k : Int)) (hk : k < 32) (hi : i < 32) : bt ((1 : Int32) <<< (x &&& 31)) i = decide (i = k) := by
  obtain rfl := bq (r := 0) hx hk
  rw [b_shl k hk 1 hi]
  by_cases h : k ≤ i
  · rw [b_1 _ (by omega), decide_eq_true h, Bool.true_and]
    exact decide_eq_decide.mpr (by omega)
  · rw [decide_eq_false h, Bool.false_and, decide_eq_false (by omega)]
theorem b_not {r s : Int32} {i : Nat} (hi : i < 32) : bt (r &&& (s ^^^ (-1))) i = (bt r i && !bt s i) := by
  rw [b_and, b_xor, b_m1 i hi, Bool.xor_true]
theorem b_top {r x : Int32} {k i : Nat} (hx : x.toInt = (k : Int)) (hk : k < 32) (h : i32_ushr r x = 0) (hi : k ≤ i) (h32 : i < 32) : bt r i = false := by
  obtain rfl := bq (r := r) hx hk
  have h1 := b_ushr k hk r (i - k)
  have h2 : bt (i32_ushr r (nI k)) (i - k) = false := by rw [h]; exact b_0 _
  unfold i32_ushr at h2
  rw [h1, show k + (i - k) = i by omega] at h2
  exact h2
theorem b_nz {r : Int32} (h : r ≠ 0) : ∃ i, i < 32 ∧ bt r i = true := by
  apply Classical.byContradiction
  intro hn
  apply h
  refine b_ext (fun i hi => ?_)
  rw [b_0]
  cases hb : bt r i with
  | false => rfl
  | true => exact absurd ⟨i, hi, hb⟩ hn
