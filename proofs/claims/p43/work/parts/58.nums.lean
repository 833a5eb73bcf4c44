/-! how large the law's numbers are -/
section HN
variable {b N : Nat} {xs : Nat → Int32}
theorem xSources_n : ∃ j, (j = 2 ∨ j = 3) ∧ xSources N xs = nI j := by
  obtain ⟨j, hj, e⟩ := pk_andE (sAt N xs 0) (m := 1) 1 (by decide)
  refine ⟨2 + j, by omega, ?_⟩
  unfold xSources
  rw [e]
  exact nI_add 2 j
theorem xMemos_n : ∃ j, (2 ≤ j ∧ j ≤ 5) ∧ xMemos N xs = nI j := by
  obtain ⟨j, hj, e⟩ := pk_andE (sAt N xs 0 >>> ((1 : Int32) &&& 31)) (m := 3) 2 (by decide)
  refine ⟨2 + j, by omega, ?_⟩
  unfold xMemos
  rw [e]
  exact nI_add 2 j
theorem xMany_n {s m : Nat} (h1 : xSources N xs = nI s) (h2 : xMemos N xs = nI m) : xMany N xs = nI (s + m) := by
  unfold xMany
  rw [h1, h2]
  exact nI_add s m
theorem xForm_n (j : Nat) : ∃ f, f < 6 ∧ xForm N xs j = nI f := by
  obtain ⟨q, hq, e⟩ := pk_andE (sAt N xs (4 + j)) (m := 7) 3 (by decide)
  refine ⟨q % 6, by omega, ?_⟩
  unfold xForm
  rw [e]
  exact pk_rem (a := q) (d := 6) (by omega) (by omega) (by omega)
theorem xOperand_n {j k : Nat} {d : Int32} (hk : 0 < k) (hk2 : k < 1000) : ∃ i, i < k ∧ xOperand N xs j (nI k) d = nI i := by
  obtain ⟨q, hq, e⟩ := pk_andE (sAt N xs (4 + j) >>> (((3 : Int32) + ((4 : Int32) * d)) &&& 31)) (m := 15) 4 (by decide)
  refine ⟨q % k, Nat.mod_lt _ hk, ?_⟩
  unfold xOperand
  rw [e]
  exact pk_rem (a := q) (d := k) (by omega) hk (by omega)
theorem xNumber_n (j : Nat) : ∃ n, n < 10 ∧ xNumber N xs j = nI n := by
  obtain ⟨q, hq, e⟩ := pk_andE (sAt N xs (4 + j) >>> ((15 : Int32) &&& 31)) (m := 15) 4 (by decide)
  refine ⟨q % 10, by omega, ?_⟩
  unfold xNumber
  rw [e]
  exact pk_rem (a := q) (d := 10) (by omega) (by omega) (by omega)
theorem nar_c : ∀ c, c < 256 → narrow .char (.int (nI c)) = .int (nI c) := by decide +kernel
theorem h_letter {k : Int32} {j : Nat} (hk : k = nI j) (hj : j < 100) : hMet b N xs rL_letter 0 [.int k] (.int (nI (97 + j))) := by
  refine hMet_of ok_rL_letter (Nat.le_of_ble_eq_true rfl) (fun p l e s m args below meth c S hX hbl hret hlk ls hl => ?_)
  obtain ⟨hx, hb, hml, hown, hts⟩ := S
  have hl : lv_has ls 1 [(0, .int k)] := hl
  have hS : va_S (fun _ : Nat => False) s.heap s.heap [] := va_S.rf
  refine lv_bipush (v := 97) hx hb (dR ok_rL_letter rfl) (by decide) ?_
  refine lv_iload_n hx hb (dR ok_rL_letter rfl) rfl (lv_at hl 0 rfl) ?_
  refine lv_iadd hx hb (dR ok_rL_letter rfl) ?_
  rw [hk, show (97 : Int32) + nI j = nI (97 + j) from nI_add 97 j]
  refine lv_i2c (v := nI (97 + j)) hx hb (dR ok_rL_letter rfl) (sb_byte (97 + j) (by omega)).2.1 ?_
  exact W.zret (ty := .char) hx hb hret (nar_c (97 + j) (by omega)) (fun t ht _ => ⟨rfl, va_S.F hS ht⟩) hS.2.2 (dR ok_rL_letter rfl) hlk
end HN
