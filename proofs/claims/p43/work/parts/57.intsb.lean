/-! the law's numbers: out of the script (printed by ints.py) -/
def xSources (N : Nat) (xs : Nat → Int32) : Int32 := ((2 : Int32) + ((sAt N xs (0)) &&& (1 : Int32)))
def xMemos (N : Nat) (xs : Nat → Int32) : Int32 := ((2 : Int32) + (((sAt N xs (0)) >>> ((1 : Int32) &&& 31)) &&& (3 : Int32)))
def xMany (N : Nat) (xs : Nat → Int32) : Int32 := ((xSources N xs) + (xMemos N xs))
def xValue (N : Nat) (xs : Nat → Int32) (j : Nat) : Int32 := ((sAt N xs (1 + j)) - (sAt N xs (1 + j)) / (12 : Int32) * (12 : Int32))
def xForm (N : Nat) (xs : Nat → Int32) (j : Nat) : Int32 := (((sAt N xs (4 + j)) &&& (7 : Int32)) - ((sAt N xs (4 + j)) &&& (7 : Int32)) / (6 : Int32) * (6 : Int32))
def xOperand (N : Nat) (xs : Nat → Int32) (j : Nat) (cv d : Int32) : Int32 := ((((sAt N xs (4 + j)) >>> (((3 : Int32) + ((4 : Int32) * d)) &&& 31)) &&& (15 : Int32)) - (((sAt N xs (4 + j)) >>> (((3 : Int32) + ((4 : Int32) * d)) &&& 31)) &&& (15 : Int32)) / cv * cv)
def xNumber (N : Nat) (xs : Nat → Int32) (j : Nat) : Int32 := ((((sAt N xs (4 + j)) >>> ((15 : Int32) &&& 31)) &&& (15 : Int32)) - (((sAt N xs (4 + j)) >>> ((15 : Int32) &&& 31)) &&& (15 : Int32)) / (10 : Int32) * (10 : Int32))
section HJ
variable {b N : Nat} {xs : Nat → Int32}
theorem lv_c8 {l : List Value} (h : Nat.ble ((l.map fun v => v.category).sum) 8 = true) : (l.map fun v => v.category).sum ≤ 8 := Nat.le_of_ble_eq_true h
theorem h_sources (hN : N < 2147483648) : hMet b N xs rL_sources 1 [.ref 0] (.int (xSources N xs)) := by
  refine hMet_of ok_rL_sources (Nat.le_of_ble_eq_true rfl) (fun p l e s m args below meth c S hX hbl hret hlk ls hl => ?_)
  obtain ⟨hx, hb, hml, hown, hts⟩ := S
  have hl : lv_has ls 1 [(0, .ref b)] := hl
  have hS : va_S (fun _ : Nat => False) s.heap s.heap [] := va_S.rf
  refine lv_iconst (v := 2) hx hb (dR ok_rL_sources rfl) (by decide) ?_
  refine lv_aload_n hx hb (dR ok_rL_sources rfl) rfl (lv_at hl 0 rfl) ?_
  refine lv_iconst (v := 0) hx hb (dR ok_rL_sources rfl) (by decide) ?_
  have e1 : ((0 : Int32) : Int32).toInt = ((0 : Nat) : Int) := rfl
  refine hcall (as := [.ref 0, .int (0 : Int32)]) (rest := [.int (2 : Int32)]) ⟨hx, hb, hml, hown, hts⟩ (h_at hN e1) ok_rL_at rfl (xBig_of (p := 566) (by decide +kernel)) hX hbl id hS rfl (dR ok_rL_sources rfl) (Nat.le_of_ble_eq_true rfl) ⟨Nat.le_of_ble_eq_true rfl, Nat.le_of_ble_eq_true rfl⟩ ⟨Nat.zero_le _, Nat.zero_le _⟩ hl.1 (fun H1 locs1 hS _ _ => ?_)
  refine lv_iconst (v := 1) hx hb (dR ok_rL_sources rfl) (by decide) ?_
  refine lv_iand hx hb (dR ok_rL_sources rfl) ?_
  refine lv_iadd hx hb (dR ok_rL_sources rfl) ?_
  exact W.iret hx hb hret (fun t ht _ => ⟨rfl, va_S.F hS ht⟩) hS.2.2 (dR ok_rL_sources rfl) hlk
theorem h_memos (hN : N < 2147483648) : hMet b N xs rL_memos 1 [.ref 0] (.int (xMemos N xs)) := by
  refine hMet_of ok_rL_memos (Nat.le_of_ble_eq_true rfl) (fun p l e s m args below meth c S hX hbl hret hlk ls hl => ?_)
  obtain ⟨hx, hb, hml, hown, hts⟩ := S
  have hl : lv_has ls 1 [(0, .ref b)] := hl
  have hS : va_S (fun _ : Nat => False) s.heap s.heap [] := va_S.rf
  refine lv_iconst (v := 2) hx hb (dR ok_rL_memos rfl) (by decide) ?_
  refine lv_aload_n hx hb (dR ok_rL_memos rfl) rfl (lv_at hl 0 rfl) ?_
  refine lv_iconst (v := 0) hx hb (dR ok_rL_memos rfl) (by decide) ?_
  have e1 : ((0 : Int32) : Int32).toInt = ((0 : Nat) : Int) := rfl
  refine hcall (as := [.ref 0, .int (0 : Int32)]) (rest := [.int (2 : Int32)]) ⟨hx, hb, hml, hown, hts⟩ (h_at hN e1) ok_rL_at rfl (xBig_of (p := 566) (by decide +kernel)) hX hbl id hS rfl (dR ok_rL_memos rfl) (Nat.le_of_ble_eq_true rfl) ⟨Nat.le_of_ble_eq_true rfl, Nat.le_of_ble_eq_true rfl⟩ ⟨Nat.zero_le _, Nat.zero_le _⟩ hl.1 (fun H1 locs1 hS _ _ => ?_)
  refine lv_iconst (v := 1) hx hb (dR ok_rL_memos rfl) (by decide) ?_
  refine lv_ishr hx hb (dR ok_rL_memos rfl) ?_
  refine lv_iconst (v := 3) hx hb (dR ok_rL_memos rfl) (by decide) ?_
  refine lv_iand hx hb (dR ok_rL_memos rfl) ?_
  refine lv_iadd hx hb (dR ok_rL_memos rfl) ?_
  exact W.iret hx hb hret (fun t ht _ => ⟨rfl, va_S.F hS ht⟩) hS.2.2 (dR ok_rL_memos rfl) hlk
theorem h_many (hN : N < 2147483648) : hMet b N xs rL_many 2 [.ref 0] (.int (xMany N xs)) := by
  refine hMet_of ok_rL_many (Nat.le_of_ble_eq_true rfl) (fun p l e s m args below meth c S hX hbl hret hlk ls hl => ?_)
  obtain ⟨hx, hb, hml, hown, hts⟩ := S
  have hl : lv_has ls 1 [(0, .ref b)] := hl
  have hS : va_S (fun _ : Nat => False) s.heap s.heap [] := va_S.rf
  refine lv_aload_n hx hb (dR ok_rL_many rfl) rfl (lv_at hl 0 rfl) ?_
  refine hcall (as := [.ref 0]) (rest := []) ⟨hx, hb, hml, hown, hts⟩ (h_sources hN) ok_rL_sources rfl (xBig_of (p := 569) (by decide +kernel)) hX hbl id hS rfl (dR ok_rL_many rfl) (Nat.le_of_ble_eq_true rfl) ⟨Nat.le_of_ble_eq_true rfl, Nat.le_of_ble_eq_true rfl⟩ ⟨Nat.zero_le _, Nat.zero_le _⟩ hl.1 (fun H1 locs1 hS _ _ => ?_)
  refine lv_aload_n hx hb (dR ok_rL_many rfl) rfl (lv_at hl 0 rfl) ?_
  refine hcall (as := [.ref 0]) (rest := [.int (xSources N xs)]) ⟨hx, hb, hml, hown, hts⟩ (h_memos hN) ok_rL_memos rfl (xBig_of (p := 572) (by decide +kernel)) hX hbl id hS rfl (dR ok_rL_many rfl) (Nat.le_of_ble_eq_true rfl) ⟨Nat.le_of_ble_eq_true rfl, Nat.le_of_ble_eq_true rfl⟩ ⟨Nat.zero_le _, Nat.zero_le _⟩ hl.1 (fun H2 locs2 hS _ _ => ?_)
  refine lv_iadd hx hb (dR ok_rL_many rfl) ?_
  exact W.iret hx hb hret (fun t ht _ => ⟨rfl, va_S.F hS ht⟩) hS.2.2 (dR ok_rL_many rfl) hlk
theorem h_value {cv : Int32} {j : Nat} (hN : N < 2147483648) (hc : cv.toInt = (j : Int)) (hj : j < 1000) : hMet b N xs rL_value 1 [.ref 0, .int cv] (.int (xValue N xs j)) := by
  refine hMet_of ok_rL_value (Nat.le_of_ble_eq_true rfl) (fun p l e s m args below meth c S hX hbl hret hlk ls hl => ?_)
  obtain ⟨hx, hb, hml, hown, hts⟩ := S
  have hl : lv_has ls 2 [(0, .ref b), (1, .int cv)] := hl
  have hS : va_S (fun _ : Nat => False) s.heap s.heap [] := va_S.rf
  refine lv_aload_n hx hb (dR ok_rL_value rfl) rfl (lv_at hl 0 rfl) ?_
  refine lv_iconst (v := 1) hx hb (dR ok_rL_value rfl) (by decide) ?_
  refine lv_iload_n hx hb (dR ok_rL_value rfl) rfl (lv_at hl 1 rfl) ?_
  refine lv_iadd hx hb (dR ok_rL_value rfl) ?_
  have e1 : (((1 : Int32) + cv) : Int32).toInt = ((1 + j : Nat) : Int) := (i32_add (show (1 : Int32).toInt = 1 from rfl) hc (by omega)).trans (by omega)
  refine hcall (as := [.ref 0, .int ((1 : Int32) + cv)]) (rest := []) ⟨hx, hb, hml, hown, hts⟩ (h_at hN e1) ok_rL_at rfl (xBig_of (p := 566) (by decide +kernel)) hX hbl id hS rfl (dR ok_rL_value rfl) (Nat.le_of_ble_eq_true rfl) ⟨Nat.le_of_ble_eq_true rfl, Nat.le_of_ble_eq_true rfl⟩ ⟨Nat.zero_le _, Nat.zero_le _⟩ hl.1 (fun H1 locs1 hS _ _ => ?_)
  refine lv_bipush (v := 12) hx hb (dR ok_rL_value rfl) (by decide) ?_
  refine lv_irem hx hb (dR ok_rL_value rfl) (by decide) ?_
  exact W.iret hx hb hret (fun t ht _ => ⟨rfl, va_S.F hS ht⟩) hS.2.2 (dR ok_rL_value rfl) hlk
theorem h_form {cv : Int32} {j : Nat} (hN : N < 2147483648) (hc : cv.toInt = (j : Int)) (hj : j < 1000) : hMet b N xs rL_form 1 [.ref 0, .int cv] (.int (xForm N xs j)) := by
  refine hMet_of ok_rL_form (Nat.le_of_ble_eq_true rfl) (fun p l e s m args below meth c S hX hbl hret hlk ls hl => ?_)
  obtain ⟨hx, hb, hml, hown, hts⟩ := S
  have hl : lv_has ls 2 [(0, .ref b), (1, .int cv)] := hl
  have hS : va_S (fun _ : Nat => False) s.heap s.heap [] := va_S.rf
  refine lv_aload_n hx hb (dR ok_rL_form rfl) rfl (lv_at hl 0 rfl) ?_
  refine lv_iconst (v := 4) hx hb (dR ok_rL_form rfl) (by decide) ?_
  refine lv_iload_n hx hb (dR ok_rL_form rfl) rfl (lv_at hl 1 rfl) ?_
  refine lv_iadd hx hb (dR ok_rL_form rfl) ?_
  have e1 : (((4 : Int32) + cv) : Int32).toInt = ((4 + j : Nat) : Int) := (i32_add (show (4 : Int32).toInt = 4 from rfl) hc (by omega)).trans (by omega)
  refine hcall (as := [.ref 0, .int ((4 : Int32) + cv)]) (rest := []) ⟨hx, hb, hml, hown, hts⟩ (h_at hN e1) ok_rL_at rfl (xBig_of (p := 566) (by decide +kernel)) hX hbl id hS rfl (dR ok_rL_form rfl) (Nat.le_of_ble_eq_true rfl) ⟨Nat.le_of_ble_eq_true rfl, Nat.le_of_ble_eq_true rfl⟩ ⟨Nat.zero_le _, Nat.zero_le _⟩ hl.1 (fun H1 locs1 hS _ _ => ?_)
  refine lv_bipush (v := 7) hx hb (dR ok_rL_form rfl) (by decide) ?_
  refine lv_iand hx hb (dR ok_rL_form rfl) ?_
  refine lv_bipush (v := 6) hx hb (dR ok_rL_form rfl) (by decide) ?_
  refine lv_irem hx hb (dR ok_rL_form rfl) (by decide) ?_
  exact W.iret hx hb hret (fun t ht _ => ⟨rfl, va_S.F hS ht⟩) hS.2.2 (dR ok_rL_form rfl) hlk
theorem h_operand {cv d : Int32} {j : Nat} (hN : N < 2147483648) (hc : cv.toInt = (j : Int)) (hj : j < 1000) (h0 : ¬ cv = 0) : hMet b N xs rL_operand 1 [.ref 0, .int cv, .int d] (.int (xOperand N xs j cv d)) := by
  refine hMet_of ok_rL_operand (Nat.le_of_ble_eq_true rfl) (fun p l e s m args below meth c S hX hbl hret hlk ls hl => ?_)
  obtain ⟨hx, hb, hml, hown, hts⟩ := S
  have hl : lv_has ls 3 [(0, .ref b), (1, .int cv), (2, .int d)] := hl
  have hS : va_S (fun _ : Nat => False) s.heap s.heap [] := va_S.rf
  refine lv_aload_n hx hb (dR ok_rL_operand rfl) rfl (lv_at hl 0 rfl) ?_
  refine lv_iconst (v := 4) hx hb (dR ok_rL_operand rfl) (by decide) ?_
  refine lv_iload_n hx hb (dR ok_rL_operand rfl) rfl (lv_at hl 1 rfl) ?_
  refine lv_iadd hx hb (dR ok_rL_operand rfl) ?_
  have e1 : (((4 : Int32) + cv) : Int32).toInt = ((4 + j : Nat) : Int) := (i32_add (show (4 : Int32).toInt = 4 from rfl) hc (by omega)).trans (by omega)
  refine hcall (as := [.ref 0, .int ((4 : Int32) + cv)]) (rest := []) ⟨hx, hb, hml, hown, hts⟩ (h_at hN e1) ok_rL_at rfl (xBig_of (p := 566) (by decide +kernel)) hX hbl id hS rfl (dR ok_rL_operand rfl) (Nat.le_of_ble_eq_true rfl) ⟨Nat.le_of_ble_eq_true rfl, Nat.le_of_ble_eq_true rfl⟩ ⟨Nat.zero_le _, Nat.zero_le _⟩ hl.1 (fun H1 locs1 hS _ _ => ?_)
  refine lv_iconst (v := 3) hx hb (dR ok_rL_operand rfl) (by decide) ?_
  refine lv_iconst (v := 4) hx hb (dR ok_rL_operand rfl) (by decide) ?_
  refine lv_iload_n hx hb (dR ok_rL_operand rfl) rfl (lv_at hl 2 rfl) ?_
  refine lv_imul hx hb (dR ok_rL_operand rfl) ?_
  refine lv_iadd hx hb (dR ok_rL_operand rfl) ?_
  refine lv_ishr hx hb (dR ok_rL_operand rfl) ?_
  refine lv_bipush (v := 15) hx hb (dR ok_rL_operand rfl) (by decide) ?_
  refine lv_iand hx hb (dR ok_rL_operand rfl) ?_
  refine lv_iload_n hx hb (dR ok_rL_operand rfl) rfl (lv_at hl 1 rfl) ?_
  refine lv_irem hx hb (dR ok_rL_operand rfl) h0 ?_
  exact W.iret hx hb hret (fun t ht _ => ⟨rfl, va_S.F hS ht⟩) hS.2.2 (dR ok_rL_operand rfl) hlk
theorem h_number {cv : Int32} {j : Nat} (hN : N < 2147483648) (hc : cv.toInt = (j : Int)) (hj : j < 1000) : hMet b N xs rL_number 1 [.ref 0, .int cv] (.int (xNumber N xs j)) := by
  refine hMet_of ok_rL_number (Nat.le_of_ble_eq_true rfl) (fun p l e s m args below meth c S hX hbl hret hlk ls hl => ?_)
  obtain ⟨hx, hb, hml, hown, hts⟩ := S
  have hl : lv_has ls 2 [(0, .ref b), (1, .int cv)] := hl
  have hS : va_S (fun _ : Nat => False) s.heap s.heap [] := va_S.rf
  refine lv_aload_n hx hb (dR ok_rL_number rfl) rfl (lv_at hl 0 rfl) ?_
  refine lv_iconst (v := 4) hx hb (dR ok_rL_number rfl) (by decide) ?_
  refine lv_iload_n hx hb (dR ok_rL_number rfl) rfl (lv_at hl 1 rfl) ?_
  refine lv_iadd hx hb (dR ok_rL_number rfl) ?_
  have e1 : (((4 : Int32) + cv) : Int32).toInt = ((4 + j : Nat) : Int) := (i32_add (show (4 : Int32).toInt = 4 from rfl) hc (by omega)).trans (by omega)
  refine hcall (as := [.ref 0, .int ((4 : Int32) + cv)]) (rest := []) ⟨hx, hb, hml, hown, hts⟩ (h_at hN e1) ok_rL_at rfl (xBig_of (p := 566) (by decide +kernel)) hX hbl id hS rfl (dR ok_rL_number rfl) (Nat.le_of_ble_eq_true rfl) ⟨Nat.le_of_ble_eq_true rfl, Nat.le_of_ble_eq_true rfl⟩ ⟨Nat.zero_le _, Nat.zero_le _⟩ hl.1 (fun H1 locs1 hS _ _ => ?_)
  refine lv_bipush (v := 15) hx hb (dR ok_rL_number rfl) (by decide) ?_
  refine lv_ishr hx hb (dR ok_rL_number rfl) ?_
  refine lv_bipush (v := 15) hx hb (dR ok_rL_number rfl) (by decide) ?_
  refine lv_iand hx hb (dR ok_rL_number rfl) ?_
  refine lv_bipush (v := 10) hx hb (dR ok_rL_number rfl) (by decide) ?_
  refine lv_irem hx hb (dR ok_rL_number rfl) (by decide) ?_
  exact W.iret hx hb hret (fun t ht _ => ⟨rfl, va_S.F hS ht⟩) hS.2.2 (dR ok_rL_number rfl) hlk
end HJ
