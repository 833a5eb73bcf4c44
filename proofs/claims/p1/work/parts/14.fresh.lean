def xN : Nat := 1000000
/-- signOf's answers, proved for themselves -/
def xBt : xCT := fun a as h O => bif Nat.beq a 254 then (match as with
    | [.int k] => bif decide (0 ≤ k) then (match xnth [(43 : Int32), 45, 42, 47, 37, 60, 61, 62] k.toNatClampNeg with
      | some c => some ((h, some (.int c), 0, 8), O)
      | none => none) else none
    | _ => none) else none
def xS0 : xS := (0, lv_args 0 [.ref 0], [], [], 0, 0)
/-- the two objects made: behind it the law's loop begins -/
def xA : Option (xS × xO) := xrun 7 [] xMs (xC xBt [] xMs xN 16) rL_law 10 xS0 ([], [])
def xSA : xS := match xA with
  | some (S, _) => S
  | none => xS0
def xB (L : Nat) (iv : List (Int × Int)) : Option (xS × xO) := xrun L iv xMs (xC xBt iv xMs xN 16) rL_law xN xSA ([], [])
def xfin (z : Option (xS × xO)) : Bool := match z with
  | some ((pc, _, [.int v], h, sl, fr), ([], [])) => decide (v = 1) && ((match xfet tL_law pc with
    | some (.ireturn, _) => true
    | _ => false) && (Nat.ble h.length 600000 && (Nat.ble sl 7302250 && Nat.ble fr 2048)))
  | _ => false
theorem xA_ok : (match xA with
  | some ((pc, _), ([], [])) => Nat.beq pc 18
  | _ => false) = true := by decide +kernel
theorem fL_ok : (List.range 6).all (fun L => xfin (xB (L + 1) [])) = true := by decide +kernel
def iv_33 : List (List (Int × Int)) := [[(-2147483648, 2147483647), (-2147483648, -1), (-2147483648, 2147483647), (-2147483648, 2147483647), (-2147483648, 2147483647), (-2147483648, 2147483647), (33, 33)],
  [(-2147483648, 2147483647), (0, 0), (-2147483648, 2147483647), (-2147483648, 2147483647), (-2147483648, 2147483647), (-2147483648, 2147483647), (33, 33)],
  [(-2147483648, 2147483647), (1, 2147483647), (-2147483648, 2147483647), (-2147483648, 2147483647), (-2147483648, 2147483647), (-2147483648, 2147483647), (33, 33)]]
theorem f33_ok : iv_33.all (fun iv => xfin (xB 7 iv)) = true := by decide +kernel
