/-! the law's walk, case by case -/
def xN : Nat := 1000000
def xS0 : xS := (0, lv_args 0 [.ref 0], [], [], 0, 0)
/-- the two objects made: behind it the law's loop begins -/
def xA : Option (xS × xO) := xrun 0 [] xMs (xC xBt [] xMs xN 16) rL_law 10 xS0 ([], [])
def xSA : xS := match xA with
  | some (S, _) => S
  | none => xS0
def xB (L : Nat) (iv : List (Int × Int)) : Option (xS × xO) := xrun L iv xMs (xC xBt iv xMs xN 16) rL_law xN xSA ([], [])
def xfin (z : Option (xS × xO)) : Bool := match z with
  | some ((pc, _, [.int v], h, sl, fr), ([], [])) => decide (v = 1) && ((match xfet tL_law pc with
    | some (.ireturn, _) => true
    | _ => false) && (Nat.ble h.length 600000 && (Nat.ble sl 7302250 && Nat.ble fr 2048)))
  | _ => false
def xok (iv : List (Int × Int)) : Bool := xfin (xB 7 iv)
/-- all rows of one range out of each list -/
def xprod : List (List (Int × Int)) → List (List (Int × Int))
  | [] => [[]]
  | l :: ls => l.flatMap (fun q => (xprod ls).map (fun r => q :: r))
def xo (n : Int) : Int × Int := (n, n)
def xvF : List (Int × Int) := [(-2147483648, 2147483647)]
def xvS : List (Int × Int) := [(-2147483648, -1), xo 0, xo 1, xo 2, xo 3, xo 4, xo 5, xo 6, xo 7, (8, 2147483647)]
def xvO : List (Int × Int) := [(-2147483648, -2), xo (-1), xo 0, (1, 2147483647)]
def xvC : List (Int × Int) := [(-2147483648, -1), xo 0, (1, 2147483647)]
/-- how the five numbers behind a call's number are cut -/
def xAr (k : Nat) : List (List (Int × Int)) := match k with
  | 1 => [xvS, xvF, xvF, xvF, xvF]
  | 2 => [xvS, xvS, xvF, xvF, xvF]
  | 3 => [xvS, [(-2147483648, -1), (0, 2147483647)], xvF, xvF, xvF]
  | 4 => [xvS, xvF, xvF, xvF, xvF]
  | 5 => [xvS, xvO, xvF, xvF, xvF]
  | 6 => [xvS, [(-2147483648, -1), xo 0, (1, 4), xo 5, (6, 2147483647)], xvF, xvF, xvF]
  | 7 => [[(-2147483648, -1), xo 0, (1, 254), xo 255, (256, 2147483647)], xvF, xvF, xvF, xvF]
  | 9 => [xvF, xvO, xvF, xvF, xvF]
  | 10 => [xvO, xvF, xvF, xvF, xvF]
  | 11 => [xvO, xvF, xvF, xvF, xvF]
  | 12 => [xvO, xvF, xvF, xvF, xvF]
  | 27 => [xvC, xvC, xvF, xvF, xvF]
  | 28 => [[(-2147483648, -1), xo 0, xo 1, xo 2, (3, 2147483647)], xvF, xvF, xvF, xvF]
  | 34 => [xvS, [(-2147483648, -1), xo 0, (1, 19), xo 20, (21, 2147483647)], xvF, xvF, xvF]
  | 35 => [[(-2147483648, 0), xo 1, (2, 59), xo 60, (61, 2147483647)], xvF, xvF, xvF, xvF]
  | n => bif List.elem n [13, 14, 17, 18, 19, 20, 21, 22, 23, 24, 25, 26, 30, 31, 32, 33] then [xvC, xvF, xvF, xvF, xvF] else [xvF, xvF, xvF, xvF, xvF]
def xSp (k : Nat) : List (List (Int × Int)) := xvF :: (xAr k ++ [[xo (k : Int)]])
def xall (sp : List (List (Int × Int))) : Bool := (xprod sp).all xok
/-- signs: what is known of x and y, of y, of w, and the five sums' flags -/
def xSg29 (c z w : Int) : List (List (Int × Int)) := [xvF, xvF, xvF, xvF, xvF, xvF, [xo 29], xvF, xvF, xvF, xvF, xvF, xvF, xvF, xvF, xvF, xvF, xvF, xvF, xvF, xvF, xvF, xvF, xvF, xvF, xvF, xvF, xvF, xvF, xvF,
  [xo 0, xo 1], [xo 0, xo 1], [xo 0, xo 1], bif decide (z = 0) then xvF else [xo 0, xo 1], bif decide (z = 1) then [xo 0, xo 1] else xvF, xvF, [xo c], [xo z], [xo w]]
/-- status: its number, and what is left of it when 12 are taken away -/
def xSt39 (a b : List (Int × Int)) : List (List (Int × Int)) := [xvF, a, xvF, xvF, xvF, xvF, [xo 39], xvF, b]
/-- row: its shelf between q -/
def xSp0 (q : Int × Int) : List (List (Int × Int)) := [xvF, [q], [(-2147483648, -1), xo 0, xo 1, xo 2, xo 3, xo 4, (5, 2147483647)], [(-2147483648, -1), xo 0, (1, 39), xo 40, (41, 2147483647)], xvF, xvF, [xo 0]]
