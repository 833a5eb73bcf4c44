theorem xA_ok : (match xA with
  | some ((pc, _), ([], [])) => Nat.beq pc 18
  | _ => false) = true := by decide +kernel
theorem fL_ok : (List.range 6).all (fun L => xfin (xB (L + 1) [])) = true := by decide +kernel
def xGr : List Nat := [1, 3, 4, 7, 8, 11, 12, 13, 14, 15, 16, 17, 18, 19, 20, 21, 22, 23, 24, 25, 26, 27, 28, 30, 31, 32, 33, 35, 36, 37, 38, 40, 41, 42, 43, 44, 45, 46, 47, 48, 49, 50, 51, 52, 53, 54, 55, 56, 57, 58, 59, 60, 61, 62, 63]
theorem tGr : xGr.all (fun k => xall (xSp k)) = true := by decide +kernel
theorem t39a : xall (xSt39 [xo 0, xo 1, xo 2, xo 3, xo 4, xo 5, xo 6, xo 7, xo 8, xo 9, xo 10, xo 11, xo 12, xo 13, xo 14, xo 15, xo 16] xvF) = true := by decide +kernel
theorem t39b : xall (xSt39 [(-2147483648, -2147483637)] [(2147483636, 2147483647)]) = true := by decide +kernel
theorem t39c : xall (xSt39 [(-2147483636, -1)] [(-2147483648, -13)]) = true := by decide +kernel
theorem t39d : xall (xSt39 [(17, 2147483647)] [(5, 2147483635)]) = true := by decide +kernel
