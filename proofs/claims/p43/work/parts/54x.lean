def z0 : List xE := [.inr (8, xDf 8 9)]
def zT (e : xE) : Nat := match e with
  | .inl (t, _, _) => t + 1
  | .inr (c, _) => c + 10
#eval match xC xBt [] xMs 100000 16 84 [.ref 1] z0 ([], []) with
  | some (r, _) => (r.1.map zT, r.2.2.1, r.2.2.2, r.1.length)
  | none => ([], 0, 0, 0)
