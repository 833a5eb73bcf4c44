/-! what is proved of calls ahead of the walk: signOf's answers, and one row of ints copied into another -/
/-- signOf(k) and copies(ints, ints), answered without a walk -/
def xBt : xCT := fun a as h O => bif Nat.beq a 254 then (match as with
    | [.int k] => bif decide (0 ≤ k) then (match xnth [(43 : Int32), 45, 42, 47, 37, 60, 61, 62] k.toNatClampNeg with
      | some c => some ((h, some (.int c), 0, 8), O)
      | none => none) else none
    | _ => none) else bif Nat.beq a 264 then (match as with
    | [.ref (p + 1), .ref (q + 1)] => (match xnth h p with
      | some (.inl (0, N, .inl f)) => (match xnth h q with
        | some (.inl (0, N', .inl g)) => bif Nat.beq N N' && (!(Nat.beq p q) && (Nat.ble N 60000 && O.1.isEmpty)) then
          xset h q (.inl (0, N, .inl (fun j => bif Nat.blt j N then f j else g j))) (fun h' => some ((h', none, 0, 0), O)) else none
        | _ => none)
      | _ => none)
    | _ => none) else none
theorem xset_eq {α β : Type} : ∀ {l : List α} {i : Nat} {a : α} {k : List α → Option β}, i < l.length → xset l i a k = k (l.set i a)
  | [], _, _, _, h => by simp at h
  | _ :: _, 0, _, _, _ => rfl
  | b :: l, i + 1, a, k, h => xset_eq (l := l) (k := fun l' => k (b :: l')) (by simpa using h)
theorem xrun_S {L : Nat} {iv : List (Int × Int)} {Ms : List xM} {C : xCT} {M : xM} {n pc len a b sl fr : Nat} {ins : Instr} {lv : xLv} {st : List Value} {h : List xE} {O O' : xO} {S' : xS} (hf : xfet (xMt M) pc = some (ins, len, a, b)) (hr : xisr ins = false)
    (hs : xstep L iv Ms C M ins len a b pc lv st h sl fr O = some (S', O')) : xrun L iv Ms C M (n + 1) (pc, lv, st, h, sl, fr) O = xrun L iv Ms C M n S' O' := by
  show (match xfet (xMt M) pc with
    | none => none
    | some (ins, len, a, b) => bif xisr ins then some ((pc, lv, st, h, sl, fr), O) else match xstep L iv Ms C M ins len a b pc lv st h sl fr O with
      | none => none
      | some (S', O') => xrun L iv Ms C M n S' O') = _
  rw [hf]
  show (bif xisr ins then some ((pc, lv, st, h, sl, fr), O) else match xstep L iv Ms C M ins len a b pc lv st h sl fr O with
      | none => none
      | some (S', O') => xrun L iv Ms C M n S' O') = _
  rw [hr]
  show (match xstep L iv Ms C M ins len a b pc lv st h sl fr O with
      | none => none
      | some (S', O') => xrun L iv Ms C M n S' O') = _
  rw [hs]
theorem xin_nI {k N : Nat} (hk : k < N) (hN : N ≤ 60000) : xin (nI k) N = true := by
  unfold xin
  rw [decide_eq_false (nI_pos (n := k) (by omega)), nI_clamp (n := k) (by omega)]
  cases hb : Nat.ble N k with
  | true => exact absurd (Nat.le_of_ble_eq_true hb) (by omega)
  | false => rfl
def xl3 (p q : Nat) (v : Value) : xLv := [(2, v), (0, .ref (p + 1)), (1, .ref (q + 1))]
section XCP
variable {iv : List (Int × Int)} {Ms : List xM} {C : xCT} {n k N p q sl fr : Nat} {h : List xE} {f g : Nat → Int32} {cs : List Prop}
theorem xcp_head (hN : N ≤ 60000) (hp : xnth h p = some (.inl (0, N, .inl f))) :
    xrun 0 iv Ms C rX9_copies (n + 3) (2, xl3 p q (.int (nI k)), [], h, sl, fr) ([], cs) = xrun 0 iv Ms C rX9_copies n (5, xl3 p q (.int (nI k)), [.int (nI N), .int (nI k)], h, sl, fr) ([], cs) := by
  refine (xrun_S (S' := (3, xl3 p q (.int (nI k)), [.int (nI k)], h, sl, fr)) (O' := ([], cs)) rfl rfl rfl).trans ?_
  refine (xrun_S (S' := (4, xl3 p q (.int (nI k)), [.ref (p + 1), .int (nI k)], h, sl, fr)) (O' := ([], cs)) rfl rfl rfl).trans ?_
  refine xrun_S (S' := (5, xl3 p q (.int (nI k)), [.int (nI N), .int (nI k)], h, sl, fr)) (O' := ([], cs)) (ins := .arraylength) (len := 1) (a := 0) (b := 0) rfl rfl ?_
  show (match xnth h p with
      | some (.inl (t, n, _)) => bif Nat.blt t 5 then some ((4 + 1, xl3 p q (.int (nI k)), Value.int (Int32.ofNat n) :: [.int (nI k)], h, sl, fr), (([], cs) : xO)) else none
      | _ => none) = _
  rw [hp]
  rfl
theorem xcp_it (hk : k < N) (hN : N ≤ 60000) (hp : xnth h p = some (.inl (0, N, .inl f))) (hq : xnth h q = some (.inl (0, N, .inl g))) :
    xrun 0 iv Ms C rX9_copies (n + 12) (2, xl3 p q (.int (nI k)), [], h, sl, fr) ([], cs) = xrun 0 iv Ms C rX9_copies n (2, xl3 p q (.int (nI (k + 1))), [], h.set q (.inl (0, N, .inl (upd g k (f k)))), sl, fr) ([], cs) := by
  have hlt : q < h.length := by
    rw [xnth_eq] at hq
    exact (List.getElem?_eq_some_iff.mp hq).1
  have hx := xin_nI hk hN
  have hc : (nI k).toNatClampNeg = k := nI_clamp (by omega)
  refine (xcp_head (n := n + 9) hN hp).trans ?_
  refine (xrun_S (S' := (8, xl3 p q (.int (nI k)), [], h, sl, fr)) (O' := ([], cs)) (ins := .if_icmp .ge 15) (len := 3) (a := 0) (b := 0) rfl rfl ?_).trans ?_
  · show xgo 5 3 15 (xl3 p q (.int (nI k))) [] h sl fr (decide (nI N ≤ nI k)) ([], cs) = _
    rw [decide_eq_false (nI_ge hk (by omega))]
    rfl
  refine (xrun_S (S' := (9, xl3 p q (.int (nI k)), [.ref (q + 1)], h, sl, fr)) (O' := ([], cs)) rfl rfl rfl).trans ?_
  refine (xrun_S (S' := (10, xl3 p q (.int (nI k)), [.int (nI k), .ref (q + 1)], h, sl, fr)) (O' := ([], cs)) rfl rfl rfl).trans ?_
  refine (xrun_S (S' := (11, xl3 p q (.int (nI k)), [.ref (p + 1), .int (nI k), .ref (q + 1)], h, sl, fr)) (O' := ([], cs)) rfl rfl rfl).trans ?_
  refine (xrun_S (S' := (12, xl3 p q (.int (nI k)), [.int (nI k), .ref (p + 1), .int (nI k), .ref (q + 1)], h, sl, fr)) (O' := ([], cs)) rfl rfl rfl).trans ?_
  refine (xrun_S (S' := (13, xl3 p q (.int (nI k)), [.int (f k), .int (nI k), .ref (q + 1)], h, sl, fr)) (O' := ([], cs)) (ins := .iaload) (len := 1) (a := 0) (b := 0) rfl rfl ?_).trans ?_
  · show (match xnth h p with
      | some (.inl (0, n, .inl f)) => bif xin (nI k) n then some ((12 + 1, xl3 p q (.int (nI k)), Value.int (f (nI k).toNatClampNeg) :: [.int (nI k), .ref (q + 1)], h, sl, fr), (([], cs) : xO)) else none
      | _ => none) = _
    rw [hp]
    show (bif xin (nI k) N then some ((12 + 1, xl3 p q (.int (nI k)), Value.int (f (nI k).toNatClampNeg) :: [.int (nI k), .ref (q + 1)], h, sl, fr), (([], cs) : xO)) else none) = _
    rw [hx, hc]
    rfl
  refine (xrun_S (S' := (14, xl3 p q (.int (nI k)), [], h.set q (.inl (0, N, .inl (upd g k (f k)))), sl, fr)) (O' := ([], cs)) (ins := .iastore) (len := 1) (a := 0) (b := 0) rfl rfl ?_).trans ?_
  · show (match xnth h q with
      | some (.inl (0, n, .inl g)) => bif xin (nI k) n then xset h q (.inl (0, n, .inl (upd g (nI k).toNatClampNeg (f k)))) (fun h' => some ((13 + 1, xl3 p q (.int (nI k)), ([] : List Value), h', sl, fr), (([], cs) : xO))) else none
      | _ => none) = _
    rw [hq]
    show (bif xin (nI k) N then xset h q (.inl (0, N, .inl (upd g (nI k).toNatClampNeg (f k)))) (fun h' => some ((13 + 1, xl3 p q (.int (nI k)), ([] : List Value), h', sl, fr), (([], cs) : xO))) else none) = _
    rw [hx, hc]
    show xset h q (.inl (0, N, .inl (upd g k (f k)))) (fun h' => some ((13 + 1, xl3 p q (.int (nI k)), ([] : List Value), h', sl, fr), (([], cs) : xO))) = _
    rw [xset_eq hlt]
  refine (xrun_S (S' := (17, xl3 p q (.int (nI (k + 1))), [], h.set q (.inl (0, N, .inl (upd g k (f k)))), sl, fr)) (O' := ([], cs)) (ins := .iinc 2 1) (len := 3) (a := 0) (b := 0) rfl rfl ?_).trans ?_
  · rw [nI_succ]
    rfl
  exact xrun_S (S' := (2, xl3 p q (.int (nI (k + 1))), [], h.set q (.inl (0, N, .inl (upd g k (f k)))), sl, fr)) (O' := ([], cs)) rfl rfl rfl
theorem xcp_end (hN : N ≤ 60000) (hp : xnth h p = some (.inl (0, N, .inl f))) :
    xrun 0 iv Ms C rX9_copies 5 (2, xl3 p q (.int (nI N)), [], h, sl, fr) ([], cs) = some ((20, xl3 p q (.int (nI N)), [], h, sl, fr), ([], cs)) := by
  refine (xcp_head (n := 2) hN hp).trans ?_
  refine (xrun_S (S' := (20, xl3 p q (.int (nI N)), [], h, sl, fr)) (O' := ([], cs)) (ins := .if_icmp .ge 15) (len := 3) (a := 0) (b := 0) rfl rfl ?_).trans rfl
  show xgo 5 3 15 (xl3 p q (.int (nI N))) [] h sl fr (decide (nI N ≤ nI N)) ([], cs) = _
  rw [decide_eq_true (nI_le (Nat.le_refl N) (by omega))]
  rfl
theorem xset_self {α : Type} {l : List α} {i : Nat} {a : α} (h : l[i]? = some a) : l.set i a = l := by
  apply List.ext_getElem?
  intro j
  rw [List.getElem?_set]
  by_cases hj : i = j
  · subst hj
    rw [if_pos rfl, if_pos (List.getElem?_eq_some_iff.mp h).1, h]
  · rw [if_neg hj]
end XCP
theorem xcp_loop {iv : List (Int × Int)} {Ms : List xM} {C : xCT} {N p q sl fr : Nat} {f : Nat → Int32} {cs : List Prop} (hN : N ≤ 60000) (hpq : p ≠ q) : ∀ (r k : Nat) (h : List xE) (g : Nat → Int32), N = k + r → xnth h p = some (.inl (0, N, .inl f)) → xnth h q = some (.inl (0, N, .inl g)) →
    xrun 0 iv Ms C rX9_copies (12 * r + 5) (2, xl3 p q (.int (nI k)), [], h, sl, fr) ([], cs) = some ((20, xl3 p q (.int (nI N)), [], h.set q (.inl (0, N, .inl (fun j => if k ≤ j ∧ j < N then f j else g j))), sl, fr), ([], cs))
  | 0, k, h, g, e, hp, hq => by
    obtain rfl : N = k := e
    have e1 : (fun j => if N ≤ j ∧ j < N then f j else g j) = g := funext fun j => if_neg (by omega)
    rw [e1, xset_self (by rw [← xnth_eq]; exact hq)]
    exact xcp_end hN hp
  | r + 1, k, h, g, e, hp, hq => by
    have hlt : q < h.length := by
      rw [xnth_eq] at hq
      exact (List.getElem?_eq_some_iff.mp hq).1
    rw [show 12 * (r + 1) + 5 = (12 * r + 5) + 12 by omega, xcp_it (by omega) hN hp hq]
    rw [xcp_loop hN hpq r (k + 1) (h.set q (.inl (0, N, .inl (upd g k (f k))))) (upd g k (f k)) (by omega) (by rw [xnth_eq, List.getElem?_set, if_neg (Ne.symm hpq), ← xnth_eq]; exact hp) (by rw [xnth_eq, List.getElem?_set, if_pos rfl, if_pos hlt]), List.set_set]
    have e1 : (fun j => if k + 1 ≤ j ∧ j < N then f j else upd g k (f k) j) = (fun j => if k ≤ j ∧ j < N then f j else g j) := funext fun j => by
      unfold upd
      by_cases h1 : j = k
      · subst h1
        rw [if_neg (by omega), if_pos rfl, if_pos (by omega)]
      · by_cases h2 : k ≤ j ∧ j < N
        · rw [if_pos (by omega), if_pos h2]
        · rw [if_neg (by omega), if_neg h1, if_neg h2]
    rw [e1]
theorem xcp_exe {iv : List (Int × Int)} {Ms : List xM} {C : xCT} {N p q : Nat} {f g : Nat → Int32} {cs : List Prop} {h : List xE} (hN : N ≤ 60000) (hpq : p ≠ q) (hp : xnth h p = some (.inl (0, N, .inl f))) (hq : xnth h q = some (.inl (0, N, .inl g))) :
    xexe 0 iv Ms C ((12 * N + 5) + 2) rX9_copies [.ref (p + 1), .ref (q + 1)] h ([], cs) = some ((h.set q (.inl (0, N, .inl (fun j => bif Nat.blt j N then f j else g j))), none, 0, 0), ([], cs)) := by
  have h1 : xrun 0 iv Ms C rX9_copies ((12 * N + 5) + 2) (0, lv_args 0 [.ref (p + 1), .ref (q + 1)], [], h, 0, 0) ([], cs) = some ((20, xl3 p q (.int (nI N)), [], h.set q (.inl (0, N, .inl (fun j => if 0 ≤ j ∧ j < N then f j else g j))), 0, 0), ([], cs)) := by
    refine (xrun_S (S' := (1, lv_args 0 [.ref (p + 1), .ref (q + 1)], [.int (Int32.ofInt 0)], h, 0, 0)) (O' := ([], cs)) rfl rfl rfl).trans ?_
    refine (xrun_S (S' := (2, xl3 p q (.int (nI 0)), [], h, 0, 0)) (O' := ([], cs)) rfl rfl rfl).trans ?_
    exact xcp_loop hN hpq N 0 h g (by omega) hp hq
  have e1 : (fun j => if 0 ≤ j ∧ j < N then f j else g j) = (fun j => bif Nat.blt j N then f j else g j) := funext fun j => by
    by_cases hj : j < N
    · rw [if_pos ⟨Nat.zero_le j, hj⟩, show Nat.blt j N = true from Nat.ble_eq_true_of_le hj]
      rfl
    · rw [if_neg (fun z => hj z.2)]
      cases hb : Nat.blt j N with
      | true => exact absurd (Nat.le_of_ble_eq_true hb) hj
      | false => rfl
  rw [e1] at h1
  show (match xrun 0 iv Ms C rX9_copies ((12 * N + 5) + 2) (0, lv_args 0 [.ref (p + 1), .ref (q + 1)], [], h, 0, 0) ([], cs) with
    | some (S, O') => xend rX9_copies S O'
    | none => none) = _
  rw [h1]
  rfl
