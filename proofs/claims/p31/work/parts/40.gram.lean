/-! the grammar of formulas: where a COMP (0), SUM (1), TERM (2), PART (3) ends; what follows a SUM's first TERM (4), a TERM's first PART (5) -/
/-- letters, and how many cells there are -/
abbrev LT : Type := (Nat → Int) × Int
/-- the sign c, and what is behind it -/
def ck (L : LT) (c : Int) (q : Nat) : Option Nat := if L.1 q = c then some (q + 1) else none
/-- what a step of the grammar asks of the steps below -/
def PB (f : Nat → Nat → Option Nat) (k : Nat) (L : LT) (p : Nat) : Option Nat := match k with
  | 0 => (f 1 p).bind (fun q => if L.1 q = 60 ∨ L.1 q = 61 ∨ L.1 q = 62 then f 1 (q + 1) else some q)
  | 1 => (f 2 p).bind (f 4)
  | 2 => (f 3 p).bind (f 5)
  | 4 => if L.1 p = 43 ∨ L.1 p = 45 then (f 2 (p + 1)).bind (f 4) else some p
  | 5 => if L.1 p = 42 ∨ L.1 p = 47 ∨ L.1 p = 37 then (f 3 (p + 1)).bind (f 5) else some p
  | _ => if 48 ≤ L.1 p ∧ L.1 p ≤ 57 then (if ¬ (48 ≤ L.1 (p + 1) ∧ L.1 (p + 1) ≤ 57) then some (p + 1) else if ¬ (48 ≤ L.1 (p + 2) ∧ L.1 (p + 2) ≤ 57) then some (p + 2) else if ¬ (48 ≤ L.1 (p + 3) ∧ L.1 (p + 3) ≤ 57) then some (p + 3) else none)
    else if 97 ≤ L.1 p ∧ L.1 p ≤ 120 ∧ L.1 p ≤ 96 + L.2 then some (p + 1)
    else if L.1 p = 126 then (if 97 ≤ L.1 (p + 1) ∧ L.1 (p + 1) ≤ 120 ∧ L.1 (p + 1) ≤ 96 + L.2 then some (p + 2) else none)
    else if L.1 p = 45 then f 3 (p + 1)
    else if L.1 p = 40 then (f 0 (p + 1)).bind (ck L 41)
    else if L.1 p = 91 then (f 0 (p + 1)).bind (fun q => (ck L 63 q).bind (fun q => (f 0 q).bind (fun q => (ck L 58 q).bind (fun q => (f 0 q).bind (ck L 93)))))
    else if L.1 p = 94 then (ck L 40 (p + 1)).bind (fun q => (f 0 q).bind (fun q => (ck L 44 q).bind (fun q => (f 0 q).bind (ck L 41))))
    else none
def PP : Nat → LT → Nat → Nat → Option Nat
  | 0, _, _, _ => none
  | n + 1, L, k, p => PB (PP n L) k L p
/-- what the one answers, the other does -/
def OL (a b : Option Nat) : Prop := ∀ q, a = some q → b = some q
theorem OL.rf {a : Option Nat} : OL a a := fun _ h => h
theorem OL.bd {a b : Option Nat} {f g : Nat → Option Nat} (h : OL a b) (k : ∀ q, OL (f q) (g q)) : OL (a.bind f) (b.bind g) := by
  intro q e
  cases a with
  | none => cases e
  | some x =>
    rw [h x rfl]
    exact k x q e
theorem OL.it {c : Prop} [Decidable c] {a b a' b' : Option Nat} (h : OL a a') (k : OL b b') : OL (if c then a else b) (if c then a' else b') := by
  split
  · exact h
  · exact k
theorem PB_mono {f g : Nat → Nat → Option Nat} (h : ∀ k p, OL (f k p) (g k p)) {L : LT} : ∀ (k p : Nat), OL (PB f k L p) (PB g k L p)
  | 0, p => (h 1 p).bd (fun q => OL.it (h 1 _) OL.rf)
  | 1, p => (h 2 p).bd (h 4)
  | 2, p => (h 3 p).bd (h 5)
  | 4, p => OL.it ((h 2 _).bd (h 4)) OL.rf
  | 5, p => OL.it ((h 3 _).bd (h 5)) OL.rf
  | 3, p => OL.it OL.rf (OL.it OL.rf (OL.it OL.rf (OL.it (h 3 _) (OL.it ((h 0 _).bd (fun _ => OL.rf)) (OL.it ((h 0 _).bd (fun _ => OL.rf.bd (fun _ => (h 0 _).bd (fun _ => OL.rf.bd (fun _ => (h 0 _).bd (fun _ => OL.rf)))))) (OL.it (OL.rf.bd (fun _ => (h 0 _).bd (fun _ => OL.rf.bd (fun _ => (h 0 _).bd (fun _ => OL.rf))))) OL.rf))))))
  | k + 6, p => OL.it OL.rf (OL.it OL.rf (OL.it OL.rf (OL.it (h 3 _) (OL.it ((h 0 _).bd (fun _ => OL.rf)) (OL.it ((h 0 _).bd (fun _ => OL.rf.bd (fun _ => (h 0 _).bd (fun _ => OL.rf.bd (fun _ => (h 0 _).bd (fun _ => OL.rf)))))) (OL.it (OL.rf.bd (fun _ => (h 0 _).bd (fun _ => OL.rf.bd (fun _ => (h 0 _).bd (fun _ => OL.rf))))) OL.rf))))))
theorem PP_s1 {L : LT} : ∀ (n k p : Nat), OL (PP n L k p) (PP (n + 1) L k p)
  | 0, _, _ => fun q e => by cases e
  | n + 1, k, p => PB_mono (fun k p => PP_s1 n k p) k p
theorem PP_m {L : LT} {n m k p : Nat} (h : n ≤ m) : OL (PP n L k p) (PP m L k p) := by
  induction h with
  | refl => exact OL.rf
  | step _ ih => exact fun q e => PP_s1 _ _ _ q (ih q e)
theorem OL.it2 {c d : Prop} [Decidable c] [Decidable d] {a b b' : Option Nat} (h : c → d) (h2 : d → b = none) (k : OL b b') : OL (if c then a else b) (if d then a else b') := by
  by_cases hc : c
  · rw [if_pos hc, if_pos (h hc)]
    exact OL.rf
  · rw [if_neg hc]
    by_cases hd : d
    · rw [h2 hd]
      exact fun q e => by cases e
    · rw [if_neg hd]
      exact k
theorem PB_up {f g : Nat → Nat → Option Nat} (h : ∀ k p, OL (f k p) (g k p)) {l : Nat → Int} {m n : Int} (hm : m ≤ n) : ∀ (k p : Nat), OL (PB f k ⟨l, m⟩ p) (PB g k ⟨l, n⟩ p)
  | 0, p => (h 1 p).bd (fun q => OL.it (h 1 _) OL.rf)
  | 1, p => (h 2 p).bd (h 4)
  | 2, p => (h 3 p).bd (h 5)
  | 4, p => OL.it ((h 2 _).bd (h 4)) OL.rf
  | 5, p => OL.it ((h 3 _).bd (h 5)) OL.rf
  | 3, p => OL.it OL.rf (OL.it2 (fun c => ⟨c.1, c.2.1, by have c2 : l p ≤ 96 + m := c.2.2; show l p ≤ 96 + n; omega⟩) (fun c => by
      have c1 : 97 ≤ l p := c.1
      have c2 : l p ≤ 120 := c.2.1
      rw [if_neg (show ¬ l p = 126 by omega), if_neg (show ¬ l p = 45 by omega), if_neg (show ¬ l p = 40 by omega), if_neg (show ¬ l p = 91 by omega), if_neg (show ¬ l p = 94 by omega)]) (OL.it (OL.it2 (fun c => ⟨c.1, c.2.1, by have c2 : l (p + 1) ≤ 96 + m := c.2.2; show l (p + 1) ≤ 96 + n; omega⟩) (fun _ => rfl) OL.rf) (OL.it (h 3 _) (OL.it ((h 0 _).bd (fun _ => OL.rf)) (OL.it ((h 0 _).bd (fun _ => OL.rf.bd (fun _ => (h 0 _).bd (fun _ => OL.rf.bd (fun _ => (h 0 _).bd (fun _ => OL.rf)))))) (OL.it (OL.rf.bd (fun _ => (h 0 _).bd (fun _ => OL.rf.bd (fun _ => (h 0 _).bd (fun _ => OL.rf))))) OL.rf))))))
  | k + 6, p => OL.it OL.rf (OL.it2 (fun c => ⟨c.1, c.2.1, by have c2 : l p ≤ 96 + m := c.2.2; show l p ≤ 96 + n; omega⟩) (fun c => by
      have c1 : 97 ≤ l p := c.1
      have c2 : l p ≤ 120 := c.2.1
      rw [if_neg (show ¬ l p = 126 by omega), if_neg (show ¬ l p = 45 by omega), if_neg (show ¬ l p = 40 by omega), if_neg (show ¬ l p = 91 by omega), if_neg (show ¬ l p = 94 by omega)]) (OL.it (OL.it2 (fun c => ⟨c.1, c.2.1, by have c2 : l (p + 1) ≤ 96 + m := c.2.2; show l (p + 1) ≤ 96 + n; omega⟩) (fun _ => rfl) OL.rf) (OL.it (h 3 _) (OL.it ((h 0 _).bd (fun _ => OL.rf)) (OL.it ((h 0 _).bd (fun _ => OL.rf.bd (fun _ => (h 0 _).bd (fun _ => OL.rf.bd (fun _ => (h 0 _).bd (fun _ => OL.rf)))))) (OL.it (OL.rf.bd (fun _ => (h 0 _).bd (fun _ => OL.rf.bd (fun _ => (h 0 _).bd (fun _ => OL.rf))))) OL.rf))))))
theorem PP_up {l : Nat → Int} {m m' : Int} (hm : m ≤ m') : ∀ (n k p : Nat), OL (PP n ⟨l, m⟩ k p) (PP n ⟨l, m'⟩ k p)
  | 0, _, _ => fun q e => by cases e
  | n + 1, k, p => PB_up (fun k p => PP_up hm n k p) hm k p
/-- a piece of the grammar from p to q -/
def PK (L : LT) (k p q : Nat) : Prop := ∃ n, PP n L k p = some q
theorem PK.two {L : LT} {a b p q r s : Nat} (h1 : PK L a p q) (h2 : PK L b r s) : ∃ n, PP n L a p = some q ∧ PP n L b r = some s := by
  obtain ⟨n, e⟩ := h1
  obtain ⟨m, e'⟩ := h2
  exact ⟨n + m, PP_m (by omega) _ e, PP_m (by omega) _ e'⟩
theorem PK.up {L : LT} {k p q n : Nat} (h : PB (PP n L) k L p = some q) : PK L k p q := ⟨n + 1, h⟩
theorem PK.c1 {L : LT} {p q : Nat} (h : PK L 1 p q) (hc : ¬ (L.1 q = 60 ∨ L.1 q = 61 ∨ L.1 q = 62)) : PK L 0 p q := by
  obtain ⟨n, e⟩ := h
  refine PK.up (n := n) ?_
  show (PP n L 1 p).bind _ = _
  rw [e]
  exact if_neg hc
theorem PK.c2 {L : LT} {p q r : Nat} (h : PK L 1 p q) (hc : L.1 q = 60 ∨ L.1 q = 61 ∨ L.1 q = 62) (h2 : PK L 1 (q + 1) r) : PK L 0 p r := by
  obtain ⟨n, e, e2⟩ := h.two h2
  refine PK.up (n := n) ?_
  show (PP n L 1 p).bind _ = _
  rw [e]
  exact (if_pos hc).trans e2
theorem PK.s {L : LT} {p q r : Nat} (h : PK L 2 p q) (h2 : PK L 4 q r) : PK L 1 p r := by
  obtain ⟨n, e, e2⟩ := h.two h2
  refine PK.up (n := n) ?_
  show (PP n L 2 p).bind _ = _
  rw [e]
  exact e2
theorem PK.t {L : LT} {p q r : Nat} (h : PK L 3 p q) (h2 : PK L 5 q r) : PK L 2 p r := by
  obtain ⟨n, e, e2⟩ := h.two h2
  refine PK.up (n := n) ?_
  show (PP n L 3 p).bind _ = _
  rw [e]
  exact e2
theorem PK.s0 {L : LT} {p : Nat} (hc : ¬ (L.1 p = 43 ∨ L.1 p = 45)) : PK L 4 p p := PK.up (n := 0) (if_neg hc)
theorem PK.t0 {L : LT} {p : Nat} (hc : ¬ (L.1 p = 42 ∨ L.1 p = 47 ∨ L.1 p = 37)) : PK L 5 p p := PK.up (n := 0) (if_neg hc)
theorem PK.s1 {L : LT} {p q r : Nat} (hc : L.1 p = 43 ∨ L.1 p = 45) (h : PK L 2 (p + 1) q) (h2 : PK L 4 q r) : PK L 4 p r := by
  obtain ⟨n, e, e2⟩ := h.two h2
  refine PK.up (n := n) ((if_pos hc).trans ?_)
  rw [e]
  exact e2
theorem PK.t1 {L : LT} {p q r : Nat} (hc : L.1 p = 42 ∨ L.1 p = 47 ∨ L.1 p = 37) (h : PK L 3 (p + 1) q) (h2 : PK L 5 q r) : PK L 5 p r := by
  obtain ⟨n, e, e2⟩ := h.two h2
  refine PK.up (n := n) ((if_pos hc).trans ?_)
  rw [e]
  exact e2
theorem obd {a : Option Nat} {f : Nat → Option Nat} {q : Nat} (h : a.bind f = some q) : ∃ x, a = some x ∧ f x = some q := by
  cases a with
  | none => cases h
  | some x => exact ⟨x, rfl, h⟩
theorem ock {L : LT} {c : Int} {p q : Nat} (h : ck L c p = some q) : L.1 p = c ∧ q = p + 1 := by
  unfold ck at h
  split at h
  · rename_i e
    exact ⟨e, (Option.some.inj h).symm⟩
  · cases h
theorem oif {c : Prop} [Decidable c] {a b : Option Nat} {q : Nat} (h : (if c then a else b) = some q) : (c ∧ a = some q) ∨ (¬ c ∧ b = some q) := by
  split at h
  · rename_i e
    exact Or.inl ⟨e, h⟩
  · rename_i e
    exact Or.inr ⟨e, h⟩
/-- the kinds of a PART, read off -/
def P3 (f : Nat → Nat → Option Nat) (L : LT) (p q : Nat) : Prop :=
  (48 ≤ L.1 p ∧ L.1 p ≤ 57) ∧ (q = p + 1 ∧ ¬ (48 ≤ L.1 (p + 1) ∧ L.1 (p + 1) ≤ 57) ∨ q = p + 2 ∧ (48 ≤ L.1 (p + 1) ∧ L.1 (p + 1) ≤ 57) ∧ ¬ (48 ≤ L.1 (p + 2) ∧ L.1 (p + 2) ≤ 57) ∨ q = p + 3 ∧ (48 ≤ L.1 (p + 1) ∧ L.1 (p + 1) ≤ 57) ∧ (48 ≤ L.1 (p + 2) ∧ L.1 (p + 2) ≤ 57) ∧ ¬ (48 ≤ L.1 (p + 3) ∧ L.1 (p + 3) ≤ 57))
  ∨ (97 ≤ L.1 p ∧ L.1 p ≤ 120 ∧ L.1 p ≤ 96 + L.2) ∧ q = p + 1
  ∨ L.1 p = 126 ∧ (97 ≤ L.1 (p + 1) ∧ L.1 (p + 1) ≤ 120 ∧ L.1 (p + 1) ≤ 96 + L.2) ∧ q = p + 2
  ∨ L.1 p = 45 ∧ f 3 (p + 1) = some q
  ∨ L.1 p = 40 ∧ (∃ a, f 0 (p + 1) = some a ∧ L.1 a = 41 ∧ q = a + 1)
  ∨ L.1 p = 91 ∧ (∃ a b c, f 0 (p + 1) = some a ∧ L.1 a = 63 ∧ f 0 (a + 1) = some b ∧ L.1 b = 58 ∧ f 0 (b + 1) = some c ∧ L.1 c = 93 ∧ q = c + 1)
  ∨ L.1 p = 94 ∧ L.1 (p + 1) = 40 ∧ ∃ a b, f 0 (p + 2) = some a ∧ L.1 a = 44 ∧ f 0 (a + 1) = some b ∧ L.1 b = 41 ∧ q = b + 1
theorem PB3 {f : Nat → Nat → Option Nat} {L : LT} {k p q : Nat} (hk : k = 3 ∨ 6 ≤ k) (h : PB f k L p = some q) : P3 f L p q := by
  have h : PB f 3 L p = some q := by
    rcases hk with rfl | hk
    · exact h
    · obtain ⟨j, rfl⟩ : ∃ j, k = j + 6 := ⟨k - 6, by omega⟩
      exact h
  unfold P3
  rcases oif h with ⟨c, h⟩ | ⟨c1, h⟩
  · refine Or.inl ⟨c, ?_⟩
    rcases oif h with ⟨d, h⟩ | ⟨d, h⟩
    · exact Or.inl ⟨(Option.some.inj h).symm, d⟩
    · rcases oif h with ⟨d2, h⟩ | ⟨d2, h⟩
      · exact Or.inr (Or.inl ⟨(Option.some.inj h).symm, Decidable.not_not.mp d, d2⟩)
      · rcases oif h with ⟨d3, h⟩ | ⟨d3, h⟩
        · exact Or.inr (Or.inr ⟨(Option.some.inj h).symm, Decidable.not_not.mp d, Decidable.not_not.mp d2, d3⟩)
        · cases h
  rcases oif h with ⟨c, h⟩ | ⟨c2, h⟩
  · exact Or.inr (Or.inl ⟨c, (Option.some.inj h).symm⟩)
  rcases oif h with ⟨c, h⟩ | ⟨c3, h⟩
  · rcases oif h with ⟨d, h⟩ | ⟨d, h⟩
    · exact Or.inr (Or.inr (Or.inl ⟨c, d, (Option.some.inj h).symm⟩))
    · cases h
  rcases oif h with ⟨c, h⟩ | ⟨c4, h⟩
  · exact Or.inr (Or.inr (Or.inr (Or.inl ⟨c, h⟩)))
  rcases oif h with ⟨c, h⟩ | ⟨c5, h⟩
  · obtain ⟨a, h1, h2⟩ := obd h
    obtain ⟨e1, e2⟩ := ock h2
    exact Or.inr (Or.inr (Or.inr (Or.inr (Or.inl ⟨c, a, h1, e1, e2⟩))))
  rcases oif h with ⟨c, h⟩ | ⟨c6, h⟩
  · obtain ⟨a, h1, h2⟩ := obd h
    obtain ⟨a', h3, h4⟩ := obd h2
    obtain ⟨e1, rfl⟩ := ock h3
    obtain ⟨b, h5, h6⟩ := obd h4
    obtain ⟨b', h7, h8⟩ := obd h6
    obtain ⟨e2, rfl⟩ := ock h7
    obtain ⟨d, h9, h10⟩ := obd h8
    obtain ⟨e3, e4⟩ := ock h10
    exact Or.inr (Or.inr (Or.inr (Or.inr (Or.inr (Or.inl ⟨c, a, b, d, h1, e1, h5, e2, h9, e3, e4⟩)))))
  rcases oif h with ⟨c, h⟩ | ⟨c7, h⟩
  · obtain ⟨a0, h0, h1⟩ := obd h
    obtain ⟨e0, rfl⟩ := ock h0
    obtain ⟨a, h2, h3⟩ := obd h1
    obtain ⟨a', h4, h5⟩ := obd h3
    obtain ⟨e1, rfl⟩ := ock h4
    obtain ⟨b, h6, h7⟩ := obd h5
    obtain ⟨e2, e3⟩ := ock h7
    exact Or.inr (Or.inr (Or.inr (Or.inr (Or.inr (Or.inr ⟨c, e0, a, b, h2, e1, h6, e2, e3⟩)))))
  · cases h
theorem PP_b3 {L : LT} {s n k p q : Nat} (lt : ∀ j, L.1 j ≠ -1 → j < s) (ih : ∀ k p q, PP n L k p = some q → p ≤ q ∧ (k ≠ 4 → k ≠ 5 → p < q) ∧ (p ≤ s → q ≤ s)) (hk : k = 3 ∨ 6 ≤ k) (h : PB (PP n L) k L p = some q) : p ≤ q ∧ (k ≠ 4 → k ≠ 5 → p < q) ∧ (p ≤ s → q ≤ s) := by
  have m : ∀ a, q = a + 1 → p ≤ a → a < s → p ≤ q ∧ (k ≠ 4 → k ≠ 5 → p < q) ∧ (p ≤ s → q ≤ s) := fun a e1 e2 e3 => ⟨by omega, fun _ _ => by omega, fun _ => by omega⟩
  rcases PB3 hk h with ⟨c, d⟩ | ⟨c, d⟩ | ⟨c, d, e⟩ | ⟨c, d⟩ | ⟨c, a, d, e1, e2⟩ | ⟨c, a, b, x, h1, e1, h2, e2, h3, e3, e4⟩ | ⟨c, c2, a, b, h1, e1, h2, e2, e3⟩
  · rcases d with ⟨d, _⟩ | ⟨d, d2, _⟩ | ⟨d, d2, d3, _⟩
    · exact m p d (Nat.le_refl _) (lt p (by omega))
    · exact m (p + 1) d (by omega) (lt _ (by omega))
    · exact m (p + 2) d (by omega) (lt _ (by omega))
  · exact m p d (Nat.le_refl _) (lt p (by omega))
  · exact m (p + 1) e (by omega) (lt _ (by omega))
  · have i1 := ih 3 _ _ d
    have := lt p (by omega)
    exact ⟨by omega, fun _ _ => by omega, fun _ => by omega⟩
  · have i1 := ih 0 _ _ d
    exact m a e2 (by omega) (lt _ (by omega))
  · have i1 := ih 0 _ _ h1
    have i2 := ih 0 _ _ h2
    have i3 := ih 0 _ _ h3
    exact m x e4 (by omega) (lt _ (by omega))
  · have i1 := ih 0 _ _ h1
    have i2 := ih 0 _ _ h2
    exact m b e3 (by omega) (lt _ (by omega))
/-- where a piece can end -/
theorem PP_b {L : LT} {s : Nat} (hs : ∀ j, s ≤ j → L.1 j = -1) : ∀ (n k p q : Nat), PP n L k p = some q → p ≤ q ∧ (k ≠ 4 → k ≠ 5 → p < q) ∧ (p ≤ s → q ≤ s)
  | 0, _, _, _, h => by cases h
  | n + 1, k, p, q, h => by
    have ih := PP_b hs n
    have lt : ∀ j, L.1 j ≠ -1 → j < s := fun j hj => Nat.lt_of_not_le (fun h => hj (hs j h))
    replace h : PB (PP n L) k L p = some q := h
    match k, h with
    | 0, h =>
      obtain ⟨a, h1, h2⟩ := obd h
      have i1 := ih 1 p a h1
      rcases oif h2 with ⟨c, h2⟩ | ⟨c, h2⟩
      · have i2 := ih 1 _ _ h2
        have := lt a (by omega)
        refine ⟨by omega, fun _ _ => by omega, fun _ => by omega⟩
      · obtain rfl := Option.some.inj h2
        refine ⟨by omega, fun _ _ => by omega, fun _ => by omega⟩
    | 1, h =>
      obtain ⟨a, h1, h2⟩ := obd h
      have i1 := ih 2 p a h1
      have i2 := ih 4 _ _ h2
      exact ⟨by omega, fun _ _ => by omega, fun _ => by omega⟩
    | 2, h =>
      obtain ⟨a, h1, h2⟩ := obd h
      have i1 := ih 3 p a h1
      have i2 := ih 5 _ _ h2
      exact ⟨by omega, fun _ _ => by omega, fun _ => by omega⟩
    | 4, h =>
      rcases oif h with ⟨c, h2⟩ | ⟨c, h2⟩
      · obtain ⟨a, h1, h3⟩ := obd h2
        have i1 := ih 2 _ a h1
        have i2 := ih 4 _ _ h3
        have := lt p (by omega)
        exact ⟨by omega, fun e => absurd rfl e, fun _ => by omega⟩
      · obtain rfl := Option.some.inj h2
        exact ⟨by omega, fun e => absurd rfl e, fun _ => by omega⟩
    | 5, h =>
      rcases oif h with ⟨c, h2⟩ | ⟨c, h2⟩
      · obtain ⟨a, h1, h3⟩ := obd h2
        have i1 := ih 3 _ a h1
        have i2 := ih 5 _ _ h3
        have := lt p (by omega)
        exact ⟨by omega, fun _ e => absurd rfl e, fun _ => by omega⟩
      · obtain rfl := Option.some.inj h2
        exact ⟨by omega, fun _ e => absurd rfl e, fun _ => by omega⟩
    | 3, h => exact PP_b3 (k := 3) lt ih (Or.inl rfl) h
    | k + 6, h => exact PP_b3 (k := k + 6) lt ih (Or.inr (by omega)) h
theorem PK.n1 {L : LT} {p : Nat} (h : 48 ≤ L.1 p ∧ L.1 p ≤ 57) (h1 : ¬ (48 ≤ L.1 (p + 1) ∧ L.1 (p + 1) ≤ 57)) : PK L 3 p (p + 1) := PK.up (n := 0) ((if_pos h).trans (if_pos h1))
theorem PK.n2 {L : LT} {p : Nat} (h : 48 ≤ L.1 p ∧ L.1 p ≤ 57) (h1 : 48 ≤ L.1 (p + 1) ∧ L.1 (p + 1) ≤ 57) (h2 : ¬ (48 ≤ L.1 (p + 2) ∧ L.1 (p + 2) ≤ 57)) : PK L 3 p (p + 2) := PK.up (n := 0) ((if_pos h).trans ((if_neg (fun c => c h1)).trans (if_pos h2)))
theorem PK.n3 {L : LT} {p : Nat} (h : 48 ≤ L.1 p ∧ L.1 p ≤ 57) (h1 : 48 ≤ L.1 (p + 1) ∧ L.1 (p + 1) ≤ 57) (h2 : 48 ≤ L.1 (p + 2) ∧ L.1 (p + 2) ≤ 57) (h3 : ¬ (48 ≤ L.1 (p + 3) ∧ L.1 (p + 3) ≤ 57)) : PK L 3 p (p + 3) := PK.up (n := 0) ((if_pos h).trans ((if_neg (fun c => c h1)).trans ((if_neg (fun c => c h2)).trans (if_pos h3))))
theorem PK.l {L : LT} {p : Nat} (h : 97 ≤ L.1 p ∧ L.1 p ≤ 120 ∧ L.1 p ≤ 96 + L.2) : PK L 3 p (p + 1) := PK.up (n := 0) ((if_neg (by omega)).trans (if_pos h))
theorem PK.u {L : LT} {p : Nat} (h : L.1 p = 126) (h1 : 97 ≤ L.1 (p + 1) ∧ L.1 (p + 1) ≤ 120 ∧ L.1 (p + 1) ≤ 96 + L.2) : PK L 3 p (p + 2) := PK.up (n := 0) ((if_neg (by omega)).trans ((if_neg (by omega)).trans ((if_pos h).trans (if_pos h1))))
theorem PK.m {L : LT} {p q : Nat} (h : L.1 p = 45) (h1 : PK L 3 (p + 1) q) : PK L 3 p q := by
  obtain ⟨n, e⟩ := h1
  exact PK.up (n := n) ((if_neg (by omega)).trans ((if_neg (by omega)).trans ((if_neg (by omega)).trans ((if_pos h).trans e))))
theorem PK.b {L : LT} {p a : Nat} (h : L.1 p = 40) (h1 : PK L 0 (p + 1) a) (h2 : L.1 a = 41) : PK L 3 p (a + 1) := by
  obtain ⟨n, e⟩ := h1
  refine PK.up (n := n) ((if_neg (by omega)).trans ((if_neg (by omega)).trans ((if_neg (by omega)).trans ((if_neg (by omega)).trans ((if_pos h).trans ?_)))))
  rw [e]
  exact if_pos h2
theorem PK.q {L : LT} {p a b c : Nat} (h : L.1 p = 91) (h1 : PK L 0 (p + 1) a) (e1 : L.1 a = 63) (h2 : PK L 0 (a + 1) b) (e2 : L.1 b = 58) (h3 : PK L 0 (b + 1) c) (e3 : L.1 c = 93) : PK L 3 p (c + 1) := by
  obtain ⟨n1, k1⟩ := h1
  obtain ⟨n2, k2⟩ := h2
  obtain ⟨n3, k3⟩ := h3
  have k1 := PP_m (show n1 ≤ n1 + n2 + n3 by omega) _ k1
  have k2 := PP_m (show n2 ≤ n1 + n2 + n3 by omega) _ k2
  have k3 := PP_m (show n3 ≤ n1 + n2 + n3 by omega) _ k3
  refine PK.up (n := n1 + n2 + n3) ((if_neg (by omega)).trans ((if_neg (by omega)).trans ((if_neg (by omega)).trans ((if_neg (by omega)).trans ((if_neg (by omega)).trans ((if_pos h).trans ?_))))))
  rw [k1]
  show (ck L 63 a).bind _ = _
  rw [show ck L 63 a = some (a + 1) from if_pos e1]
  show (PP _ L 0 (a + 1)).bind _ = _
  rw [k2]
  show (ck L 58 b).bind _ = _
  rw [show ck L 58 b = some (b + 1) from if_pos e2]
  show (PP _ L 0 (b + 1)).bind _ = _
  rw [k3]
  exact if_pos e3
theorem PK.g {L : LT} {p a b : Nat} (h : L.1 p = 94) (h0 : L.1 (p + 1) = 40) (h1 : PK L 0 (p + 2) a) (e1 : L.1 a = 44) (h2 : PK L 0 (a + 1) b) (e2 : L.1 b = 41) : PK L 3 p (b + 1) := by
  obtain ⟨n, k1, k2⟩ := h1.two h2
  refine PK.up (n := n) ((if_neg (by omega)).trans ((if_neg (by omega)).trans ((if_neg (by omega)).trans ((if_neg (by omega)).trans ((if_neg (by omega)).trans ((if_neg (by omega)).trans ((if_pos h).trans ?_)))))))
  show (ck L 40 (p + 1)).bind _ = _
  rw [show ck L 40 (p + 1) = some (p + 1 + 1) from if_pos h0]
  show (PP _ L 0 (p + 2)).bind _ = _
  rw [k1]
  show (ck L 44 a).bind _ = _
  rw [show ck L 44 a = some (a + 1) from if_pos e1]
  show (PP _ L 0 (a + 1)).bind _ = _
  rw [k2]
  exact if_pos e2
theorem PK.mm {l : Nat → Int} {m m' : Int} {k p q : Nat} (hm : m ≤ m') (h : PK ⟨l, m⟩ k p q) : PK ⟨l, m'⟩ k p q := by
  obtain ⟨n, h⟩ := h
  exact ⟨n, PP_up hm n k p q h⟩
/-- the tape's byte, -1 behind its end -/
def tp (σ : sg) (k : Nat) : Int := if (k : Int) < fl σ 12 then (σ 71 k).toInt else -1
def TL (σ : sg) (L : LT) (T : Nat) : Prop := (∀ k, tp σ k = L.1 k) ∧ fl σ 12 = (T : Int) ∧ T ≤ 250
theorem tp_us {σ : sg} {v : Int32} {k : Nat} : tp (us σ 60 22 v) k = tp σ k := by
  unfold tp
  rw [fl_o rfl, us_nq (by decide)]
theorem TL.lt {σ : sg} {L : LT} {T : Nat} (h : TL σ L T) : ∀ j, T ≤ j → L.1 j = -1 := by
  intro j hj
  rw [← h.1 j]
  unfold tp
  rw [if_neg (by rw [h.2.1]; omega)]
theorem TL.in {σ : sg} {L : LT} {T : Nat} (h : TL σ L T) {j : Nat} (hj : L.1 j ≠ -1) : j < T := Nat.lt_of_not_le (fun e => hj (h.lt j e))
theorem us_us {σ : sg} {q s : Nat} {v w : Int32} : us (us σ q s v) q s w = us σ q s w := funext (fun p => funext (fun j => by
  unfold us
  by_cases h : p = q ∧ j = s
  · rw [if_pos h, if_pos h]
  · rw [if_neg h, if_neg h, if_neg h]))
/-- what a reader of a piece leaves: the place is another, no more -/
def RCI (ks : List cT) (ρ : Nat → xE) (σ : sg) (P : Nat → Int32 → Prop) : yQ := fun h' r => ∃ (v : Int32) (p' : Nat) (x : Int32), HT ks (us σ 60 22 v) ρ h' ∧ v.toInt = (p' : Int) ∧ r = some (.int x) ∧ P p' x
def RG (k : Nat) (L : LT) (T p : Nat) : Nat → Int32 → Prop := fun p' x => (x.toInt = 0 ∨ x.toInt = 1) ∧ p ≤ p' ∧ p' ≤ T ∧ (x.toInt = 1 → PK L k p p')
/-- what is behind completes what is ahead -/
def SP (L : LT) (a b p q : Nat) : Prop := ∀ r, PK L b q r → PK L a p r
theorem SP.s {L : LT} {p q : Nat} (h : PK L 2 p q) : SP L 1 4 p q := fun _ h2 => h.s h2
theorem SP.t {L : LT} {p q : Nat} (h : PK L 3 p q) : SP L 2 5 p q := fun _ h2 => h.t h2
theorem SP.s1 {L : LT} {p q r : Nat} (h : SP L 1 4 p q) (hc : L.1 q = 43 ∨ L.1 q = 45) (h2 : PK L 2 (q + 1) r) : SP L 1 4 p r := fun s h3 => h s (PK.s1 hc h2 h3)
theorem SP.t1 {L : LT} {p q r : Nat} (h : SP L 2 5 p q) (hc : L.1 q = 42 ∨ L.1 q = 47 ∨ L.1 q = 37) (h2 : PK L 3 (q + 1) r) : SP L 2 5 p r := fun s h3 => h s (PK.t1 hc h2 h3)
theorem kRC {L : Nat} {iv : List (Int × Int)} {M : xM} {F G pc pc' G2 : Nat} {lv : xLv} {st rest : List Value} {h : List xE} {Q : yQ} {ks : List cT} {σ : sg} {ρ : Nat → xE} {P : Nat → Int32 → Prop} (c : yC L iv M F G pc lv st h Q (RCI ks ρ σ P) G2 pc' rest) (k : ∀ (h' : List xE) (v : Int32) (p' : Nat) (x : Int32), HT ks (us σ 60 22 v) ρ h' → v.toInt = (p' : Int) → P p' x → yT L iv M F G2 pc' lv (.int x :: rest) h' Q) : yT L iv M F G pc lv st h Q :=
  c (fun h' r ⟨v, p', x, k1, k2, e, k3⟩ => by subst e; exact k h' v p' x k1 k2 k3)
def DG (L : LT) (p k : Nat) : Prop := ∀ j, j < k → 48 ≤ L.1 (p + j) ∧ L.1 (p + j) ≤ 57
theorem DG.z {L : LT} {p : Nat} : DG L p 0 := fun j hj => absurd hj (Nat.not_lt_zero _)
theorem DG.s {L : LT} {p k q : Nat} (h : DG L p k) (e : q = p + k) (hd : 48 ≤ L.1 q ∧ L.1 q ≤ 57) : DG L p (k + 1) := fun j hj => by
  by_cases hk : j = k
  · subst hk; rw [← e]; exact hd
  · exact h j (by omega)
theorem PK.nk {L : LT} {p k q : Nat} (h0 : 48 ≤ L.1 p ∧ L.1 p ≤ 57) (hk : k ≤ 3) (e : q = p + k) (hd : DG L p k) (hn : ¬ (48 ≤ L.1 q ∧ L.1 q ≤ 57)) : PK L 3 p q := by
  subst e
  match k, hk with
  | 0, _ => exact absurd h0 hn
  | 1, _ => exact PK.n1 h0 hn
  | 2, _ => exact PK.n2 h0 (hd 1 (by omega)) hn
  | 3, _ => exact PK.n3 h0 (hd 1 (by omega)) (hd 2 (by omega)) hn
