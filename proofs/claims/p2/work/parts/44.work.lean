/-! formulas worked out: the grammar from below -/
theorem PP0 {n : Nat} {L : Nat → Int} {p q : Nat} (h : PP (n + 1) L 0 p = some q) : ∃ a, PP n L 1 p = some a ∧ ((L a = 60 ∨ L a = 61 ∨ L a = 62) → PP n L 1 (a + 1) = some q) ∧ (¬ (L a = 60 ∨ L a = 61 ∨ L a = 62) → a = q) := by
  obtain ⟨a, h1, h2⟩ := obd h
  refine ⟨a, h1, fun hc => ?_, fun hc => ?_⟩
  · rcases oif h2 with ⟨_, h⟩ | ⟨hn, _⟩
    · exact h
    · exact absurd hc hn
  · rcases oif h2 with ⟨hn, _⟩ | ⟨_, h⟩
    · exact absurd hn hc
    · exact Option.some.inj h
theorem PP1 {n : Nat} {L : Nat → Int} {p q : Nat} (h : PP (n + 1) L 1 p = some q) : ∃ a, PP n L 2 p = some a ∧ PP n L 4 a = some q := obd h
theorem PP2 {n : Nat} {L : Nat → Int} {p q : Nat} (h : PP (n + 1) L 2 p = some q) : ∃ a, PP n L 3 p = some a ∧ PP n L 5 a = some q := obd h
theorem PP4 {n : Nat} {L : Nat → Int} {p q : Nat} (h : PP n L 4 p = some q) : ((L p = 43 ∨ L p = 45) → ∃ a, PP n L 2 (p + 1) = some a ∧ PP n L 4 a = some q) ∧ (¬ (L p = 43 ∨ L p = 45) → p = q) := by
  cases n with
  | zero => cases h
  | succ n =>
    refine ⟨fun hc => ?_, fun hc => ?_⟩
    · rcases oif (show (if L p = 43 ∨ L p = 45 then (PP n L 2 (p + 1)).bind (PP n L 4) else some p) = some q from h) with ⟨_, h⟩ | ⟨hn, _⟩
      · obtain ⟨a, h1, h2⟩ := obd h
        exact ⟨a, PP_m (Nat.le_succ n) _ h1, PP_m (Nat.le_succ n) _ h2⟩
      · exact absurd hc hn
    · rcases oif (show (if L p = 43 ∨ L p = 45 then (PP n L 2 (p + 1)).bind (PP n L 4) else some p) = some q from h) with ⟨hn, _⟩ | ⟨_, h⟩
      · exact absurd hn hc
      · exact Option.some.inj h
theorem PP5 {n : Nat} {L : Nat → Int} {p q : Nat} (h : PP n L 5 p = some q) : ((L p = 42 ∨ L p = 47 ∨ L p = 37) → ∃ a, PP n L 3 (p + 1) = some a ∧ PP n L 5 a = some q) ∧ (¬ (L p = 42 ∨ L p = 47 ∨ L p = 37) → p = q) := by
  cases n with
  | zero => cases h
  | succ n =>
    refine ⟨fun hc => ?_, fun hc => ?_⟩
    · rcases oif (show (if L p = 42 ∨ L p = 47 ∨ L p = 37 then (PP n L 3 (p + 1)).bind (PP n L 5) else some p) = some q from h) with ⟨_, h⟩ | ⟨hn, _⟩
      · obtain ⟨a, h1, h2⟩ := obd h
        exact ⟨a, PP_m (Nat.le_succ n) _ h1, PP_m (Nat.le_succ n) _ h2⟩
      · exact absurd hc hn
    · rcases oif (show (if L p = 42 ∨ L p = 47 ∨ L p = 37 then (PP n L 3 (p + 1)).bind (PP n L 5) else some p) = some q from h) with ⟨hn, _⟩ | ⟨_, h⟩
      · exact absurd hn hc
      · exact Option.some.inj h
/-- a piece goes on -/
theorem PP_lt {n : Nat} {L : Nat → Int} {k p q : Nat} (h : PP n L k p = some q) (hs : ∀ j, 250 ≤ j → L j = -1) : p ≤ q ∧ (k ≠ 4 → k ≠ 5 → p < q) := by
  have := PP_b hs n k p q h
  exact ⟨this.1, this.2.1⟩
