/-! formulas worked out: the grammar from below -/
theorem PP0 {n : Nat} {L : LT} {p q : Nat} (h : PP (n + 1) L 0 p = some q) : ∃ a, PP n L 1 p = some a ∧ ((L.1 a = 60 ∨ L.1 a = 61 ∨ L.1 a = 62) → PP n L 1 (a + 1) = some q) ∧ (¬ (L.1 a = 60 ∨ L.1 a = 61 ∨ L.1 a = 62) → a = q) := by
  obtain ⟨a, h1, h2⟩ := obd h
  refine ⟨a, h1, fun hc => ?_, fun hc => ?_⟩
  · rcases oif h2 with ⟨_, h⟩ | ⟨hn, _⟩
    · exact h
    · exact absurd hc hn
  · rcases oif h2 with ⟨hn, _⟩ | ⟨_, h⟩
    · exact absurd hn hc
    · exact Option.some.inj h
theorem PP1 {n : Nat} {L : LT} {p q : Nat} (h : PP (n + 1) L 1 p = some q) : ∃ a, PP n L 2 p = some a ∧ PP n L 4 a = some q := obd h
theorem PP2 {n : Nat} {L : LT} {p q : Nat} (h : PP (n + 1) L 2 p = some q) : ∃ a, PP n L 3 p = some a ∧ PP n L 5 a = some q := obd h
theorem PP4 {n : Nat} {L : LT} {p q : Nat} (h : PP n L 4 p = some q) : ((L.1 p = 43 ∨ L.1 p = 45) → ∃ a, PP n L 2 (p + 1) = some a ∧ PP n L 4 a = some q) ∧ (¬ (L.1 p = 43 ∨ L.1 p = 45) → p = q) := by
  cases n with
  | zero => cases h
  | succ n =>
    refine ⟨fun hc => ?_, fun hc => ?_⟩
    · rcases oif (show (if L.1 p = 43 ∨ L.1 p = 45 then (PP n L 2 (p + 1)).bind (PP n L 4) else some p) = some q from h) with ⟨_, h⟩ | ⟨hn, _⟩
      · obtain ⟨a, h1, h2⟩ := obd h
        exact ⟨a, PP_m (Nat.le_succ n) _ h1, PP_m (Nat.le_succ n) _ h2⟩
      · exact absurd hc hn
    · rcases oif (show (if L.1 p = 43 ∨ L.1 p = 45 then (PP n L 2 (p + 1)).bind (PP n L 4) else some p) = some q from h) with ⟨hn, _⟩ | ⟨_, h⟩
      · exact absurd hn hc
      · exact Option.some.inj h
theorem PP5 {n : Nat} {L : LT} {p q : Nat} (h : PP n L 5 p = some q) : ((L.1 p = 42 ∨ L.1 p = 47 ∨ L.1 p = 37) → ∃ a, PP n L 3 (p + 1) = some a ∧ PP n L 5 a = some q) ∧ (¬ (L.1 p = 42 ∨ L.1 p = 47 ∨ L.1 p = 37) → p = q) := by
  cases n with
  | zero => cases h
  | succ n =>
    refine ⟨fun hc => ?_, fun hc => ?_⟩
    · rcases oif (show (if L.1 p = 42 ∨ L.1 p = 47 ∨ L.1 p = 37 then (PP n L 3 (p + 1)).bind (PP n L 5) else some p) = some q from h) with ⟨_, h⟩ | ⟨hn, _⟩
      · obtain ⟨a, h1, h2⟩ := obd h
        exact ⟨a, PP_m (Nat.le_succ n) _ h1, PP_m (Nat.le_succ n) _ h2⟩
      · exact absurd hc hn
    · rcases oif (show (if L.1 p = 42 ∨ L.1 p = 47 ∨ L.1 p = 37 then (PP n L 3 (p + 1)).bind (PP n L 5) else some p) = some q from h) with ⟨hn, _⟩ | ⟨_, h⟩
      · exact absurd hn hc
      · exact Option.some.inj h
/-- a piece goes on -/
theorem PP_lt {n : Nat} {L : LT} {k p q : Nat} (h : PP n L k p = some q) (hs : ∀ j, 250 ≤ j → L.1 j = -1) : p ≤ q ∧ (k ≠ 4 → k ≠ 5 → p < q) := by
  have := PP_b hs n k p q h
  exact ⟨this.1, this.2.1⟩
section P3s
variable {f : Nat → Nat → Option Nat} {L : LT} {p q : Nat}
theorem P3.dig (h : P3 f L p q) (c : 48 ≤ L.1 p ∧ L.1 p ≤ 57) : (∀ j, p ≤ j → j < q → 48 ≤ L.1 j ∧ L.1 j ≤ 57) ∧ ¬ (48 ≤ L.1 q ∧ L.1 q ≤ 57) ∧ p < q := by
  rcases h with ⟨_, d⟩ | ⟨d, _⟩ | ⟨d, _⟩ | ⟨d, _⟩ | ⟨d, _⟩ | ⟨d, _⟩ | ⟨d, _⟩
  · rcases d with ⟨rfl, d⟩ | ⟨rfl, d, d2⟩ | ⟨rfl, d, d2, d3⟩
    · refine ⟨fun j h1 h2 => ?_, d, by omega⟩
      obtain rfl : j = p := by omega
      exact c
    · refine ⟨fun j h1 h2 => ?_, d2, by omega⟩
      rcases (show j = p ∨ j = p + 1 by omega) with rfl | rfl
      · exact c
      · exact d
    · refine ⟨fun j h1 h2 => ?_, d3, by omega⟩
      rcases (show j = p ∨ j = p + 1 ∨ j = p + 2 by omega) with rfl | rfl | rfl
      · exact c
      · exact d
      · exact d2
  all_goals omega
theorem P3.let (h : P3 f L p q) (c : 97 ≤ L.1 p ∧ L.1 p ≤ 120) : q = p + 1 ∧ L.1 p ≤ 96 + L.2 := by
  rcases h with ⟨d, _⟩ | ⟨_, d⟩ | ⟨d, _⟩ | ⟨d, _⟩ | ⟨d, _⟩ | ⟨d, _⟩ | ⟨d, _⟩ <;> omega
theorem P3.unt (h : P3 f L p q) (c : L.1 p = 126) : (97 ≤ L.1 (p + 1) ∧ L.1 (p + 1) ≤ 120 ∧ L.1 (p + 1) ≤ 96 + L.2) ∧ q = p + 2 := by
  rcases h with ⟨d, _⟩ | ⟨d, _⟩ | ⟨_, d⟩ | ⟨d, _⟩ | ⟨d, _⟩ | ⟨d, _⟩ | ⟨d, _⟩
  case inr.inr.inl => exact d
  all_goals omega
theorem P3.neg (h : P3 f L p q) (c : L.1 p = 45) : f 3 (p + 1) = some q := by
  rcases h with ⟨d, _⟩ | ⟨d, _⟩ | ⟨d, _⟩ | ⟨_, d⟩ | ⟨d, _⟩ | ⟨d, _⟩ | ⟨d, _⟩
  case inr.inr.inr.inl => exact d
  all_goals omega
theorem P3.par (h : P3 f L p q) (c : L.1 p = 40) : ∃ a, f 0 (p + 1) = some a ∧ q = a + 1 := by
  rcases h with ⟨d, _⟩ | ⟨d, _⟩ | ⟨d, _⟩ | ⟨d, _⟩ | ⟨_, a, d, _, e⟩ | ⟨d, _⟩ | ⟨d, _⟩
  case inr.inr.inr.inr.inl => exact ⟨a, d, e⟩
  all_goals omega
/-- [ has been read: the three pieces and what is between them -/
def CH (f : Nat → Nat → Option Nat) (p q : Nat) : Prop := ∃ a b d, f 0 p = some a ∧ f 0 (a + 1) = some b ∧ f 0 (b + 1) = some d ∧ q = d + 1
theorem P3.cho (h : P3 f L p q) (c : L.1 p = 91) : CH f (p + 1) q := by
  rcases h with ⟨d, _⟩ | ⟨d, _⟩ | ⟨d, _⟩ | ⟨d, _⟩ | ⟨d, _⟩ | ⟨_, a, b, x, h1, _, h2, _, h3, _, e⟩ | ⟨d, _⟩
  case inr.inr.inr.inr.inr.inl => exact ⟨a, b, x, h1, h2, h3, e⟩
  all_goals omega
theorem P3.gr (h : P3 f L p q) (c : ¬ (48 ≤ L.1 p ∧ L.1 p ≤ 57)) (c1 : ¬ (97 ≤ L.1 p ∧ L.1 p ≤ 120)) (c2 : L.1 p ≠ 126) (c3 : L.1 p ≠ 45) (c4 : L.1 p ≠ 40) (c5 : L.1 p ≠ 91) : ∃ a b, f 0 (p + 2) = some a ∧ f 0 (a + 1) = some b ∧ q = b + 1 := by
  rcases h with ⟨d, _⟩ | ⟨d, _⟩ | ⟨d, _⟩ | ⟨d, _⟩ | ⟨d, _⟩ | ⟨d, _⟩ | ⟨_, _, a, b, h1, _, h2, _, e⟩
  case inr.inr.inr.inr.inr.inr => exact ⟨a, b, h1, h2, e⟩
  all_goals omega
end P3s
