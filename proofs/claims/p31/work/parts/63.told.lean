/-! formulas told -/
/-- one byte more -/
def TT (σ τ : sg) : Prop := (∀ q, q ≠ 60 → τ q = σ q) ∧ (∀ s, s ≠ 25 → fl τ s = fl σ s) ∧ fl τ 25 = fl σ 25 + 1
theorem TT.of {σ : sg} {v : Int32} (hv : v.toInt = fl σ 25 + 1) : TT σ (us σ 60 25 v) :=
  ⟨fun q hq => us_nq hq, fun s hs => congrArg Int32.toInt (us_ne (fun e => hs e.2)), fl_at.trans hv⟩
theorem told2 {f : Nat → Nat → Option Nat} {a a2 a3 b k : Nat} (h5 : f 0 (a + 1) = some a2) (h6 : f 0 (a2 + 1) = some a3) (hi : (k = 0 ∧ b = a) ∨ (k = 1 ∧ b = a2) ∨ (k = 2 ∧ b = a3)) (hk : k < 2) : ∃ z, f 0 (b + 1) = some z ∧ ((k = 0 ∧ z = a2) ∨ (k = 1 ∧ z = a3)) := by
  rcases hi with ⟨rfl, rfl⟩ | ⟨rfl, rfl⟩ | ⟨rfl, rfl⟩
  · exact ⟨a2, h5, Or.inl ⟨rfl, rfl⟩⟩
  · exact ⟨a3, h6, Or.inr ⟨rfl, rfl⟩⟩
  · exact absurd hk (by decide)
theorem P3.oth {f : Nat → Nat → Option Nat} {L : LT} {p q : Nat} (h : P3 f L p q) (c0 : ¬ (48 ≤ L.1 p ∧ L.1 p ≤ 57)) (c2 : L.1 p ≠ 126) (c3 : L.1 p ≠ 45) (c4 : L.1 p ≠ 40) (c5 : L.1 p ≠ 91) (c6 : L.1 p ≠ 94) : q = p + 1 := by
  rcases h with ⟨d, _⟩ | ⟨_, d⟩ | ⟨d, _⟩ | ⟨d, _⟩ | ⟨d, _⟩ | ⟨d, _⟩ | ⟨d, _⟩ <;> omega
