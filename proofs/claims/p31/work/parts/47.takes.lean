/-! the tape becomes a cell's formula -/
/-- k bytes have been copied into the cell c -/
def TK (σ τ : sg) (c m k : Nat) : Prop := (∀ q, q ≠ 61 → τ q = σ q) ∧ (∀ i, ¬ (282 * c + 31 ≤ i ∧ i < 282 * c + 282) → nw τ i = nw σ i) ∧ nw τ (282 * c + 31) = (m : Int) ∧ ∀ j, j < k → nw τ (282 * c + (j + 32)) = (σ 71 j).toInt
theorem TK.z {σ τ : sg} {c m : Nat} {x : Int32} (e : τ = us σ 61 (282 * c + 31) x) (hx : x.toInt = (m : Int)) : TK σ τ c m 0 := by
  subst e
  exact ⟨fun q hq => us_nq hq, fun i hi => nw_us (by omega), nw_at.trans hx, fun j hj => absurd hj (Nat.not_lt_zero _)⟩
theorem TK.s {σ τ τ' : sg} {c m k : Nat} {x : Int32} (h : TK σ τ c m k) (hk : k < 250) (e : τ' = us τ 61 (282 * c + (k + 32)) x) (hx : x.toInt = (τ 71 k).toInt) : TK σ τ' c m (k + 1) := by
  subst e
  obtain ⟨h1, h2, h3, h4⟩ := h
  refine ⟨fun q hq => by rw [us_nq hq]; exact h1 q hq, fun i hi => by rw [nw_us (by omega)]; exact h2 i hi, by rw [nw_us (by omega)]; exact h3, fun j hj => ?_⟩
  by_cases hjk : j = k
  · subst hjk
    rw [nw_at, hx, h1 71 (by decide)]
  · rw [nw_us (by omega)]
    exact h4 j (by omega)
/-- what takes() leaves: the cell's letters are the first m of the tape -/
theorem TK.letr {σ τ : sg} {c m : Nat} (h : TK σ τ c m m) (k : Nat) : ltr τ c k = if (k : Int) < (m : Int) then (σ 71 k).toInt else -1 := by
  unfold ltr
  rw [h.2.2.1]
  split
  · exact h.2.2.2 k (by omega)
  · rfl
theorem TK.fin {σ τ : sg} {c m k : Nat} (h : TK σ τ c m k) (e : k = m) : TK σ τ c m m := by
  subst e
  exact h
