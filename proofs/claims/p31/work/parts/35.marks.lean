/-! a run told; marks -/
theorem LG.of2 {σ : sg} {m : Nat} {x y : Int32} (hm : (m : Int) = nw σ 6795) (hm2 : m < 60) (hy : y.toInt = nw σ 6795 + 1) : LG σ (us (us σ 61 (m + 6796) x) 61 6795 y) :=
  ⟨fun q hq => by rw [us_nq hq, us_nq hq], fun i hi => by rw [nw_us (by omega), nw_us (by omega)], by rw [nw_at]; exact hy⟩
theorem LG.of1 {σ : sg} {y : Int32} (hm : 0 ≤ nw σ 6795) (hy : y.toInt = nw σ 6795 + 1) : LG σ (us σ 61 6795 y) :=
  ⟨fun q hq => by rw [us_nq hq], fun i hi => by rw [nw_us (by omega)], by rw [nw_at]; exact hy⟩
/-- colours alone are other -/
def MC (σ σ' : sg) : Prop := (∀ q, q ≠ 61 → σ' q = σ q) ∧ ∀ i, ¬ (i < 6768 ∧ i % 282 = 3) → nw σ' i = nw σ i
/-- colours and the queue -/
def MK (σ σ' : sg) : Prop := (∀ q, q ≠ 61 → σ' q = σ q) ∧ (∀ i, ¬ (i < 6768 ∧ i % 282 = 3) → i < 6770 ∨ 6795 ≤ i → nw σ' i = nw σ i) ∧ QOK σ'
theorem MC.rf {σ : sg} : MC σ σ := ⟨fun _ _ => rfl, fun _ _ => rfl⟩
theorem MC.st {σ τ τ' : sg} {r : Nat} {x : Int32} (h : MC σ τ) (e : τ' = us τ 61 (282 * r + 3) x) (hr : r < 24) : MC σ τ' := by
  subst e
  exact ⟨fun q hq => by rw [us_nq hq]; exact h.1 q hq, fun i hi => by rw [nw_us (by omega)]; exact h.2 i hi⟩
theorem QOK.cg {σ τ : sg} (h : QOK σ) (h1 : ∀ i, 6770 ≤ i → i < 6795 → nw τ i = nw σ i) (h2 : ∀ c, c < 24 → nw τ (282 * c + 0) = nw σ (282 * c + 0)) : QOK τ := by
  obtain ⟨q0, q1, q2⟩ := h
  have e := h1 6770 (by omega) (by omega)
  refine ⟨by rw [e]; exact q0, fun j hj => ?_, fun i j hij hj => ?_⟩
  · obtain ⟨c, c1, c2, c3⟩ := q1 j (by omega)
    exact ⟨c, by rw [h1 _ (by omega) (by omega)]; exact c1, c2, by rw [h2 c c2]; exact c3⟩
  · rw [h1 _ (by omega) (by omega), h1 _ (by omega) (by omega)]
    exact q2 i j hij (by omega)
theorem MC.q {σ τ : sg} (h : MC σ τ) (hQ : QOK σ) : MK σ τ :=
  ⟨h.1, fun i hi _ => h.2 i hi, hQ.cg (fun i h1 h2 => h.2 i (by omega)) (fun c hc => h.2 _ (by omega))⟩
theorem MK.q {σ τ τ' : sg} (h : MK σ τ) (hq : QS τ τ') : MK σ τ' :=
  ⟨fun q hh => (hq.1 q hh).trans (h.1 q hh), fun i h1 h2 => (hq.2.1 i h2).trans (h.2.1 i h1 h2), hq.2.2⟩
