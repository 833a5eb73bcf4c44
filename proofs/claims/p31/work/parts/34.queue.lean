/-! the reference's queue, by numbers -/
/-- no more different numbers below m than m -/
theorem ph : ∀ (m n : Nat) (f : Nat → Nat), (∀ i, i < n → f i < m) → (∀ i j, i < j → j < n → f i ≠ f j) → n ≤ m
  | 0, n, f, h1, _ => by
    cases n with
    | zero => exact Nat.le_refl _
    | succ n => exact absurd (h1 0 (Nat.succ_pos _)) (Nat.not_lt_zero _)
  | m + 1, n, f, h1, h2 => by
    by_cases h : ∃ i, i < n ∧ f i = m
    · obtain ⟨i, hi, e⟩ := h
      have k := ph m (n - 1) (fun j => if j < i then f j else f (j + 1)) (fun j hj => by
        show (if j < i then f j else f (j + 1)) < m
        split
        · rename_i hji
          have a := h1 j (by omega)
          have b := h2 j i hji hi
          omega
        · rename_i hji
          have a := h1 (j + 1) (by omega)
          have b := h2 i (j + 1) (by omega) (by omega)
          omega) (fun a b hab hb => by
        show (if a < i then f a else f (a + 1)) ≠ (if b < i then f b else f (b + 1))
        split
        · split
          · exact h2 a b hab (by omega)
          · exact h2 a (b + 1) (by omega) (by omega)
        · split
          · omega
          · exact h2 (a + 1) (b + 1) (by omega) (by omega))
      omega
    · have k := ph m n f (fun j hj => by
        have a := h1 j hj
        have b : f j ≠ m := fun e => h ⟨j, hj, e⟩
        omega) h2
      omega
/-- the queue: different effects -/
def QOK (σ : sg) : Prop := (0 ≤ nw σ 6770 ∧ nw σ 6770 ≤ 24) ∧ (∀ j : Nat, (j : Int) < nw σ 6770 → ∃ c : Nat, nw σ (j + 6771) = (c : Int) ∧ c < 24 ∧ nw σ (282 * c + 0) = 4) ∧ (∀ i j : Nat, i < j → (j : Int) < nw σ 6770 → nw σ (i + 6771) ≠ nw σ (j + 6771))
/-- all but the queue is the same -/
def QS (σ σ' : sg) : Prop := (∀ q, q ≠ 61 → σ' q = σ q) ∧ (∀ i, i < 6770 ∨ 6795 ≤ i → nw σ' i = nw σ i) ∧ QOK σ'
theorem us_q {σ : sg} {i : Nat} {v : Int32} : ∀ q, q ≠ 61 → us σ 61 i v q = σ q := fun _ h => us_nq h
theorem nw_u {σ : sg} {i j : Nat} {v : Int32} : nw (us σ 61 i v) j = if j = i then v.toInt else nw σ j := by
  by_cases h : j = i
  · subst h
    rw [if_pos rfl]
    exact nw_at
  · rw [if_neg h]
    exact nw_us h
theorem QS.rf {σ : sg} (h : QOK σ) : QS σ σ := ⟨fun _ _ => rfl, fun _ _ => rfl, h⟩
theorem QOK.lt {σ : sg} (h : QOK σ) {c : Nat} (hc : c < 24) (hn : ∀ k : Nat, (k : Int) < nw σ 6770 → nw σ (k + 6771) ≠ (c : Int)) : nw σ 6770 ≤ 23 := by
  obtain ⟨h0, h1, h2⟩ := h
  have k := ph 24 ((nw σ 6770).toNat + 1) (fun i => if i < (nw σ 6770).toNat then (nw σ (i + 6771)).toNat else c) (fun i hi => by
    show (if i < (nw σ 6770).toNat then (nw σ (i + 6771)).toNat else c) < 24
    split
    · obtain ⟨d, e, e2, -⟩ := h1 i (by omega)
      omega
    · exact hc) (fun i j hij hj => by
    show (if i < (nw σ 6770).toNat then (nw σ (i + 6771)).toNat else c) ≠ (if j < (nw σ 6770).toNat then (nw σ (j + 6771)).toNat else c)
    rw [if_pos (by omega)]
    obtain ⟨d, e, e2, -⟩ := h1 i (by omega)
    split
    · obtain ⟨d', e', e2', -⟩ := h1 j (by omega)
      have := h2 i j hij (by omega)
      omega
    · have := hn i (by omega)
      omega)
  omega
theorem QOK.push {σ : sg} (h : QOK σ) {c m : Nat} {x y : Int32} (hc : c < 24) (hk : nw σ (282 * c + 0) = 4) (hn : ∀ k : Nat, (k : Int) < nw σ 6770 → nw σ (k + 6771) ≠ (c : Int)) (hm : (m : Int) = nw σ 6770) (hx : x.toInt = (c : Int)) (hy : y.toInt = nw σ 6770 + 1) : QS σ (us (us σ 61 (m + 6771) x) 61 6770 y) := by
  have hlt := h.lt hc hn
  obtain ⟨h0, h1, h2⟩ := h
  have a : ∀ i, i ≠ 6770 → i ≠ m + 6771 → nw (us (us σ 61 (m + 6771) x) 61 6770 y) i = nw σ i := fun i e1 e2 => by rw [nw_us e1, nw_us e2]
  have b : nw (us (us σ 61 (m + 6771) x) 61 6770 y) 6770 = (m : Int) + 1 := by rw [nw_at]; omega
  have d : nw (us (us σ 61 (m + 6771) x) 61 6770 y) (m + 6771) = (c : Int) := by rw [nw_us (by omega), nw_at, hx]
  refine ⟨fun q hq => by rw [us_nq hq, us_nq hq], fun i hi => a i (by omega) (by omega), ⟨by omega, by omega⟩, fun j hj => ?_, fun i j hij hj => ?_⟩
  · by_cases e : j = m
    · subst e
      exact ⟨c, d, hc, by rw [a _ (by omega) (by omega)]; exact hk⟩
    · obtain ⟨c', e1, e2, e3⟩ := h1 j (by omega)
      exact ⟨c', by rw [a _ (by omega) (by omega)]; exact e1, e2, by rw [a _ (by omega) (by omega)]; exact e3⟩
  · by_cases e : j = m
    · subst e
      rw [d, a _ (by omega) (by omega)]
      exact hn i (by omega)
    · rw [a _ (by omega) (by omega), a _ (by omega) (by omega)]
      exact h2 i j hij (by omega)
/-- while the queue is gone through: n of the first k are kept -/
def UQ (σ τ : sg) (n k : Nat) : Prop := (∀ q, q ≠ 61 → τ q = σ q) ∧ (∀ i, i < 6771 ∨ 6795 ≤ i → nw τ i = nw σ i) ∧ (∀ j, n ≤ j → nw τ (j + 6771) = nw σ (j + 6771)) ∧ n ≤ k ∧ ∃ f : Nat → Nat, (∀ j, j < n → f j < k ∧ nw τ (j + 6771) = nw σ (f j + 6771)) ∧ ∀ i j, i < j → j < n → f i < f j
theorem UQ.rf {σ : sg} : UQ σ σ 0 0 := ⟨fun _ _ => rfl, fun _ _ => rfl, fun _ _ => rfl, Nat.le_refl _, fun j => j, fun j hj => absurd hj (Nat.not_lt_zero _), fun _ _ h _ => h⟩
theorem UQ.skip {σ τ : sg} {n k : Nat} (h : UQ σ τ n k) : UQ σ τ n (k + 1) := by
  obtain ⟨h1, h2, h3, h4, f, h5, h6⟩ := h
  exact ⟨h1, h2, h3, by omega, f, fun j hj => ⟨by have := (h5 j hj).1; omega, (h5 j hj).2⟩, h6⟩
theorem UQ.keep {σ τ : sg} {n k : Nat} {x : Int32} (h : UQ σ τ n k) (hk : k < 24) (hx : x.toInt = nw τ (k + 6771)) : UQ σ (us τ 61 (n + 6771) x) (n + 1) (k + 1) := by
  obtain ⟨h1, h2, h3, h4, f, h5, h6⟩ := h
  refine ⟨fun q hq => by rw [us_nq hq]; exact h1 q hq, fun i hi => by rw [nw_us (by omega)]; exact h2 i hi, fun j hj => by rw [nw_us (by omega)]; exact h3 j (by omega), by omega, fun j => if j < n then f j else k, fun j hj => ?_, fun i j hij hj => ?_⟩
  · show (if j < n then f j else k) < k + 1 ∧ nw _ (j + 6771) = nw σ ((if j < n then f j else k) + 6771)
    by_cases e : j < n
    · rw [if_pos e, nw_us (by omega)]
      exact ⟨by have := (h5 j e).1; omega, (h5 j e).2⟩
    · obtain rfl : j = n := by omega
      rw [if_neg e, nw_at, hx, h3 k h4]
      exact ⟨by omega, rfl⟩
  · show (if i < n then f i else k) < (if j < n then f j else k)
    rw [if_pos (by omega)]
    split
    · exact h6 i j hij (by omega)
    · exact (h5 i (by omega)).1
theorem UQ.fin {σ τ : sg} {n k : Nat} {x : Int32} (h : UQ σ τ n k) (hQ : QOK σ) (hk : (k : Int) ≤ nw σ 6770) (hx : x.toInt = (n : Int)) : QS σ (us τ 61 6770 x) := by
  obtain ⟨h1, h2, h3, h4, f, h5, h6⟩ := h
  obtain ⟨q0, q1, q2⟩ := hQ
  have a : ∀ i, i ≠ 6770 → nw (us τ 61 6770 x) i = nw τ i := fun i e1 => nw_us e1
  have b : nw (us τ 61 6770 x) 6770 = (n : Int) := by rw [nw_at, hx]
  refine ⟨fun q hq => by rw [us_nq hq]; exact h1 q hq, fun i hi => by rw [a i (by omega)]; exact h2 i (by omega), ⟨by omega, by omega⟩, fun j hj => ?_, fun i j hij hj => ?_⟩
  · obtain ⟨e1, e2⟩ := h5 j (by omega)
    obtain ⟨c, c1, c2, c3⟩ := q1 (f j) (by omega)
    exact ⟨c, by rw [a _ (by omega), e2]; exact c1, c2, by rw [a _ (by omega), h2 _ (by omega)]; exact c3⟩
  · obtain ⟨e1, e2⟩ := h5 i (by omega)
    obtain ⟨e3, e4⟩ := h5 j (by omega)
    rw [a _ (by omega), a _ (by omega), e2, e4]
    exact q2 _ _ (h6 i j hij (by omega)) (by omega)
/-- a run told -/
def LG (σ σ' : sg) : Prop := (∀ q, q ≠ 61 → σ' q = σ q) ∧ (∀ i, i < 6795 ∨ 6856 ≤ i → nw σ' i = nw σ i) ∧ nw σ' 6795 = nw σ 6795 + 1
