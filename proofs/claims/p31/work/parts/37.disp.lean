/-! what disposing does to the numbers -/
/-- a cell's reads: different cells -/
def ROK (σ : sg) (c : Nat) : Prop := (0 ≤ nw σ (282 * c + 6) ∧ nw σ (282 * c + 6) ≤ 24) ∧ (∀ j : Nat, (j : Int) < nw σ (282 * c + 6) → ∃ y : Nat, nw σ (282 * c + (j + 7)) = (y : Int) ∧ y < 24) ∧ (∀ i j : Nat, i < j → (j : Int) < nw σ (282 * c + 6) → nw σ (282 * c + (i + 7)) ≠ nw σ (282 * c + (j + 7)))
/-- cells, the queue, reads, owners -/
def RO (σ : sg) : Prop := (0 ≤ nw σ 6768 ∧ nw σ 6768 ≤ 24) ∧ QOK σ ∧ (∀ c, c < 24 → ROK σ c) ∧ ∀ c : Nat, (c : Int) < nw σ 6768 → nw σ (282 * c + 1) < (c : Int)
theorem ROK.cg {σ τ : sg} {c : Nat} (h : ROK σ c) (h6 : nw τ (282 * c + 6) = nw σ (282 * c + 6)) (hr : ∀ j, j < 24 → nw τ (282 * c + (j + 7)) = nw σ (282 * c + (j + 7))) : ROK τ c := by
  obtain ⟨a, b, d⟩ := h
  refine ⟨by rw [h6]; exact a, fun j hj => ?_, fun i j hij hj => ?_⟩
  · rw [hr j (by omega)]
    exact b j (by omega)
  · rw [hr j (by omega), hr i (by omega)]
    exact d i j hij (by omega)
theorem RO.cg {σ τ : sg} (h : RO σ) (hq : QOK τ) (hi : ∀ i, i = 6768 ∨ i < 6768 ∧ (i % 282 = 1 ∨ 6 ≤ i % 282 ∧ i % 282 ≤ 30) → nw τ i = nw σ i) : RO τ := by
  obtain ⟨a, b, d, e⟩ := h
  have hc := hi 6768 (Or.inl rfl)
  refine ⟨by rw [hc]; exact a, hq, fun c h24 => (d c h24).cg (hi _ (by omega)) (fun j hj => hi _ (by omega)), fun c hc2 => ?_⟩
  rw [hi (282 * c + 1) (by omega)]
  exact e c (by omega)
theorem RO.st {σ : sg} {i : Nat} {v : Int32} (h : RO σ) (hi : i < 6768 ∧ (2 ≤ i % 282 ∧ i % 282 ≤ 5 ∨ 31 ≤ i % 282) ∨ i = 6769 ∨ 6795 ≤ i) : RO (us σ 61 i v) :=
  h.cg (h.2.1.cg (fun j h1 h2 => nw_us (by omega)) (fun c hc => nw_us (by omega))) (fun j hj => nw_us (by omega))
theorem RO.qs {σ τ : sg} (h : RO σ) (hq : QS σ τ) : RO τ := h.cg hq.2.2 (fun i hi => hq.2.1 i (by omega))
theorem RO.mk {σ τ : sg} (h : RO σ) (hq : MK σ τ) : RO τ := h.cg hq.2.2 (fun i hi => hq.2.1 i (by omega) (by omega))
theorem RO.rm {σ : sg} {c : Nat} {v : Int32} (h : RO σ) (hc : c < 24) (hv : v.toInt = 0) : RO (us σ 61 (282 * c + 6) v) := by
  obtain ⟨a, b, d, e⟩ := h
  have n6 : ∀ i, i ≠ 282 * c + 6 → nw (us σ 61 (282 * c + 6) v) i = nw σ i := fun i hi => nw_us hi
  refine ⟨by rw [n6 _ (by omega)]; exact a, b.cg (fun j h1 h2 => n6 _ (by omega)) (fun c hc => n6 _ (by omega)), fun c' h24 => ?_, fun c' hc2 => ?_⟩
  · by_cases hcc : c' = c
    · subst hcc
      have e0 : nw (us σ 61 (282 * c' + 6) v) (282 * c' + 6) = 0 := by rw [nw_at, hv]
      exact ⟨by omega, fun j hj => by omega, fun i j _ hj => by omega⟩
    · exact (d c' h24).cg (n6 _ (by omega)) (fun j hj => n6 _ (by omega))
  · rw [n6 6768 (by omega)] at hc2
    rw [n6 _ (by omega)]
    exact e c' hc2
theorem RO.rd {σ : sg} (h : RO σ) : ∀ r : Nat, r < 24 → nw σ (282 * r + 6) ≤ 24 := fun r hr => (h.2.2.1 r hr).1.2
/-- how many cells aren't gone -/
def cnt : Nat → sg → Int
  | 0, _ => 0
  | n + 1, σ => cnt n σ + (if nw σ (282 * n + 2) = 1 then 0 else 1)
theorem cnt_cg {σ τ : sg} : ∀ n, (∀ k, k < n → nw τ (282 * k + 2) = nw σ (282 * k + 2)) → cnt n τ = cnt n σ
  | 0, _ => rfl
  | n + 1, h => by
    unfold cnt
    rw [cnt_cg n (fun k hk => h k (by omega)), h n (by omega)]
theorem cnt_st {σ τ : sg} {c : Nat} (h0 : nw σ (282 * c + 2) ≠ 1) (h1 : nw τ (282 * c + 2) = 1) : ∀ n, c < n → (∀ k, k < n → k ≠ c → nw τ (282 * k + 2) = nw σ (282 * k + 2)) → cnt n τ = cnt n σ - 1
  | 0, hc, _ => absurd hc (Nat.not_lt_zero _)
  | n + 1, hc, h => by
    unfold cnt
    by_cases e : c = n
    · subst e
      rw [cnt_cg c (fun k hk => h k (by omega) (by omega)), if_neg h0, if_pos h1]
      omega
    · rw [cnt_st h0 h1 n (by omega) (fun k hk hn => h k (by omega) hn), h n (by omega) (fun e' => e e'.symm)]
      omega
theorem cnt_b {σ : sg} : ∀ n, 0 ≤ cnt n σ ∧ cnt n σ ≤ (n : Int)
  | 0 => ⟨Int.le_refl _, Int.le_refl _⟩
  | n + 1 => by
    have := cnt_b (σ := σ) n
    unfold cnt
    split <;> omega
def gm (σ : sg) : Int := nw σ 6856 + cnt 24 σ
/-- places that disposing leaves alone -/
def sd (i : Nat) : Prop := i < 6768 ∧ i % 282 ≠ 2 ∧ i % 282 ≠ 3 ∧ i % 282 ≠ 6 ∨ i = 6768 ∨ i = 6769 ∨ 6795 ≤ i ∧ i < 6856 ∨ i = 6917
/-- disposed of some, none below b -/
def DF (b : Nat) (σ τ : sg) : Prop := (∀ q, q ≠ 61 → τ q = σ q) ∧ (∀ i, sd i → nw τ i = nw σ i) ∧ (∀ k, k < b → nw τ (282 * k + 2) = nw σ (282 * k + 2)) ∧ RO τ ∧ 0 ≤ nw τ 6856 ∧ gm τ ≤ gm σ
theorem DF.rf {b : Nat} {σ : sg} (h : RO σ) (h0 : 0 ≤ nw σ 6856) : DF b σ σ := ⟨fun _ _ => rfl, fun _ _ => rfl, fun _ _ => rfl, h, h0, Int.le_refl _⟩
theorem DF.tr {a b : Nat} {σ τ υ : sg} (h1 : DF a σ τ) (h2 : DF b τ υ) (hab : a ≤ b) : DF a σ υ :=
  ⟨fun q hq => (h2.1 q hq).trans (h1.1 q hq), fun i hi => (h2.2.1 i hi).trans (h1.2.1 i hi), fun k hk => (h2.2.2.1 k (by omega)).trans (h1.2.2.1 k hk), h2.2.2.2.1, h2.2.2.2.2.1, Int.le_trans h2.2.2.2.2.2 h1.2.2.2.2.2⟩
/-- the cell itself goes, behind what it owned -/
theorem DF.go {c : Nat} {σ τ τ1 τ2 τ3 τ4 τ5 τ6 : sg} {x1 x3 x6 : Int32} (h : DF (c + 1) σ τ) (hc : c < 24) (hg : nw τ (282 * c + 2) ≠ 1) (e1 : τ1 = us τ 61 (282 * c + 2) x1) (hx1 : x1.toInt = 1) (q2 : QS τ1 τ2) (e3 : τ3 = us τ2 61 (282 * c + 3) x3)
    (e4 : (∀ q, q ≠ 61 → τ4 q = τ3 q) ∧ (∀ i, i < 6856 ∨ i = 6917 → nw τ4 i = nw τ3 i) ∧ nw τ4 6856 = nw τ3 6856 + 1) (e5 : τ5 = us τ4 61 (282 * c + 6) x6) (h5 : RO τ5) (m6 : MK τ5 τ6) : DF c σ τ6 := by
  subst e1 e3 e5
  have a : ∀ i, sd i → nw τ6 i = nw τ i := by
    intro i hi
    unfold sd at hi
    rw [m6.2.1 i (by omega) (by omega), nw_us (by omega), e4.2.1 i (by omega), nw_us (by omega), q2.2.1 i (by omega), nw_us (by omega)]
  have g6 : ∀ k, k < 24 → nw τ6 (282 * k + 2) = nw (us τ 61 (282 * c + 2) x1) (282 * k + 2) := by
    intro k hk
    rw [m6.2.1 _ (by omega) (by omega), nw_us (by omega), e4.2.1 _ (by omega), nw_us (by omega), q2.2.1 _ (by omega)]
  have n6 : nw τ6 6856 = nw τ 6856 + 1 := by
    rw [m6.2.1 _ (by omega) (by omega), nw_us (by omega), e4.2.2, nw_us (by omega), q2.2.1 _ (by omega), nw_us (by omega)]
  have k6 : cnt 24 τ6 = cnt 24 τ - 1 := cnt_st hg (by rw [g6 c hc, nw_at]; omega) 24 hc (fun k hk hn => by rw [g6 k hk, nw_us (by omega)])
  refine ⟨fun q hq => by rw [m6.1 q hq, us_nq hq, e4.1 q hq, us_nq hq, q2.1 q hq, us_nq hq]; exact h.1 q hq, fun i hi => (a i hi).trans (h.2.1 i hi), fun k hk => ?_, h5.mk m6, ?_, ?_⟩
  · rw [g6 k (by omega), nw_us (by omega)]
    exact h.2.2.1 k (by omega)
  · have := h.2.2.2.2.1
    omega
  · have := h.2.2.2.2.2
    unfold gm at *
    omega
theorem e4a {τ : sg} {m : Nat} {x y : Int32} (hm : m < 60) (hy : y.toInt = nw τ 6856 + 1) : (∀ q, q ≠ 61 → us (us τ 61 (m + 6857) x) 61 6856 y q = τ q) ∧ (∀ i, i < 6856 ∨ i = 6917 → nw (us (us τ 61 (m + 6857) x) 61 6856 y) i = nw τ i) ∧ nw (us (us τ 61 (m + 6857) x) 61 6856 y) 6856 = nw τ 6856 + 1 :=
  ⟨fun q hq => by rw [us_nq hq, us_nq hq], fun i hi => by rw [nw_us (by omega), nw_us (by omega)], by rw [nw_at]; exact hy⟩
theorem e4b {τ : sg} {y : Int32} (hy : y.toInt = nw τ 6856 + 1) : (∀ q, q ≠ 61 → us τ 61 6856 y q = τ q) ∧ (∀ i, i < 6856 ∨ i = 6917 → nw (us τ 61 6856 y) i = nw τ i) ∧ nw (us τ 61 6856 y) 6856 = nw τ 6856 + 1 :=
  ⟨fun q hq => by rw [us_nq hq], fun i hi => by rw [nw_us (by omega)], by rw [nw_at]; exact hy⟩
theorem RO.s2 {σ : sg} {c w : Nat} {v : Int32} (h : RO σ) (hc : c < 24) (hw : w = 2 ∨ w = 3) : RO (us σ 61 (282 * c + w) v) := h.st (by omega)
theorem RO.sg1 {σ : sg} {v : Int32} (h : RO σ) : RO (us σ 61 6856 v) := h.st (by omega)
theorem RO.sg2 {σ : sg} {m : Nat} {u v : Int32} (h : RO σ) : RO (us (us σ 61 (m + 6857) u) 61 6856 v) := (h.st (i := m + 6857) (by omega)).sg1
theorem gone_eq {σ0 σ1 σ2 σ3 : sg} {c : Nat} {x y : Int32} (hc : c < 24) (e1 : σ1 = us σ0 61 (282 * c + 2) x) (q : QS σ1 σ2) (e3 : σ3 = us σ2 61 (282 * c + 3) y) : nw σ3 6856 = nw σ0 6856 := by
  subst e1 e3
  rw [nw_us (by omega), q.2.1 _ (by omega), nw_us (by omega)]
