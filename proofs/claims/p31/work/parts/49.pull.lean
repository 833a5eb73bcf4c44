/-! pulling: what it leaves alone -/
def bz (σ : sg) (i : Nat) : Int := (σ 67 i).toInt
def mf (i : Nat) : Prop := i < 6768 ∧ (i % 282 ≤ 2 ∨ 31 ≤ i % 282) ∨ i = 6768 ∨ i = 6769 ∨ 6795 ≤ i
/-- a MEMO was refreshed, or less -/
def PF (σ τ : sg) : Prop := (∀ q, q ≠ 60 → q ≠ 61 → q ≠ 67 → τ q = σ q) ∧ (∀ s, s ≠ 16 → fl τ s = fl σ s) ∧ (∀ i, bz τ i = bz σ i) ∧ (∀ i, mf i → nw τ i = nw σ i) ∧ RO τ
theorem PF.rf {σ : sg} (h : RO σ) : PF σ σ := ⟨fun _ _ _ _ => rfl, fun _ _ => rfl, fun _ => rfl, fun _ _ => rfl, h⟩
theorem PF.tr {σ τ υ : sg} (h : PF σ τ) (k : PF τ υ) : PF σ υ :=
  ⟨fun q a b c => (k.1 q a b c).trans (h.1 q a b c), fun s hs => (k.2.1 s hs).trans (h.2.1 s hs), fun i => (k.2.2.1 i).trans (h.2.2.1 i), fun i hi => (k.2.2.2.1 i hi).trans (h.2.2.2.1 i hi), k.2.2.2.2⟩
theorem RO.o {σ : sg} {q i : Nat} {v : Int32} (h : RO σ) (hq : q ≠ 61) : RO (us σ q i v) := h.cg (h.2.1.cg (fun _ _ _ => nw_o hq) (fun _ _ => nw_o hq)) (fun _ _ => nw_o hq)
theorem PF.at {σ τ : sg} {v : Int32} (h : PF σ τ) : PF σ (us τ 60 16 v) :=
  ⟨fun q a b c => by rw [us_nq a]; exact h.1 q a b c, fun s hs => (congrArg Int32.toInt (us_ne (fun e => hs e.2))).trans (h.2.1 s hs), fun i => (congrArg Int32.toInt (us_ne (fun e => absurd e.1 (by decide)))).trans (h.2.2.1 i), fun i hi => (nw_o (by decide)).trans (h.2.2.2.1 i hi), h.2.2.2.2.o (by decide)⟩
/-- a cell's letters -/
def lt (σ : sg) (c : Nat) : LT := ⟨ltr σ c, nw σ 6768⟩
/-- a cell's formula is one -/
def FOK (σ : sg) (c : Nat) : Prop := (0 ≤ nw σ (282 * c + 31) ∧ nw σ (282 * c + 31) ≤ 250) ∧ ((nw σ (282 * c + 0) = 3 ∨ nw σ (282 * c + 0) = 4) → PK (lt σ c) 0 0 (nw σ (282 * c + 31)).toNat)
def FO (σ : sg) : Prop := ∀ c, c < 24 → FOK σ c
theorem ltr_cg {σ τ : sg} {c : Nat} (h : ∀ i, 282 * c + 31 ≤ i → i < 282 * c + 282 → nw τ i = nw σ i) (hs : nw σ (282 * c + 31) ≤ 250) : ltr τ c = ltr σ c := funext (fun k => by
  unfold ltr
  rw [h _ (by omega) (by omega)]
  split
  · rw [h _ (by omega) (by omega)]
  · rfl)
theorem lt_cg {σ τ : sg} {c : Nat} (h : ∀ i, 282 * c + 31 ≤ i → i < 282 * c + 282 → nw τ i = nw σ i) (hs : nw σ (282 * c + 31) ≤ 250) (hm : nw τ 6768 = nw σ 6768) : lt τ c = lt σ c := by
  unfold lt
  rw [ltr_cg h hs, hm]
theorem FOK.cg {σ τ : sg} {c : Nat} (k : FOK σ c) (h0 : nw τ (282 * c + 0) = nw σ (282 * c + 0)) (h : ∀ i, 282 * c + 31 ≤ i → i < 282 * c + 282 → nw τ i = nw σ i) (hm : nw σ 6768 ≤ nw τ 6768) : FOK τ c := by
  unfold FOK lt
  rw [ltr_cg h k.1.2, h (282 * c + 31) (by omega) (by omega), h0]
  exact ⟨k.1, fun e => (k.2 e).mm hm⟩
theorem FO.mof {σ τ : sg} (k : FO σ) (h : ∀ i, mf i → nw τ i = nw σ i) : FO τ := fun c hc => (k c hc).cg (h _ (by unfold mf; omega)) (fun i h1 h2 => h i (by unfold mf; omega)) (by rw [h 6768 (by unfold mf; omega)]; exact Int.le_refl _)
theorem ltr_out {σ : sg} {c : Nat} (hs : nw σ (282 * c + 31) ≤ 250) : ∀ j, 250 ≤ j → ltr σ c j = -1 := fun j hj => by
  unfold ltr
  rw [if_neg (by omega)]
/-- frames that the cells which aren't busy may want -/
def ws : Nat → sg → Nat
  | 0, _ => 0
  | n + 1, σ => ws n σ + (if bz σ n = 0 then 2 * (nw σ (282 * n + 31)).toNat + 16 else 0)
theorem ws_cg {σ τ : sg} : ∀ n, (∀ k, k < n → bz τ k = bz σ k) → (∀ k, k < n → nw τ (282 * k + 31) = nw σ (282 * k + 31)) → ws n τ = ws n σ
  | 0, _, _ => rfl
  | n + 1, h, h2 => by
    unfold ws
    rw [ws_cg n (fun k hk => h k (by omega)) (fun k hk => h2 k (by omega)), h n (by omega), h2 n (by omega)]
theorem ws_st {σ τ : sg} {c : Nat} (h0 : bz σ c = 0) (h1 : bz τ c ≠ 0) : ∀ n, c < n → (∀ k, k < n → k ≠ c → bz τ k = bz σ k) → (∀ k, k < n → nw τ (282 * k + 31) = nw σ (282 * k + 31)) → ws n σ = ws n τ + (2 * (nw σ (282 * c + 31)).toNat + 16)
  | 0, hc, _, _ => absurd hc (Nat.not_lt_zero _)
  | n + 1, hc, h, h2 => by
    unfold ws
    by_cases e : c = n
    · subst e
      rw [ws_cg c (fun k hk => h k (by omega) (by omega)) (fun k hk => h2 k (by omega)), if_pos h0, if_neg h1]
      omega
    · rw [ws_st h0 h1 n (by omega) (fun k hk hn => h k (by omega) hn) (fun k hk => h2 k (by omega)), h n (by omega) (fun e' => e e'.symm), h2 n (by omega)]
      omega
/-- how many cells aren't busy -/
def nb : Nat → sg → Nat
  | 0, _ => 0
  | n + 1, σ => nb n σ + (if bz σ n = 0 then 1 else 0)
theorem nb_cg {σ τ : sg} : ∀ n, (∀ k, k < n → bz τ k = bz σ k) → nb n τ = nb n σ
  | 0, _ => rfl
  | n + 1, h => by
    unfold nb
    rw [nb_cg n (fun k hk => h k (by omega)), h n (by omega)]
theorem nb_st {σ τ : sg} {c : Nat} (h0 : bz σ c = 0) (h1 : bz τ c ≠ 0) : ∀ n, c < n → (∀ k, k < n → k ≠ c → bz τ k = bz σ k) → nb n σ = nb n τ + 1
  | 0, hc, _ => absurd hc (Nat.not_lt_zero _)
  | n + 1, hc, h => by
    unfold nb
    by_cases e : c = n
    · subst e
      rw [nb_cg c (fun k hk => h k (by omega) (by omega)), if_pos h0, if_neg h1]
    · rw [nb_st h0 h1 n (by omega) (fun k hk hn => h k (by omega) hn), h n (by omega) (fun e' => e e'.symm)]
      omega
/-- room for one more read -/
theorem ROK.lt {σ : sg} {x y : Nat} (h : ROK σ x) (hy : y < 24) (hn : ∀ k : Nat, (k : Int) < nw σ (282 * x + 6) → nw σ (282 * x + (k + 7)) ≠ (y : Int)) : nw σ (282 * x + 6) ≤ 23 := by
  obtain ⟨h0, h1, h2⟩ := h
  have k := ph 24 ((nw σ (282 * x + 6)).toNat + 1) (fun i => if i < (nw σ (282 * x + 6)).toNat then (nw σ (282 * x + (i + 7))).toNat else y) (fun i hi => by
    show (if i < (nw σ (282 * x + 6)).toNat then (nw σ (282 * x + (i + 7))).toNat else y) < 24
    split
    · obtain ⟨d, e, e2⟩ := h1 i (by omega)
      omega
    · exact hy) (fun i j hij hj => by
    show (if i < (nw σ (282 * x + 6)).toNat then (nw σ (282 * x + (i + 7))).toNat else y) ≠ (if j < (nw σ (282 * x + 6)).toNat then (nw σ (282 * x + (j + 7))).toNat else y)
    rw [if_pos (by omega)]
    obtain ⟨d, e, e2⟩ := h1 i (by omega)
    split
    · obtain ⟨d', e', e2'⟩ := h1 j (by omega)
      have := h2 i j hij (by omega)
      omega
    · have := hn i (by omega)
      omega)
  omega
/-- one more read -/
theorem RO.read {σ : sg} {x y m : Nat} {u v : Int32} (h : RO σ) (hx : x < 24) (hy : y < 24) (hn : ∀ k : Nat, (k : Int) < nw σ (282 * x + 6) → nw σ (282 * x + (k + 7)) ≠ (y : Int)) (hm : (m : Int) = nw σ (282 * x + 6)) (hu : u.toInt = (y : Int)) (hv : v.toInt = nw σ (282 * x + 6) + 1) : RO (us (us σ 61 (282 * x + (m + 7)) u) 61 (282 * x + 6) v) := by
  have hlt := (h.2.2.1 x hx).lt hy hn
  obtain ⟨a, b, d, e⟩ := h
  have n : ∀ i, i ≠ 282 * x + 6 → i ≠ 282 * x + (m + 7) → nw (us (us σ 61 (282 * x + (m + 7)) u) 61 (282 * x + 6) v) i = nw σ i := fun i h1 h2 => by rw [nw_us h1, nw_us h2]
  have n6 : nw (us (us σ 61 (282 * x + (m + 7)) u) 61 (282 * x + 6) v) (282 * x + 6) = (m : Int) + 1 := by rw [nw_at]; omega
  have nm : nw (us (us σ 61 (282 * x + (m + 7)) u) 61 (282 * x + 6) v) (282 * x + (m + 7)) = (y : Int) := by rw [nw_us (by omega), nw_at, hu]
  refine ⟨by rw [n _ (by omega) (by omega)]; exact a, b.cg (fun i h1 h2 => n _ (by omega) (by omega)) (fun c hc => n _ (by omega) (by omega)), fun c hc => ?_, fun c hc => ?_⟩
  · by_cases hcx : c = x
    · subst hcx
      obtain ⟨d0, d1, d2⟩ := d c hc
      refine ⟨by omega, fun j hj => ?_, fun i j hij hj => ?_⟩
      · by_cases hjm : j = m
        · subst hjm
          exact ⟨y, nm, hy⟩
        · obtain ⟨z, z1, z2⟩ := d1 j (by omega)
          exact ⟨z, by rw [n _ (by omega) (by omega)]; exact z1, z2⟩
      · by_cases hjm : j = m
        · subst hjm
          rw [nm, n _ (by omega) (by omega)]
          exact hn i (by omega)
        · rw [n _ (by omega) (by omega), n _ (by omega) (by omega)]
          exact d2 i j hij (by omega)
    · exact (d c hc).cg (n _ (by omega) (by omega)) (fun j hj => n _ (by omega) (by omega))
  · rw [n 6768 (by omega) (by omega)] at hc
    rw [n _ (by omega) (by omega)]
    exact e c hc
theorem PF.read {σ : sg} {x y m : Nat} {u v : Int32} (h : RO σ) (hx : x < 24) (hy : y < 24) (hn : ∀ k : Nat, (k : Int) < nw σ (282 * x + 6) → nw σ (282 * x + (k + 7)) ≠ (y : Int)) (hm : (m : Int) = nw σ (282 * x + 6)) (hu : u.toInt = (y : Int)) (hv : v.toInt = nw σ (282 * x + 6) + 1) : PF σ (us (us σ 61 (282 * x + (m + 7)) u) 61 (282 * x + 6) v) := by
  have hlt := (h.2.2.1 x hx).lt hy hn
  exact ⟨fun q _ b _ => by rw [us_nq b, us_nq b], fun s _ => congrArg Int32.toInt (by rw [us_nq (by decide), us_nq (by decide)]), fun i => congrArg Int32.toInt (by rw [us_nq (by decide), us_nq (by decide)]), fun i hi => by
    unfold mf at hi
    rw [nw_us (by omega), nw_us (by omega)], h.read hx hy hn hm hu hv⟩
