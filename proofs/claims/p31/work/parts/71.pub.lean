/-! what calls do to what stands -/
theorem S0.row {k s : Nat} {σ : sg} {u v : Int32} (h : RI k σ) (hs : s < 8) (hu : 0 ≤ u.toInt ∧ u.toInt ≤ 4) (hv : 0 ≤ v.toInt ∧ v.toInt ≤ 40) : S0 k σ (us (us σ 76 s u) 77 s v) := by
  have e : ∀ q, q ≠ 76 → q ≠ 77 → us (us σ 76 s u) 77 s v q = σ q := fun q a b => by rw [us_nq b, us_nq a]
  refine S0.same h (fun q hq => e q (by omega) (by omega)) (e _ (by decide) (by decide)) (e _ (by decide) (by decide)) (fun j hj => ?_) (fun s' _ => fl_eq (e _ (by decide) (by decide))) (e _ (by decide) (by decide))
  have hS := h.2.2.1 j hj
  rw [show us (us σ 76 s u) 77 s v 76 = us σ 76 s u 76 from us_nq (by decide)]
  by_cases hjs : j = s
  · subst hjs
    rw [us_eq, us_eq]
    omega
  · rw [us_ne (fun e => hjs e.2), us_ne (fun e => hjs e.2), show us σ 76 s u 77 = σ 77 from us_nq (by decide)]
    exact hS
theorem S0.shw {k s : Nat} {σ : sg} {u : Int32} (h : RI k σ) (hs : s < 8) (hu : u.toInt = -1 ∨ 10 ≤ u.toInt ∧ u.toInt ≤ 33) : S0 k σ (us σ 76 s u) := by
  have e : ∀ q, q ≠ 76 → us σ 76 s u q = σ q := fun q a => us_nq a
  refine S0.same h (fun q hq => e q (by omega)) (e _ (by decide)) (e _ (by decide)) (fun j hj => ?_) (fun s' _ => fl_eq (e _ (by decide))) (e _ (by decide))
  have hS := h.2.2.1 j hj
  rw [show us σ 76 s u 77 = σ 77 from us_nq (by decide)]
  by_cases hjs : j = s
  · subst hjs
    rw [us_eq]
    omega
  · rw [us_ne (fun e => hjs e.2)]
    exact hS
def CR1 (σ τ : sg) : Prop := nw τ 6769 = nw σ 6769 ∧ nw (kp τ) 6769 = nw (kp σ) 6769 ∧ fl τ 6 = fl σ 6
/-- a call came and went; the tape's length may be another -/
def S1 (k : Nat) (σ τ : sg) : Prop := RI (k + 1) τ ∧ OT σ τ ∧ CR1 σ τ
theorem S0.s1 {k : Nat} {σ τ : sg} (h : S0 k σ τ) : S1 k σ τ := ⟨h.1, h.2.1, h.2.2.2.1, h.2.2.2.2.1, h.2.2.2.2.2⟩
theorem S1.tape {k : Nat} {σ τ : sg} (h : RI k σ) (e : ∀ q, q ≠ 60 → q ≠ 71 → τ q = σ q) (hf : ∀ s, s = 6 ∨ s = 13 → fl τ s = fl σ s) (h0 : 0 ≤ fl τ 12) (h1 : fl τ 12 ≤ fl σ 12 + 1) : S1 k σ τ :=
  ⟨RX.mono (RX.same (j := 1) h (e _ (by decide) (by decide)) (e _ (by decide) (by decide)) (h.2.2.1.e (e _ (by decide) (by decide)) (e _ (by decide) (by decide))) ((hf 13 (by decide)).trans h.2.2.2.1) (fun i => bz_eq (e _ (by decide) (by decide))) h0 h1) (Nat.le_refl _) (by omega), fun q hq => e q (by omega) (by omega), nw_e (e _ (by decide) (by decide)), nw_e (kp_e (e _ (by decide) (by decide))), hf 6 (by decide)⟩
theorem S1.feed {k i : Nat} {σ : sg} {u v : Int32} (h : RI k σ) (hv : v.toInt = fl σ 12 + 1) : S1 k σ (us (us σ 71 i u) 60 12 v) ∧ fl (us (us σ 71 i u) 60 12 v) 12 = fl σ 12 + 1 := by
  have h0 := h.2.2.2.2.2
  have e : fl (us (us σ 71 i u) 60 12 v) 12 = fl σ 12 + 1 := fl_at.trans hv
  refine ⟨S1.tape h (fun q a b => by rw [us_nq a, us_nq b]) (fun s hs => ?_) (by omega) (by omega), e⟩
  exact (congrArg Int32.toInt (us_ne (fun e => by omega))).trans (fl_eq (us_nq (by decide)))
theorem S1.wipe {k : Nat} {σ : sg} {v : Int32} (h : RI k σ) (hv : v.toInt = 0) : S1 k σ (us σ 60 12 v) ∧ fl (us σ 60 12 v) 12 = 0 := by
  have h0 := h.2.2.2.2.2
  have e : fl (us σ 60 12 v) 12 = 0 := fl_at.trans hv
  exact ⟨S1.tape h (fun q a b => us_nq a) (fun s hs => congrArg Int32.toInt (us_ne (fun e => by omega))) (by omega) (by omega), e⟩
/-- batches may be others -/
def S2 (k : Nat) (σ τ : sg) : Prop := RI (k + 1) τ ∧ OT σ τ ∧ fl τ 12 = fl σ 12 ∧ nw (kp τ) 6769 = nw (kp σ) 6769 ∧ fl τ 6 = fl σ 6
theorem S0.s2 {k : Nat} {σ τ : sg} (h : S0 k σ τ) : S2 k σ τ := ⟨h.1, h.2.1, h.2.2.1, h.2.2.2.2⟩
theorem S2.beg {k : Nat} {σ : sg} {v : Int32} (h : RI k σ) (hv : v.toInt = nw σ 6769 + 1) : S2 k σ (us σ 61 6769 v) := by
  have hb := h.1.2.2.2.1
  refine ⟨RX.mono (RX.bt (j := 1) h (by omega)) (Nat.le_refl _) (by omega), fun q hq => us_nq (by omega), fl_eq (us_nq (by decide)), nw_e (kp_e (us_nq (by decide))), fl_eq (us_nq (by decide))⟩
theorem RX.dwn {k : Nat} {σ : sg} {v : Int32} (h : RI k σ) (hv : v.toInt = nw σ 6769 - 1) (h0 : nw σ 6769 ≠ 0) : RI k (us σ 61 6769 v) := by
  have hb := h.1.2.2.2.1
  exact RX.mono (RX.bt (j := 0) h (by omega)) (Nat.le_refl _) (by omega)
theorem S2.dwn {k : Nat} {σ τ : sg} {v : Int32} (h : RI k σ) (hv : v.toInt = nw σ 6769 - 1) (h0 : nw σ 6769 ≠ 0) (e : EF 100 (us σ 61 6769 v) τ) : S2 k σ τ ∧ nw τ 6769 = nw σ 6769 - 1 := by
  obtain ⟨a, b, c1, c2, c3, c4⟩ := S0.ef (RX.dwn h hv h0) e (by decide)
  refine ⟨⟨a, fun q hq => (b q hq).trans (us_nq (by omega)), c1.trans (fl_eq (us_nq (by decide))), c3.trans (nw_e (kp_e (us_nq (by decide)))), c4.trans (fl_eq (us_nq (by decide)))⟩, ?_⟩
  rw [c2, nw_at]
  exact hv
/-! cells made -/
/-- slot c is a new cell's -/
def MD (c : Nat) (kind owner : Int) (σ τ : sg) : Prop := (∀ q, q ≠ 61 → τ q = σ q) ∧ (∀ i, ¬ (282 * c ≤ i ∧ i < 282 * c + 282) → i ≠ 6768 → nw τ i = nw σ i) ∧ nw τ 6768 = (c : Int) + 1 ∧ nw τ (282 * c + 0) = kind ∧ nw τ (282 * c + 1) = owner ∧ ∀ j, 2 ≤ j → j < 282 → j ≠ 3 → nw τ (282 * c + j) = 0
/-- while it is cleared -/
def MZ (c : Nat) (σ τ : sg) (n : Nat) : Prop := (∀ q, q ≠ 61 → τ q = σ q) ∧ (∀ i, ¬ (282 * c ≤ i ∧ i < 282 * c + 282) → nw τ i = nw σ i) ∧ ∀ j, j < n → nw τ (282 * c + j) = 0
theorem MZ.z {c : Nat} {σ : sg} : MZ c σ σ 0 := ⟨fun _ _ => rfl, fun _ _ => rfl, fun j hj => absurd hj (Nat.not_lt_zero _)⟩
theorem MZ.s {c n : Nat} {σ τ τ' : sg} {v : Int32} (h : MZ c σ τ n) (hn : n < 282) (e : τ' = us τ 61 (282 * c + n) v) (hv : v.toInt = 0) : MZ c σ τ' (n + 1) := by
  subst e
  refine ⟨fun q hq => (us_nq hq).trans (h.1 q hq), fun i hi => (nw_us (by omega)).trans (h.2.1 i hi), fun j hj => ?_⟩
  by_cases hjn : j = n
  · subst hjn
    rw [nw_at]
    exact hv
  · rw [nw_us (by omega)]
    exact h.2.2 j (by omega)
theorem MZ.md {c : Nat} {σ τ τ1 τ2 τ3 : sg} {x1 x2 x3 x4 : Int32} {a b : Int} (h : MZ c σ τ 282) (hc : c < 24) (e1 : τ1 = us τ 61 (282 * c + 0) x1) (e2 : τ2 = us τ1 61 (282 * c + 1) x2) (e3 : τ3 = us τ2 61 (282 * c + 3) x3) (h1 : x1.toInt = a) (h2 : x2.toInt = b) (h4 : x4.toInt = (c : Int) + 1) : MD c a b σ (us τ3 61 6768 x4) := by
  subst e1 e2 e3
  refine ⟨fun q hq => by rw [us_nq hq, us_nq hq, us_nq hq, us_nq hq]; exact h.1 q hq, fun i hi hn => by rw [nw_us hn, nw_us (by omega), nw_us (by omega), nw_us (by omega)]; exact h.2.1 i hi, by rw [nw_at]; exact h4, by rw [nw_us (by omega), nw_us (by omega), nw_us (by omega), nw_at]; exact h1, by rw [nw_us (by omega), nw_us (by omega), nw_at]; exact h2, fun j j1 j2 j3 => by rw [nw_us (by omega), nw_us (by omega), nw_us (by omega), nw_us (by omega)]; exact h.2.2 j j2⟩
theorem cnt_1 {σ τ : sg} {c : Nat} : ∀ n, (∀ k, k < n → k ≠ c → nw τ (282 * k + 2) = nw σ (282 * k + 2)) → cnt n τ ≤ cnt n σ + 1
  | 0, _ => show (0 : Int) ≤ 0 + 1 by decide
  | n + 1, h => by
    unfold cnt
    by_cases e : c = n
    · subst e
      rw [cnt_cg c (fun k hk => h k (by omega) (by omega))]
      split <;> split <;> omega
    · have := cnt_1 n (fun k hk hn => h k (by omega) hn)
      rw [h n (by omega) (fun e' => e e'.symm)]
      omega
/-- as NI, but for the formula of the cell c -/
def NJ (c k : Nat) (t lb : Int) (σ : sg) : Prop := (RO σ ∧ (∀ d, d < 24 → d ≠ c → FOK σ d) ∧ KO σ ∧ ZO σ) ∧ (0 ≤ nw σ 6795 ∧ nw σ 6795 ≤ lb) ∧ (0 ≤ nw σ 6856 ∧ gm σ ≤ 24 + (k : Int)) ∧ (0 ≤ nw σ 6769 ∧ nw σ 6769 ≤ (k : Int)) ∧ ((sz 24 σ : Nat) : Int) + t ≤ (k : Int)
theorem NI.nj {c k : Nat} {t lb : Int} {σ : sg} (h : NI k t lb σ) : NJ c k t lb σ := ⟨⟨h.1.1, fun d hd _ => h.1.2.1 d hd, h.1.2.2⟩, h.2⟩
theorem NJ.e {c k : Nat} {t lb : Int} {σ τ : sg} (h : NJ c k t lb σ) (e : τ 61 = σ 61) : NJ c k t lb τ := by
  have e1 : nw τ = nw σ := funext (fun i => nw_e e)
  obtain ⟨⟨a1, a2, a3, a4⟩, b⟩ := h
  have e4 : gm τ = gm σ := by
    unfold gm
    rw [e1, cnt_cg (σ := σ) (τ := τ) 24 (fun j hj => by rw [e1])]
  have e5 : sz 24 τ = sz 24 σ := sz_cg 24 (fun j hj => by rw [e1])
  unfold NJ
  rw [e1, e4, e5]
  exact ⟨⟨a1.cg (a1.2.1.cg (fun i x y => by rw [e1]) (fun c hc => by rw [e1])) (fun i hi => by rw [e1]), fun d hd hn => (a2 d hd hn).cg (by rw [e1]) (fun i x y => by rw [e1]) (by rw [e1]; exact Int.le_refl _), a3.e e, a4.cg (fun c hc => by rw [e1]) (by rw [e1])⟩, b⟩
theorem NI.md {c k : Nat} {t lb a b : Int} {σ τ : sg} (h : NI k t lb σ) (hc : (c : Int) = nw σ 6768) (h24 : c < 24) (m : MD c a b σ τ) (hk : a = 1 ∨ a = 3 ∨ a = 4 ∨ a = 5) (ho : b < (c : Int)) : NJ c (k + 1) t lb τ := by
  obtain ⟨⟨a1, a2, a3, a4⟩, b1, c1, d1, e1⟩ := h
  obtain ⟨m1, m2, m3, m4, m5, m6⟩ := m
  have z := a4 c (by omega) h24
  have o : ∀ d, d < 24 → d ≠ c → ∀ j, j < 282 → nw τ (282 * d + j) = nw σ (282 * d + j) := fun d hd hn j hj => m2 _ (by omega) (by omega)
  have g1 := cnt_1 (σ := σ) (τ := τ) (c := c) 24 (fun k hk hn => o k hk hn 2 (by decide))
  have g2 := m2 6856 (by omega) (by decide)
  have s := sz_at (σ := σ) (τ := τ) (c := c) 24 h24 (fun k hk hn => o k hk hn 31 (by decide))
  have s1 := m6 31 (by decide) (by decide) (by decide)
  have n1 := m2 6795 (by omega) (by decide)
  have n2 := m2 6769 (by omega) (by decide)
  refine ⟨⟨⟨by omega, ?_, fun d hd => ?_, fun d hd => ?_⟩, fun d hd hn => ?_, fun d hd => ?_, fun d h1 h2 => ?_⟩, by omega, ?_, by omega, by omega⟩
  · obtain ⟨q0, q1, q2⟩ := a1.2.1
    have q := m2 6770 (by omega) (by decide)
    refine ⟨by omega, fun j hj => ?_, fun i j hij hj => ?_⟩
    · obtain ⟨y, y1, y2, y3⟩ := q1 j (by omega)
      have hy : y ≠ c := fun e => by
        rw [e] at y3
        omega
      exact ⟨y, by rw [m2 _ (by omega) (by omega)]; exact y1, y2, by rw [o y y2 hy 0 (by decide)]; exact y3⟩
    · rw [m2 _ (by omega) (by omega), m2 _ (by omega) (by omega)]
      exact q2 i j hij (by omega)
  · by_cases hdc : d = c
    · subst hdc
      have r := m6 6 (by decide) (by decide) (by decide)
      exact ⟨by omega, fun j hj => by omega, fun i j _ hj => by omega⟩
    · exact (a1.2.2.1 d hd).cg (o d hd hdc 6 (by decide)) (fun j hj => o d hd hdc _ (by omega))
  · by_cases hdc : d = c
    · subst hdc
      omega
    · rw [o d (by omega) hdc 1 (by decide)]
      exact a1.2.2.2 d (by omega)
  · exact (a2 d hd).cg (o d hd hn 0 (by decide)) (fun i h1 h2 => m2 i (by omega) (by omega)) (by omega)
  · by_cases hdc : d = c
    · subst hdc
      omega
    · rw [o d (by omega) hdc 0 (by decide)]
      exact a3 d (by omega)
  · rw [o d h2 (by omega) 0 (by decide)]
    exact a4 d (by omega) h2
  · unfold gm at *
    omega
/-- sources and scopes have no formula -/
theorem NJ.src {c k : Nat} {t lb : Int} {σ : sg} (h : NJ c k t lb σ) (hk : nw σ (282 * c + 0) ≠ 3 ∧ nw σ (282 * c + 0) ≠ 4) (hs : nw σ (282 * c + 31) = 0) : NI k t lb σ :=
  ⟨⟨h.1.1, fun d hd => by
    by_cases hdc : d = c
    · subst hdc
      exact ⟨by omega, fun e => absurd e (by omega)⟩
    · exact h.1.2.1 d hd hdc, h.1.2.2⟩, h.2⟩
/-- the tape's formula is the cell's -/
theorem NJ.tk {c k m : Nat} {t t' lb : Int} {σ τ : sg} (h : NJ c k t lb σ) (hc : c < 24) (g : TK σ τ c m m) (hm : m ≤ 250) (hP : PK (lt τ c) 0 0 m) (ht : t' + (m : Int) ≤ t) : NI k t' lb τ := by
  obtain ⟨⟨a1, a2, a3, a4⟩, b1, c1, d1, e1⟩ := h
  obtain ⟨m1, m2, m3, -⟩ := g
  have s := sz_at (σ := σ) (τ := τ) (c := c) 24 hc (fun k hk hn => m2 _ (by omega))
  have n1 := m2 6795 (by omega)
  have n2 := m2 6769 (by omega)
  have n3 := m2 6856 (by omega)
  have n4 : gm τ = gm σ := by
    unfold gm
    rw [n3, cnt_cg 24 (fun j hj => m2 _ (by omega))]
  have k0 : ∀ d, d < 24 → nw τ (282 * d + 0) = nw σ (282 * d + 0) := fun d hd => m2 _ (by omega)
  have kc := m2 6768 (by omega)
  refine ⟨⟨a1.cg (a1.2.1.cg (fun i x y => m2 i (by omega)) k0) (fun i hi => m2 i (by omega)), fun d hd => ?_, a3.cg k0 kc a1.1.2, a4.cg k0 kc⟩, by omega, by omega, by omega, by omega⟩
  by_cases hdc : d = c
  · subst hdc
    refine ⟨by omega, fun _ => ?_⟩
    rw [m3]
    exact hP
  · exact (a2 d hd hdc).cg (k0 d hd) (fun i h1 h2 => m2 i (by omega)) (by omega)
