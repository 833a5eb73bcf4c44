/-! pulling, closed: memos -/
theorem FO.meo {σ τ : sg} (k : FO σ) (h : ∀ i, me i → nw τ i = nw σ i) : FO τ := fun c hc => (k c hc).cg (h _ (by unfold me; omega)) (fun i h1 h2 => h i (by unfold me; omega)) (by rw [h 6768 (by unfold me; omega)]; exact Int.le_refl _)
theorem PW.wsl {c : Nat} {σ τ : sg} (h : PW c σ τ) (h0 : bz σ c = 0) (hc : c < 24) : ws 24 σ = ws 24 τ + (2 * (nw σ (282 * c + 31)).toNat + 16) :=
  ws_st h0 h.2.2.1.2 24 hc (fun k _ hn => h.2.2.1.1 k hn) (fun k hk => h.2.2.2 _ (by unfold me; omega))
theorem PW.nbl {c : Nat} {σ τ : sg} (h : PW c σ τ) (h0 : bz σ c = 0) (hc : c < 24) : nb 24 σ = nb 24 τ + 1 :=
  nb_st h0 h.2.2.1.2 24 hc (fun k _ hn => h.2.2.1.1 k hn)
theorem ws_ge {σ : sg} {c : Nat} (h0 : bz σ c = 0) : ∀ n, c < n → 2 * (nw σ (282 * c + 31)).toNat + 16 ≤ ws n σ
  | 0, hc => absurd hc (Nat.not_lt_zero _)
  | n + 1, hc => by
    unfold ws
    by_cases e : c = n
    · subst e
      rw [if_pos h0]
      omega
    · have := ws_ge h0 n (by omega)
      omega
theorem r182z {ks : List cT} {B0 : Nat} (K : KE KS0 ks B0) {ρ : Nat → xE} : ∀ (n : Nat) {σ : sg} {h : List xE}, HT ks σ ρ h → ∀ {c : Nat} {x : Int32}, x.toInt = (c : Int) → nb 24 σ < n → c < 24 → RO σ → FO σ → fl σ 13 = 0 → nw σ (282 * c + 0) = 3 → bz σ c = 0 → yM 182 (ws 24 σ + 70) 0 [.ref (60 + 1), .int x] h (RQV ks ρ (PF σ))
  | 0, _, _, _, _, _, _, hn, _, _, _, _, _, _ => absurd hn (Nat.not_lt_zero _)
  | n + 1, σ, h, hT, c, x, e, hn, hc, hR, hF, h13, hk, hb => by
    obtain ⟨⟨s0, s1⟩, s2⟩ := hF c hc
    have s2 := s2 (Or.inl hk)
    have g := ws_ge hb 24 hc
    have Rf : WR ks ρ B0 (PW c σ) (ws 24 σ + 70 - (2 * (nw σ (282 * c + 31)).toNat + 16)) := fun {σ1 h1 y z} K1 hT1 e1 hy hW hk1 hb1 => by
      have w := hW.wsl hb hc
      have v := hW.nbl hb hc
      exact (r182z K n hT1 e1 (by omega) hy hW.1 (hF.meo hW.2.2.2) hW.2.1 hk1 hb1).w (by omega) (Nat.le_refl _) (fun _ _ h => h)
    exact (r182r K hT e Rf hc hR h13 hk (s := (nw σ (282 * c + 31)).toNat) (by omega) (by omega) s2 hb).w (by omega) (Nat.le_refl _) (fun _ _ h => h)
theorem r182 {ks : List cT} {B0 : Nat} (K : KE KS0 ks B0) {σ : sg} {ρ : Nat → xE} {h : List xE} (hT : HT ks σ ρ h) {c : Nat} {x1 : Int32} (e1 : x1.toInt = (c : Int)) (p0 : c < 24) (p1 : RO σ) (p2 : FO σ) (p3 : fl σ 13 = 0) (p4 : nw σ (282 * c + 0) = 3) (p5 : bz σ c = 0) (p6 : ws 24 σ ≤ 1500) : yM 182 1570 0 [.ref (60 + 1), .int x1] h (RQV ks ρ (PF σ)) :=
  (r182z K (nb 24 σ + 1) hT e1 (by omega) p0 p1 p2 p3 p4 p5).w (by omega) (Nat.le_refl _) (fun _ _ h => h)
/-! what an effect's run leaves alone -/
def EF (d : Int) (σ τ : sg) : Prop := (∀ q, q ≠ 60 → q ≠ 61 → q ≠ 67 → τ q = σ q) ∧ (∀ s, s ≠ 16 → fl τ s = fl σ s) ∧ (∀ i, bz τ i = bz σ i) ∧ (∀ i, me i → nw τ i = nw σ i) ∧ RO τ ∧ (nw σ 6795 ≤ nw τ 6795 ∧ nw τ 6795 ≤ nw σ 6795 + d) ∧ 0 ≤ nw τ 6856 ∧ gm τ ≤ gm σ
theorem EF.rf {d : Int} {σ : sg} (h : RO σ) (h0 : 0 ≤ nw σ 6856) (hd : 0 ≤ d) : EF d σ σ :=
  ⟨fun _ _ _ _ => rfl, fun _ _ => rfl, fun _ => rfl, fun _ _ => rfl, h, ⟨Int.le_refl _, by omega⟩, h0, Int.le_refl _⟩
theorem EF.tr {a b : Int} {σ τ υ : sg} (h : EF a σ τ) (k : EF b τ υ) : EF (a + b) σ υ := by
  obtain ⟨h1, h2, h3, h4, h5, h6, h7, h8⟩ := h
  obtain ⟨k1, k2, k3, k4, k5, k6, k7, k8⟩ := k
  exact ⟨fun q x y z => (k1 q x y z).trans (h1 q x y z), fun s hs => (k2 s hs).trans (h2 s hs), fun i => (k3 i).trans (h3 i), fun i hi => (k4 i hi).trans (h4 i hi), k5, ⟨by omega, by omega⟩, k7, Int.le_trans k8 h8⟩
theorem EF.mono {a b : Int} {σ τ : sg} (h : EF a σ τ) (hab : a ≤ b) : EF b σ τ := by
  obtain ⟨h1, h2, h3, h4, h5, h6, h7, h8⟩ := h
  exact ⟨h1, h2, h3, h4, h5, ⟨h6.1, by omega⟩, h7, h8⟩
theorem BF.gme {c : Nat} {σ τ : sg} (k : BF c σ τ) : gm τ = gm σ := by
  unfold gm
  rw [k.2.2.2.1 6856 (by unfold mf; omega), cnt_cg 24 (fun j hj => k.2.2.2.1 _ (by unfold mf; omega))]
theorem PF.gme {σ τ : sg} (k : PF σ τ) : gm τ = gm σ := by
  unfold gm
  rw [k.2.2.2.1 6856 (by unfold mf; omega), cnt_cg 24 (fun j hj => k.2.2.2.1 _ (by unfold mf; omega))]
theorem EF.pf {a : Int} {σ τ υ : sg} (h : EF a σ τ) (k : PF τ υ) : EF a σ υ := by
  obtain ⟨h1, h2, h3, h4, h5, h6, h7, h8⟩ := h
  have g := k.gme
  obtain ⟨k1, k2, k3, k4, k5⟩ := k
  have e := k4 6795 (by unfold mf; omega)
  have e2 := k4 6856 (by unfold mf; omega)
  exact ⟨fun q x y z => (k1 q x y z).trans (h1 q x y z), fun s hs => (k2 s hs).trans (h2 s hs), fun i => (k3 i).trans (h3 i), fun i hi => (k4 i (me_mf hi)).trans (h4 i hi), k5, ⟨by omega, by omega⟩, by omega, by omega⟩
theorem EF.df {a : Int} {b : Nat} {σ τ υ : sg} (h : EF a σ τ) (k : DF b τ υ) : EF a σ υ := by
  obtain ⟨h1, h2, h3, h4, h5, h6, h7, h8⟩ := h
  obtain ⟨k1, k2, -, k5, k7, k8⟩ := k
  have e := k2 6795 (by unfold sd; omega)
  exact ⟨fun q x y z => (k1 q y).trans (h1 q x y z), fun s hs => (fl_eq (k1 60 (by decide))).trans (h2 s hs), fun i => (bz_eq (k1 67 (by decide))).trans (h3 i), fun i hi => (k2 i (by unfold me at hi; unfold sd; omega)).trans (h4 i hi), k5, ⟨by omega, by omega⟩, k7, Int.le_trans k8 h8⟩
theorem EF.lg {a : Int} {σ τ υ : sg} (h : EF a σ τ) (k : LG τ υ) : EF (a + 1) σ υ := by
  obtain ⟨h1, h2, h3, h4, h5, h6, h7, h8⟩ := h
  obtain ⟨k1, k2, k3⟩ := k
  have g : gm υ = gm τ := by
    unfold gm
    rw [k2 6856 (by omega), cnt_cg 24 (fun j hj => k2 _ (by omega))]
  have e2 := k2 6856 (by omega)
  exact ⟨fun q x y z => (k1 q y).trans (h1 q x y z), fun s hs => (fl_eq (k1 60 (by decide))).trans (h2 s hs), fun i => (bz_eq (k1 67 (by decide))).trans (h3 i), fun i hi => (k2 i (by unfold me at hi; omega)).trans (h4 i hi), h5.cg (h5.2.1.cg (fun i x y => k2 i (by omega)) (fun c hc => k2 _ (by omega))) (fun i hi => k2 i (by omega)), ⟨by omega, by omega⟩, by omega, by omega⟩
theorem EF.qs {a : Int} {σ τ υ : sg} (h : EF a σ τ) (k : QS τ υ) : EF a σ υ := h.pf ((PF.rf h.2.2.2.2.1).qs k)
theorem EF.s3 {a : Int} {σ τ : sg} {c w : Nat} {v : Int32} (h : EF a σ τ) (hc : c < 24) (hw : 3 ≤ w ∧ w ≤ 5) : EF a σ (us τ 61 (282 * c + w) v) := h.pf ((PF.rf h.2.2.2.2.1).s3 hc hw)
theorem EF.how {a : Int} {σ τ : sg} {v : Int32} (h : EF a σ τ) (h13 : fl τ 13 = 0) (hv : v.toInt = 0) : EF a σ (us τ 60 13 v) := h.pf ((PF.rf h.2.2.2.2.1).how h13 hv)
theorem PW.ef {c : Nat} {a : Int} {σ τ υ : sg} (h : PW c σ τ) (k : EF a τ υ) : PW c σ υ :=
  ⟨k.2.2.2.2.1, (k.2.1 13 (by decide)).trans h.2.1, ⟨fun i hi => (k.2.2.1 i).trans (h.2.2.1.1 i hi), by rw [k.2.2.1 c]; exact h.2.2.1.2⟩, fun i hi => (k.2.2.2.1 i hi).trans (h.2.2.2 i hi)⟩
theorem BF.eout {c : Nat} {a : Int} {σ σ1 τ : sg} {v : Int32} (h : BF c σ σ1) (k : EF a σ1 τ) (h0 : bz σ c = 0) (hv : v.toInt = 0) : EF a σ (us τ 67 c v) := by
  have g : gm σ1 = gm σ := by
    unfold gm
    rw [h.2.2.2.1 6856 (by unfold mf; omega), cnt_cg 24 (fun j hj => h.2.2.2.1 _ (by unfold mf; omega))]
  have g2 : gm (us τ 67 c v) = gm τ := by
    unfold gm
    rw [nw_o (by decide), cnt_cg 24 (fun j hj => nw_o (by decide))]
  obtain ⟨h1, h2, h3, h4, h5⟩ := h
  obtain ⟨k1, k2, k3, k4, k5, k6, k7, k8⟩ := k
  have e := h4 6795 (by unfold mf; omega)
  exact ⟨fun q x y z => ((us_nq z).trans (k1 q x y z)).trans (h1 q x y z), fun s hs => ((congrArg Int32.toInt (us_ne (fun e => absurd e.1 (by decide)))).trans (k2 s hs)).trans (h2 s hs), fun i => by
    by_cases e : i = c
    · subst e
      rw [bz_at, hv, h0]
    · rw [bz_ne e]
      exact (k3 i).trans (h3.1 i e), fun i hi => ((nw_o (by decide)).trans (k4 i hi)).trans (h4 i (me_mf hi)), k5.o (by decide), ⟨by rw [nw_o (by decide)]; omega, by rw [nw_o (by decide)]; omega⟩, by rw [nw_o (by decide)]; exact k7, by omega⟩
theorem EF.wse {a : Int} {σ τ : sg} (h : EF a σ τ) : ws 24 τ = ws 24 σ := ws_cg 24 (fun k _ => h.2.2.1 k) (fun k hk => h.2.2.2.1 _ (by unfold me; omega))
theorem QOK.hd {σ : sg} (h : QOK σ) (h0 : 0 < nw σ 6770) : ∃ c : Nat, nw σ 6771 = (c : Int) ∧ c < 24 ∧ nw σ (282 * c + 0) = 4 := h.2.1 0 h0
