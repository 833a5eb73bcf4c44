/-! what stands between calls -/
/-- how long all formulas are together -/
def sz : Nat → sg → Nat
  | 0, _ => 0
  | n + 1, σ => sz n σ + (nw σ (282 * n + 31)).toNat
theorem sz_cg {σ τ : sg} : ∀ n, (∀ k, k < n → nw τ (282 * k + 31) = nw σ (282 * k + 31)) → sz n τ = sz n σ
  | 0, _ => rfl
  | n + 1, h => by
    unfold sz
    rw [sz_cg n (fun k hk => h k (by omega)), h n (by omega)]
theorem sz_at {σ τ : sg} {c : Nat} : ∀ n, c < n → (∀ k, k < n → k ≠ c → nw τ (282 * k + 31) = nw σ (282 * k + 31)) → sz n τ + (nw σ (282 * c + 31)).toNat = sz n σ + (nw τ (282 * c + 31)).toNat
  | 0, hc, _ => absurd hc (Nat.not_lt_zero _)
  | n + 1, hc, h => by
    unfold sz
    by_cases e : c = n
    · subst e
      rw [sz_cg c (fun k hk => h k (by omega) (by omega))]
      omega
    · have := sz_at n (by omega) (fun k hk hn => h k (by omega) hn)
      rw [h n (by omega) (fun e' => e e'.symm)]
      omega
theorem ws_sz {σ : sg} : ∀ n, ws n σ ≤ 2 * sz n σ + 16 * n
  | 0 => Nat.le_refl _
  | n + 1 => by
    have := ws_sz (σ := σ) n
    unfold ws sz
    split <;> omega
/-- what lies behind the count has no kind -/
def ZO (σ : sg) : Prop := ∀ c : Nat, nw σ 6768 ≤ (c : Int) → c < 24 → nw σ (282 * c + 0) = 0
theorem ZO.cg {σ τ : sg} (k : ZO σ) (h : ∀ c, c < 24 → nw τ (282 * c + 0) = nw σ (282 * c + 0)) (hm : nw τ 6768 = nw σ 6768) : ZO τ := fun c h1 h2 => by
  rw [h c h2]
  exact k c (by omega) h2
/-- a row of cells: t bytes on the tape beside, k calls so far, lb runs told at most -/
def NI (k : Nat) (t lb : Int) (σ : sg) : Prop := (RO σ ∧ FO σ ∧ KO σ ∧ ZO σ) ∧ (0 ≤ nw σ 6795 ∧ nw σ 6795 ≤ lb) ∧ (0 ≤ nw σ 6856 ∧ gm σ ≤ 24 + (k : Int)) ∧ (0 ≤ nw σ 6769 ∧ nw σ 6769 ≤ (k : Int)) ∧ ((sz 24 σ : Nat) : Int) + t ≤ (k : Int)
theorem NI.mono {k k' : Nat} {t t' lb lb' : Int} {σ : sg} (h : NI k t lb σ) (hk : k ≤ k') (hl : lb ≤ lb') (ht : t' - t ≤ (k' : Int) - (k : Int)) : NI k' t' lb' σ := by
  obtain ⟨a, b, c, d, e⟩ := h
  exact ⟨a, by omega, by omega, by omega, by omega⟩
theorem KO.cg {σ τ : sg} (k : KO σ) (h : ∀ c, c < 24 → nw τ (282 * c + 0) = nw σ (282 * c + 0)) (hm : nw τ 6768 = nw σ 6768) (h24 : nw σ 6768 ≤ 24) : KO τ := fun c hc => by
  rw [h c (by omega)]
  exact k c (by omega)
theorem NI.cg {k : Nat} {t lb : Int} {σ τ : sg} (n : NI k t lb σ) (h : ∀ i, i < 6918 → nw τ i = nw σ i) : NI k t lb τ := by
  obtain ⟨⟨a1, a2, a3⟩, b, c, d, e⟩ := n
  have e1 := h 6795 (by decide)
  have e2 := h 6856 (by decide)
  have e3 := h 6769 (by decide)
  have e4 : gm τ = gm σ := by
    unfold gm
    rw [e2, cnt_cg 24 (fun j hj => h _ (by omega))]
  have e5 : sz 24 τ = sz 24 σ := sz_cg 24 (fun j hj => h _ (by omega))
  exact ⟨⟨a1.cg (a1.2.1.cg (fun i x y => h i (by omega)) (fun c hc => h _ (by omega))) (fun i hi => h i (by omega)), a2.meo (fun i hi => h i (by unfold me at hi; omega)), a3.1.cg (fun c hc => h _ (by omega)) (h _ (by decide)) a1.1.2, a3.2.cg (fun c hc => h _ (by omega)) (h _ (by decide))⟩, by omega, by omega, by omega, by omega⟩
theorem NI.e {k : Nat} {t lb : Int} {σ τ : sg} (n : NI k t lb σ) (h : τ 61 = σ 61) : NI k t lb τ := n.cg (fun i _ => nw_e h)
theorem NI.ef {k : Nat} {t lb d : Int} {σ τ : sg} (n : NI k t lb σ) (h : EF d σ τ) : NI k t (lb + d) τ := by
  obtain ⟨⟨a1, a2, a3⟩, b, c, d', e⟩ := n
  obtain ⟨-, -, -, h4, h5, h6, h7, h8⟩ := h
  have e3 := h4 6769 (by unfold me; omega)
  have e5 : sz 24 τ = sz 24 σ := sz_cg 24 (fun j hj => h4 _ (by unfold me; omega))
  exact ⟨⟨h5, a2.meo h4, a3.1.cg (fun c hc => h4 _ (by unfold me; omega)) (h4 _ (by unfold me; omega)) a1.1.2, a3.2.cg (fun c hc => h4 _ (by unfold me; omega)) (h4 _ (by unfold me; omega))⟩, by omega, by omega, by omega, by omega⟩
/-- what is kept, as what is now -/
def kp (σ : sg) : sg := fun q => if q = 61 then σ 64 else σ q
theorem kp_e {σ τ : sg} (h : τ 64 = σ 64) : kp τ 61 = kp σ 61 := by
  unfold kp
  rw [if_pos rfl, if_pos rfl]
  exact h
/-- after k calls, with lb runs told at most -/
def RX (k : Nat) (lb : Int) (σ : sg) : Prop := NI k (fl σ 12) lb σ ∧ NI k (fl σ 12) (10000 * (k : Int)) (kp σ) ∧ SH σ ∧ fl σ 13 = 0 ∧ (∀ i, i < 24 → bz σ i = 0) ∧ 0 ≤ fl σ 12
def RI (k : Nat) (σ : sg) : Prop := RX k (10000 * (k : Int)) σ
theorem RX.mono {k k' : Nat} {lb lb' : Int} {σ : sg} (h : RX k lb σ) (hk : k ≤ k') (hl : lb ≤ lb') : RX k' lb' σ :=
  ⟨h.1.mono hk hl (by omega), h.2.1.mono hk (by omega) (by omega), h.2.2⟩
theorem SH.e {σ τ : sg} (h : SH σ) (h1 : τ 76 = σ 76) (h2 : τ 77 = σ 77) : SH τ := fun s hs => by
  rw [h1, h2]
  exact h s hs
theorem EF.o {d : Int} {σ τ : sg} (h : EF d σ τ) {q : Nat} (h1 : q ≠ 60) (h2 : q ≠ 61) (h3 : q ≠ 67) : τ q = σ q := h.1 q h1 h2 h3
theorem RX.ef {k : Nat} {lb d : Int} {σ τ : sg} (h : RX k lb σ) (e : EF d σ τ) : RX k (lb + d) τ := by
  obtain ⟨a, b, c, c2, c3, c4⟩ := h
  have e12 := e.2.1 12 (by decide)
  refine ⟨?_, ?_, c.e (e.o (by decide) (by decide) (by decide)) (e.o (by decide) (by decide) (by decide)), (e.2.1 13 (by decide)).trans c2, fun i hi => (e.2.2.1 i).trans (c3 i hi), by omega⟩
  · rw [e12]
    exact a.ef e
  · rw [e12]
    exact b.e (kp_e (e.o (by decide) (by decide) (by decide)))
/-- what flushing wants -/
theorem RX.flu {k : Nat} {lb : Int} {σ : sg} (h : RX k lb σ) (hk : k ≤ 520) (hl : lb ≤ 999999000) : RO σ ∧ FO σ ∧ fl σ 13 = 0 ∧ (∀ i, i < 24 → bz σ i = 0) ∧ ws 24 σ ≤ 1500 ∧ (0 ≤ nw σ 6795 ∧ nw σ 6795 ≤ 999999000) ∧ (0 ≤ nw σ 6856 ∧ gm σ ≤ 1000000) := by
  obtain ⟨⟨⟨a1, a2, a3⟩, b, c, d, e⟩, -, -, c2, c3, c4⟩ := h
  have := ws_sz (σ := σ) 24
  exact ⟨a1, a2, c2, c3, by omega, by omega, by omega⟩
def OT (σ τ : sg) : Prop := ∀ q, q < 60 → τ q = σ q
/-- the tape's length, batches (now and kept), is anything kept -/
def CR (σ τ : sg) : Prop := fl τ 12 = fl σ 12 ∧ nw τ 6769 = nw σ 6769 ∧ nw (kp τ) 6769 = nw (kp σ) 6769 ∧ fl τ 6 = fl σ 6
/-- a call came and went -/
def S0 (k : Nat) (σ τ : sg) : Prop := RI (k + 1) τ ∧ OT σ τ ∧ CR σ τ
theorem EF.ot {d : Int} {σ τ : sg} (h : EF d σ τ) : OT σ τ := fun q hq => h.1 q (by omega) (by omega) (by omega)
theorem EF.cr {d : Int} {σ τ : sg} (h : EF d σ τ) : CR σ τ := ⟨h.2.1 12 (by decide), h.2.2.2.1 _ (by unfold me; omega), nw_e (kp_e (h.o (by decide) (by decide) (by decide))), h.2.1 6 (by decide)⟩
theorem S0.ef {k : Nat} {d : Int} {σ τ : sg} (h : RI k σ) (e : EF d σ τ) (hd : d ≤ 10000) : S0 k σ τ := ⟨(RX.ef h e).mono (by omega) (by omega), e.ot, e.cr⟩
theorem OT.rf {σ : sg} : OT σ σ := fun _ _ => rfl
theorem OT.tr {σ τ υ : sg} (h : OT σ τ) (k : OT τ υ) : OT σ υ := fun q hq => (k q hq).trans (h q hq)
theorem CR.rf {σ : sg} : CR σ σ := ⟨rfl, rfl, rfl, rfl⟩
theorem S0.rf {k : Nat} {σ : sg} (h : RI k σ) : S0 k σ σ := ⟨RX.mono h (by omega) (by omega), OT.rf, CR.rf⟩
/-- rows stay; the tape may grow with the calls -/
theorem RX.same {k j : Nat} {lb : Int} {σ τ : sg} (h : RX k lb σ) (h61 : τ 61 = σ 61) (h64 : τ 64 = σ 64) (hS : SH τ) (h13 : fl τ 13 = 0) (hb : ∀ i, bz τ i = bz σ i) (h0 : 0 ≤ fl τ 12) (h1 : fl τ 12 ≤ fl σ 12 + (j : Int)) : RX (k + j) (lb + 10000 * (j : Int)) τ :=
  ⟨(h.1.e h61).mono (by omega) (by omega) (by omega), (h.2.1.e (kp_e h64)).mono (by omega) (by omega) (by omega), hS, h13, fun i hi => (hb i).trans (h.2.2.2.2.1 i hi), h0⟩
theorem S0.same {k : Nat} {σ τ : sg} (h : RI k σ) (ho : OT σ τ) (h61 : τ 61 = σ 61) (h64 : τ 64 = σ 64) (hS : SH τ) (hf : ∀ s, s = 6 ∨ s = 12 ∨ s = 13 → fl τ s = fl σ s) (hb : τ 67 = σ 67) : S0 k σ τ := by
  have e := hf 12 (by decide)
  have e0 := h.2.2.2.2.2
  refine ⟨RX.mono (RX.same (j := 1) h h61 h64 hS ((hf 13 (by decide)).trans h.2.2.2.1) (fun i => bz_eq hb) (by omega) (by omega)) (Nat.le_refl _) (by omega), ho, e, nw_e h61, nw_e (kp_e h64), hf 6 (by decide)⟩
theorem S0.py {k : Nat} {σ τ : sg} (h : RI k σ) (e : PY σ τ) : S0 k σ τ :=
  S0.same h (fun q hq => e.1 q (by omega) (by omega)) (e.1 61 (by decide) (by decide)) (e.1 64 (by decide) (by decide)) (h.2.2.1.e (e.1 76 (by decide) (by decide)) (e.1 77 (by decide) (by decide))) (fun s hs => e.2 s (by omega)) (e.1 67 (by decide) (by decide))
theorem S0.tj {k : Nat} {σ τ : sg} (h : RI k σ) (e : TJ σ τ) : S0 k σ τ :=
  S0.same h (fun q hq => e.1 q (by omega)) (e.1 61 (by decide)) (e.1 64 (by decide)) (h.2.2.1.e (e.1 76 (by decide)) (e.1 77 (by decide))) (fun s hs => e.2 s (by omega) (by omega)) (e.1 67 (by decide))
theorem PF.mk {σ τ υ : sg} (h : PF σ τ) (k : MK τ υ) : PF σ υ :=
  h.tr ⟨fun q _ b _ => k.1 q b, fun s _ => fl_eq (k.1 60 (by decide)), fun i => bz_eq (k.1 67 (by decide)), fun i hi => by
    unfold mf at hi
    exact k.2.1 i (by omega) (by omega), h.2.2.2.2.mk k⟩
/-- a source was written, or not -/
theorem EF.sed {d : Int} {σ τ : sg} {v : Int32} (h : EF d σ τ) : EF d σ (us τ 61 6917 v) := by
  obtain ⟨h1, h2, h3, h4, h5, h6, h7, h8⟩ := h
  have g : gm (us τ 61 6917 v) = gm τ := by
    unfold gm
    rw [nw_us (by decide), cnt_cg 24 (fun j hj => nw_us (by omega))]
  exact ⟨fun q a b c => (us_nq b).trans (h1 q a b c), fun s hs => (fl_eq (us_nq (by decide))).trans (h2 s hs), fun i => (bz_eq (us_nq (by decide))).trans (h3 i), fun i hi => (nw_us (by unfold me at hi; omega)).trans (h4 i hi), h5.st (by omega), by rw [nw_us (by decide)]; exact h6, by rw [nw_us (by decide)]; exact h7, by omega⟩
/-- batches -/
theorem RX.bt {k j : Nat} {lb : Int} {σ : sg} {v : Int32} (h : RX k lb σ) (hv : 0 ≤ v.toInt ∧ v.toInt ≤ (k : Int) + (j : Int)) : RX (k + j) (lb + 10000 * (j : Int)) (us σ 61 6769 v) := by
  obtain ⟨⟨⟨a1, a2, a3⟩, b, c, d, e⟩, b2, c1, c2, c3, c4⟩ := h
  have n : ∀ i, i ≠ 6769 → nw (us σ 61 6769 v) i = nw σ i := fun i hi => nw_us hi
  have f : ∀ s, fl (us σ 61 6769 v) s = fl σ s := fun s => fl_eq (us_nq (by decide))
  have g : gm (us σ 61 6769 v) = gm σ := by
    unfold gm
    rw [n _ (by decide), cnt_cg 24 (fun j hj => n _ (by omega))]
  have z : sz 24 (us σ 61 6769 v) = sz 24 σ := sz_cg 24 (fun j hj => n _ (by omega))
  have n1 := n 6795 (by decide)
  have n2 := n 6856 (by decide)
  have n3 : nw (us σ 61 6769 v) 6769 = v.toInt := nw_at
  have f12 := f 12
  refine ⟨⟨⟨a1.st (by omega), ?_, a3.1.cg (fun c hc => n _ (by omega)) (n _ (by decide)) a1.1.2, a3.2.cg (fun c hc => n _ (by omega)) (n _ (by decide))⟩, by omega, by omega, by omega, by omega⟩, ?_, c1.e (us_nq (by decide)) (us_nq (by decide)), (f 13).trans c2, fun i hi => (bz_eq (us_nq (by decide))).trans (c3 i hi), by omega⟩
  · exact fun c hc => (a2 c hc).cg (n _ (by omega)) (fun i x y => n i (by omega)) (by rw [n _ (by decide)]; exact Int.le_refl _)
  · rw [f12]
    exact (b2.e (kp_e (us_nq (by decide)))).mono (by omega) (by omega) (by omega)
theorem CR.o {σ τ υ : sg} (h : CR σ τ) (k : CR τ υ) : CR σ υ := ⟨k.1.trans h.1, k.2.1.trans h.2.1, k.2.2.1.trans h.2.2.1, k.2.2.2.trans h.2.2.2⟩
