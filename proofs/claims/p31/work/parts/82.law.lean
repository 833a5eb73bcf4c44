/-! the law's calls -/
def RWv (x1 x2 x3 : Int32) (v : Value) : Prop := ∃ x : Int32, v = .int x ∧ (((0 ≤ x1.toInt ∧ x1.toInt ≤ 7) ∧ (0 ≤ x2.toInt ∧ x2.toInt ≤ 4) ∧ (0 ≤ x3.toInt ∧ x3.toInt ≤ 40)) ∧ x.toInt = 1 ∨ ¬ ((0 ≤ x1.toInt ∧ x1.toInt ≤ 7) ∧ (0 ≤ x2.toInt ∧ x2.toInt ≤ 4) ∧ (0 ≤ x3.toInt ∧ x3.toInt ≤ 40)) ∧ x.toInt = -2)
theorem RWv.eq {x1 x2 x3 : Int32} {u v : Value} (h : RWv x1 x2 x3 u) (k : RWv x1 x2 x3 v) : v = u := by
  obtain ⟨x, rfl, h⟩ := h
  obtain ⟨y, rfl, k⟩ := k
  rw [show y = x from i32_ext (by omega)]
set_option maxRecDepth 100000 in
set_option maxHeartbeats 4000000 in
theorem c107x {ks : List cT} {σ : Nat → Nat → Int32} {ρ : Nat → xE} {h : List xE} (hT : HT ks σ ρ h) {B0 : Nat} (K : KE KS0 ks B0) {q0 : Nat} (o0 : xnth ks q0 = some (18, 0)) (x1 : Int32) (x2 : Int32) (x3 : Int32) : yM 107 (1) 0 [.ref (q0 + 1), .int x1, .int x2, .int x3] h (CQ ks σ ρ (0, 0, 0) (fun _ r => ∃ v, r = some v ∧ RWv x1 x2 x3 v)) := by
  refine yM.st xM_107 rfl rfl (fun lv g => ?_)
  have g0 := g 0 _ rfl
  have g1 := g 1 _ rfl
  have g2 := g 2 _ rfl
  have g3 := g 3 _ rfl
  refine yT.aan (pc' := 1) g0 rfl rfl rfl ?_
  refine yT.iln (pc' := 2) g1 rfl rfl ?_
  refine kN (yT.cc (G2 := 0) (pc' := 5) rfl rfl rfl hT o0 xM_156 (c156 hT K o0 x1) rfl (by decide) (by decide) rfl) (fun h101 hT102 E103 => ?_) (fun h101 q104 hT102 E103 o105 => ?_)
  · have i106 : ¬ (0 ≤ x1.toInt ∧ x1.toInt < 8) := (show _ ∨ _ from E103).elim (fun e => e.2) (fun e => absurd rfl e.1)
    refine yT.p (pc' := 7) (lv' := xst1 _ 4 (.null)) rfl rfl (fun _ _ _ _ => rfl) ?_
    refine yT.aa_ (pc' := 9) xg_eq rfl rfl rfl ?_
    refine yT.p (pc' := 31) rfl rfl (fun _ _ _ _ => rfl) ?_
    refine yT.aan (pc' := 32) (xg_ne g0 rfl) rfl rfl rfl ?_
    refine yT.kb (pc' := 34) rfl rfl (by decide) (fun x107 e108 => ?_)
    refine kI (yT.cc (G2 := 0) (pc' := 37) rfl rfl rfl hT102 o0 xM_153 (c153 hT102 K o0 x107) rfl (by decide) (by decide) rfl) (fun h109 x112 hT110 E111 => ?_)
    have e113 : x112 = x107 := by have e : some (Value.int x112) = some (.int x107) := E111; injection e with e; injection e
    have e114 : x112.toInt = (-2) := by first | (rw [e113]; done) | (rw [e113]; exact e108)
    exact yT.retI rfl rfl (qI hT110 ⟨_, rfl, _, rfl, by omega⟩)
  · have i115 : 0 ≤ x1.toInt ∧ x1.toInt < 8 := (show _ ∨ _ from E103).elim (fun e => by cases e.1) (fun e => e.2)
    refine yT.p (pc' := 7) (lv' := xst1 _ 4 (.ref (q104 + 1))) rfl rfl (fun _ _ _ _ => rfl) ?_
    refine yT.aa_ (pc' := 9) xg_eq rfl rfl rfl ?_
    refine yT.p (pc' := 12) rfl rfl (fun _ _ _ _ => rfl) ?_
    refine yT.iln (pc' := 13) (xg_ne g2 rfl) rfl rfl ?_
    refine yT.if1 (t := 31) (pc' := 16) rfl rfl rfl (c1_lt rfl) (fun c116 => ?_) (fun c116 => ?_)
    · refine yT.aan (pc' := 32) (xg_ne g0 rfl) rfl rfl rfl ?_
      refine yT.kb (pc' := 34) rfl rfl (by decide) (fun x117 e118 => ?_)
      refine kI (yT.cc (G2 := 0) (pc' := 37) rfl rfl rfl hT102 o0 xM_153 (c153 hT102 K o0 x117) rfl (by decide) (by decide) rfl) (fun h119 x122 hT120 E121 => ?_)
      have e123 : x122 = x117 := by have e : some (Value.int x122) = some (.int x117) := E121; injection e with e; injection e
      have e124 : x122.toInt = (-2) := by first | (rw [e123]; done) | (rw [e123]; exact e118)
      exact yT.retI rfl rfl (qI hT120 ⟨_, rfl, _, rfl, by omega⟩)
    · refine yT.iln (pc' := 17) (xg_ne g2 rfl) rfl rfl ?_
      refine yT.kI (pc' := 18) rfl rfl (by decide) (fun x125 e126 => ?_)
      refine yT.if2 (t := 31) (pc' := 21) rfl rfl rfl (c2_gt rfl e126) (fun c127 => ?_) (fun c127 => ?_)
      · refine yT.aan (pc' := 32) (xg_ne g0 rfl) rfl rfl rfl ?_
        refine yT.kb (pc' := 34) rfl rfl (by decide) (fun x128 e129 => ?_)
        refine kI (yT.cc (G2 := 0) (pc' := 37) rfl rfl rfl hT102 o0 xM_153 (c153 hT102 K o0 x128) rfl (by decide) (by decide) rfl) (fun h130 x133 hT131 E132 => ?_)
        have e134 : x133 = x128 := by have e : some (Value.int x133) = some (.int x128) := E132; injection e with e; injection e
        have e135 : x133.toInt = (-2) := by first | (rw [e134]; done) | (rw [e134]; exact e129)
        exact yT.retI rfl rfl (qI hT131 ⟨_, rfl, _, rfl, by omega⟩)
      · refine yT.iln (pc' := 22) (xg_ne g3 rfl) rfl rfl ?_
        refine yT.if1 (t := 31) (pc' := 25) rfl rfl rfl (c1_lt rfl) (fun c136 => ?_) (fun c136 => ?_)
        · refine yT.aan (pc' := 32) (xg_ne g0 rfl) rfl rfl rfl ?_
          refine yT.kb (pc' := 34) rfl rfl (by decide) (fun x137 e138 => ?_)
          refine kI (yT.cc (G2 := 0) (pc' := 37) rfl rfl rfl hT102 o0 xM_153 (c153 hT102 K o0 x137) rfl (by decide) (by decide) rfl) (fun h139 x142 hT140 E141 => ?_)
          have e143 : x142 = x137 := by have e : some (Value.int x142) = some (.int x137) := E141; injection e with e; injection e
          have e144 : x142.toInt = (-2) := by first | (rw [e143]; done) | (rw [e143]; exact e138)
          exact yT.retI rfl rfl (qI hT140 ⟨_, rfl, _, rfl, by omega⟩)
        · refine yT.iln (pc' := 26) (xg_ne g3 rfl) rfl rfl ?_
          refine yT.kb (pc' := 28) rfl rfl (by decide) (fun x145 e146 => ?_)
          refine yT.if2 (t := 38) (pc' := 31) rfl rfl rfl (c2_le rfl e146) (fun c147 => ?_) (fun c147 => ?_)
          · refine yT.aa_ (pc' := 40) xg_eq rfl rfl rfl ?_
            refine yT.iln (pc' := 41) (xg_ne g2 rfl) rfl rfl ?_
            refine yT.iln (pc' := 42) (xg_ne g3 rfl) rfl rfl ?_
            refine kV (yT.cc (G2 := 0) (pc' := 45) rfl rfl rfl hT102 o105 xM_78 (c78 hT102 o105 x2 x3) rfl (by decide) (by decide) rfl) (fun h148 hT149 E150 => ?_)
            refine yT.kI (pc' := 46) rfl rfl (by decide) (fun x151 e152 => ?_)
            exact yT.retI rfl rfl (qI hT149 ⟨_, rfl, _, rfl, by omega⟩)
          · refine yT.aan (pc' := 32) (xg_ne g0 rfl) rfl rfl rfl ?_
            refine yT.kb (pc' := 34) rfl rfl (by decide) (fun x153 e154 => ?_)
            refine kI (yT.cc (G2 := 0) (pc' := 37) rfl rfl rfl hT102 o0 xM_153 (c153 hT102 K o0 x153) rfl (by decide) (by decide) rfl) (fun h155 x158 hT156 E157 => ?_)
            have e159 : x158 = x153 := by have e : some (Value.int x158) = some (.int x153) := E157; injection e with e; injection e
            have e160 : x158.toInt = (-2) := by first | (rw [e159]; done) | (rw [e159]; exact e154)
            exact yT.retI rfl rfl (qI hT156 ⟨_, rfl, _, rfl, by omega⟩)
theorem i32_p {x : Int32} {d : Int32} {n : Int} (hd : d.toInt = n) (h : -2147483648 ≤ x.toInt + n ∧ x.toInt + n ≤ 2147483647) : (x + d).toInt = x.toInt + n := by
  rw [Int32.toInt_add, hd]
  exact Int.bmod_eq_of_le (by omega) (by omega)
def LQ (ks : List cT) (ρ : Nat → xE) (P : sg → Value → Prop) : yQ := fun h' r => ∃ ks' σ' v, KE ks ks' 72 ∧ HT ks' σ' ρ h' ∧ r = some v ∧ P σ' v
def LM (ks : List cT) (ρ : Nat → xE) (P : sg → Value → Prop) : yQ := fun h' r => ∃ σ' v, HT ks σ' ρ h' ∧ r = some v ∧ P σ' v
def vI (v : Value) : Prop := ∃ x : Int32, v = .int x
def vL (v : Value) : Prop := ∃ x : Int64, v = .long x
def PA (k m : Nat) (V : Value → Prop) : sg → Value → Prop := fun σ' v => RI k σ' ∧ EQ σ' ∧ nz σ' = m ∧ V v
theorem RI.lo {k : Nat} {σ τ : sg} (h : RI k σ) (e : ∀ q, 60 ≤ q → τ q = σ q) : RI k τ := by
  have f : ∀ s, fl τ s = fl σ s := fun s => fl_eq (e 60 (by decide))
  refine ⟨?_, ?_, h.2.2.1.e (e _ (by decide)) (e _ (by decide)), (f 13).trans h.2.2.2.1, fun i hi => (bz_eq (e 67 (by decide))).trans (h.2.2.2.2.1 i hi), by rw [f 12]; exact h.2.2.2.2.2⟩
  · rw [f 12]
    exact h.1.e (e _ (by decide))
  · rw [f 12]
    exact h.2.1.e (kp_e (e _ (by decide)))
theorem RI.up {k : Nat} {σ : sg} (h : RI k σ) : RI (k + 1) σ := RX.mono h (by omega) (by omega)
theorem nz_ot {σ τ : sg} (h : OT σ τ) : nz τ = nz σ := by
  unfold nz
  rw [h 2 (by decide), h 12 (by decide)]
theorem EQ.s0 {σ τ : sg} (h : EQ σ) (o : OT σ τ) (c : CR σ τ) : EQ τ := by
  obtain ⟨a, b, c', d⟩ := h
  obtain ⟨e, f, g, i⟩ := c
  unfold EQ
  rw [o 40 (by decide), o 1 (by decide), o 11 (by decide), o 0 (by decide)]
  exact ⟨a.trans e.symm, b.trans f.symm, c'.trans g.symm, d.trans i.symm⟩
/-- class and model told by numbers -/
theorem EQ.of {σ τ : sg} (h : EQ σ) (h1 : (τ 40 1).toInt - fl τ 12 = (σ 40 1).toInt - fl σ 12) (h2 : (τ 1 7).toInt - nw τ 6769 = (σ 1 7).toInt - nw σ 6769) (h3 : (τ 11 7).toInt - nw (kp τ) 6769 = (σ 11 7).toInt - nw (kp σ) 6769) (h4 : (τ 0 2).toInt - fl τ 6 = (σ 0 2).toInt - fl σ 6) : EQ τ := by
  obtain ⟨a, b, c, d⟩ := h
  exact ⟨by omega, by omega, by omega, by omega⟩
section LW
variable {ks : List cT} {B0 : Nat} {σ : sg} {ρ : Nat → xE} {h : List xE} {k a F G B : Nat} {as : List Value} {E0 : yQ}
theorem wQI (R : RI k σ) (E : EQ σ) (hF : F ≤ 402) (c : yM a F 0 as h (CQ ks σ ρ (0, 0, 0) E0)) : ∃ G m, G + 763 * m ≤ 3783 + 763 * nz σ ∧ yM a 402 G as h (LQ ks ρ (PA k m vI)) :=
  ⟨0, nz σ, by omega, c.w hF (Nat.le_refl _) (fun h' r hh => by
    obtain ⟨e1, ⟨v, e2, x, e3⟩, -⟩ := hh
    exact ⟨ks, σ, v, KE.rf.w (Nat.zero_le _), e1, e2, R, E, rfl, x, e3⟩)⟩
theorem wQL (R : RI k σ) (E : EQ σ) (hF : F ≤ 402) (c : yM a F 0 as h (CQ ks σ ρ (2, 0, 0) E0)) : ∃ G m, G + 763 * m ≤ 3783 + 763 * nz σ ∧ yM a 402 G as h (LQ ks ρ (PA k m vL)) :=
  ⟨0, nz σ, by omega, c.w hF (Nat.le_refl _) (fun h' r hh => by
    obtain ⟨e1, ⟨v, e2, x, e3⟩, -⟩ := hh
    exact ⟨ks, σ, v, KE.rf.w (Nat.zero_le _), e1, e2, R, E, rfl, x, e3⟩)⟩
theorem wAI (R : RI k σ) (E : EQ σ) (hF : F ≤ 402) (hG : G ≤ 3783) (hB : B ≤ 72) (c : yM a F G as h (CA ks σ ρ (0, 0, 0) B E0)) : ∃ G m, G + 763 * m ≤ 3783 + 763 * nz σ ∧ yM a 402 G as h (LQ ks ρ (PA k m vI)) :=
  ⟨G, nz σ, by omega, c.w hF (Nat.le_refl _) (fun h' r hh => by
    obtain ⟨ks', ke, e1, ⟨v, e2, x, e3⟩, -⟩ := hh
    exact ⟨ks', σ, v, ke.w hB, e1, e2, R, E, rfl, x, e3⟩)⟩
theorem mSI {P : Int32 → Prop} {m : Nat} (R : RI k σ) (E : EQ σ) (hm : nz σ = m) (hF : F ≤ 1600) (c : yM a F 0 as h (SQI ks σ ρ P)) : yM a 1600 0 as h (LM ks ρ (PA (k + 1) m vI)) :=
  c.w hF (Nat.le_refl _) (fun h' r hh => by
    obtain ⟨e1, x, e2, -⟩ := hh
    exact ⟨σ, _, e1, e2, R.up, E, hm, x, rfl⟩)
theorem mSL {P : Int64 → Prop} {m : Nat} (R : RI k σ) (E : EQ σ) (hm : nz σ = m) (hF : F ≤ 1600) (c : yM a F 0 as h (SQL ks σ ρ P)) : yM a 1600 0 as h (LM ks ρ (PA (k + 1) m vL)) :=
  c.w hF (Nat.le_refl _) (fun h' r hh => by
    obtain ⟨e1, x, e2, -⟩ := hh
    exact ⟨σ, _, e1, e2, R.up, E, hm, x, rfl⟩)
theorem mRI {m : Nat} (E : EQ σ) (hm : nz σ = m) (hF : F ≤ 1600) (c : yM a F 0 as h (RQI ks ρ (fun σ' _ => S0 k σ σ'))) : yM a 1600 0 as h (LM ks ρ (PA (k + 1) m vI)) :=
  c.w hF (Nat.le_refl _) (fun h' r hh => by
    obtain ⟨σ', e1, x, e2, s⟩ := hh
    exact ⟨σ', _, e1, e2, s.1, E.s0 s.2.1 s.2.2, (nz_ot s.2.1).trans hm, x, rfl⟩)
theorem mRL {m : Nat} (E : EQ σ) (hm : nz σ = m) (hF : F ≤ 1600) (c : yM a F 0 as h (RQL ks ρ (fun σ' _ => S0 k σ σ'))) : yM a 1600 0 as h (LM ks ρ (PA (k + 1) m vL)) :=
  c.w hF (Nat.le_refl _) (fun h' r hh => by
    obtain ⟨σ', e1, x, e2, s⟩ := hh
    exact ⟨σ', _, e1, e2, s.1, E.s0 s.2.1 s.2.2, (nz_ot s.2.1).trans hm, x, rfl⟩)
theorem w_1 (hT : HT ks σ ρ h) (K : KE KS0 ks B0) (R : RI k σ) (E : EQ σ) (hk : k ≤ 511) (x1 : Int32) (x2 : Int32) (x3 : Int64) : ∃ G m, G + 763 * m ≤ 3783 + 763 * nz σ ∧ yM 108 402 G [.ref (0 + 1), .int x1, .int x2, .long x3] h (LQ ks ρ (PA k m vI)) := wQI R E (by decide) (c108 hT K (K.up rfl) x1 x2 x3)
theorem w_2 (hT : HT ks σ ρ h) (K : KE KS0 ks B0) (R : RI k σ) (E : EQ σ) (hk : k ≤ 511) (x1 : Int32) (x2 : Int32) (x3 : Int32) (x4 : Int32) (x5 : Int32) : ∃ G m, G + 763 * m ≤ 3783 + 763 * nz σ ∧ yM 109 402 G [.ref (0 + 1), .int x1, .int x2, .int x3, .int x4, .int x5] h (LQ ks ρ (PA k m vI)) := wQI R E (by decide) (c109 hT K (K.up rfl) x1 x2 x3 x4 x5)
theorem w_3 (hT : HT ks σ ρ h) (K : KE KS0 ks B0) (R : RI k σ) (E : EQ σ) (hk : k ≤ 511) (x1 : Int32) (x2 : Int32) : ∃ G m, G + 763 * m ≤ 3783 + 763 * nz σ ∧ yM 110 402 G [.ref (0 + 1), .int x1, .int x2] h (LQ ks ρ (PA k m vL)) := wQL R E (by decide) (c110 hT K (K.up rfl) x1 x2)
theorem w_4 (hT : HT ks σ ρ h) (K : KE KS0 ks B0) (R : RI k σ) (E : EQ σ) (hk : k ≤ 511) (x1 : Int32) : ∃ G m, G + 763 * m ≤ 3783 + 763 * nz σ ∧ yM 111 402 G [.ref (0 + 1), .int x1] h (LQ ks ρ (PA k m vI)) := wQI R E (by decide) (c111 hT K (K.up rfl) x1)
theorem w_5 (hT : HT ks σ ρ h) (K : KE KS0 ks B0) (R : RI k σ) (E : EQ σ) (hk : k ≤ 511) (x1 : Int32) (x2 : Int32) : ∃ G m, G + 763 * m ≤ 3783 + 763 * nz σ ∧ yM 112 402 G [.ref (0 + 1), .int x1, .int x2] h (LQ ks ρ (PA k m vI)) := wQI R E (by decide) (c112 hT K (K.up rfl) x1 x2)
theorem w_6 (hT : HT ks σ ρ h) (K : KE KS0 ks B0) (R : RI k σ) (E : EQ σ) (hk : k ≤ 511) (x1 : Int32) (x2 : Int32) : ∃ G m, G + 763 * m ≤ 3783 + 763 * nz σ ∧ yM 113 402 G [.ref (0 + 1), .int x1, .int x2] h (LQ ks ρ (PA k m vI)) := wQI R E (by decide) (c113 hT K (K.up rfl) x1 x2)
theorem w_9 (hT : HT ks σ ρ h) (K : KE KS0 ks B0) (R : RI k σ) (E : EQ σ) (hk : k ≤ 511) (x1 : Int32) (x2 : Int32) : ∃ G m, G + 763 * m ≤ 3783 + 763 * nz σ ∧ yM 117 402 G [.ref (0 + 1), .int x1, .int x2] h (LQ ks ρ (PA k m vI)) := wAI R E (by decide) (by decide) (by decide) (c117 hT K (K.up rfl) x1 x2)
theorem w_10 (hT : HT ks σ ρ h) (K : KE KS0 ks B0) (R : RI k σ) (E : EQ σ) (hk : k ≤ 511) (x1 : Int32) : ∃ G m, G + 763 * m ≤ 3783 + 763 * nz σ ∧ yM 118 402 G [.ref (0 + 1), .int x1] h (LQ ks ρ (PA k m vI)) := wAI R E (by decide) (by decide) (by decide) (c118 hT K (K.up rfl) x1)
theorem w_14 (hT : HT ks σ ρ h) (K : KE KS0 ks B0) (R : RI k σ) (E : EQ σ) (hk : k ≤ 511) (x1 : Int32) (x2 : Int32) : ∃ G m, G + 763 * m ≤ 3783 + 763 * nz σ ∧ yM 125 402 G [.ref (0 + 1), .int x1, .int x2] h (LQ ks ρ (PA k m vI)) := wQI R E (by decide) (c125 hT K (K.up rfl) x1 x2)
theorem w_17 (hT : HT ks σ ρ h) (K : KE KS0 ks B0) (R : RI k σ) (E : EQ σ) (hk : k ≤ 511) (x1 : Int32) : ∃ G m, G + 763 * m ≤ 3783 + 763 * nz σ ∧ yM 128 402 G [.ref (0 + 1), .int x1] h (LQ ks ρ (PA k m vI)) := wQI R E (by decide) (c128 hT K (K.up rfl) x1)
theorem w_18 (hT : HT ks σ ρ h) (K : KE KS0 ks B0) (R : RI k σ) (E : EQ σ) (hk : k ≤ 511) (x1 : Int32) : ∃ G m, G + 763 * m ≤ 3783 + 763 * nz σ ∧ yM 129 402 G [.ref (0 + 1), .int x1] h (LQ ks ρ (PA k m vL)) := wQL R E (by decide) (c129 hT K (K.up rfl) x1)
theorem w_19 (hT : HT ks σ ρ h) (K : KE KS0 ks B0) (R : RI k σ) (E : EQ σ) (hk : k ≤ 511) (x1 : Int32) : ∃ G m, G + 763 * m ≤ 3783 + 763 * nz σ ∧ yM 130 402 G [.ref (0 + 1), .int x1] h (LQ ks ρ (PA k m vL)) := wQL R E (by decide) (c130 hT K (K.up rfl) x1)
theorem w_20 (hT : HT ks σ ρ h) (K : KE KS0 ks B0) (R : RI k σ) (E : EQ σ) (hk : k ≤ 511) (x1 : Int32) (x2 : Int32) : ∃ G m, G + 763 * m ≤ 3783 + 763 * nz σ ∧ yM 131 402 G [.ref (0 + 1), .int x1, .int x2] h (LQ ks ρ (PA k m vI)) := wQI R E (by decide) (c131 hT K (K.up rfl) x1 x2)
theorem w_21 (hT : HT ks σ ρ h) (K : KE KS0 ks B0) (R : RI k σ) (E : EQ σ) (hk : k ≤ 511) (x1 : Int32) (x2 : Int32) : ∃ G m, G + 763 * m ≤ 3783 + 763 * nz σ ∧ yM 132 402 G [.ref (0 + 1), .int x1, .int x2] h (LQ ks ρ (PA k m vI)) := wQI R E (by decide) (c132 hT K (K.up rfl) x1 x2)
theorem w_22 (hT : HT ks σ ρ h) (K : KE KS0 ks B0) (R : RI k σ) (E : EQ σ) (hk : k ≤ 511) (x1 : Int32) (x2 : Int32) : ∃ G m, G + 763 * m ≤ 3783 + 763 * nz σ ∧ yM 133 402 G [.ref (0 + 1), .int x1, .int x2] h (LQ ks ρ (PA k m vI)) := wQI R E (by decide) (c133 hT K (K.up rfl) x1 x2)
theorem w_23 (hT : HT ks σ ρ h) (K : KE KS0 ks B0) (R : RI k σ) (E : EQ σ) (hk : k ≤ 511) (x1 : Int32) : ∃ G m, G + 763 * m ≤ 3783 + 763 * nz σ ∧ yM 134 402 G [.ref (0 + 1), .int x1] h (LQ ks ρ (PA k m vL)) := wQL R E (by decide) (c134 hT K (K.up rfl) x1)
theorem w_24 (hT : HT ks σ ρ h) (K : KE KS0 ks B0) (R : RI k σ) (E : EQ σ) (hk : k ≤ 511) (x1 : Int32) (x2 : Int32) (x3 : Int32) : ∃ G m, G + 763 * m ≤ 3783 + 763 * nz σ ∧ yM 135 402 G [.ref (0 + 1), .int x1, .int x2, .int x3] h (LQ ks ρ (PA k m vL)) := wQL R E (by decide) (c135 hT K (K.up rfl) x1 x2 x3)
theorem w_25 (hT : HT ks σ ρ h) (K : KE KS0 ks B0) (R : RI k σ) (E : EQ σ) (hk : k ≤ 511) (x1 : Int32) (x2 : Int32) (x3 : Int32) : ∃ G m, G + 763 * m ≤ 3783 + 763 * nz σ ∧ yM 136 402 G [.ref (0 + 1), .int x1, .int x2, .int x3] h (LQ ks ρ (PA k m vI)) := wQI R E (by decide) (c136 hT K (K.up rfl) x1 x2 x3)
theorem w_26 (hT : HT ks σ ρ h) (K : KE KS0 ks B0) (R : RI k σ) (E : EQ σ) (hk : k ≤ 511) (x1 : Int32) (x2 : Int32) : ∃ G m, G + 763 * m ≤ 3783 + 763 * nz σ ∧ yM 137 402 G [.ref (0 + 1), .int x1, .int x2] h (LQ ks ρ (PA k m vI)) := wQI R E (by decide) (c137 hT K (K.up rfl) x1 x2)
theorem w_27 (hT : HT ks σ ρ h) (K : KE KS0 ks B0) (R : RI k σ) (E : EQ σ) (hk : k ≤ 511) (x1 : Int32) (x2 : Int32) : ∃ G m, G + 763 * m ≤ 3783 + 763 * nz σ ∧ yM 138 402 G [.ref (0 + 1), .int x1, .int x2] h (LQ ks ρ (PA k m vI)) := wQI R E (by decide) (c138 hT K (K.up rfl) x1 x2)
theorem w_28 (hT : HT ks σ ρ h) (K : KE KS0 ks B0) (R : RI k σ) (E : EQ σ) (hk : k ≤ 511) (x1 : Int32) : ∃ G m, G + 763 * m ≤ 3783 + 763 * nz σ ∧ yM 139 402 G [.ref (0 + 1), .int x1] h (LQ ks ρ (PA k m vI)) := wQI R E (by decide) (c139 hT K (K.up rfl) x1)
theorem w_29 (hT : HT ks σ ρ h) (K : KE KS0 ks B0) (R : RI k σ) (E : EQ σ) (hk : k ≤ 511) (x1 : Int32) (x2 : Int32) (x3 : Int32) : ∃ G m, G + 763 * m ≤ 3783 + 763 * nz σ ∧ yM 140 402 G [.ref (0 + 1), .int x1, .int x2, .int x3] h (LQ ks ρ (PA k m vI)) := wQI R E (by decide) (c140 hT K (K.up rfl) x1 x2 x3)
theorem w_30 (hT : HT ks σ ρ h) (K : KE KS0 ks B0) (R : RI k σ) (E : EQ σ) (hk : k ≤ 511) (x1 : Int32) : ∃ G m, G + 763 * m ≤ 3783 + 763 * nz σ ∧ yM 141 402 G [.ref (0 + 1), .int x1] h (LQ ks ρ (PA k m vI)) := wQI R E (by decide) (c141 hT K (K.up rfl) x1)
theorem w_31 (hT : HT ks σ ρ h) (K : KE KS0 ks B0) (R : RI k σ) (E : EQ σ) (hk : k ≤ 511) (x1 : Int32) : ∃ G m, G + 763 * m ≤ 3783 + 763 * nz σ ∧ yM 142 402 G [.ref (0 + 1), .int x1] h (LQ ks ρ (PA k m vL)) := wQL R E (by decide) (c142 hT K (K.up rfl) x1)
theorem w_32 (hT : HT ks σ ρ h) (K : KE KS0 ks B0) (R : RI k σ) (E : EQ σ) (hk : k ≤ 511) (x1 : Int32) : ∃ G m, G + 763 * m ≤ 3783 + 763 * nz σ ∧ yM 143 402 G [.ref (0 + 1), .int x1] h (LQ ks ρ (PA k m vI)) := wQI R E (by decide) (c143 hT K (K.up rfl) x1)
theorem w_33 (hT : HT ks σ ρ h) (K : KE KS0 ks B0) (R : RI k σ) (E : EQ σ) (hk : k ≤ 511) (x1 : Int32) : ∃ G m, G + 763 * m ≤ 3783 + 763 * nz σ ∧ yM 144 402 G [.ref (0 + 1), .int x1] h (LQ ks ρ (PA k m vI)) := wQI R E (by decide) (c144 hT K (K.up rfl) x1)
theorem w_34 (hT : HT ks σ ρ h) (K : KE KS0 ks B0) (R : RI k σ) (E : EQ σ) (hk : k ≤ 511) (x1 : Int32) (x2 : Int32) : ∃ G m, G + 763 * m ≤ 3783 + 763 * nz σ ∧ yM 145 402 G [.ref (0 + 1), .int x1, .int x2] h (LQ ks ρ (PA k m vI)) := wQI R E (by decide) (c145 hT K (K.up rfl) x1 x2)
theorem w_35 (hT : HT ks σ ρ h) (K : KE KS0 ks B0) (R : RI k σ) (E : EQ σ) (hk : k ≤ 511) (x1 : Int32) : ∃ G m, G + 763 * m ≤ 3783 + 763 * nz σ ∧ yM 146 402 G [.ref (0 + 1), .int x1] h (LQ ks ρ (PA k m vI)) := wQI R E (by decide) (c146 hT K (K.up rfl) x1)
theorem w_36 (hT : HT ks σ ρ h) (K : KE KS0 ks B0) (R : RI k σ) (E : EQ σ) (hk : k ≤ 511) (x1 : Int32) : ∃ G m, G + 763 * m ≤ 3783 + 763 * nz σ ∧ yM 147 402 G [.ref (0 + 1), .int x1] h (LQ ks ρ (PA k m vI)) := wQI R E (by decide) (c147 hT K (K.up rfl) x1)
theorem w_39 (hT : HT ks σ ρ h) (K : KE KS0 ks B0) (R : RI k σ) (E : EQ σ) (hk : k ≤ 511) (x1 : Int32) : ∃ G m, G + 763 * m ≤ 3783 + 763 * nz σ ∧ yM 150 402 G [.ref (0 + 1), .int x1] h (LQ ks ρ (PA k m vI)) := wQI R E (by decide) (c150 hT K (K.up rfl) x1)
theorem m_1 {m : Nat} {v : Value} (hT : HT ks σ ρ h) (K : KE KS0 ks B0) (hk : k ≤ 511) (x1 : Int32) (x2 : Int32) (x3 : Int64) (c : PA k m vI σ v) : yM 214 1600 0 [.ref (60 + 1), .int x1, .int x2, .long x3] h (LM ks ρ (PA (k + 1) m vI)) := by
  obtain ⟨R, E, hm, -⟩ := c
  exact mSI R E hm (by decide) (r214 K hT x1 x2 x3 R.2.2.1)
theorem m_2 {m : Nat} {v : Value} (hT : HT ks σ ρ h) (K : KE KS0 ks B0) (hk : k ≤ 511) (x1 : Int32) (x2 : Int32) (x3 : Int32) (x4 : Int32) (x5 : Int32) (c : PA k m vI σ v) : yM 215 1600 0 [.ref (60 + 1), .int x1, .int x2, .int x3, .int x4, .int x5] h (LM ks ρ (PA (k + 1) m vI)) := by
  obtain ⟨R, E, hm, -⟩ := c
  exact mSI R E hm (by decide) (r215 K hT x1 x2 x3 x4 x5 R.2.2.1)
theorem m_3 {m : Nat} {v : Value} (hT : HT ks σ ρ h) (K : KE KS0 ks B0) (hk : k ≤ 511) (x1 : Int32) (x2 : Int32) (c : PA k m vL σ v) : yM 216 1600 0 [.ref (60 + 1), .int x1, .int x2] h (LM ks ρ (PA (k + 1) m vL)) := by
  obtain ⟨R, E, hm, -⟩ := c
  exact mSL R E hm (by decide) (r216 K hT x1 x2 R.2.2.1)
theorem m_4 {m : Nat} {v : Value} (hT : HT ks σ ρ h) (K : KE KS0 ks B0) (hk : k ≤ 511) (x1 : Int32) (c : PA k m vI σ v) : yM 217 1600 0 [.ref (60 + 1), .int x1] h (LM ks ρ (PA (k + 1) m vI)) := by
  obtain ⟨R, E, hm, -⟩ := c
  exact mSI R E hm (by decide) (r217 K hT x1 )
theorem m_5 {m : Nat} {v : Value} (hT : HT ks σ ρ h) (K : KE KS0 ks B0) (hk : k ≤ 511) (x1 : Int32) (x2 : Int32) (c : PA k m vI σ v) : yM 218 1600 0 [.ref (60 + 1), .int x1, .int x2] h (LM ks ρ (PA (k + 1) m vI)) := by
  obtain ⟨R, E, hm, -⟩ := c
  exact mRI E hm (by decide) (r218 K hT x1 x2 R)
theorem m_6 {m : Nat} {v : Value} (hT : HT ks σ ρ h) (K : KE KS0 ks B0) (hk : k ≤ 511) (x1 : Int32) (x2 : Int32) (c : PA k m vI σ v) : yM 221 1600 0 [.ref (60 + 1), .int x1, .int x2] h (LM ks ρ (PA (k + 1) m vI)) := by
  obtain ⟨R, E, hm, -⟩ := c
  exact mSI R E hm (by decide) (r221 K hT x1 x2 R.2.2.1 R.1.1.1)
theorem m_9 {m : Nat} {v : Value} (hT : HT ks σ ρ h) (K : KE KS0 ks B0) (hk : k ≤ 511) (x1 : Int32) (x2 : Int32) (c : PA k m vI σ v) : yM 227 1600 0 [.ref (60 + 1), .int x1, .int x2] h (LM ks ρ (PA (k + 1) m vI)) := by
  obtain ⟨R, E, hm, -⟩ := c
  exact mRI E hm (by decide) (r227 K hT x1 x2 R)
theorem m_10 {m : Nat} {v : Value} (hT : HT ks σ ρ h) (K : KE KS0 ks B0) (hk : k ≤ 511) (x1 : Int32) (c : PA k m vI σ v) : yM 228 1600 0 [.ref (60 + 1), .int x1] h (LM ks ρ (PA (k + 1) m vI)) := by
  obtain ⟨R, E, hm, -⟩ := c
  exact mRI E hm (by decide) (r228 K hT x1 R)
theorem m_14 {m : Nat} {v : Value} (hT : HT ks σ ρ h) (K : KE KS0 ks B0) (hk : k ≤ 511) (x1 : Int32) (x2 : Int32) (c : PA k m vI σ v) : yM 236 1600 0 [.ref (60 + 1), .int x1, .int x2] h (LM ks ρ (PA (k + 1) m vI)) := by
  obtain ⟨R, E, hm, -⟩ := c
  exact mRI E hm (by decide) (r236 K hT x1 x2 R (by omega))
theorem m_17 {m : Nat} {v : Value} (hT : HT ks σ ρ h) (K : KE KS0 ks B0) (hk : k ≤ 511) (x1 : Int32) (c : PA k m vI σ v) : yM 239 1600 0 [.ref (60 + 1), .int x1] h (LM ks ρ (PA (k + 1) m vI)) := by
  obtain ⟨R, E, hm, -⟩ := c
  exact mRI E hm (by decide) (r239 K hT x1 R (by omega))
theorem m_18 {m : Nat} {v : Value} (hT : HT ks σ ρ h) (K : KE KS0 ks B0) (hk : k ≤ 511) (x1 : Int32) (c : PA k m vL σ v) : yM 241 1600 0 [.ref (60 + 1), .int x1] h (LM ks ρ (PA (k + 1) m vL)) := by
  obtain ⟨R, E, hm, -⟩ := c
  exact mRL E hm (by decide) (r241 K hT x1 R (by omega))
theorem m_19 {m : Nat} {v : Value} (hT : HT ks σ ρ h) (K : KE KS0 ks B0) (hk : k ≤ 511) (x1 : Int32) (c : PA k m vL σ v) : yM 242 1600 0 [.ref (60 + 1), .int x1] h (LM ks ρ (PA (k + 1) m vL)) := by
  obtain ⟨R, E, hm, -⟩ := c
  exact mSL R E hm (by decide) (r242 K hT x1 R.1.1.1)
theorem m_20 {m : Nat} {v : Value} (hT : HT ks σ ρ h) (K : KE KS0 ks B0) (hk : k ≤ 511) (x1 : Int32) (x2 : Int32) (c : PA k m vI σ v) : yM 246 1600 0 [.ref (60 + 1), .int x1, .int x2] h (LM ks ρ (PA (k + 1) m vI)) := by
  obtain ⟨R, E, hm, -⟩ := c
  exact mSI R E hm (by decide) (r246 K hT x1 x2 R.1.1.1)
theorem m_21 {m : Nat} {v : Value} (hT : HT ks σ ρ h) (K : KE KS0 ks B0) (hk : k ≤ 511) (x1 : Int32) (x2 : Int32) (c : PA k m vI σ v) : yM 247 1600 0 [.ref (60 + 1), .int x1, .int x2] h (LM ks ρ (PA (k + 1) m vI)) := by
  obtain ⟨R, E, hm, -⟩ := c
  exact mSI R E hm (by decide) (r247 K hT x1 x2 R.1.1.1)
theorem m_22 {m : Nat} {v : Value} (hT : HT ks σ ρ h) (K : KE KS0 ks B0) (hk : k ≤ 511) (x1 : Int32) (x2 : Int32) (c : PA k m vI σ v) : yM 210 1600 0 [.ref (60 + 1), .int x1, .int x2] h (LM ks ρ (PA (k + 1) m vI)) := by
  obtain ⟨R, E, hm, -⟩ := c
  exact mRI (k := k) E hm (by decide) ((r210 K hT x1 x2 R.1.1.1.1 R.1.1.2.1).w (Nat.le_refl _) (Nat.le_refl _) (fun h' r hh => by
    obtain ⟨σ', e1, x, e2, s⟩ := hh
    exact ⟨σ', e1, x, e2, S0.tj R s⟩))
theorem m_23 {m : Nat} {v : Value} (hT : HT ks σ ρ h) (K : KE KS0 ks B0) (hk : k ≤ 511) (x1 : Int32) (c : PA k m vL σ v) : yM 248 1600 0 [.ref (60 + 1), .int x1] h (LM ks ρ (PA (k + 1) m vL)) := by
  obtain ⟨R, E, hm, -⟩ := c
  exact mRL E hm (by decide) (r248 K hT x1 R (by omega))
theorem m_24 {m : Nat} {v : Value} (hT : HT ks σ ρ h) (K : KE KS0 ks B0) (hk : k ≤ 511) (x1 : Int32) (x2 : Int32) (x3 : Int32) (c : PA k m vL σ v) : yM 249 1600 0 [.ref (60 + 1), .int x1, .int x2, .int x3] h (LM ks ρ (PA (k + 1) m vL)) := by
  obtain ⟨R, E, hm, -⟩ := c
  exact mRL E hm (by decide) (r249 K hT x1 x2 x3 R (by omega))
theorem m_25 {m : Nat} {v : Value} (hT : HT ks σ ρ h) (K : KE KS0 ks B0) (hk : k ≤ 511) (x1 : Int32) (x2 : Int32) (x3 : Int32) (c : PA k m vI σ v) : yM 250 1600 0 [.ref (60 + 1), .int x1, .int x2, .int x3] h (LM ks ρ (PA (k + 1) m vI)) := by
  obtain ⟨R, E, hm, -⟩ := c
  exact mRI E hm (by decide) (r250 K hT x1 x2 x3 R (by omega))
theorem m_26 {m : Nat} {v : Value} (hT : HT ks σ ρ h) (K : KE KS0 ks B0) (hk : k ≤ 511) (x1 : Int32) (x2 : Int32) (c : PA k m vI σ v) : yM 251 1600 0 [.ref (60 + 1), .int x1, .int x2] h (LM ks ρ (PA (k + 1) m vI)) := by
  obtain ⟨R, E, hm, -⟩ := c
  exact mRI E hm (by decide) (r251 K hT x1 x2 R (by omega))
theorem m_27 {m : Nat} {v : Value} (hT : HT ks σ ρ h) (K : KE KS0 ks B0) (hk : k ≤ 511) (x1 : Int32) (x2 : Int32) (c : PA k m vI σ v) : yM 252 1600 0 [.ref (60 + 1), .int x1, .int x2] h (LM ks ρ (PA (k + 1) m vI)) := by
  obtain ⟨R, E, hm, -⟩ := c
  exact mSI R E hm (by decide) (r252 K hT x1 x2 R.1.1.1)
theorem m_28 {m : Nat} {v : Value} (hT : HT ks σ ρ h) (K : KE KS0 ks B0) (hk : k ≤ 511) (x1 : Int32) (c : PA k m vI σ v) : yM 253 1600 0 [.ref (60 + 1), .int x1] h (LM ks ρ (PA (k + 1) m vI)) := by
  obtain ⟨R, E, hm, -⟩ := c
  exact mSI R E hm (by decide) (r253 K hT x1 R.1.1.1)
theorem m_29 {m : Nat} {v : Value} (hT : HT ks σ ρ h) (K : KE KS0 ks B0) (hk : k ≤ 511) (x1 : Int32) (x2 : Int32) (x3 : Int32) (c : PA k m vI σ v) : yM 255 1600 0 [.ref (60 + 1), .int x1, .int x2, .int x3] h (LM ks ρ (PA (k + 1) m vI)) := by
  obtain ⟨R, E, hm, -⟩ := c
  exact mSI R E hm (by decide) (r255 K hT x1 x2 x3 )
theorem m_30 {m : Nat} {v : Value} (hT : HT ks σ ρ h) (K : KE KS0 ks B0) (hk : k ≤ 511) (x1 : Int32) (c : PA k m vI σ v) : yM 256 1600 0 [.ref (60 + 1), .int x1] h (LM ks ρ (PA (k + 1) m vI)) := by
  obtain ⟨R, E, hm, -⟩ := c
  have hL := R.1.2.1
  have hL : 0 ≤ nw σ 6795 ∧ nw σ 6795 ≤ 1000000000 := ⟨hL.1, by omega⟩
  exact mSI R E hm (by decide) (r256 K hT x1 hL)
theorem m_31 {m : Nat} {v : Value} (hT : HT ks σ ρ h) (K : KE KS0 ks B0) (hk : k ≤ 511) (x1 : Int32) (c : PA k m vL σ v) : yM 257 1600 0 [.ref (60 + 1), .int x1] h (LM ks ρ (PA (k + 1) m vL)) := by
  obtain ⟨R, E, hm, -⟩ := c
  have hL := R.1.2.1
  have hL : 0 ≤ nw σ 6795 ∧ nw σ 6795 ≤ 1000000000 := ⟨hL.1, by omega⟩
  exact mSL R E hm (by decide) (r257 K hT x1 hL)
theorem m_32 {m : Nat} {v : Value} (hT : HT ks σ ρ h) (K : KE KS0 ks B0) (hk : k ≤ 511) (x1 : Int32) (c : PA k m vI σ v) : yM 258 1600 0 [.ref (60 + 1), .int x1] h (LM ks ρ (PA (k + 1) m vI)) := by
  obtain ⟨R, E, hm, -⟩ := c
  exact mSI R E hm (by decide) (r258 K hT x1 R.1.2.2.1.1)
theorem m_33 {m : Nat} {v : Value} (hT : HT ks σ ρ h) (K : KE KS0 ks B0) (hk : k ≤ 511) (x1 : Int32) (c : PA k m vI σ v) : yM 259 1600 0 [.ref (60 + 1), .int x1] h (LM ks ρ (PA (k + 1) m vI)) := by
  obtain ⟨R, E, hm, -⟩ := c
  exact mSI R E hm (by decide) (r259 K hT x1 R.1.1.1)
theorem m_34 {m : Nat} {v : Value} (hT : HT ks σ ρ h) (K : KE KS0 ks B0) (hk : k ≤ 511) (x1 : Int32) (x2 : Int32) (c : PA k m vI σ v) : yM 260 1600 0 [.ref (60 + 1), .int x1, .int x2] h (LM ks ρ (PA (k + 1) m vI)) := by
  obtain ⟨R, E, hm, -⟩ := c
  have hL := R.1.2.1
  have hL : 0 ≤ nw σ 6795 ∧ nw σ 6795 ≤ 1000000000 := ⟨hL.1, by omega⟩
  exact mSI R E hm (by decide) (r260 K hT x1 x2 R.2.2.1 hL)
theorem m_35 {m : Nat} {v : Value} (hT : HT ks σ ρ h) (K : KE KS0 ks B0) (hk : k ≤ 511) (x1 : Int32) (c : PA k m vI σ v) : yM 262 1600 0 [.ref (60 + 1), .int x1] h (LM ks ρ (PA (k + 1) m vI)) := by
  obtain ⟨R, E, hm, -⟩ := c
  exact mRI E hm (by decide) (r262 K hT x1 R (by omega))
theorem m_36 {m : Nat} {v : Value} (hT : HT ks σ ρ h) (K : KE KS0 ks B0) (hk : k ≤ 511) (x1 : Int32) (c : PA k m vI σ v) : yM 263 1600 0 [.ref (60 + 1), .int x1] h (LM ks ρ (PA (k + 1) m vI)) := by
  obtain ⟨R, E, hm, -⟩ := c
  exact mRI E hm (by decide) (r263 K hT x1 R)
theorem m_39 {m : Nat} {v : Value} (hT : HT ks σ ρ h) (K : KE KS0 ks B0) (hk : k ≤ 511) (x1 : Int32) (c : PA k m vI σ v) : yM 271 1600 0 [.ref (60 + 1), .int x1] h (LM ks ρ (PA (k + 1) m vI)) := by
  obtain ⟨R, E, hm, -⟩ := c
  exact mSI R E hm (by decide) (r271 K hT x1 R.1.1.1)
/-! the calls that change what class and reference both tell -/
def HI (σ τ : sg) : Prop := ∀ q, 60 ≤ q → τ q = σ q
theorem HI.fl' {σ τ : sg} (h : HI σ τ) (s : Nat) : (τ 60 s).toInt = (σ 60 s).toInt := by rw [h 60 (by decide)]
theorem HI.nw' {σ τ : sg} (h : HI σ τ) (i : Nat) : (τ 61 i).toInt = (σ 61 i).toInt := by rw [h 61 (by decide)]
theorem HI.kp' {σ τ : sg} (h : HI σ τ) : nw (kp τ) 6769 = nw (kp σ) 6769 := nw_e (kp_e (h 64 (by decide)))
theorem HI.us' {σ : sg} {q s : Nat} {v : Int32} (h : q < 60) : HI σ (us σ q s v) := fun p hp => us_nq (by omega)
theorem w_0 (hT : HT ks σ ρ h) (K : KE KS0 ks B0) (R : RI k σ) (E : EQ σ) (hk : k ≤ 511) (x1 x2 x3 : Int32) : ∃ G m, G + 763 * m ≤ 3783 + 763 * nz σ ∧ yM 107 402 G [.ref (0 + 1), .int x1, .int x2, .int x3] h (LQ ks ρ (PA k m (RWv x1 x2 x3))) :=
  ⟨0, nz σ, by omega, (c107x hT K (K.up rfl) x1 x2 x3).w (by decide) (Nat.le_refl _) (fun h' r hh => by
    obtain ⟨e1, -, v, e2, e3⟩ := hh
    exact ⟨ks, σ, v, KE.rf.w (Nat.zero_le _), e1, e2, R, E, rfl, e3⟩)⟩
theorem m_0 {m : Nat} {v : Value} (hT : HT ks σ ρ h) (K : KE KS0 ks B0) (hk : k ≤ 511) (x1 x2 x3 : Int32) (c : PA k m (RWv x1 x2 x3) σ v) : yM 212 1600 0 [.ref (60 + 1), .int x1, .int x2, .int x3] h (LM ks ρ (PA (k + 1) m (fun v' => v' = v))) := by
  obtain ⟨R, E, hm, w⟩ := c
  refine (r212 K hT x1 x2 x3 R).w (by decide) (Nat.le_refl _) (fun h' r hh => ?_)
  obtain ⟨σ', e1, x, e2, e3, s⟩ := hh
  exact ⟨σ', _, e1, e2, s.1, E.s0 s.2.1 s.2.2, (nz_ot s.2.1).trans hm, RWv.eq w ⟨x, rfl, e3⟩⟩
def C7 (k m : Nat) (σ : sg) (x1 : Int32) (σ' : sg) (v : Value) : Prop := RI k σ' ∧ nz σ' = m ∧ EQ σ ∧ HI σ σ' ∧ ∃ x, v = .int x ∧ FD (σ 40 1) x1 x σ σ'
theorem FD.hi {s x1 x : Int32} {σ σ' : sg} (h : FD s x1 x σ σ') : HI σ σ' ∧ nz σ' = nz σ := by
  rcases h with ⟨_, _, rfl⟩ | ⟨_, _, _, rfl⟩ | ⟨_, _, _, rfl⟩
  · exact ⟨fun _ _ => rfl, rfl⟩
  · exact ⟨fun _ _ => rfl, rfl⟩
  · exact ⟨HI.us' (by decide), nz_o (by decide) (by decide)⟩
theorem w_7 (hT : HT ks σ ρ h) (K : KE KS0 ks B0) (R : RI k σ) (E : EQ σ) (hk : k ≤ 511) (x1 : Int32) : ∃ G m, G + 763 * m ≤ 3783 + 763 * nz σ ∧ yM 115 402 G [.ref (0 + 1), .int x1] h (LQ ks ρ (C7 k m σ x1)) :=
  ⟨0, nz σ, by omega, (c115 hT K (K.up rfl) x1).w (by decide) (Nat.le_refl _) (fun h' r hh => by
    obtain ⟨x, σ', e2, e1, e3⟩ := hh
    exact ⟨ks, σ', _, KE.rf.w (Nat.zero_le _), e1, e2, R.lo e3.hi.1, e3.hi.2, E, e3.hi.1, x, rfl, e3⟩)⟩
theorem m_7 {m : Nat} {v : Value} {σ0 : sg} (hT : HT ks σ ρ h) (K : KE KS0 ks B0) (hk : k ≤ 511) (x1 : Int32) (c : C7 k m σ0 x1 σ v) : yM 222 1600 0 [.ref (60 + 1), .int x1] h (LM ks ρ (PA (k + 1) m (fun v' => v' = v))) := by
  obtain ⟨R, hm, E, hi, x, rfl, fd⟩ := c
  refine (r222 K hT x1 R).w (by decide) (Nat.le_refl _) (fun h' r hh => ?_)
  obtain ⟨σ', e1, y, e2, d, s1, s2, s3, s4, s5⟩ := hh
  have f12a : fl σ 12 = fl σ0 12 := hi.fl' 12
  have f6 : fl σ 6 = fl σ0 6 := hi.fl' 6
  have n1 : nw σ 6769 = nw σ0 6769 := hi.nw' 6769
  have n2 := hi.kp'
  have E1 := E.1
  have o40 : σ' 40 = σ 40 := s2 40 (by decide)
  have o1 : σ' 1 = σ 1 := s2 1 (by decide)
  have o11 : σ' 11 = σ 11 := s2 11 (by decide)
  have o0 : σ' 0 = σ 0 := s2 0 (by decide)
  have q : (σ 1 = σ0 1 ∧ σ 11 = σ0 11 ∧ σ 0 = σ0 0) ∧ (σ 40 1).toInt - fl σ' 12 = (σ0 40 1).toInt - fl σ0 12 ∧ y.toInt = x.toInt := by
    rcases fd with ⟨a, rfl, rfl⟩ | ⟨a, b, rfl, rfl⟩ | ⟨a, b, rfl, rfl⟩
    · have z : (-2 : Int32).toInt = -2 := rfl
      exact ⟨⟨rfl, rfl, rfl⟩, by omega, by omega⟩
    · have z : (-6 : Int32).toInt = -6 := rfl
      obtain ⟨ub, ub1, ub2⟩ := f12 K hT
      exact ⟨⟨rfl, rfl, rfl⟩, by omega, by omega⟩
    · have h0 := R.2.2.2.2.2
      have z : (σ0 40 1 + 1).toInt = (σ0 40 1).toInt + 1 := i32_p rfl (by omega)
      have z2 : (us σ0 40 1 (σ0 40 1 + 1) 40 1).toInt = (σ0 40 1).toInt + 1 := by
        rw [us_eq]
        exact z
      exact ⟨⟨us_nq (by decide), us_nq (by decide), us_nq (by decide)⟩, by omega, by omega⟩
  obtain ⟨⟨q1, q2, q3⟩, q4, q5⟩ := q
  refine ⟨σ', _, e1, e2, s1, EQ.of E (by rw [o40]; exact q4) (by rw [o1, q1]; omega) (by rw [o11, q2]; omega) (by rw [o0, q3]; omega), (nz_ot s2).trans hm, ?_⟩
  rw [i32_ext q5]
def C8 (k m : Nat) (σ : sg) (V : Value → Prop) (σ' : sg) (v : Value) : Prop := RI k σ' ∧ nz σ' = m ∧ EQ σ ∧ σ' = us σ 40 1 0 ∧ V v
theorem w8 {a F G B : Nat} {as : List Value} {E0 : yQ} (R : RI k σ) (E : EQ σ) (hF : F ≤ 402) (hG : G ≤ 3783) (hB : B ≤ 72) (c : yM a F G as h (CA ks (us σ 40 1 0) ρ (0, 0, 0) B E0)) : ∃ G m, G + 763 * m ≤ 3783 + 763 * nz σ ∧ yM a 402 G as h (LQ ks ρ (C8 k m σ vI)) :=
  ⟨G, nz σ, by omega, c.w hF (Nat.le_refl _) (fun h' r hh => by
    obtain ⟨ks', ke, e1, ⟨v, e2, x, e3⟩, -⟩ := hh
    exact ⟨ks', _, v, ke.w hB, e1, e2, R.lo (HI.us' (by decide)), nz_o (by decide) (by decide), E, rfl, x, e3⟩)⟩
theorem EQ.wip {σ0 σ σ' : sg} (E : EQ σ0) (hs : σ = us σ0 40 1 0) (o : OT σ σ') (f : fl σ' 12 = 0) (c : CR1 σ σ') : EQ σ' := by
  subst hs
  have hi : HI σ0 (us σ0 40 1 0) := HI.us' (by decide)
  have f6 : fl (us σ0 40 1 0) 6 = fl σ0 6 := hi.fl' 6
  have n1 : nw (us σ0 40 1 0) 6769 = nw σ0 6769 := hi.nw' 6769
  have n2 := hi.kp'
  obtain ⟨c1, c2, c3⟩ := c
  obtain ⟨E1, E2, E3, E4⟩ := E
  have z : (us σ0 40 1 0 40 1).toInt = 0 := by
    rw [us_eq]
    rfl
  refine ⟨by rw [o 40 (by decide)]; omega, ?_, ?_, ?_⟩
  · rw [o 1 (by decide), show us σ0 40 1 0 1 = σ0 1 from us_nq (by decide)]
    omega
  · rw [o 11 (by decide), show us σ0 40 1 0 11 = σ0 11 from us_nq (by decide)]
    omega
  · rw [o 0 (by decide), show us σ0 40 1 0 0 = σ0 0 from us_nq (by decide)]
    omega
theorem w_8 (hT : HT ks σ ρ h) (K : KE KS0 ks B0) (R : RI k σ) (E : EQ σ) (hk : k ≤ 511) : ∃ G m, G + 763 * m ≤ 3783 + 763 * nz σ ∧ yM 116 402 G [.ref (0 + 1)] h (LQ ks ρ (C8 k m σ (fun v => v = .int (σ 40 1)))) :=
  ⟨0, nz σ, by omega, (c116 hT K (K.up rfl)).w (by decide) (Nat.le_refl _) (fun h' r hh => by
    obtain ⟨e1, -, e2⟩ := hh
    exact ⟨ks, _, _, KE.rf.w (Nat.zero_le _), e1, e2, R.lo (HI.us' (by decide)), nz_o (by decide) (by decide), E, rfl, rfl⟩)⟩
theorem m_8 {m : Nat} {v : Value} {σ0 : sg} (hT : HT ks σ ρ h) (K : KE KS0 ks B0) (hk : k ≤ 511) (c : C8 k m σ0 (fun v => v = .int (σ0 40 1)) σ v) : yM 223 1600 0 [.ref (60 + 1)] h (LM ks ρ (PA (k + 1) m (fun v' => v' = v))) := by
  obtain ⟨R, hm, E, hs, hv⟩ := c
  refine (r223 K hT R).w (by decide) (Nat.le_refl _) (fun h' r hh => ?_)
  obtain ⟨σ', e1, y, e2, ⟨d1, d2⟩, s1, s2, s3⟩ := hh
  refine ⟨σ', _, e1, e2, s1, E.wip hs s2 d2 s3, (nz_ot s2).trans hm, ?_⟩
  have f12a : fl σ 12 = fl σ0 12 := by
    rw [hs]
    exact HI.fl' (HI.us' (by decide)) 12
  have E1 := E.1
  rw [show v = .int (σ0 40 1) from hv, i32_ext (show y.toInt = (σ0 40 1).toInt by omega)]
theorem m8 {b F m : Nat} {as : List Value} {v : Value} {σ0 : sg} (hF : F ≤ 1600) (c : C8 k m σ0 vI σ v) (w : yM b F 0 as h (RQI ks ρ (fun σ' _ => S1 k σ σ' ∧ fl σ' 12 = 0))) : yM b 1600 0 as h (LM ks ρ (PA (k + 1) m vI)) := by
  obtain ⟨R, hm, E, hs, hv⟩ := c
  refine w.w hF (Nat.le_refl _) (fun h' r hh => ?_)
  obtain ⟨σ', e1, y, e2, ⟨s1, s2, s3⟩, d2⟩ := hh
  exact ⟨σ', _, e1, e2, s1, E.wip hs s2 d2 s3, (nz_ot s2).trans hm, y, rfl⟩
theorem w_11 (hT : HT ks σ ρ h) (K : KE KS0 ks B0) (R : RI k σ) (E : EQ σ) (hk : k ≤ 511) (x1 : Int32) : ∃ G m, G + 763 * m ≤ 3783 + 763 * nz σ ∧ yM 120 402 G [.ref (0 + 1), .int x1] h (LQ ks ρ (C8 k m σ vI)) := w8 R E (by decide) (by decide) (by decide) (c120 hT K (K.up rfl) x1)
theorem m_11 {m : Nat} {v : Value} {σ0 : sg} (hT : HT ks σ ρ h) (K : KE KS0 ks B0) (hk : k ≤ 511) (x1 : Int32) (c : C8 k m σ0 vI σ v) : yM 231 1600 0 [.ref (60 + 1), .int x1] h (LM ks ρ (PA (k + 1) m vI)) := m8 (by decide) c (r231 K hT x1 c.1 (by omega))
theorem w_12 (hT : HT ks σ ρ h) (K : KE KS0 ks B0) (R : RI k σ) (E : EQ σ) (hk : k ≤ 511) (x1 : Int32) : ∃ G m, G + 763 * m ≤ 3783 + 763 * nz σ ∧ yM 121 402 G [.ref (0 + 1), .int x1] h (LQ ks ρ (C8 k m σ vI)) := w8 R E (by decide) (by decide) (by decide) (c121 hT K (K.up rfl) x1)
theorem m_12 {m : Nat} {v : Value} {σ0 : sg} (hT : HT ks σ ρ h) (K : KE KS0 ks B0) (hk : k ≤ 511) (x1 : Int32) (c : C8 k m σ0 vI σ v) : yM 232 1600 0 [.ref (60 + 1), .int x1] h (LM ks ρ (PA (k + 1) m vI)) := m8 (by decide) c (r232 K hT x1 c.1 (by omega))
theorem w_13 (hT : HT ks σ ρ h) (K : KE KS0 ks B0) (R : RI k σ) (E : EQ σ) (hk : k ≤ 511) (x1 : Int32) : ∃ G m, G + 763 * m ≤ 3783 + 763 * nz σ ∧ yM 123 402 G [.ref (0 + 1), .int x1] h (LQ ks ρ (C8 k m σ vI)) := w8 R E (by decide) (by decide) (by decide) (c123 hT K (K.up rfl) x1)
theorem m_13 {m : Nat} {v : Value} {σ0 : sg} (hT : HT ks σ ρ h) (K : KE KS0 ks B0) (hk : k ≤ 511) (x1 : Int32) (c : C8 k m σ0 vI σ v) : yM 233 1600 0 [.ref (60 + 1), .int x1] h (LM ks ρ (PA (k + 1) m vI)) := m8 (by decide) c (r233 K hT x1 c.1 (by omega))
/-- batches: what the class tells -/
def C15 (k m : Nat) (σ : sg) (σ' : sg) (v : Value) : Prop := RI k σ' ∧ nz σ' = m ∧ EQ σ ∧ HI σ σ' ∧ (σ' 40 = σ 40 ∧ σ' 11 = σ 11 ∧ σ' 0 = σ 0) ∧ ∃ x : Int32, v = .int x ∧ x.toInt = (σ 1 7).toInt + 1 ∧ (σ' 1 7).toInt = (σ 1 7).toInt + 1
theorem w_15 (hT : HT ks σ ρ h) (K : KE KS0 ks B0) (R : RI k σ) (E : EQ σ) (hk : k ≤ 511) : ∃ G m, G + 763 * m ≤ 3783 + 763 * nz σ ∧ yM 126 402 G [.ref (0 + 1)] h (LQ ks ρ (C15 k m σ)) := by
  have hb := R.1.2.2.2.1
  have E2 := E.2.1
  have z := i32_p (x := σ 1 7) (d := 1) (n := 1) rfl (by omega)
  refine ⟨0, nz σ, by omega, (c126 hT K (K.up rfl) (by omega)).w (by decide) (Nat.le_refl _) (fun h' r hh => ?_)⟩
  obtain ⟨e1, -, e2⟩ := hh
  exact ⟨ks, _, _, KE.rf.w (Nat.zero_le _), e1, e2, R.lo (HI.us' (by decide)), nz_o (by decide) (by decide), E, HI.us' (by decide), ⟨us_nq (by decide), us_nq (by decide), us_nq (by decide)⟩, _, rfl, z, by rw [us_eq]; exact z⟩
theorem EQ.bat {σ0 σ σ' : sg} (E : EQ σ0) (hi : HI σ0 σ) (hs : σ 40 = σ0 40 ∧ σ 11 = σ0 11 ∧ σ 0 = σ0 0) (o : OT σ σ') (f : fl σ' 12 = fl σ 12) (g : nw (kp σ') 6769 = nw (kp σ) 6769) (l : fl σ' 6 = fl σ 6) (b : (σ 1 7).toInt = nw σ' 6769) : EQ σ' := by
  have f12a : fl σ 12 = fl σ0 12 := hi.fl' 12
  have f6 : fl σ 6 = fl σ0 6 := hi.fl' 6
  have n2 := hi.kp'
  obtain ⟨E1, E2, E3, E4⟩ := E
  refine ⟨by rw [o 40 (by decide), hs.1]; omega, by rw [o 1 (by decide)]; exact b, by rw [o 11 (by decide), hs.2.1]; omega, by rw [o 0 (by decide), hs.2.2]; omega⟩
theorem m_15 {m : Nat} {v : Value} {σ0 : sg} (hT : HT ks σ ρ h) (K : KE KS0 ks B0) (hk : k ≤ 511) (c : C15 k m σ0 σ v) : yM 237 1600 0 [.ref (60 + 1)] h (LM ks ρ (PA (k + 1) m (fun v' => v' = v))) := by
  obtain ⟨R, hm, E, hi, hs, x, rfl, hx, hb⟩ := c
  refine (r237 K hT R (by omega)).w (by decide) (Nat.le_refl _) (fun h' r hh => ?_)
  obtain ⟨σ', e1, y, e2, ⟨d1, d2⟩, s1, s2, s3, s4, s5⟩ := hh
  have n1 : nw σ 6769 = nw σ0 6769 := hi.nw' 6769
  have E2 := E.2.1
  refine ⟨σ', _, e1, e2, s1, E.bat hi hs s2 s3 s4 s5 (by omega), (nz_ot s2).trans hm, ?_⟩
  rw [i32_ext (show y.toInt = x.toInt by omega)]
def C16 (k m : Nat) (σ : sg) (σ' : sg) (v : Value) : Prop := RI k σ' ∧ nz σ' = m ∧ EQ σ ∧ HI σ σ' ∧ (σ' 40 = σ 40 ∧ σ' 11 = σ 11 ∧ σ' 0 = σ 0) ∧ ∃ x : Int32, v = .int x ∧ ((σ 1 7).toInt ≤ 0 ∧ x.toInt = -5 ∧ (σ' 1 7).toInt = (σ 1 7).toInt ∨ 0 < (σ 1 7).toInt ∧ x.toInt = (σ 1 7).toInt - 1 ∧ (σ' 1 7).toInt = (σ 1 7).toInt - 1)
theorem w_16 (hT : HT ks σ ρ h) (K : KE KS0 ks B0) (R : RI k σ) (E : EQ σ) (hk : k ≤ 511) : ∃ G m, G + 763 * m ≤ 3783 + 763 * nz σ ∧ yM 127 402 G [.ref (0 + 1)] h (LQ ks ρ (C16 k m σ)) := by
  have hb := R.1.2.2.2.1
  have E2 := E.2.1
  refine ⟨0, nz σ, by omega, (c127 hT K (K.up rfl)).w (by decide) (Nat.le_refl _) (fun h' r hh => ?_)⟩
  obtain ⟨x, σ', e2, e1, d⟩ := hh
  rcases d with ⟨d1, rfl, rfl⟩ | ⟨d1, rfl, rfl⟩
  · exact ⟨ks, _, _, KE.rf.w (Nat.zero_le _), e1, e2, R, rfl, E, fun _ _ => rfl, ⟨rfl, rfl, rfl⟩, _, rfl, Or.inl ⟨d1, rfl, rfl⟩⟩
  · have z : (σ 1 7 - 1).toInt = (σ 1 7).toInt - 1 := by
      rw [Int32.toInt_sub]
      exact Int.bmod_eq_of_le (by show _ ≤ (σ 1 7).toInt - 1; omega) (by show (σ 1 7).toInt - 1 < _; omega)
    exact ⟨ks, _, _, KE.rf.w (Nat.zero_le _), e1, e2, R.lo (HI.us' (by decide)), nz_o (by decide) (by decide), E, HI.us' (by decide), ⟨us_nq (by decide), us_nq (by decide), us_nq (by decide)⟩, _, rfl, Or.inr ⟨d1, z, by rw [us_eq]; exact z⟩⟩
theorem m_16 {m : Nat} {v : Value} {σ0 : sg} (hT : HT ks σ ρ h) (K : KE KS0 ks B0) (hk : k ≤ 511) (c : C16 k m σ0 σ v) : yM 238 1600 0 [.ref (60 + 1)] h (LM ks ρ (PA (k + 1) m (fun v' => v' = v))) := by
  obtain ⟨R, hm, E, hi, hs, x, rfl, hx⟩ := c
  have hb := R.1.2.2.2.1
  refine (r238 K hT R (by omega)).w (by decide) (Nat.le_refl _) (fun h' r hh => ?_)
  obtain ⟨σ', e1, y, e2, d, s1, s2, s3, s4, s5⟩ := hh
  have n1 : nw σ 6769 = nw σ0 6769 := hi.nw' 6769
  have E2 := E.2.1
  refine ⟨σ', _, e1, e2, s1, E.bat hi hs s2 s3 s4 s5 (by omega), (nz_ot s2).trans hm, ?_⟩
  rw [i32_ext (show y.toInt = x.toInt by omega)]
def C37 (k m : Nat) (σ : sg) (σ' : sg) (v : Value) : Prop := RI k σ' ∧ nz σ' = m ∧ EQ σ ∧ v = .int 1 ∧ ∃ τ, PR σ τ ∧ σ' = us (us τ 11 7 (τ 1 7)) 0 2 1
theorem PR.hi {σ τ : sg} (h : PR σ τ) : HI σ τ := fun q hq => h q (by omega) (by omega)
theorem w_37 (hT : HT ks σ ρ h) (K : KE KS0 ks B0) (R : RI k σ) (E : EQ σ) (hk : k ≤ 511) : ∃ G m, G + 763 * m ≤ 3783 + 763 * nz σ ∧ yM 148 402 G [.ref (0 + 1)] h (LQ ks ρ (C37 k m σ)) := by
  obtain ⟨G, τ, g1, g2, g3⟩ := c148p (q0 := 0) hT K (K.up rfl)
  refine ⟨G, nz τ, by omega, g3.w (by decide) (Nat.le_refl _) (fun h' r hh => ?_)⟩
  obtain ⟨ks', ke, e1, -, e2⟩ := hh
  have hi : HI σ (us (us τ 11 7 (τ 1 7)) 0 2 1) := fun q hq => by rw [us_nq (by omega), us_nq (by omega)]; exact g2.hi q hq
  exact ⟨ks', _, _, ke, e1, e2, R.lo hi, by rw [nz_o (by decide) (by decide), nz_o (by decide) (by decide)], E, rfl, τ, g2, rfl⟩
theorem m_37 {m : Nat} {v : Value} {σ0 : sg} (hT : HT ks σ ρ h) (K : KE KS0 ks B0) (hk : k ≤ 511) (c : C37 k m σ0 σ v) : yM 266 1600 0 [.ref (60 + 1)] h (LM ks ρ (PA (k + 1) m (fun v' => v' = v))) := by
  obtain ⟨R, hm, E, rfl, τ, p, rfl⟩ := c
  refine (r266 K hT R).w (by decide) (Nat.le_refl _) (fun h' r hh => ?_)
  obtain ⟨σ', e1, y, e2, d, s1, s2, s3, s4, s5, s6⟩ := hh
  have hi : HI σ0 (us (us τ 11 7 (τ 1 7)) 0 2 1) := fun q hq => by rw [us_nq (by omega), us_nq (by omega)]; exact p.hi q hq
  have f12a : fl (us (us τ 11 7 (τ 1 7)) 0 2 1) 12 = fl σ0 12 := hi.fl' 12
  have n1 : nw (us (us τ 11 7 (τ 1 7)) 0 2 1) 6769 = nw σ0 6769 := hi.nw' 6769
  obtain ⟨E1, E2, E3, E4⟩ := E
  have t40 : σ' 40 = σ0 40 := by rw [s2 40 (by decide), us_nq (by decide), us_nq (by decide), p 40 (by decide) (by decide)]
  have t1 : σ' 1 = σ0 1 := by rw [s2 1 (by decide), us_nq (by decide), us_nq (by decide), p 1 (by decide) (by decide)]
  have t11 : σ' 11 7 = σ0 1 7 := by rw [s2 11 (by decide), us_nq (by decide), us_eq, p 1 (by decide) (by decide)]
  have t0 : σ' 0 2 = 1 := by rw [s2 0 (by decide), us_eq]
  have z1 : (1 : Int32).toInt = 1 := rfl
  refine ⟨σ', _, e1, e2, s1, ⟨by rw [t40]; omega, by rw [t1]; omega, by rw [t11]; omega, by rw [t0]; omega⟩, (nz_ot s2).trans hm, ?_⟩
  rw [i32_ext (show y.toInt = (1 : Int32).toInt by omega)]
def C38 (k m : Nat) (σ : sg) (σ' : sg) (v : Value) : Prop := RI k σ' ∧ nz σ' = m ∧ EQ σ ∧ HI σ σ' ∧ (σ' 40 = σ 40 ∧ σ' 11 = σ 11 ∧ σ' 0 = σ 0) ∧ ∃ x : Int32, v = .int x ∧ (σ 0 2 = 0 ∧ x = -5 ∧ σ' 1 = σ 1 ∨ σ 0 2 = 1 ∧ x = 1 ∧ σ' 1 7 = σ 11 7)
theorem w_38 (hT : HT ks σ ρ h) (K : KE KS0 ks B0) (R : RI k σ) (E : EQ σ) (hk : k ≤ 511) : ∃ G m, G + 763 * m ≤ 3783 + 763 * nz σ ∧ yM 149 402 G [.ref (0 + 1)] h (LQ ks ρ (C38 k m σ)) := by
  obtain ⟨G, τ, g1, g2, g3⟩ := c149p (q0 := 0) hT K (K.up rfl)
  refine ⟨G, nz τ, by omega, g3.w (by decide) (Nat.le_refl _) (fun h' r hh => ?_)⟩
  obtain ⟨ks', x, e2, ke, d⟩ := hh
  rcases d with ⟨d1, d2, d3, e1⟩ | ⟨d1, d2, e1⟩
  · subst d3
    exact ⟨ks', _, _, ke, e1, e2, R, rfl, E, fun _ _ => rfl, ⟨rfl, rfl, rfl⟩, x, rfl, Or.inl ⟨d1, d2, rfl⟩⟩
  · have hi : HI σ (us τ 1 7 (τ 11 7)) := fun q hq => by rw [us_nq (by omega)]; exact g2.hi q hq
    exact ⟨ks', _, _, ke, e1, e2, R.lo hi, nz_o (by decide) (by decide), E, hi, ⟨by rw [us_nq (by decide)]; exact g2 40 (by decide) (by decide), by rw [us_nq (by decide)]; exact g2 11 (by decide) (by decide), by rw [us_nq (by decide)]; exact g2 0 (by decide) (by decide)⟩, x, rfl, Or.inr ⟨d1, d2, by rw [us_eq, g2 11 (by decide) (by decide)]⟩⟩
theorem m_38 {m : Nat} {v : Value} {σ0 : sg} (hT : HT ks σ ρ h) (K : KE KS0 ks B0) (hk : k ≤ 511) (c : C38 k m σ0 σ v) : yM 267 1600 0 [.ref (60 + 1)] h (LM ks ρ (PA (k + 1) m (fun v' => v' = v))) := by
  obtain ⟨R, hm, E, hi, hs, x, rfl, hx⟩ := c
  refine (r267 K hT R).w (by decide) (Nat.le_refl _) (fun h' r hh => ?_)
  obtain ⟨σ', e1, y, e2, d⟩ := hh
  have n1 : nw σ 6769 = nw σ0 6769 := hi.nw' 6769
  have n2 := hi.kp'
  have f6 : fl σ 6 = fl σ0 6 := hi.fl' 6
  have E2 := E.2.1
  have E3 := E.2.2.1
  have E4 := E.2.2.2
  have z0 : (0 : Int32).toInt = 0 := rfl
  have z1 : (1 : Int32).toInt = 1 := rfl
  have z5 : (-5 : Int32).toInt = -5 := rfl
  rcases hx with ⟨a, b, c⟩ | ⟨a, b, c⟩
  · have a' := congrArg Int32.toInt a
    rcases d with ⟨d1, d2, s1, s2, s3, s4, s5, s6⟩ | ⟨d1, d2, _⟩
    · have b7 : σ 1 7 = σ0 1 7 := by rw [c]
      refine ⟨σ', _, e1, e2, s1, E.bat hi hs s2 s3 s5 s6 (by rw [b7]; omega), (nz_ot s2).trans hm, ?_⟩
      rw [b, i32_ext (show y.toInt = (-5 : Int32).toInt by omega)]
    · omega
  · have a' := congrArg Int32.toInt a
    rcases d with ⟨d1, d2, _⟩ | ⟨d1, d2, s1, s2, s3, s4, s5, s6⟩
    · omega
    · refine ⟨σ', _, e1, e2, s1, E.bat hi hs s2 s3 s5 s6 (by rw [c]; omega), (nz_ot s2).trans hm, ?_⟩
      rw [b, i32_ext (show y.toInt = (1 : Int32).toInt by omega)]
end LW
