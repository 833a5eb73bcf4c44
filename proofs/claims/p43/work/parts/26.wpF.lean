-- rX5_writeTo
def WPu_writeTo  (q0 : Nat) (x1 : Int32) (x2 : Int32) (m : Mm) (K : Mm → Int32 → Prop) : Prop := ∃ p1, m.rv q0 0 = p1 + 1 ∧ WWe_cell p1 x1 m (fun m4 => nn (K m4 0) (fun p6 => (((lg_cmp (m4.lg p6 7) x2.toInt64) = 0) → K m4 0) ∧ (¬ ((lg_cmp (m4.lg p6 7) x2.toInt64) = 0) → ∀ m10, m10 = m4.st p6 7 (.long x2.toInt64) → ∀ m13, m13 = m10.st p6 5 (.long ((m10.lg p6 5) + 1)) → ∃ p16, m13.rv q0 0 = p16 + 1 ∧ WWe_readersOf p16 x1 m13 (fun m19 x21 => ∃ p22, m19.rv q0 0 = p22 + 1 ∧ WWe_furtherReadersOf p22 x1 m19 (fun m25 x27 => WPu_colour q0 x21 x27 m25 (fun m28 => K m28 1))))))
set_option maxRecDepth 100000 in
set_option maxHeartbeats 4000000 in
theorem kPu_writeTo {ks : List Nat} {h : List xE} (hT : TT ks h) {q0 : Nat} (o0 : xnth ks q0 = some 15) (x1 : Int32) (x2 : Int32)  {K : Mm → Int32 → Prop} (j : WPu_writeTo  q0 x1 x2 (mm h) K) : yM 58 (2) 0 [.ref (q0 + 1), .int x1, .int x2] h (PZ ks K) := by
  unfold WPu_writeTo at j
  refine yM.st xM_58 rfl rfl (fun lv g => ?_)
  have g0 := g 0 _ rfl
  have g1 := g 1 _ rfl
  have g2 := g 2 _ rfl
  refine yT.aan (pc' := 1) g0 rfl rfl rfl ?_
  obtain ⟨p1, w2, j⟩ := j
  refine yT.gR (pc' := 4) rfl rfl hT o0 rfl rfl w2 (fun o3 => ?_)
  refine yT.iln (pc' := 5) g1 rfl rfl ?_
  refine zR (yT.cw (G2 := 0) (pc' := 8) rfl rfl rfl hT o3 xM_71 (kWe_cell hT o3 x1 j) rfl (by decide) (by decide) rfl) (fun h4 hT5 j => ?_) (fun h4 p6 hT5 o8 j => ?_)
  · replace j := j.1 rfl
    refine yT.p (pc' := 9) (lv' := xst1 _ 3 (.null)) rfl rfl (fun _ _ _ _ => rfl) ?_
    refine yT.aan (pc' := 10) xg_eq rfl rfl rfl ?_
    refine yT.p (pc' := 23) rfl rfl (fun _ _ _ _ => rfl) ?_
    refine yT.zk (pc' := 24) (z := 0) rfl rfl (by decide) ?_
    exact yT.retZ rfl rfl (Or.inl rfl) ⟨_, rfl, hT5, (Or.inl rfl), j⟩
  · replace j := j.2 _ rfl
    refine yT.p (pc' := 9) (lv' := xst1 _ 3 (.ref (p6 + 1))) rfl rfl (fun _ _ _ _ => rfl) ?_
    refine yT.aan (pc' := 10) xg_eq rfl rfl rfl ?_
    refine yT.p (pc' := 13) rfl rfl (fun _ _ _ _ => rfl) ?_
    refine yT.aan (pc' := 14) xg_eq rfl rfl rfl ?_
    refine yT.gL (pc' := 17) rfl rfl hT5 o8 rfl ?_
    refine yT.iln (pc' := 18) (xg_ne g2 rfl) rfl rfl ?_
    refine yT.p (pc' := 19) rfl rfl (fun _ _ _ _ => rfl) ?_
    refine yT.p (pc' := 20) rfl rfl (fun _ _ _ _ => rfl) ?_
    refine yT.zne1 (t := 25) (pc' := 23) rfl rfl rfl (fun c9 => ?_) (fun c9 => ?_)
    · replace j := j.1 c9
      refine yT.zk (pc' := 24) (z := 0) rfl rfl (by decide) ?_
      exact yT.retZ rfl rfl (Or.inl rfl) ⟨_, rfl, hT5, (Or.inl rfl), j⟩
    · replace j := j.2 c9
      refine yT.aan (pc' := 26) xg_eq rfl rfl rfl ?_
      refine yT.iln (pc' := 27) (xg_ne g2 rfl) rfl rfl ?_
      refine yT.p (pc' := 28) rfl rfl (fun _ _ _ _ => rfl) ?_
      refine yT.sL (pc' := 31) rfl rfl hT5 o8 rfl rfl (fun h10 hT11 e12 => ?_)
      replace j := j _ e12
      refine yT.aan (pc' := 32) xg_eq rfl rfl rfl ?_
      refine yT.p (pc' := 33) rfl rfl (fun _ _ _ _ => rfl) ?_
      refine yT.gL (pc' := 36) rfl rfl hT11 o8 rfl ?_
      refine yT.zl (pc' := 37) (z := 1) rfl rfl (by decide) ?_
      refine yT.p (pc' := 38) rfl rfl (fun _ _ _ _ => rfl) ?_
      refine yT.sL (pc' := 41) rfl rfl hT11 o8 rfl rfl (fun h13 hT14 e15 => ?_)
      replace j := j _ e15
      refine yT.aan (pc' := 42) (xg_ne g0 rfl) rfl rfl rfl ?_
      refine yT.aan (pc' := 43) (xg_ne g0 rfl) rfl rfl rfl ?_
      obtain ⟨p16, w17, j⟩ := j
      refine yT.gR (pc' := 46) rfl rfl hT14 o0 rfl rfl w17 (fun o18 => ?_)
      refine yT.iln (pc' := 47) (xg_ne g1 rfl) rfl rfl ?_
      refine zI (yT.cw (G2 := 0) (pc' := 50) rfl rfl rfl hT14 o18 xM_78 (kWe_readersOf hT14 o18 x1 j) rfl (by decide) (by decide) rfl) (fun h19 x21 hT20 j => ?_)
      refine yT.aan (pc' := 51) (xg_ne g0 rfl) rfl rfl rfl ?_
      obtain ⟨p22, w23, j⟩ := j
      refine yT.gR (pc' := 54) rfl rfl hT20 o0 rfl rfl w23 (fun o24 => ?_)
      refine yT.iln (pc' := 55) (xg_ne g1 rfl) rfl rfl ?_
      refine zI (yT.cw (G2 := 0) (pc' := 58) rfl rfl rfl hT20 o24 xM_79 (kWe_furtherReadersOf hT20 o24 x1 j) rfl (by decide) (by decide) rfl) (fun h25 x27 hT26 j => ?_)
      refine zV (yT.cw (G2 := 0) (pc' := 61) rfl rfl rfl hT26 o0 xM_61 (kPu_colour hT26 o0 x21 x27 j) rfl (by decide) (by decide) rfl) (fun h28 hT29 j => ?_)
      refine yT.zk (pc' := 62) (z := 1) rfl rfl (by decide) ?_
      exact yT.retZ rfl rfl (Or.inr rfl) ⟨_, rfl, hT29, (Or.inr rfl), j⟩
-- rX0_outcomeRead
def WBe_outcomeRead (R : Int32 → Int32 → Mm → (Mm → Int64 → Prop) → Prop) (q0 : Nat) (x1 : Int32) (x2 : Int32) (m : Mm) (K : Mm → Int64 → Prop) : Prop := ∃ p1, m.rv q0 0 = p1 + 1 ∧ WWe_cell p1 x1 m (fun m4 => nn (K m4 4000000003) (fun p6 => WCe_isReadable p6 m4 (fun m9 x11 => ((x11 = 0) → K m9 4000000003) ∧ (¬ (x11 = 0) → R x1 (x2 + (1 : Int32)) m9 (fun m14 z16 => K m14 z16)))))
set_option maxRecDepth 100000 in
set_option maxHeartbeats 4000000 in
theorem kBe_outcomeRead {ks : List Nat} {h : List xE} (hT : TT ks h) {q0 : Nat} (o0 : xnth ks q0 = some 10) (x1 : Int32) (x2 : Int32) {d : Nat} {R : Int32 → Int32 → Mm → (Mm → Int64 → Prop) → Prop} (hR : ∀ {h : List xE}, TT ks h → ∀ (x y : Int32) {K : Mm → Int64 → Prop}, R x y (mm h) K → yM 3 (2 * d + 10) 0 [.ref (q0 + 1), .int x, .int y] h (PL ks K)) {K : Mm → Int64 → Prop} (j : WBe_outcomeRead R q0 x1 x2 (mm h) K) : yM 4 (2 * d + 11) 0 [.ref (q0 + 1), .int x1, .int x2] h (PL ks K) := by
  unfold WBe_outcomeRead at j
  refine yM.st xM_4 rfl rfl (fun lv g => ?_)
  have g0 := g 0 _ rfl
  have g1 := g 1 _ rfl
  have g2 := g 2 _ rfl
  refine yT.aan (pc' := 1) g0 rfl rfl rfl ?_
  obtain ⟨p1, w2, j⟩ := j
  refine yT.gR (pc' := 4) rfl rfl hT o0 rfl rfl w2 (fun o3 => ?_)
  refine yT.iln (pc' := 5) g1 rfl rfl ?_
  refine zR (yT.cw (G2 := 0) (pc' := 8) rfl rfl rfl hT o3 xM_71 (kWe_cell hT o3 x1 j) rfl (by omega) (by decide) rfl) (fun h4 hT5 j => ?_) (fun h4 p6 hT5 o8 j => ?_)
  · replace j := j.1 rfl
    refine yT.p (pc' := 9) (lv' := xst1 _ 3 (.null)) rfl rfl (fun _ _ _ _ => rfl) ?_
    refine yT.aan (pc' := 10) xg_eq rfl rfl rfl ?_
    refine yT.p (pc' := 31) rfl rfl (fun _ _ _ _ => rfl) ?_
    refine yT.zw (pc' := 34) (z := 4000000003) rfl rfl rfl rfl ?_
    exact yT.retL rfl rfl ⟨_, rfl, hT5, j⟩
  · replace j := j.2 _ rfl
    refine yT.p (pc' := 9) (lv' := xst1 _ 3 (.ref (p6 + 1))) rfl rfl (fun _ _ _ _ => rfl) ?_
    refine yT.aan (pc' := 10) xg_eq rfl rfl rfl ?_
    refine yT.p (pc' := 13) rfl rfl (fun _ _ _ _ => rfl) ?_
    refine yT.aan (pc' := 14) xg_eq rfl rfl rfl ?_
    refine zZ (yT.cw (G2 := 0) (pc' := 17) rfl rfl rfl hT5 o8 xM_7 (kCe_isReadable hT5 o8 j) rfl (by omega) (by decide) rfl) (fun h9 x11 hT10 b12 j => ?_)
    refine yT.zeq1 (t := 31) (pc' := 20) rfl rfl rfl (fun c13 => ?_) (fun c13 => ?_)
    · replace j := j.1 c13
      refine yT.zw (pc' := 34) (z := 4000000003) rfl rfl rfl rfl ?_
      exact yT.retL rfl rfl ⟨_, rfl, hT10, j⟩
    · replace j := j.2 c13
      refine yT.aan (pc' := 21) (xg_ne g0 rfl) rfl rfl rfl ?_
      refine yT.iln (pc' := 22) (xg_ne g1 rfl) rfl rfl ?_
      refine yT.iln (pc' := 23) (xg_ne g2 rfl) rfl rfl ?_
      refine yT.zk (pc' := 24) (z := 1) rfl rfl (by decide) ?_
      refine yT.p (pc' := 25) rfl rfl (fun _ _ _ _ => rfl) ?_
      refine zL (yT.cw (G2 := 0) (pc' := 28) rfl rfl rfl hT10 o0 xM_3 (hR hT10 x1 (x2 + (1 : Int32)) j) rfl (by omega) (by decide) rfl) (fun h14 z16 hT15 j => ?_)
      refine yT.p (pc' := 34) rfl rfl (fun _ _ _ _ => rfl) ?_
      exact yT.retL rfl rfl ⟨_, rfl, hT15, j⟩
-- rX0_outcomeOf
def WBe_outcomeOf_J168 (R : Int32 → Int32 → Mm → (Mm → Int64 → Prop) → Prop) (q0 : Nat) (x1 : Int32) (p12 : Nat) (rl131 : Int32 → Mm → Prop) (K : Mm → Int64 → Prop)  (m47 : Mm) : Prop := ∃ p53, m47.rv q0 2 = p53 + 1 ∧ (0 ≤ x1.toInt ∧ x1.toInt < (m47.ln p53 : Int)) ∧ ∀ m57, m57 = m47.st p53 x1.toInt.toNat (.int 2) → ∃ p60, m57.rv q0 1 = p60 + 1 ∧ WFo_outcome p12 m57 (fun m63 z65 => (0 ≤ x1.toInt ∧ x1.toInt < (m63.ln p60 : Int)) ∧ ∀ m67, m67 = m63.st p60 x1.toInt.toNat (.long z65) → ∃ p70, m67.rv q0 1 = p70 + 1 ∧ (0 ≤ x1.toInt ∧ x1.toInt < (m67.ln p70 : Int)) ∧ K m67 (m67.lg p70 x1.toInt.toNat))
set_option maxRecDepth 100000 in
theorem WBe_outcomeOf_J168_u {R : Int32 → Int32 → Mm → (Mm → Int64 → Prop) → Prop} {q0 : Nat} {x1 : Int32} {p12 : Nat} {rl131 : Int32 → Mm → Prop} {K : Mm → Int64 → Prop} {m47 : Mm} (j : WBe_outcomeOf_J168 R q0 x1 p12 rl131 K  m47) : ∃ p53, m47.rv q0 2 = p53 + 1 ∧ (0 ≤ x1.toInt ∧ x1.toInt < (m47.ln p53 : Int)) ∧ ∀ m57, m57 = m47.st p53 x1.toInt.toNat (.int 2) → ∃ p60, m57.rv q0 1 = p60 + 1 ∧ WFo_outcome p12 m57 (fun m63 z65 => (0 ≤ x1.toInt ∧ x1.toInt < (m63.ln p60 : Int)) ∧ ∀ m67, m67 = m63.st p60 x1.toInt.toNat (.long z65) → ∃ p70, m67.rv q0 1 = p70 + 1 ∧ (0 ≤ x1.toInt ∧ x1.toInt < (m67.ln p70 : Int)) ∧ K m67 (m67.lg p70 x1.toInt.toNat)) := j
set_option maxRecDepth 100000 in
theorem WBe_outcomeOf_J168_i {R : Int32 → Int32 → Mm → (Mm → Int64 → Prop) → Prop} {q0 : Nat} {x1 : Int32} {p12 : Nat} {rl131 : Int32 → Mm → Prop} {K : Mm → Int64 → Prop} {m47 : Mm} (j : ∃ p53, m47.rv q0 2 = p53 + 1 ∧ (0 ≤ x1.toInt ∧ x1.toInt < (m47.ln p53 : Int)) ∧ ∀ m57, m57 = m47.st p53 x1.toInt.toNat (.int 2) → ∃ p60, m57.rv q0 1 = p60 + 1 ∧ WFo_outcome p12 m57 (fun m63 z65 => (0 ≤ x1.toInt ∧ x1.toInt < (m63.ln p60 : Int)) ∧ ∀ m67, m67 = m63.st p60 x1.toInt.toNat (.long z65) → ∃ p70, m67.rv q0 1 = p70 + 1 ∧ (0 ≤ x1.toInt ∧ x1.toInt < (m67.ln p70 : Int)) ∧ K m67 (m67.lg p70 x1.toInt.toNat))) : WBe_outcomeOf_J168 R q0 x1 p12 rl131 K  m47 := j
def WBe_outcomeOf_L131 (R : Int32 → Int32 → Mm → (Mm → Int64 → Prop) → Prop) (q0 : Nat) (x1 : Int32) (x2 : Int32) (p12 : Nat) (K : Mm → Int64 → Prop) : Nat → Int32 → Mm → Prop
  | 0, _, _ => False
  | n44 + 1, y42, m35 => ((y42.toInt < (250 : Int32).toInt) → WFo_goesOn p12 m35 (fun m75 x77 => ((x77 = 0) → WBe_outcomeOf_J168 R q0 x1 p12 (WBe_outcomeOf_L131 R q0 x1 x2 p12  K n44) K  m75) ∧ (¬ (x77 = 0) → WFo_asked p12 m75 (fun m80 x82 => WBe_outcomeRead R q0 x82 x2 m80 (fun m83 z85 => WFo_give p12 z85 m83 (fun m86 => WBe_outcomeOf_L131 R q0 x1 x2 p12  K n44 (y42 + 1) m86)))))) ∧ (¬ (y42.toInt < (250 : Int32).toInt) → WBe_outcomeOf_J168 R q0 x1 p12 (WBe_outcomeOf_L131 R q0 x1 x2 p12  K n44) K  m35)
set_option maxRecDepth 100000 in
theorem WBe_outcomeOf_L131_u {R : Int32 → Int32 → Mm → (Mm → Int64 → Prop) → Prop} {q0 : Nat} {x1 : Int32} {x2 : Int32} {p12 : Nat} {K : Mm → Int64 → Prop} {n44 : Nat} {y42 : Int32} {m35 : Mm} (j : WBe_outcomeOf_L131 R q0 x1 x2 p12  K (n44 + 1) y42 m35) : ((y42.toInt < (250 : Int32).toInt) → WFo_goesOn p12 m35 (fun m75 x77 => ((x77 = 0) → WBe_outcomeOf_J168 R q0 x1 p12 (WBe_outcomeOf_L131 R q0 x1 x2 p12  K n44) K  m75) ∧ (¬ (x77 = 0) → WFo_asked p12 m75 (fun m80 x82 => WBe_outcomeRead R q0 x82 x2 m80 (fun m83 z85 => WFo_give p12 z85 m83 (fun m86 => WBe_outcomeOf_L131 R q0 x1 x2 p12  K n44 (y42 + 1) m86)))))) ∧ (¬ (y42.toInt < (250 : Int32).toInt) → WBe_outcomeOf_J168 R q0 x1 p12 (WBe_outcomeOf_L131 R q0 x1 x2 p12  K n44) K  m35) := j
set_option maxRecDepth 100000 in
theorem WBe_outcomeOf_L131_i {R : Int32 → Int32 → Mm → (Mm → Int64 → Prop) → Prop} {q0 : Nat} {x1 : Int32} {x2 : Int32} {p12 : Nat} {K : Mm → Int64 → Prop} {n44 : Nat} {y42 : Int32} {m35 : Mm} (j : ((y42.toInt < (250 : Int32).toInt) → WFo_goesOn p12 m35 (fun m75 x77 => ((x77 = 0) → WBe_outcomeOf_J168 R q0 x1 p12 (WBe_outcomeOf_L131 R q0 x1 x2 p12  K n44) K  m75) ∧ (¬ (x77 = 0) → WFo_asked p12 m75 (fun m80 x82 => WBe_outcomeRead R q0 x82 x2 m80 (fun m83 z85 => WFo_give p12 z85 m83 (fun m86 => WBe_outcomeOf_L131 R q0 x1 x2 p12  K n44 (y42 + 1) m86)))))) ∧ (¬ (y42.toInt < (250 : Int32).toInt) → WBe_outcomeOf_J168 R q0 x1 p12 (WBe_outcomeOf_L131 R q0 x1 x2 p12  K n44) K  m35)) : WBe_outcomeOf_L131 R q0 x1 x2 p12  K (n44 + 1) y42 m35 := j
def WBe_outcomeOf (R : Int32 → Int32 → Mm → (Mm → Int64 → Prop) → Prop) (q0 : Nat) (x1 : Int32) (x2 : Int32) (m : Mm) (K : Mm → Int64 → Prop) : Prop := ∃ p1, m.rv q0 0 = p1 + 1 ∧ WWe_cell p1 x1 m (fun m4 => nn (K m4 4000000003) (fun p6 => (((24 : Int32).toInt < x2.toInt) → K m4 4000000003) ∧ (¬ ((24 : Int32).toInt < x2.toInt) → (((m4.iv p6 0) = 1) → ((x1 = (m4.iv q0 3)) → K m4 ((m4.iv q0 4).toInt64)) ∧ (¬ (x1 = (m4.iv q0 3)) → K m4 (m4.lg p6 7))) ∧ (¬ ((m4.iv p6 0) = 1) → (m4.rv p6 8 = 0 → K m4 4000000003) ∧ (∀ p12, m4.rv p6 8 = p12 + 1 → ∃ p15, m4.rv q0 2 = p15 + 1 ∧ ((x1.toInt < (Int32.ofNat (m4.ln p15)).toInt) → ∃ p19, m4.rv q0 1 = p19 + 1 ∧ ((x1.toInt < (Int32.ofNat (m4.ln p19)).toInt) → (0 ≤ x1.toInt ∧ x1.toInt < (m4.ln p15 : Int)) ∧ (((m4.iv p15 x1.toInt.toNat) = 1) → K m4 4000000002) ∧ (¬ ((m4.iv p15 x1.toInt.toNat) = 1) → (0 ≤ x1.toInt ∧ x1.toInt < (m4.ln p15 : Int)) ∧ (((m4.iv p15 x1.toInt.toNat) = 2) → (0 ≤ x1.toInt ∧ x1.toInt < (m4.ln p19 : Int)) ∧ K m4 (m4.lg p19 x1.toInt.toNat)) ∧ (¬ ((m4.iv p15 x1.toInt.toNat) = 2) → (0 ≤ x1.toInt ∧ x1.toInt < (m4.ln p15 : Int)) ∧ ∀ m29, m29 = m4.st p15 x1.toInt.toNat (.int 1) → WFo_start p12 m29 (fun m32 => ∃ n88, WBe_outcomeOf_L131 R q0 x1 x2 p12  K n88 0 m32)))) ∧ (¬ (x1.toInt < (Int32.ofNat (m4.ln p19)).toInt) → K m4 4000000003)) ∧ (¬ (x1.toInt < (Int32.ofNat (m4.ln p15)).toInt) → K m4 4000000003))))))
set_option maxRecDepth 100000 in
set_option maxHeartbeats 4000000 in
theorem kBe_outcomeOf {ks : List Nat} {h : List xE} (hT : TT ks h) {q0 : Nat} (o0 : xnth ks q0 = some 10) (x1 : Int32) (x2 : Int32) {d : Nat} {R : Int32 → Int32 → Mm → (Mm → Int64 → Prop) → Prop} (hR : ∀ {h : List xE}, TT ks h → ∀ (x y : Int32) {K : Mm → Int64 → Prop}, R x y (mm h) K → yM 3 (2 * d + 10) 0 [.ref (q0 + 1), .int x, .int y] h (PL ks K)) {K : Mm → Int64 → Prop} (j : WBe_outcomeOf R q0 x1 x2 (mm h) K) : yM 3 (2 * d + 12) 0 [.ref (q0 + 1), .int x1, .int x2] h (PL ks K) := by
  unfold WBe_outcomeOf at j
  refine yM.st xM_3 rfl rfl (fun lv g => ?_)
  have g0 := g 0 _ rfl
  have g1 := g 1 _ rfl
  have g2 := g 2 _ rfl
  refine yT.aan (pc' := 1) g0 rfl rfl rfl ?_
  obtain ⟨p1, w2, j⟩ := j
  refine yT.gR (pc' := 4) rfl rfl hT o0 rfl rfl w2 (fun o3 => ?_)
  refine yT.iln (pc' := 5) g1 rfl rfl ?_
  refine zR (yT.cw (G2 := 0) (pc' := 8) rfl rfl rfl hT o3 xM_71 (kWe_cell hT o3 x1 j) rfl (by omega) (by decide) rfl) (fun h4 hT5 j => ?_) (fun h4 p6 hT5 o8 j => ?_)
  · replace j := j.1 rfl
    refine yT.p (pc' := 9) (lv' := xst1 _ 3 (.null)) rfl rfl (fun _ _ _ _ => rfl) ?_
    refine yT.aan (pc' := 10) xg_eq rfl rfl rfl ?_
    refine yT.p (pc' := 19) rfl rfl (fun _ _ _ _ => rfl) ?_
    refine yT.zw (pc' := 22) (z := 4000000003) rfl rfl rfl rfl ?_
    exact yT.retL rfl rfl ⟨_, rfl, hT5, j⟩
  · replace j := j.2 _ rfl
    refine yT.p (pc' := 9) (lv' := xst1 _ 3 (.ref (p6 + 1))) rfl rfl (fun _ _ _ _ => rfl) ?_
    refine yT.aan (pc' := 10) xg_eq rfl rfl rfl ?_
    refine yT.p (pc' := 13) rfl rfl (fun _ _ _ _ => rfl) ?_
    refine yT.iln (pc' := 14) (xg_ne g2 rfl) rfl rfl ?_
    refine yT.zb (pc' := 16) (z := 24) rfl rfl (by decide) ?_
    refine yT.zle2 (t := 23) (pc' := 19) rfl rfl rfl (fun c9 => ?_) (fun c9 => ?_)
    · replace j := j.1 c9
      refine yT.zw (pc' := 22) (z := 4000000003) rfl rfl rfl rfl ?_
      exact yT.retL rfl rfl ⟨_, rfl, hT5, j⟩
    · replace j := j.2 c9
      refine yT.aan (pc' := 24) xg_eq rfl rfl rfl ?_
      refine yT.gI (pc' := 27) rfl rfl hT5 o8 rfl ?_
      refine yT.zk (pc' := 28) (z := 1) rfl rfl (by decide) ?_
      refine yT.zne2 (t := 52) (pc' := 31) rfl rfl rfl (fun c10 => ?_) (fun c10 => ?_)
      · replace j := j.1 c10
        refine yT.iln (pc' := 32) (xg_ne g1 rfl) rfl rfl ?_
        refine yT.aan (pc' := 33) (xg_ne g0 rfl) rfl rfl rfl ?_
        refine yT.gI (pc' := 36) rfl rfl hT5 o0 rfl ?_
        refine yT.zne2 (t := 47) (pc' := 39) rfl rfl rfl (fun c11 => ?_) (fun c11 => ?_)
        · replace j := j.1 c11
          refine yT.aan (pc' := 40) (xg_ne g0 rfl) rfl rfl rfl ?_
          refine yT.gI (pc' := 43) rfl rfl hT5 o0 rfl ?_
          refine yT.p (pc' := 44) rfl rfl (fun _ _ _ _ => rfl) ?_
          refine yT.p (pc' := 51) rfl rfl (fun _ _ _ _ => rfl) ?_
          exact yT.retL rfl rfl ⟨_, rfl, hT5, j⟩
        · replace j := j.2 c11
          refine yT.aan (pc' := 48) xg_eq rfl rfl rfl ?_
          refine yT.gL (pc' := 51) rfl rfl hT5 o8 rfl ?_
          exact yT.retL rfl rfl ⟨_, rfl, hT5, j⟩
      · replace j := j.2 c10
        refine yT.aan (pc' := 53) xg_eq rfl rfl rfl ?_
        refine yT.gN (pc' := 56) rfl rfl hT5 o8 rfl rfl (fun w13 => ?_) (fun p12 w13 o14 => ?_)
        · replace j := j.1 w13
          refine yT.p (pc' := 58) (lv' := xst1 _ 4 (.null)) rfl rfl (fun _ _ _ _ => rfl) ?_
          refine yT.aa_ (pc' := 60) xg_eq rfl rfl rfl ?_
          refine yT.p (pc' := 81) rfl rfl (fun _ _ _ _ => rfl) ?_
          refine yT.zw (pc' := 84) (z := 4000000003) rfl rfl rfl rfl ?_
          exact yT.retL rfl rfl ⟨_, rfl, hT5, j⟩
        · replace j := j.2 p12 w13
          refine yT.p (pc' := 58) (lv' := xst1 _ 4 (.ref (p12 + 1))) rfl rfl (fun _ _ _ _ => rfl) ?_
          refine yT.aa_ (pc' := 60) xg_eq rfl rfl rfl ?_
          refine yT.p (pc' := 63) rfl rfl (fun _ _ _ _ => rfl) ?_
          refine yT.iln (pc' := 64) (xg_ne (xg_ne g1 rfl) rfl) rfl rfl ?_
          refine yT.aan (pc' := 65) (xg_ne (xg_ne g0 rfl) rfl) rfl rfl rfl ?_
          obtain ⟨p15, w16, j⟩ := j
          refine yT.gR (pc' := 68) rfl rfl hT5 o0 rfl rfl w16 (fun o17 => ?_)
          refine yT.aL (pc' := 69) rfl rfl hT5 o17 rfl ?_
          refine yT.zge2 (t := 81) (pc' := 72) rfl rfl rfl (fun c18 => ?_) (fun c18 => ?_)
          · replace j := j.1 c18
            refine yT.iln (pc' := 73) (xg_ne (xg_ne g1 rfl) rfl) rfl rfl ?_
            refine yT.aan (pc' := 74) (xg_ne (xg_ne g0 rfl) rfl) rfl rfl rfl ?_
            obtain ⟨p19, w20, j⟩ := j
            refine yT.gR (pc' := 77) rfl rfl hT5 o0 rfl rfl w20 (fun o21 => ?_)
            refine yT.aL (pc' := 78) rfl rfl hT5 o21 rfl ?_
            refine yT.zlt2 (t := 85) (pc' := 81) rfl rfl rfl (fun c22 => ?_) (fun c22 => ?_)
            · replace j := j.1 c22
              refine yT.aan (pc' := 86) (xg_ne (xg_ne g0 rfl) rfl) rfl rfl rfl ?_
              refine yT.gR (pc' := 89) rfl rfl hT5 o0 rfl rfl w16 (fun _ => ?_)
              refine yT.iln (pc' := 90) (xg_ne (xg_ne g1 rfl) rfl) rfl rfl ?_
              obtain ⟨c23, j⟩ := j
              refine yT.iA (pc' := 91) rfl rfl hT5 o17 c23 ?_
              refine yT.zk (pc' := 92) (z := 1) rfl rfl (by decide) ?_
              refine yT.zne2 (t := 99) (pc' := 95) rfl rfl rfl (fun c24 => ?_) (fun c24 => ?_)
              · replace j := j.1 c24
                refine yT.zw (pc' := 98) (z := 4000000002) rfl rfl rfl rfl ?_
                exact yT.retL rfl rfl ⟨_, rfl, hT5, j⟩
              · replace j := j.2 c24
                refine yT.aan (pc' := 100) (xg_ne (xg_ne g0 rfl) rfl) rfl rfl rfl ?_
                refine yT.gR (pc' := 103) rfl rfl hT5 o0 rfl rfl w16 (fun _ => ?_)
                refine yT.iln (pc' := 104) (xg_ne (xg_ne g1 rfl) rfl) rfl rfl ?_
                obtain ⟨c25, j⟩ := j
                refine yT.iA (pc' := 105) rfl rfl hT5 o17 c25 ?_
                refine yT.zk (pc' := 106) (z := 2) rfl rfl (by decide) ?_
                refine yT.zne2 (t := 116) (pc' := 109) rfl rfl rfl (fun c26 => ?_) (fun c26 => ?_)
                · replace j := j.1 c26
                  refine yT.aan (pc' := 110) (xg_ne (xg_ne g0 rfl) rfl) rfl rfl rfl ?_
                  refine yT.gR (pc' := 113) rfl rfl hT5 o0 rfl rfl w20 (fun _ => ?_)
                  refine yT.iln (pc' := 114) (xg_ne (xg_ne g1 rfl) rfl) rfl rfl ?_
                  obtain ⟨c27, j⟩ := j
                  refine yT.lA (pc' := 115) rfl rfl hT5 o21 c27 ?_
                  exact yT.retL rfl rfl ⟨_, rfl, hT5, j⟩
                · replace j := j.2 c26
                  refine yT.aan (pc' := 117) (xg_ne (xg_ne g0 rfl) rfl) rfl rfl rfl ?_
                  refine yT.gR (pc' := 120) rfl rfl hT5 o0 rfl rfl w16 (fun _ => ?_)
                  refine yT.iln (pc' := 121) (xg_ne (xg_ne g1 rfl) rfl) rfl rfl ?_
                  refine yT.zk (pc' := 122) (z := 1) rfl rfl (by decide) ?_
                  obtain ⟨c28, j⟩ := j
                  refine yT.tI (pc' := 123) rfl rfl hT5 o17 c28 (fun h29 hT30 e31 => ?_)
                  replace j := j _ e31
                  refine yT.aa_ (pc' := 125) xg_eq rfl rfl rfl ?_
                  refine zV (yT.cw (G2 := 0) (pc' := 128) rfl rfl rfl hT30 o14 xM_11 (kFo_start hT30 o14 j) rfl (by omega) (by decide) rfl) (fun h32 hT33 j => ?_)
                  refine yT.zk (pc' := 129) (z := 0) rfl rfl (by decide) ?_
                  refine yT.p (pc' := 131) (lv' := xst1 _ 5 (.int 0)) rfl rfl (fun _ _ _ _ => rfl) ?_
                  have L43 : ∀ (n44 : Nat) (lv34 : xLv) (h35 : List xE) (y42 : Int32), TT ks h35 → xget lv34 0 = some (.ref (q0 + 1)) → xget lv34 1 = some (.int x1) → xget lv34 2 = some (.int x2) → xget lv34 4 = some (.ref (p12 + 1)) → xget lv34 5 = some (.int y42) → WBe_outcomeOf_L131 R q0 x1 x2 p12  K n44 y42 (mm h35) → yT 0 [] rX0_outcomeOf (2 * d + 12) 0 131 lv34 [] h35 (PL ks K) := by
                    intro n44
                    induction n44 with
                    | zero => intro lv34 h35 y42 hT36 g37 g38 g39 g40 g41 j; exact j.elim
                    | succ n44 ih45 =>
                      intro lv34 h35 y42 hT36 g37 g38 g39 g40 g41 j
                      replace j := WBe_outcomeOf_L131_u j
                      refine yT.il (pc' := 133) g41 rfl rfl ?_
                      refine yT.zs (pc' := 136) (z := 250) rfl rfl (by decide) ?_
                      have L52 : ∀ (lv46 : xLv) (h47 : List xE), TT ks h47 → xget lv46 0 = some (.ref (q0 + 1)) → xget lv46 1 = some (.int x1) → xget lv46 4 = some (.ref (p12 + 1)) → WBe_outcomeOf_J168 R q0 x1 p12 (WBe_outcomeOf_L131 R q0 x1 x2 p12  K n44) K  (mm h47) → yT 0 [] rX0_outcomeOf (2 * d + 12) 0 168 lv46 [] h47 (PL ks K) := by
                        intro lv46 h47 hT48 g49 g50 g51 j
                        replace j := WBe_outcomeOf_J168_u j
                        refine yT.aan (pc' := 169) g49 rfl rfl rfl ?_
                        obtain ⟨p53, w54, j⟩ := j
                        refine yT.gR (pc' := 172) rfl rfl hT48 o0 rfl rfl w54 (fun o55 => ?_)
                        refine yT.iln (pc' := 173) g50 rfl rfl ?_
                        refine yT.zk (pc' := 174) (z := 2) rfl rfl (by decide) ?_
                        obtain ⟨c56, j⟩ := j
                        refine yT.tI (pc' := 175) rfl rfl hT48 o55 c56 (fun h57 hT58 e59 => ?_)
                        replace j := j _ e59
                        refine yT.aan (pc' := 176) g49 rfl rfl rfl ?_
                        obtain ⟨p60, w61, j⟩ := j
                        refine yT.gR (pc' := 179) rfl rfl hT58 o0 rfl rfl w61 (fun o62 => ?_)
                        refine yT.iln (pc' := 180) g50 rfl rfl ?_
                        refine yT.aa_ (pc' := 182) g51 rfl rfl rfl ?_
                        refine zL (yT.cw (G2 := 0) (pc' := 185) rfl rfl rfl hT58 o14 xM_14 (kFo_outcome hT58 o14 j) rfl (by omega) (by decide) rfl) (fun h63 z65 hT64 j => ?_)
                        obtain ⟨c66, j⟩ := j
                        refine yT.tL (pc' := 186) rfl rfl hT64 o62 c66 (fun h67 hT68 e69 => ?_)
                        replace j := j _ e69
                        refine yT.aan (pc' := 187) g49 rfl rfl rfl ?_
                        obtain ⟨p70, w71, j⟩ := j
                        refine yT.gR (pc' := 190) rfl rfl hT68 o0 rfl rfl w71 (fun o72 => ?_)
                        refine yT.iln (pc' := 191) g50 rfl rfl ?_
                        obtain ⟨c73, j⟩ := j
                        refine yT.lA (pc' := 192) rfl rfl hT68 o72 c73 ?_
                        exact yT.retL rfl rfl ⟨_, rfl, hT68, j⟩
                      refine yT.zge2 (t := 168) (pc' := 139) rfl rfl rfl (fun c74 => ?_) (fun c74 => ?_)
                      · replace j := j.1 c74
                        refine yT.aa_ (pc' := 141) g40 rfl rfl rfl ?_
                        refine zZ (yT.cw (G2 := 0) (pc' := 144) rfl rfl rfl hT36 o14 xM_12 (kFo_goesOn hT36 o14 j) rfl (by omega) (by decide) rfl) (fun h75 x77 hT76 b78 j => ?_)
                        refine yT.zeq1 (t := 168) (pc' := 147) rfl rfl rfl (fun c79 => ?_) (fun c79 => ?_)
                        · replace j := j.1 c79
                          exact L52 _ _  hT76 g37 g38 g40 j
                        · replace j := j.2 c79
                          refine yT.aa_ (pc' := 149) g40 rfl rfl rfl ?_
                          refine yT.aan (pc' := 150) g37 rfl rfl rfl ?_
                          refine yT.aa_ (pc' := 152) g40 rfl rfl rfl ?_
                          refine zI (yT.cw (G2 := 0) (pc' := 155) rfl rfl rfl hT76 o14 xM_9 (kFo_asked hT76 o14 j) rfl (by omega) (by decide) rfl) (fun h80 x82 hT81 j => ?_)
                          refine yT.iln (pc' := 156) g39 rfl rfl ?_
                          refine zL (yT.cw (G2 := 0) (pc' := 159) rfl rfl rfl hT81 o0 xM_4 (kBe_outcomeRead hT81 o0 x82 x2 hR j) rfl (by omega) (by decide) rfl) (fun h83 z85 hT84 j => ?_)
                          refine zV (yT.cw (G2 := 0) (pc' := 162) rfl rfl rfl hT84 o14 xM_13 (kFo_give hT84 o14 z85 j) rfl (by omega) (by decide) rfl) (fun h86 hT87 j => ?_)
                          refine yT.iif (pc' := 165) (z := y42 + 1) g41 rfl rfl rfl rfl ?_
                          refine yT.p (pc' := 131) rfl rfl (fun _ _ _ _ => rfl) ?_
                          exact ih45 _ _ _ hT87 (xg_ne g37 rfl) (xg_ne g38 rfl) (xg_ne g39 rfl) (xg_ne g40 rfl) xg_eq j
                      · replace j := j.2 c74
                        exact L52 _ _  hT36 g37 g38 g40 j
                  obtain ⟨n88, j⟩ := j
                  exact L43 n88 _ _ _ hT33 (xg_ne (xg_ne (xg_ne g0 rfl) rfl) rfl) (xg_ne (xg_ne (xg_ne g1 rfl) rfl) rfl) (xg_ne (xg_ne (xg_ne g2 rfl) rfl) rfl) (xg_ne xg_eq rfl) xg_eq j
            · replace j := j.2 c22
              refine yT.zw (pc' := 84) (z := 4000000003) rfl rfl rfl rfl ?_
              exact yT.retL rfl rfl ⟨_, rfl, hT5, j⟩
          · replace j := j.2 c18
            refine yT.zw (pc' := 84) (z := 4000000003) rfl rfl rfl rfl ?_
            exact yT.retL rfl rfl ⟨_, rfl, hT5, j⟩
-- OUTCOMEOF
def WBe_outcomeOf_r (q0 : Nat) : Nat → Int32 → Int32 → Mm → (Mm → Int64 → Prop) → Prop
  | 0 => fun _ _ _ _ => False
  | n + 1 => fun x y m K => WBe_outcomeOf (WBe_outcomeOf_r q0 n) q0 x y m K
set_option maxRecDepth 100000 in
theorem kBe_outcomeOf_r {ks : List Nat} {q0 : Nat} (o0 : xnth ks q0 = some 10) : ∀ (n : Nat) {h : List xE}, TT ks h → ∀ (x y : Int32) {K : Mm → Int64 → Prop}, WBe_outcomeOf_r q0 n x y (mm h) K → yM 3 (2 * n + 10) 0 [.ref (q0 + 1), .int x, .int y] h (PL ks K)
  | 0, h, hT, x, y, K, j => False.elim j
  | n + 1, h, hT, x, y, K, j => (kBe_outcomeOf hT o0 x y (kBe_outcomeOf_r o0 n) j).w (by omega) (Nat.le_refl _) (fun _ _ h => h)
def WBe_outcomeOf_c (q0 : Nat) (x y : Int32) (m : Mm) (K : Mm → Int64 → Prop) : Prop := ∃ n, n ≤ 25 ∧ WBe_outcomeOf_r q0 n x y m K
theorem kBe_outcomeOf_c {ks : List Nat} {h : List xE} (hT : TT ks h) {q0 : Nat} (o0 : xnth ks q0 = some 10) (x y : Int32) {K : Mm → Int64 → Prop} (j : WBe_outcomeOf_c q0 x y (mm h) K) : yM 3 (60) 0 [.ref (q0 + 1), .int x, .int y] h (PL ks K) := by
  obtain ⟨n, hn, j⟩ := j
  exact (kBe_outcomeOf_r o0 n hT x y j).w (by omega) (Nat.le_refl _) (fun _ _ h => h)
-- rX0_outcomeIf
def WBe_outcomeIf_L13 (q0 : Nat) (x3 : Int32) (K : Mm → Int64 → Prop) : Nat → Int32 → Mm → Prop
  | 0, _, _ => False
  | n15 + 1, y13, m8 => ∃ p17, m8.rv q0 2 = p17 + 1 ∧ ((y13.toInt < (Int32.ofNat (m8.ln p17)).toInt) → (0 ≤ y13.toInt ∧ y13.toInt < (m8.ln p17 : Int)) ∧ ∀ m22, m22 = m8.st p17 y13.toInt.toNat (.int 0) → WBe_outcomeIf_L13 q0 x3  K n15 (y13 + 1) m22) ∧ (¬ (y13.toInt < (Int32.ofNat (m8.ln p17)).toInt) → WBe_outcomeOf_c q0 x3 0 m8 (fun m25 z27 => K m25 z27))
set_option maxRecDepth 100000 in
theorem WBe_outcomeIf_L13_u {q0 : Nat} {x3 : Int32} {K : Mm → Int64 → Prop} {n15 : Nat} {y13 : Int32} {m8 : Mm} (j : WBe_outcomeIf_L13 q0 x3  K (n15 + 1) y13 m8) : ∃ p17, m8.rv q0 2 = p17 + 1 ∧ ((y13.toInt < (Int32.ofNat (m8.ln p17)).toInt) → (0 ≤ y13.toInt ∧ y13.toInt < (m8.ln p17 : Int)) ∧ ∀ m22, m22 = m8.st p17 y13.toInt.toNat (.int 0) → WBe_outcomeIf_L13 q0 x3  K n15 (y13 + 1) m22) ∧ (¬ (y13.toInt < (Int32.ofNat (m8.ln p17)).toInt) → WBe_outcomeOf_c q0 x3 0 m8 (fun m25 z27 => K m25 z27)) := j
set_option maxRecDepth 100000 in
theorem WBe_outcomeIf_L13_i {q0 : Nat} {x3 : Int32} {K : Mm → Int64 → Prop} {n15 : Nat} {y13 : Int32} {m8 : Mm} (j : ∃ p17, m8.rv q0 2 = p17 + 1 ∧ ((y13.toInt < (Int32.ofNat (m8.ln p17)).toInt) → (0 ≤ y13.toInt ∧ y13.toInt < (m8.ln p17 : Int)) ∧ ∀ m22, m22 = m8.st p17 y13.toInt.toNat (.int 0) → WBe_outcomeIf_L13 q0 x3  K n15 (y13 + 1) m22) ∧ (¬ (y13.toInt < (Int32.ofNat (m8.ln p17)).toInt) → WBe_outcomeOf_c q0 x3 0 m8 (fun m25 z27 => K m25 z27))) : WBe_outcomeIf_L13 q0 x3  K (n15 + 1) y13 m8 := j
def WBe_outcomeIf  (q0 : Nat) (x1 : Int32) (x2 : Int32) (x3 : Int32) (m : Mm) (K : Mm → Int64 → Prop) : Prop := ∀ m1, m1 = m.st q0 3 (.int x1) → ∀ m4, m4 = m1.st q0 4 (.int x2) → ∃ n28, WBe_outcomeIf_L13 q0 x3  K n28 0 m4
set_option maxRecDepth 100000 in
set_option maxHeartbeats 4000000 in
theorem kBe_outcomeIf {ks : List Nat} {h : List xE} (hT : TT ks h) {q0 : Nat} (o0 : xnth ks q0 = some 10) (x1 : Int32) (x2 : Int32) (x3 : Int32)  {K : Mm → Int64 → Prop} (j : WBe_outcomeIf  q0 x1 x2 x3 (mm h) K) : yM 2 (61) 0 [.ref (q0 + 1), .int x1, .int x2, .int x3] h (PL ks K) := by
  unfold WBe_outcomeIf at j
  refine yM.st xM_2 rfl rfl (fun lv g => ?_)
  have g0 := g 0 _ rfl
  have g1 := g 1 _ rfl
  have g2 := g 2 _ rfl
  have g3 := g 3 _ rfl
  refine yT.aan (pc' := 1) g0 rfl rfl rfl ?_
  refine yT.iln (pc' := 2) g1 rfl rfl ?_
  refine yT.sI (pc' := 5) rfl rfl hT o0 rfl rfl (fun h1 hT2 e3 => ?_)
  replace j := j _ e3
  refine yT.aan (pc' := 6) g0 rfl rfl rfl ?_
  refine yT.iln (pc' := 7) g2 rfl rfl ?_
  refine yT.sI (pc' := 10) rfl rfl hT2 o0 rfl rfl (fun h4 hT5 e6 => ?_)
  replace j := j _ e6
  refine yT.zk (pc' := 11) (z := 0) rfl rfl (by decide) ?_
  refine yT.p (pc' := 13) (lv' := xst1 _ 4 (.int 0)) rfl rfl (fun _ _ _ _ => rfl) ?_
  have L14 : ∀ (n15 : Nat) (lv7 : xLv) (h8 : List xE) (y13 : Int32), TT ks h8 → xget lv7 0 = some (.ref (q0 + 1)) → xget lv7 3 = some (.int x3) → xget lv7 4 = some (.int y13) → WBe_outcomeIf_L13 q0 x3  K n15 y13 (mm h8) → yT 0 [] rX0_outcomeIf (61) 0 13 lv7 [] h8 (PL ks K) := by
    intro n15
    induction n15 with
    | zero => intro lv7 h8 y13 hT9 g10 g11 g12 j; exact j.elim
    | succ n15 ih16 =>
      intro lv7 h8 y13 hT9 g10 g11 g12 j
      replace j := WBe_outcomeIf_L13_u j
      refine yT.il (pc' := 15) g12 rfl rfl ?_
      refine yT.aan (pc' := 16) g10 rfl rfl rfl ?_
      obtain ⟨p17, w18, j⟩ := j
      refine yT.gR (pc' := 19) rfl rfl hT9 o0 rfl rfl w18 (fun o19 => ?_)
      refine yT.aL (pc' := 20) rfl rfl hT9 o19 rfl ?_
      refine yT.zge2 (t := 37) (pc' := 23) rfl rfl rfl (fun c20 => ?_) (fun c20 => ?_)
      · replace j := j.1 c20
        refine yT.aan (pc' := 24) g10 rfl rfl rfl ?_
        refine yT.gR (pc' := 27) rfl rfl hT9 o0 rfl rfl w18 (fun _ => ?_)
        refine yT.il (pc' := 29) g12 rfl rfl ?_
        refine yT.zk (pc' := 30) (z := 0) rfl rfl (by decide) ?_
        obtain ⟨c21, j⟩ := j
        refine yT.tI (pc' := 31) rfl rfl hT9 o19 c21 (fun h22 hT23 e24 => ?_)
        replace j := j _ e24
        refine yT.iif (pc' := 34) (z := y13 + 1) g12 rfl rfl rfl rfl ?_
        refine yT.p (pc' := 13) rfl rfl (fun _ _ _ _ => rfl) ?_
        exact ih16 _ _ _ hT23 (xg_ne g10 rfl) (xg_ne g11 rfl) xg_eq j
      · replace j := j.2 c20
        refine yT.aan (pc' := 38) g10 rfl rfl rfl ?_
        refine yT.iln (pc' := 39) g11 rfl rfl ?_
        refine yT.zk (pc' := 40) (z := 0) rfl rfl (by decide) ?_
        refine zL (yT.cw (G2 := 0) (pc' := 43) rfl rfl rfl hT9 o0 xM_3 (kBe_outcomeOf_c hT9 o0 x3 0 j) rfl (by decide) (by decide) rfl) (fun h25 z27 hT26 j => ?_)
        exact yT.retL rfl rfl ⟨_, rfl, hT26, j⟩
  obtain ⟨n28, j⟩ := j
  exact L14 n28 _ _ _ hT5 (xg_ne g0 rfl) (xg_ne g3 rfl) xg_eq j
-- rX0_outcomeNow
def WBe_outcomeNow  (q0 : Nat) (x1 : Int32) (m : Mm) (K : Mm → Int64 → Prop) : Prop := WBe_outcomeIf q0 (-1) 0 x1 m (fun m1 z3 => K m1 z3)
set_option maxRecDepth 100000 in
set_option maxHeartbeats 4000000 in
theorem kBe_outcomeNow {ks : List Nat} {h : List xE} (hT : TT ks h) {q0 : Nat} (o0 : xnth ks q0 = some 10) (x1 : Int32)  {K : Mm → Int64 → Prop} (j : WBe_outcomeNow  q0 x1 (mm h) K) : yM 1 (62) 0 [.ref (q0 + 1), .int x1] h (PL ks K) := by
  unfold WBe_outcomeNow at j
  refine yM.st xM_1 rfl rfl (fun lv g => ?_)
  have g0 := g 0 _ rfl
  have g1 := g 1 _ rfl
  refine yT.aan (pc' := 1) g0 rfl rfl rfl ?_
  refine yT.zk (pc' := 2) (z := (-1)) rfl rfl (by decide) ?_
  refine yT.zk (pc' := 3) (z := 0) rfl rfl (by decide) ?_
  refine yT.iln (pc' := 4) g1 rfl rfl ?_
  refine zL (yT.cw (G2 := 0) (pc' := 7) rfl rfl rfl hT o0 xM_2 (kBe_outcomeIf hT o0 (-1) 0 x1 j) rfl (by decide) (by decide) rfl) (fun h1 z3 hT2 j => ?_)
  exact yT.retL rfl rfl ⟨_, rfl, hT2, j⟩
-- rX8_hasOutcome
def WPS_hasOutcome  (q0 : Nat) (x1 : Int32) (m : Mm) (K : Mm → Int32 → Prop) : Prop := ∃ p1, m.rv q0 0 = p1 + 1 ∧ WWe_cell p1 x1 m (fun m4 => nn (K m4 0) (fun p6 => (((m4.iv p6 0) = 5) → K m4 0) ∧ (¬ ((m4.iv p6 0) = 5) → K m4 1)))
set_option maxRecDepth 100000 in
set_option maxHeartbeats 4000000 in
theorem kPS_hasOutcome {ks : List Nat} {h : List xE} (hT : TT ks h) {q0 : Nat} (o0 : xnth ks q0 = some 18) (x1 : Int32)  {K : Mm → Int32 → Prop} (j : WPS_hasOutcome  q0 x1 (mm h) K) : yM 106 (1) 0 [.ref (q0 + 1), .int x1] h (PZ ks K) := by
  unfold WPS_hasOutcome at j
  refine yM.st xM_106 rfl rfl (fun lv g => ?_)
  have g0 := g 0 _ rfl
  have g1 := g 1 _ rfl
  refine yT.aan (pc' := 1) g0 rfl rfl rfl ?_
  obtain ⟨p1, w2, j⟩ := j
  refine yT.gR (pc' := 4) rfl rfl hT o0 rfl rfl w2 (fun o3 => ?_)
  refine yT.iln (pc' := 5) g1 rfl rfl ?_
  refine zR (yT.cw (G2 := 0) (pc' := 8) rfl rfl rfl hT o3 xM_71 (kWe_cell hT o3 x1 j) rfl (by decide) (by decide) rfl) (fun h4 hT5 j => ?_) (fun h4 p6 hT5 o8 j => ?_)
  · replace j := j.1 rfl
    refine yT.p (pc' := 9) (lv' := xst1 _ 2 (.null)) rfl rfl (fun _ _ _ _ => rfl) ?_
    refine yT.aan (pc' := 10) xg_eq rfl rfl rfl ?_
    refine yT.p (pc' := 25) rfl rfl (fun _ _ _ _ => rfl) ?_
    refine yT.zk (pc' := 26) (z := 0) rfl rfl (by decide) ?_
    exact yT.retZ rfl rfl (Or.inl rfl) ⟨_, rfl, hT5, (Or.inl rfl), j⟩
  · replace j := j.2 _ rfl
    refine yT.p (pc' := 9) (lv' := xst1 _ 2 (.ref (p6 + 1))) rfl rfl (fun _ _ _ _ => rfl) ?_
    refine yT.aan (pc' := 10) xg_eq rfl rfl rfl ?_
    refine yT.p (pc' := 13) rfl rfl (fun _ _ _ _ => rfl) ?_
    refine yT.aan (pc' := 14) xg_eq rfl rfl rfl ?_
    refine yT.gI (pc' := 17) rfl rfl hT5 o8 rfl ?_
    refine yT.zk (pc' := 18) (z := 5) rfl rfl (by decide) ?_
    refine yT.zeq2 (t := 25) (pc' := 21) rfl rfl rfl (fun c9 => ?_) (fun c9 => ?_)
    · replace j := j.1 c9
      refine yT.zk (pc' := 26) (z := 0) rfl rfl (by decide) ?_
      exact yT.retZ rfl rfl (Or.inl rfl) ⟨_, rfl, hT5, (Or.inl rfl), j⟩
    · replace j := j.2 c9
      refine yT.zk (pc' := 22) (z := 1) rfl rfl (by decide) ?_
      refine yT.p (pc' := 26) rfl rfl (fun _ _ _ _ => rfl) ?_
      exact yT.retZ rfl rfl (Or.inr rfl) ⟨_, rfl, hT5, (Or.inr rfl), j⟩
-- rX8_plain
def WPS_plain  (q0 : Nat) (x1 : Int32) (m : Mm) (K : Mm → Int64 → Prop) : Prop := WPS_hasOutcome q0 x1 m (fun m1 x3 => ((x3 = 0) → False) ∧ (¬ (x3 = 0) → ∃ p6, m1.rv q0 4 = p6 + 1 ∧ WBe_outcomeNow p6 x1 m1 (fun m9 z11 => K m9 z11)))
set_option maxRecDepth 100000 in
set_option maxHeartbeats 4000000 in
theorem kPS_plain {ks : List Nat} {h : List xE} (hT : TT ks h) {q0 : Nat} (o0 : xnth ks q0 = some 18) (x1 : Int32)  {K : Mm → Int64 → Prop} (j : WPS_plain  q0 x1 (mm h) K) : yM 98 (63) 0 [.ref (q0 + 1), .int x1] h (PL ks K) := by
  unfold WPS_plain at j
  refine yM.st xM_98 rfl rfl (fun lv g => ?_)
  have g0 := g 0 _ rfl
  have g1 := g 1 _ rfl
  refine yT.aan (pc' := 1) g0 rfl rfl rfl ?_
  refine yT.iln (pc' := 2) g1 rfl rfl ?_
  refine zZ (yT.cw (G2 := 0) (pc' := 5) rfl rfl rfl hT o0 xM_106 (kPS_hasOutcome hT o0 x1 j) rfl (by decide) (by decide) rfl) (fun h1 x3 hT2 b4 j => ?_)
  refine yT.zne1 (t := 15) (pc' := 8) rfl rfl rfl (fun c5 => ?_) (fun c5 => ?_)
  · replace j := j.1 c5
    refine yT.aan (pc' := 9) g0 rfl rfl rfl ?_
    refine yT.zb (pc' := 11) (z := (-2)) rfl rfl (by decide) ?_
    exact j.elim
  · replace j := j.2 c5
    refine yT.aan (pc' := 16) g0 rfl rfl rfl ?_
    obtain ⟨p6, w7, j⟩ := j
    refine yT.gR (pc' := 19) rfl rfl hT2 o0 rfl rfl w7 (fun o8 => ?_)
    refine yT.iln (pc' := 20) g1 rfl rfl ?_
    refine zL (yT.cw (G2 := 0) (pc' := 23) rfl rfl rfl hT2 o8 xM_1 (kBe_outcomeNow hT2 o8 x1 j) rfl (by decide) (by decide) rfl) (fun h9 z11 hT10 j => ?_)
    exact yT.retL rfl rfl ⟨_, rfl, hT10, j⟩
-- rX8_kept
def WPS_kept  (q0 : Nat) (x1 : Int32) (m : Mm) (K : Mm → Int64 → Prop) : Prop := ∃ p1, m.rv q0 0 = p1 + 1 ∧ WWe_cell p1 x1 m (fun m4 => nn (False) (fun p6 => (((m4.iv p6 0) = 5) → False) ∧ (¬ ((m4.iv p6 0) = 5) → K m4 (m4.lg p6 7))))
set_option maxRecDepth 100000 in
set_option maxHeartbeats 4000000 in
theorem kPS_kept {ks : List Nat} {h : List xE} (hT : TT ks h) {q0 : Nat} (o0 : xnth ks q0 = some 18) (x1 : Int32)  {K : Mm → Int64 → Prop} (j : WPS_kept  q0 x1 (mm h) K) : yM 96 (1) 0 [.ref (q0 + 1), .int x1] h (PL ks K) := by
  unfold WPS_kept at j
  refine yM.st xM_96 rfl rfl (fun lv g => ?_)
  have g0 := g 0 _ rfl
  have g1 := g 1 _ rfl
  refine yT.aan (pc' := 1) g0 rfl rfl rfl ?_
  obtain ⟨p1, w2, j⟩ := j
  refine yT.gR (pc' := 4) rfl rfl hT o0 rfl rfl w2 (fun o3 => ?_)
  refine yT.iln (pc' := 5) g1 rfl rfl ?_
  refine zR (yT.cw (G2 := 0) (pc' := 8) rfl rfl rfl hT o3 xM_71 (kWe_cell hT o3 x1 j) rfl (by decide) (by decide) rfl) (fun h4 hT5 j => ?_) (fun h4 p6 hT5 o8 j => ?_)
  · replace j := j.1 rfl
    refine yT.p (pc' := 9) (lv' := xst1 _ 2 (.null)) rfl rfl (fun _ _ _ _ => rfl) ?_
    refine yT.aan (pc' := 10) xg_eq rfl rfl rfl ?_
    refine yT.p (pc' := 21) rfl rfl (fun _ _ _ _ => rfl) ?_
    refine yT.aan (pc' := 22) (xg_ne g0 rfl) rfl rfl rfl ?_
    refine yT.zb (pc' := 24) (z := (-2)) rfl rfl (by decide) ?_
    exact j.elim
  · replace j := j.2 _ rfl
    refine yT.p (pc' := 9) (lv' := xst1 _ 2 (.ref (p6 + 1))) rfl rfl (fun _ _ _ _ => rfl) ?_
    refine yT.aan (pc' := 10) xg_eq rfl rfl rfl ?_
    refine yT.p (pc' := 13) rfl rfl (fun _ _ _ _ => rfl) ?_
    refine yT.aan (pc' := 14) xg_eq rfl rfl rfl ?_
    refine yT.gI (pc' := 17) rfl rfl hT5 o8 rfl ?_
    refine yT.zk (pc' := 18) (z := 5) rfl rfl (by decide) ?_
    refine yT.zne2 (t := 28) (pc' := 21) rfl rfl rfl (fun c9 => ?_) (fun c9 => ?_)
    · replace j := j.1 c9
      refine yT.aan (pc' := 22) (xg_ne g0 rfl) rfl rfl rfl ?_
      refine yT.zb (pc' := 24) (z := (-2)) rfl rfl (by decide) ?_
      exact j.elim
    · replace j := j.2 c9
      refine yT.aan (pc' := 29) xg_eq rfl rfl rfl ?_
      refine yT.gL (pc' := 32) rfl rfl hT5 o8 rfl ?_
      exact yT.retL rfl rfl ⟨_, rfl, hT5, j⟩
-- rX8_cellOf
def WPS_cellOf  (q0 : Nat) (x1 : Int32) (x2 : Int32) (m : Mm) (K : Mm → Int32 → Prop) : Prop := ∃ p1, m.rv q0 0 = p1 + 1 ∧ WWe_cell p1 x1 m (fun m4 => nn (False) (fun p6 => (x2.toInt = 0 → K m4 (m4.iv p6 0)) ∧ (¬ x2.toInt = 0 → (x2.toInt = 1 → K m4 (m4.iv p6 1)) ∧ (¬ x2.toInt = 1 → (x2.toInt = 2 → (m4.iv p6 2 = 0 ∨ m4.iv p6 2 = 1) → (((m4.iv p6 2) = 0) → K m4 0) ∧ (¬ ((m4.iv p6 2) = 0) → K m4 1)) ∧ (¬ x2.toInt = 2 → (x2.toInt = 3 → K m4 (m4.iv p6 4)) ∧ (¬ x2.toInt = 3 → (x2.toInt = 4 → K m4 ((m4.lg p6 5).toInt32)) ∧ (¬ x2.toInt = 4 → (x2.toInt = 5 → K m4 (m4.iv p6 6)) ∧ (¬ x2.toInt = 5 → (x2.toInt = 6 → ∃ p18, m4.rv p6 9 = p18 + 1 ∧ WNu_size p18 m4 (fun m21 x23 => K m21 x23)) ∧ (¬ x2.toInt = 6 → (x2.toInt = 7 → ∃ p25, m4.rv q0 0 = p25 + 1 ∧ WWe_readersOf p25 x1 m4 (fun m28 x30 => K m28 x30)) ∧ (¬ x2.toInt = 7 → (x2.toInt = 8 → ∃ p32, m4.rv q0 0 = p32 + 1 ∧ WWe_ownedBy p32 x1 m4 (fun m35 x37 => K m35 x37)) ∧ (¬ x2.toInt = 8 → (x2.toInt = 9 → ∃ p39, m4.rv q0 0 = p39 + 1 ∧ ∃ p42, m4.rv p39 3 = p42 + 1 ∧ False) ∧ (¬ x2.toInt = 9 → (x2.toInt = 10 → ∃ p46, m4.rv q0 0 = p46 + 1 ∧ False) ∧ (¬ x2.toInt = 10 → False)))))))))))))
set_option maxRecDepth 100000 in
set_option maxHeartbeats 4000000 in
theorem kPS_cellOf {ks : List Nat} {h : List xE} (hT : TT ks h) {q0 : Nat} (o0 : xnth ks q0 = some 18) (x1 : Int32) (x2 : Int32)  {K : Mm → Int32 → Prop} (j : WPS_cellOf  q0 x1 x2 (mm h) K) : yM 97 (1) 0 [.ref (q0 + 1), .int x1, .int x2] h (PI ks K) := by
  unfold WPS_cellOf at j
  refine yM.st xM_97 rfl rfl (fun lv g => ?_)
  have g0 := g 0 _ rfl
  have g1 := g 1 _ rfl
  have g2 := g 2 _ rfl
  refine yT.aan (pc' := 1) g0 rfl rfl rfl ?_
  obtain ⟨p1, w2, j⟩ := j
  refine yT.gR (pc' := 4) rfl rfl hT o0 rfl rfl w2 (fun o3 => ?_)
  refine yT.iln (pc' := 5) g1 rfl rfl ?_
  refine zR (yT.cw (G2 := 0) (pc' := 8) rfl rfl rfl hT o3 xM_71 (kWe_cell hT o3 x1 j) rfl (by decide) (by decide) rfl) (fun h4 hT5 j => ?_) (fun h4 p6 hT5 o8 j => ?_)
  · replace j := j.1 rfl
    refine yT.p (pc' := 9) (lv' := xst1 _ 3 (.null)) rfl rfl (fun _ _ _ _ => rfl) ?_
    refine yT.aan (pc' := 10) xg_eq rfl rfl rfl ?_
    refine yT.p (pc' := 13) rfl rfl (fun _ _ _ _ => rfl) ?_
    refine yT.aan (pc' := 14) (xg_ne g0 rfl) rfl rfl rfl ?_
    refine yT.zb (pc' := 16) (z := (-2)) rfl rfl (by decide) ?_
    exact j.elim
  · replace j := j.2 _ rfl
    refine yT.p (pc' := 9) (lv' := xst1 _ 3 (.ref (p6 + 1))) rfl rfl (fun _ _ _ _ => rfl) ?_
    refine yT.aan (pc' := 10) xg_eq rfl rfl rfl ?_
    refine yT.p (pc' := 20) rfl rfl (fun _ _ _ _ => rfl) ?_
    refine yT.iln (pc' := 21) (xg_ne g2 rfl) rfl rfl ?_
    by_cases c9 : x2.toInt = 0
    · replace j := j.1 c9
      refine yT.tswK 0 (t := 80) rfl rfl (by omega) rfl rfl ?_
      refine yT.aan (pc' := 81) xg_eq rfl rfl rfl ?_
      refine yT.gI (pc' := 84) rfl rfl hT5 o8 rfl ?_
      exact yT.retI rfl rfl ⟨_, rfl, hT5, j⟩
    · replace j := j.2 c9
      by_cases c10 : x2.toInt = 1
      · replace j := j.1 c10
        refine yT.tswK 1 (t := 85) rfl rfl (by omega) rfl rfl ?_
        refine yT.aan (pc' := 86) xg_eq rfl rfl rfl ?_
        refine yT.gI (pc' := 89) rfl rfl hT5 o8 rfl ?_
        exact yT.retI rfl rfl ⟨_, rfl, hT5, j⟩
      · replace j := j.2 c10
        by_cases c11 : x2.toInt = 2
        · replace j := j.1 c11
          refine yT.tswK 2 (t := 90) rfl rfl (by omega) rfl rfl ?_
          refine yT.aan (pc' := 91) xg_eq rfl rfl rfl ?_
          refine yT.gZ (pc' := 94) rfl rfl hT5 o8 rfl (fun b12 => ?_)
          replace j := j b12
          refine yT.zeq1 (t := 101) (pc' := 97) rfl rfl rfl (fun c13 => ?_) (fun c13 => ?_)
          · replace j := j.1 c13
            refine yT.zk (pc' := 102) (z := 0) rfl rfl (by decide) ?_
            exact yT.retI rfl rfl ⟨_, rfl, hT5, j⟩
          · replace j := j.2 c13
            refine yT.zk (pc' := 98) (z := 1) rfl rfl (by decide) ?_
            refine yT.p (pc' := 102) rfl rfl (fun _ _ _ _ => rfl) ?_
            exact yT.retI rfl rfl ⟨_, rfl, hT5, j⟩
        · replace j := j.2 c11
          by_cases c14 : x2.toInt = 3
          · replace j := j.1 c14
            refine yT.tswK 3 (t := 103) rfl rfl (by omega) rfl rfl ?_
            refine yT.aan (pc' := 104) xg_eq rfl rfl rfl ?_
            refine yT.gI (pc' := 107) rfl rfl hT5 o8 rfl ?_
            exact yT.retI rfl rfl ⟨_, rfl, hT5, j⟩
          · replace j := j.2 c14
            by_cases c15 : x2.toInt = 4
            · replace j := j.1 c15
              refine yT.tswK 4 (t := 108) rfl rfl (by omega) rfl rfl ?_
              refine yT.aan (pc' := 109) xg_eq rfl rfl rfl ?_
              refine yT.gL (pc' := 112) rfl rfl hT5 o8 rfl ?_
              refine yT.p (pc' := 113) rfl rfl (fun _ _ _ _ => rfl) ?_
              exact yT.retI rfl rfl ⟨_, rfl, hT5, j⟩
            · replace j := j.2 c15
              by_cases c16 : x2.toInt = 5
              · replace j := j.1 c16
                refine yT.tswK 5 (t := 114) rfl rfl (by omega) rfl rfl ?_
                refine yT.aan (pc' := 115) xg_eq rfl rfl rfl ?_
                refine yT.gI (pc' := 118) rfl rfl hT5 o8 rfl ?_
                exact yT.retI rfl rfl ⟨_, rfl, hT5, j⟩
              · replace j := j.2 c16
                by_cases c17 : x2.toInt = 6
                · replace j := j.1 c17
                  refine yT.tswK 6 (t := 119) rfl rfl (by omega) rfl rfl ?_
                  refine yT.aan (pc' := 120) xg_eq rfl rfl rfl ?_
                  obtain ⟨p18, w19, j⟩ := j
                  refine yT.gR (pc' := 123) rfl rfl hT5 o8 rfl rfl w19 (fun o20 => ?_)
                  refine zI (yT.cw (G2 := 0) (pc' := 126) rfl rfl rfl hT5 o20 xM_41 (kNu_size hT5 o20 j) rfl (by decide) (by decide) rfl) (fun h21 x23 hT22 j => ?_)
                  exact yT.retI rfl rfl ⟨_, rfl, hT22, j⟩
                · replace j := j.2 c17
                  by_cases c24 : x2.toInt = 7
                  · replace j := j.1 c24
                    refine yT.tswK 7 (t := 127) rfl rfl (by omega) rfl rfl ?_
                    refine yT.aan (pc' := 128) (xg_ne g0 rfl) rfl rfl rfl ?_
                    obtain ⟨p25, w26, j⟩ := j
                    refine yT.gR (pc' := 131) rfl rfl hT5 o0 rfl rfl w26 (fun o27 => ?_)
                    refine yT.iln (pc' := 132) (xg_ne g1 rfl) rfl rfl ?_
                    refine zI (yT.cw (G2 := 0) (pc' := 135) rfl rfl rfl hT5 o27 xM_78 (kWe_readersOf hT5 o27 x1 j) rfl (by decide) (by decide) rfl) (fun h28 x30 hT29 j => ?_)
                    exact yT.retI rfl rfl ⟨_, rfl, hT29, j⟩
                  · replace j := j.2 c24
                    by_cases c31 : x2.toInt = 8
                    · replace j := j.1 c31
                      refine yT.tswK 8 (t := 136) rfl rfl (by omega) rfl rfl ?_
                      refine yT.aan (pc' := 137) (xg_ne g0 rfl) rfl rfl rfl ?_
                      obtain ⟨p32, w33, j⟩ := j
                      refine yT.gR (pc' := 140) rfl rfl hT5 o0 rfl rfl w33 (fun o34 => ?_)
                      refine yT.iln (pc' := 141) (xg_ne g1 rfl) rfl rfl ?_
                      refine zI (yT.cw (G2 := 0) (pc' := 144) rfl rfl rfl hT5 o34 xM_75 (kWe_ownedBy hT5 o34 x1 j) rfl (by decide) (by decide) rfl) (fun h35 x37 hT36 j => ?_)
                      exact yT.retI rfl rfl ⟨_, rfl, hT36, j⟩
                    · replace j := j.2 c31
                      by_cases c38 : x2.toInt = 9
                      · replace j := j.1 c38
                        refine yT.tswK 9 (t := 145) rfl rfl (by omega) rfl rfl ?_
                        refine yT.aan (pc' := 146) (xg_ne g0 rfl) rfl rfl rfl ?_
                        obtain ⟨p39, w40, j⟩ := j
                        refine yT.gR (pc' := 149) rfl rfl hT5 o0 rfl rfl w40 (fun o41 => ?_)
                        obtain ⟨p42, w43, j⟩ := j
                        refine yT.gR (pc' := 152) rfl rfl hT5 o41 rfl rfl w43 (fun o44 => ?_)
                        refine yT.iln (pc' := 153) (xg_ne g1 rfl) rfl rfl ?_
                        exact j.elim
                      · replace j := j.2 c38
                        by_cases c45 : x2.toInt = 10
                        · replace j := j.1 c45
                          refine yT.tswK 10 (t := 165) rfl rfl (by omega) rfl rfl ?_
                          refine yT.aan (pc' := 166) (xg_ne g0 rfl) rfl rfl rfl ?_
                          obtain ⟨p46, w47, j⟩ := j
                          refine yT.gR (pc' := 169) rfl rfl hT5 o0 rfl rfl w47 (fun o48 => ?_)
                          refine yT.iln (pc' := 170) (xg_ne g1 rfl) rfl rfl ?_
                          exact j.elim
                        · replace j := j.2 c45
                          refine yT.tswD (t := 177) rfl rfl rfl (by omega) ?_
                          refine yT.aan (pc' := 178) (xg_ne g0 rfl) rfl rfl rfl ?_
                          refine yT.zb (pc' := 180) (z := (-2)) rfl rfl (by decide) ?_
                          exact j.elim
-- rX8_status
def WPS_status  (q0 : Nat) (x1 : Int32) (m : Mm) (K : Mm → Int32 → Prop) : Prop := (x1.toInt = 0 → ∃ p2, m.rv q0 0 = p2 + 1 ∧ WWe_count p2 m (fun m5 x7 => K m5 x7)) ∧ (¬ x1.toInt = 0 → (x1.toInt = 1 → ∃ p9, m.rv q0 0 = p9 + 1 ∧ False) ∧ (¬ x1.toInt = 1 → (x1.toInt = 2 → ∃ p13, m.rv q0 0 = p13 + 1 ∧ K m (m.iv p13 7)) ∧ (¬ x1.toInt = 2 → (x1.toInt = 3 → ∃ p17, m.rv q0 0 = p17 + 1 ∧ ∃ p20, m.rv p17 3 = p20 + 1 ∧ WNu_size p20 m (fun m23 x25 => K m23 x25)) ∧ (¬ x1.toInt = 3 → (x1.toInt = 4 → ∃ p27, m.rv q0 0 = p27 + 1 ∧ ∃ p30, m.rv p27 4 = p30 + 1 ∧ False) ∧ (¬ x1.toInt = 4 → (x1.toInt = 5 → ∃ p34, m.rv q0 0 = p34 + 1 ∧ ∃ p37, m.rv p34 6 = p37 + 1 ∧ False) ∧ (¬ x1.toInt = 5 → (x1.toInt = 6 → ∃ p41, m.rv q0 0 = p41 + 1 ∧ WWe_allRuns p41 m (fun m44 x46 => K m44 x46)) ∧ (¬ x1.toInt = 6 → (x1.toInt = 7 → ∃ p48, m.rv q0 6 = p48 + 1 ∧ WNu_size p48 m (fun m51 x53 => K m51 x53)) ∧ (¬ x1.toInt = 7 → (x1.toInt = 8 → ∃ p55, m.rv q0 0 = p55 + 1 ∧ K m (m.iv p55 8)) ∧ (¬ x1.toInt = 8 → (x1.toInt = 9 → False) ∧ (¬ x1.toInt = 9 → False))))))))))
set_option maxRecDepth 100000 in
set_option maxHeartbeats 4000000 in
theorem kPS_status {ks : List Nat} {h : List xE} (hT : TT ks h) {q0 : Nat} (o0 : xnth ks q0 = some 18) (x1 : Int32)  {K : Mm → Int32 → Prop} (j : WPS_status  q0 x1 (mm h) K) : yM 99 (1) 0 [.ref (q0 + 1), .int x1] h (PI ks K) := by
  unfold WPS_status at j
  refine yM.st xM_99 rfl rfl (fun lv g => ?_)
  have g0 := g 0 _ rfl
  have g1 := g 1 _ rfl
  refine yT.iln (pc' := 1) g1 rfl rfl ?_
  by_cases c1 : x1.toInt = 0
  · replace j := j.1 c1
    refine yT.tswK 0 (t := 56) rfl rfl (by omega) rfl rfl ?_
    refine yT.aan (pc' := 57) g0 rfl rfl rfl ?_
    obtain ⟨p2, w3, j⟩ := j
    refine yT.gR (pc' := 60) rfl rfl hT o0 rfl rfl w3 (fun o4 => ?_)
    refine zI (yT.cw (G2 := 0) (pc' := 63) rfl rfl rfl hT o4 xM_69 (kWe_count hT o4 j) rfl (by decide) (by decide) rfl) (fun h5 x7 hT6 j => ?_)
    exact yT.retI rfl rfl ⟨_, rfl, hT6, j⟩
  · replace j := j.2 c1
    by_cases c8 : x1.toInt = 1
    · replace j := j.1 c8
      refine yT.tswK 1 (t := 64) rfl rfl (by omega) rfl rfl ?_
      refine yT.aan (pc' := 65) g0 rfl rfl rfl ?_
      obtain ⟨p9, w10, j⟩ := j
      refine yT.gR (pc' := 68) rfl rfl hT o0 rfl rfl w10 (fun o11 => ?_)
      exact j.elim
    · replace j := j.2 c8
      by_cases c12 : x1.toInt = 2
      · replace j := j.1 c12
        refine yT.tswK 2 (t := 72) rfl rfl (by omega) rfl rfl ?_
        refine yT.aan (pc' := 73) g0 rfl rfl rfl ?_
        obtain ⟨p13, w14, j⟩ := j
        refine yT.gR (pc' := 76) rfl rfl hT o0 rfl rfl w14 (fun o15 => ?_)
        refine yT.gI (pc' := 79) rfl rfl hT o15 rfl ?_
        exact yT.retI rfl rfl ⟨_, rfl, hT, j⟩
      · replace j := j.2 c12
        by_cases c16 : x1.toInt = 3
        · replace j := j.1 c16
          refine yT.tswK 3 (t := 80) rfl rfl (by omega) rfl rfl ?_
          refine yT.aan (pc' := 81) g0 rfl rfl rfl ?_
          obtain ⟨p17, w18, j⟩ := j
          refine yT.gR (pc' := 84) rfl rfl hT o0 rfl rfl w18 (fun o19 => ?_)
          obtain ⟨p20, w21, j⟩ := j
          refine yT.gR (pc' := 87) rfl rfl hT o19 rfl rfl w21 (fun o22 => ?_)
          refine zI (yT.cw (G2 := 0) (pc' := 90) rfl rfl rfl hT o22 xM_41 (kNu_size hT o22 j) rfl (by decide) (by decide) rfl) (fun h23 x25 hT24 j => ?_)
          exact yT.retI rfl rfl ⟨_, rfl, hT24, j⟩
        · replace j := j.2 c16
          by_cases c26 : x1.toInt = 4
          · replace j := j.1 c26
            refine yT.tswK 4 (t := 91) rfl rfl (by omega) rfl rfl ?_
            refine yT.aan (pc' := 92) g0 rfl rfl rfl ?_
            obtain ⟨p27, w28, j⟩ := j
            refine yT.gR (pc' := 95) rfl rfl hT o0 rfl rfl w28 (fun o29 => ?_)
            obtain ⟨p30, w31, j⟩ := j
            refine yT.gR (pc' := 98) rfl rfl hT o29 rfl rfl w31 (fun o32 => ?_)
            exact j.elim
          · replace j := j.2 c26
            by_cases c33 : x1.toInt = 5
            · replace j := j.1 c33
              refine yT.tswK 5 (t := 102) rfl rfl (by omega) rfl rfl ?_
              refine yT.aan (pc' := 103) g0 rfl rfl rfl ?_
              obtain ⟨p34, w35, j⟩ := j
              refine yT.gR (pc' := 106) rfl rfl hT o0 rfl rfl w35 (fun o36 => ?_)
              obtain ⟨p37, w38, j⟩ := j
              refine yT.gR (pc' := 109) rfl rfl hT o36 rfl rfl w38 (fun o39 => ?_)
              exact j.elim
            · replace j := j.2 c33
              by_cases c40 : x1.toInt = 6
              · replace j := j.1 c40
                refine yT.tswK 6 (t := 113) rfl rfl (by omega) rfl rfl ?_
                refine yT.aan (pc' := 114) g0 rfl rfl rfl ?_
                obtain ⟨p41, w42, j⟩ := j
                refine yT.gR (pc' := 117) rfl rfl hT o0 rfl rfl w42 (fun o43 => ?_)
                refine zI (yT.cw (G2 := 0) (pc' := 120) rfl rfl rfl hT o43 xM_82 (kWe_allRuns hT o43 j) rfl (by decide) (by decide) rfl) (fun h44 x46 hT45 j => ?_)
                exact yT.retI rfl rfl ⟨_, rfl, hT45, j⟩
              · replace j := j.2 c40
                by_cases c47 : x1.toInt = 7
                · replace j := j.1 c47
                  refine yT.tswK 7 (t := 121) rfl rfl (by omega) rfl rfl ?_
                  refine yT.aan (pc' := 122) g0 rfl rfl rfl ?_
                  obtain ⟨p48, w49, j⟩ := j
                  refine yT.gR (pc' := 125) rfl rfl hT o0 rfl rfl w49 (fun o50 => ?_)
                  refine zI (yT.cw (G2 := 0) (pc' := 128) rfl rfl rfl hT o50 xM_41 (kNu_size hT o50 j) rfl (by decide) (by decide) rfl) (fun h51 x53 hT52 j => ?_)
                  exact yT.retI rfl rfl ⟨_, rfl, hT52, j⟩
                · replace j := j.2 c47
                  by_cases c54 : x1.toInt = 8
                  · replace j := j.1 c54
                    refine yT.tswK 8 (t := 129) rfl rfl (by omega) rfl rfl ?_
                    refine yT.aan (pc' := 130) g0 rfl rfl rfl ?_
                    obtain ⟨p55, w56, j⟩ := j
                    refine yT.gR (pc' := 133) rfl rfl hT o0 rfl rfl w56 (fun o57 => ?_)
                    refine yT.gI (pc' := 136) rfl rfl hT o57 rfl ?_
                    exact yT.retI rfl rfl ⟨_, rfl, hT, j⟩
                  · replace j := j.2 c54
                    by_cases c58 : x1.toInt = 9
                    · replace j := j.1 c58
                      refine yT.tswK 9 (t := 137) rfl rfl (by omega) rfl rfl ?_
                      refine yT.aan (pc' := 138) g0 rfl rfl rfl ?_
                      exact j.elim
                    · replace j := j.2 c58
                      refine yT.tswD (t := 142) rfl rfl rfl (by omega) ?_
                      refine yT.aan (pc' := 143) g0 rfl rfl rfl ?_
                      refine yT.iln (pc' := 144) g1 rfl rfl ?_
                      refine yT.zb (pc' := 146) (z := 12) rfl rfl (by decide) ?_
                      refine yT.p (pc' := 147) rfl rfl (fun _ _ _ _ => rfl) ?_
                      exact j.elim
-- rX8_begin
def WPS_begin  (q0 : Nat) (m : Mm) (K : Mm → Int32 → Prop) : Prop := ∃ p1, m.rv q0 0 = p1 + 1 ∧ ∀ m4, m4 = m.st p1 7 (.int ((m.iv p1 7) + (1 : Int32))) → ∃ p7, m4.rv q0 0 = p7 + 1 ∧ K m4 (m4.iv p7 7)
set_option maxRecDepth 100000 in
set_option maxHeartbeats 4000000 in
theorem kPS_begin {ks : List Nat} {h : List xE} (hT : TT ks h) {q0 : Nat} (o0 : xnth ks q0 = some 18)  {K : Mm → Int32 → Prop} (j : WPS_begin  q0 (mm h) K) : yM 93 (0) 0 [.ref (q0 + 1)] h (PI ks K) := by
  unfold WPS_begin at j
  refine yM.st xM_93 rfl rfl (fun lv g => ?_)
  have g0 := g 0 _ rfl
  refine yT.aan (pc' := 1) g0 rfl rfl rfl ?_
  obtain ⟨p1, w2, j⟩ := j
  refine yT.gR (pc' := 4) rfl rfl hT o0 rfl rfl w2 (fun o3 => ?_)
  refine yT.p (pc' := 5) rfl rfl (fun _ _ _ _ => rfl) ?_
  refine yT.gI (pc' := 8) rfl rfl hT o3 rfl ?_
  refine yT.zk (pc' := 9) (z := 1) rfl rfl (by decide) ?_
  refine yT.p (pc' := 10) rfl rfl (fun _ _ _ _ => rfl) ?_
  refine yT.sI (pc' := 13) rfl rfl hT o3 rfl rfl (fun h4 hT5 e6 => ?_)
  replace j := j _ e6
  refine yT.aan (pc' := 14) g0 rfl rfl rfl ?_
  obtain ⟨p7, w8, j⟩ := j
  refine yT.gR (pc' := 17) rfl rfl hT5 o0 rfl rfl w8 (fun o9 => ?_)
  refine yT.gI (pc' := 20) rfl rfl hT5 o9 rfl ?_
  exact yT.retI rfl rfl ⟨_, rfl, hT5, j⟩
-- rX8_end
def WPS_end  (q0 : Nat) (m : Mm) (K : Mm → Int32 → Prop) : Prop := ∃ p1, m.rv q0 0 = p1 + 1 ∧ ((0 < (m.iv p1 7).toInt) → ∀ m5, m5 = m.st p1 7 (.int ((m.iv p1 7) - (1 : Int32))) → ∃ p8, m5.rv q0 3 = p8 + 1 ∧ WPu_flushUnlessBatch p8 m5 (fun m11 => ∃ p13, m11.rv q0 0 = p13 + 1 ∧ K m11 (m11.iv p13 7))) ∧ (¬ (0 < (m.iv p1 7).toInt) → False)
set_option maxRecDepth 100000 in
set_option maxHeartbeats 4000000 in
theorem kPS_end {ks : List Nat} {h : List xE} (hT : TT ks h) {q0 : Nat} (o0 : xnth ks q0 = some 18)  {K : Mm → Int32 → Prop} (j : WPS_end  q0 (mm h) K) : yM 94 (89) 0 [.ref (q0 + 1)] h (PI ks K) := by
  unfold WPS_end at j
  refine yM.st xM_94 rfl rfl (fun lv g => ?_)
  have g0 := g 0 _ rfl
  refine yT.aan (pc' := 1) g0 rfl rfl rfl ?_
  obtain ⟨p1, w2, j⟩ := j
  refine yT.gR (pc' := 4) rfl rfl hT o0 rfl rfl w2 (fun o3 => ?_)
  refine yT.gI (pc' := 7) rfl rfl hT o3 rfl ?_
  refine yT.zgt1 (t := 17) (pc' := 10) rfl rfl rfl (fun c4 => ?_) (fun c4 => ?_)
  · replace j := j.1 c4
    refine yT.aan (pc' := 18) g0 rfl rfl rfl ?_
    refine yT.gR (pc' := 21) rfl rfl hT o0 rfl rfl w2 (fun _ => ?_)
    refine yT.p (pc' := 22) rfl rfl (fun _ _ _ _ => rfl) ?_
    refine yT.gI (pc' := 25) rfl rfl hT o3 rfl ?_
    refine yT.zk (pc' := 26) (z := 1) rfl rfl (by decide) ?_
    refine yT.p (pc' := 27) rfl rfl (fun _ _ _ _ => rfl) ?_
    refine yT.sI (pc' := 30) rfl rfl hT o3 rfl rfl (fun h5 hT6 e7 => ?_)
    replace j := j _ e7
    refine yT.aan (pc' := 31) g0 rfl rfl rfl ?_
    obtain ⟨p8, w9, j⟩ := j
    refine yT.gR (pc' := 34) rfl rfl hT6 o0 rfl rfl w9 (fun o10 => ?_)
    refine zV (yT.cw (G2 := 0) (pc' := 37) rfl rfl rfl hT6 o10 xM_57 (kPu_flushUnlessBatch hT6 o10 j) rfl (by decide) (by decide) rfl) (fun h11 hT12 j => ?_)
    refine yT.aan (pc' := 38) g0 rfl rfl rfl ?_
    obtain ⟨p13, w14, j⟩ := j
    refine yT.gR (pc' := 41) rfl rfl hT12 o0 rfl rfl w14 (fun o15 => ?_)
    refine yT.gI (pc' := 44) rfl rfl hT12 o15 rfl ?_
    exact yT.retI rfl rfl ⟨_, rfl, hT12, j⟩
  · replace j := j.2 c4
    refine yT.aan (pc' := 11) g0 rfl rfl rfl ?_
    refine yT.zb (pc' := 13) (z := (-5)) rfl rfl (by decide) ?_
    exact j.elim
-- rX8_read
def WPS_read  (q0 : Nat) (x1 : Int32) (m : Mm) (K : Mm → Int64 → Prop) : Prop := ∃ p1, m.rv q0 0 = p1 + 1 ∧ WWe_cell p1 x1 m (fun m4 => nn (False) (fun p6 => (((m4.iv p6 0) = 5) → False) ∧ (¬ ((m4.iv p6 0) = 5) → (m4.iv p6 2 = 0 ∨ m4.iv p6 2 = 1) → (((m4.iv p6 2) = 0) → (((m4.iv p6 0) = 3) → ∃ p13, m4.rv q0 3 = p13 + 1 ∧ WPu_pull p13 x1 m4 (fun m16 => ∃ p18, m16.rv q0 3 = p18 + 1 ∧ WPu_flushUnlessBatch p18 m16 (fun m21 => K m21 (m16.lg p6 7)))) ∧ (¬ ((m4.iv p6 0) = 3) → ∃ p23, m4.rv q0 3 = p23 + 1 ∧ WPu_flushUnlessBatch p23 m4 (fun m26 => K m26 (m4.lg p6 7)))) ∧ (¬ ((m4.iv p6 2) = 0) → False))))
set_option maxRecDepth 100000 in
set_option maxHeartbeats 4000000 in
theorem kPS_read {ks : List Nat} {h : List xE} (hT : TT ks h) {q0 : Nat} (o0 : xnth ks q0 = some 18) (x1 : Int32)  {K : Mm → Int64 → Prop} (j : WPS_read  q0 x1 (mm h) K) : yM 95 (89) 0 [.ref (q0 + 1), .int x1] h (PL ks K) := by
  unfold WPS_read at j
  refine yM.st xM_95 rfl rfl (fun lv g => ?_)
  have g0 := g 0 _ rfl
  have g1 := g 1 _ rfl
  refine yT.aan (pc' := 1) g0 rfl rfl rfl ?_
  obtain ⟨p1, w2, j⟩ := j
  refine yT.gR (pc' := 4) rfl rfl hT o0 rfl rfl w2 (fun o3 => ?_)
  refine yT.iln (pc' := 5) g1 rfl rfl ?_
  refine zR (yT.cw (G2 := 0) (pc' := 8) rfl rfl rfl hT o3 xM_71 (kWe_cell hT o3 x1 j) rfl (by decide) (by decide) rfl) (fun h4 hT5 j => ?_) (fun h4 p6 hT5 o8 j => ?_)
  · replace j := j.1 rfl
    refine yT.p (pc' := 9) (lv' := xst1 _ 2 (.null)) rfl rfl (fun _ _ _ _ => rfl) ?_
    refine yT.aan (pc' := 10) xg_eq rfl rfl rfl ?_
    refine yT.p (pc' := 21) rfl rfl (fun _ _ _ _ => rfl) ?_
    refine yT.aan (pc' := 22) (xg_ne g0 rfl) rfl rfl rfl ?_
    refine yT.zb (pc' := 24) (z := (-2)) rfl rfl (by decide) ?_
    exact j.elim
  · replace j := j.2 _ rfl
    refine yT.p (pc' := 9) (lv' := xst1 _ 2 (.ref (p6 + 1))) rfl rfl (fun _ _ _ _ => rfl) ?_
    refine yT.aan (pc' := 10) xg_eq rfl rfl rfl ?_
    refine yT.p (pc' := 13) rfl rfl (fun _ _ _ _ => rfl) ?_
    refine yT.aan (pc' := 14) xg_eq rfl rfl rfl ?_
    refine yT.gI (pc' := 17) rfl rfl hT5 o8 rfl ?_
    refine yT.zk (pc' := 18) (z := 5) rfl rfl (by decide) ?_
    refine yT.zne2 (t := 28) (pc' := 21) rfl rfl rfl (fun c9 => ?_) (fun c9 => ?_)
    · replace j := j.1 c9
      refine yT.aan (pc' := 22) (xg_ne g0 rfl) rfl rfl rfl ?_
      refine yT.zb (pc' := 24) (z := (-2)) rfl rfl (by decide) ?_
      exact j.elim
    · replace j := j.2 c9
      refine yT.aan (pc' := 29) xg_eq rfl rfl rfl ?_
      refine yT.gZ (pc' := 32) rfl rfl hT5 o8 rfl (fun b10 => ?_)
      replace j := j b10
      refine yT.zeq1 (t := 42) (pc' := 35) rfl rfl rfl (fun c11 => ?_) (fun c11 => ?_)
      · replace j := j.1 c11
        refine yT.aan (pc' := 43) xg_eq rfl rfl rfl ?_
        refine yT.gI (pc' := 46) rfl rfl hT5 o8 rfl ?_
        refine yT.zk (pc' := 47) (z := 3) rfl rfl (by decide) ?_
        refine yT.zne2 (t := 58) (pc' := 50) rfl rfl rfl (fun c12 => ?_) (fun c12 => ?_)
        · replace j := j.1 c12
          refine yT.aan (pc' := 51) (xg_ne g0 rfl) rfl rfl rfl ?_
          obtain ⟨p13, w14, j⟩ := j
          refine yT.gR (pc' := 54) rfl rfl hT5 o0 rfl rfl w14 (fun o15 => ?_)
          refine yT.iln (pc' := 55) (xg_ne g1 rfl) rfl rfl ?_
          refine zV (yT.cw (G2 := 0) (pc' := 58) rfl rfl rfl hT5 o15 xM_56 (kPu_pull hT5 o15 x1 j) rfl (by decide) (by decide) rfl) (fun h16 hT17 j => ?_)
          refine yT.aan (pc' := 59) xg_eq rfl rfl rfl ?_
          refine yT.gL (pc' := 62) rfl rfl hT17 o8 rfl ?_
          refine yT.p (pc' := 63) (lv' := xst2 _ 3 (.long ((mm h16).lg p6 7))) rfl rfl (fun _ _ _ _ => rfl) ?_
          refine yT.aan (pc' := 64) (xg2_ne (xg_ne g0 rfl) rfl) rfl rfl rfl ?_
          obtain ⟨p18, w19, j⟩ := j
          refine yT.gR (pc' := 67) rfl rfl hT17 o0 rfl rfl w19 (fun o20 => ?_)
          refine zV (yT.cw (G2 := 0) (pc' := 70) rfl rfl rfl hT17 o20 xM_57 (kPu_flushUnlessBatch hT17 o20 j) rfl (by decide) (by decide) rfl) (fun h21 hT22 j => ?_)
          refine yT.lln (pc' := 71) xg2_eq rfl rfl ?_
          exact yT.retL rfl rfl ⟨_, rfl, hT22, j⟩
        · replace j := j.2 c12
          refine yT.aan (pc' := 59) xg_eq rfl rfl rfl ?_
          refine yT.gL (pc' := 62) rfl rfl hT5 o8 rfl ?_
          refine yT.p (pc' := 63) (lv' := xst2 _ 3 (.long ((mm h4).lg p6 7))) rfl rfl (fun _ _ _ _ => rfl) ?_
          refine yT.aan (pc' := 64) (xg2_ne (xg_ne g0 rfl) rfl) rfl rfl rfl ?_
          obtain ⟨p23, w24, j⟩ := j
          refine yT.gR (pc' := 67) rfl rfl hT5 o0 rfl rfl w24 (fun o25 => ?_)
          refine zV (yT.cw (G2 := 0) (pc' := 70) rfl rfl rfl hT5 o25 xM_57 (kPu_flushUnlessBatch hT5 o25 j) rfl (by decide) (by decide) rfl) (fun h26 hT27 j => ?_)
          refine yT.lln (pc' := 71) xg2_eq rfl rfl ?_
          exact yT.retL rfl rfl ⟨_, rfl, hT27, j⟩
      · replace j := j.2 c11
        refine yT.aan (pc' := 36) (xg_ne g0 rfl) rfl rfl rfl ?_
        refine yT.zb (pc' := 38) (z := (-5)) rfl rfl (by decide) ?_
        exact j.elim
-- rX8_write
def WPS_write  (q0 : Nat) (x1 : Int32) (x2 : Int32) (m : Mm) (K : Mm → Int32 → Prop) : Prop := ∃ p1, m.rv q0 0 = p1 + 1 ∧ WWe_cell p1 x1 m (fun m4 => nn (False) (fun p6 => (((m4.iv p6 0) = 1) → (m4.iv p6 2 = 0 ∨ m4.iv p6 2 = 1) → (((m4.iv p6 2) = 0) → ∃ p12, m4.rv q0 3 = p12 + 1 ∧ WPu_writeTo p12 x1 x2 m4 (fun m15 x17 => ∃ p19, m15.rv q0 3 = p19 + 1 ∧ WPu_flushUnlessBatch p19 m15 (fun m22 => K m22 ((m22.lg p6 5).toInt32)))) ∧ (¬ ((m4.iv p6 2) = 0) → False)) ∧ (¬ ((m4.iv p6 0) = 1) → False)))
set_option maxRecDepth 100000 in
set_option maxHeartbeats 4000000 in
theorem kPS_write {ks : List Nat} {h : List xE} (hT : TT ks h) {q0 : Nat} (o0 : xnth ks q0 = some 18) (x1 : Int32) (x2 : Int32)  {K : Mm → Int32 → Prop} (j : WPS_write  q0 x1 x2 (mm h) K) : yM 92 (89) 0 [.ref (q0 + 1), .int x1, .int x2] h (PI ks K) := by
  unfold WPS_write at j
  refine yM.st xM_92 rfl rfl (fun lv g => ?_)
  have g0 := g 0 _ rfl
  have g1 := g 1 _ rfl
  have g2 := g 2 _ rfl
  refine yT.aan (pc' := 1) g0 rfl rfl rfl ?_
  obtain ⟨p1, w2, j⟩ := j
  refine yT.gR (pc' := 4) rfl rfl hT o0 rfl rfl w2 (fun o3 => ?_)
  refine yT.iln (pc' := 5) g1 rfl rfl ?_
  refine zR (yT.cw (G2 := 0) (pc' := 8) rfl rfl rfl hT o3 xM_71 (kWe_cell hT o3 x1 j) rfl (by decide) (by decide) rfl) (fun h4 hT5 j => ?_) (fun h4 p6 hT5 o8 j => ?_)
  · replace j := j.1 rfl
    refine yT.p (pc' := 9) (lv' := xst1 _ 3 (.null)) rfl rfl (fun _ _ _ _ => rfl) ?_
    refine yT.aan (pc' := 10) xg_eq rfl rfl rfl ?_
    refine yT.p (pc' := 21) rfl rfl (fun _ _ _ _ => rfl) ?_
    refine yT.aan (pc' := 22) (xg_ne g0 rfl) rfl rfl rfl ?_
    refine yT.zb (pc' := 24) (z := (-2)) rfl rfl (by decide) ?_
    exact j.elim
  · replace j := j.2 _ rfl
    refine yT.p (pc' := 9) (lv' := xst1 _ 3 (.ref (p6 + 1))) rfl rfl (fun _ _ _ _ => rfl) ?_
    refine yT.aan (pc' := 10) xg_eq rfl rfl rfl ?_
    refine yT.p (pc' := 13) rfl rfl (fun _ _ _ _ => rfl) ?_
    refine yT.aan (pc' := 14) xg_eq rfl rfl rfl ?_
    refine yT.gI (pc' := 17) rfl rfl hT5 o8 rfl ?_
    refine yT.zk (pc' := 18) (z := 1) rfl rfl (by decide) ?_
    refine yT.zeq2 (t := 28) (pc' := 21) rfl rfl rfl (fun c9 => ?_) (fun c9 => ?_)
    · replace j := j.1 c9
      refine yT.aan (pc' := 29) xg_eq rfl rfl rfl ?_
      refine yT.gZ (pc' := 32) rfl rfl hT5 o8 rfl (fun b10 => ?_)
      replace j := j b10
      refine yT.zeq1 (t := 42) (pc' := 35) rfl rfl rfl (fun c11 => ?_) (fun c11 => ?_)
      · replace j := j.1 c11
        refine yT.aan (pc' := 43) (xg_ne g0 rfl) rfl rfl rfl ?_
        obtain ⟨p12, w13, j⟩ := j
        refine yT.gR (pc' := 46) rfl rfl hT5 o0 rfl rfl w13 (fun o14 => ?_)
        refine yT.iln (pc' := 47) (xg_ne g1 rfl) rfl rfl ?_
        refine yT.iln (pc' := 48) (xg_ne g2 rfl) rfl rfl ?_
        refine zZ (yT.cw (G2 := 0) (pc' := 51) rfl rfl rfl hT5 o14 xM_58 (kPu_writeTo hT5 o14 x1 x2 j) rfl (by decide) (by decide) rfl) (fun h15 x17 hT16 b18 j => ?_)
        refine yT.p (pc' := 52) rfl rfl (fun _ _ _ _ => rfl) ?_
        refine yT.aan (pc' := 53) (xg_ne g0 rfl) rfl rfl rfl ?_
        obtain ⟨p19, w20, j⟩ := j
        refine yT.gR (pc' := 56) rfl rfl hT16 o0 rfl rfl w20 (fun o21 => ?_)
        refine zV (yT.cw (G2 := 0) (pc' := 59) rfl rfl rfl hT16 o21 xM_57 (kPu_flushUnlessBatch hT16 o21 j) rfl (by decide) (by decide) rfl) (fun h22 hT23 j => ?_)
        refine yT.aan (pc' := 60) xg_eq rfl rfl rfl ?_
        refine yT.gL (pc' := 63) rfl rfl hT23 o8 rfl ?_
        refine yT.p (pc' := 64) rfl rfl (fun _ _ _ _ => rfl) ?_
        exact yT.retI rfl rfl ⟨_, rfl, hT23, j⟩
      · replace j := j.2 c11
        refine yT.aan (pc' := 36) (xg_ne g0 rfl) rfl rfl rfl ?_
        refine yT.zb (pc' := 38) (z := (-5)) rfl rfl (by decide) ?_
        exact j.elim
    · replace j := j.2 c9
      refine yT.aan (pc' := 22) (xg_ne g0 rfl) rfl rfl rfl ?_
      refine yT.zb (pc' := 24) (z := (-2)) rfl rfl (by decide) ?_
      exact j.elim
