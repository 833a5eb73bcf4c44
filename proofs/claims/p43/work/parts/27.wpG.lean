-- rX8_feed
def WPS_feed  (q0 : Nat) (x1 : Int32) (m : Mm) (K : Mm → Int32 → Prop) : Prop := ((x1.toInt < 0) → False) ∧ (¬ (x1.toInt < 0) → (((255 : Int32).toInt < x1.toInt) → False) ∧ (¬ ((255 : Int32).toInt < x1.toInt) → ∃ p3, m.rv q0 6 = p3 + 1 ∧ WNu_size p3 m (fun m6 x8 => ((x8.toInt < (250 : Int32).toInt) → ∃ p10, m6.rv q0 6 = p10 + 1 ∧ WNu_add p10 x1 m6 (fun m13 => ∃ p15, m13.rv q0 6 = p15 + 1 ∧ WNu_size p15 m13 (fun m18 x20 => K m18 x20))) ∧ (¬ (x8.toInt < (250 : Int32).toInt) → False))))
set_option maxRecDepth 100000 in
set_option maxHeartbeats 4000000 in
theorem kPS_feed {ks : List Nat} {h : List xE} (hT : TT ks h) {q0 : Nat} (o0 : xnth ks q0 = some 18) (x1 : Int32)  {K : Mm → Int32 → Prop} (j : WPS_feed  q0 x1 (mm h) K) : yM 86 (1) 0 [.ref (q0 + 1), .int x1] h (PI ks K) := by
  unfold WPS_feed at j
  refine yM.st xM_86 rfl rfl (fun lv g => ?_)
  have g0 := g 0 _ rfl
  have g1 := g 1 _ rfl
  refine yT.iln (pc' := 1) g1 rfl rfl ?_
  refine yT.zlt1 (t := 11) (pc' := 4) rfl rfl rfl (fun c1 => ?_) (fun c1 => ?_)
  · replace j := j.1 c1
    refine yT.aan (pc' := 12) g0 rfl rfl rfl ?_
    refine yT.zb (pc' := 14) (z := (-2)) rfl rfl (by decide) ?_
    exact j.elim
  · replace j := j.2 c1
    refine yT.iln (pc' := 5) g1 rfl rfl ?_
    refine yT.zs (pc' := 8) (z := 255) rfl rfl (by decide) ?_
    refine yT.zle2 (t := 18) (pc' := 11) rfl rfl rfl (fun c2 => ?_) (fun c2 => ?_)
    · replace j := j.1 c2
      refine yT.aan (pc' := 12) g0 rfl rfl rfl ?_
      refine yT.zb (pc' := 14) (z := (-2)) rfl rfl (by decide) ?_
      exact j.elim
    · replace j := j.2 c2
      refine yT.aan (pc' := 19) g0 rfl rfl rfl ?_
      obtain ⟨p3, w4, j⟩ := j
      refine yT.gR (pc' := 22) rfl rfl hT o0 rfl rfl w4 (fun o5 => ?_)
      refine zI (yT.cw (G2 := 0) (pc' := 25) rfl rfl rfl hT o5 xM_41 (kNu_size hT o5 j) rfl (by decide) (by decide) rfl) (fun h6 x8 hT7 j => ?_)
      refine yT.zs (pc' := 28) (z := 250) rfl rfl (by decide) ?_
      refine yT.zlt2 (t := 38) (pc' := 31) rfl rfl rfl (fun c9 => ?_) (fun c9 => ?_)
      · replace j := j.1 c9
        refine yT.aan (pc' := 39) g0 rfl rfl rfl ?_
        obtain ⟨p10, w11, j⟩ := j
        refine yT.gR (pc' := 42) rfl rfl hT7 o0 rfl rfl w11 (fun o12 => ?_)
        refine yT.iln (pc' := 43) g1 rfl rfl ?_
        refine zV (yT.cw (G2 := 0) (pc' := 46) rfl rfl rfl hT7 o12 xM_47 (kNu_add hT7 o12 x1 j) rfl (by decide) (by decide) rfl) (fun h13 hT14 j => ?_)
        refine yT.aan (pc' := 47) g0 rfl rfl rfl ?_
        obtain ⟨p15, w16, j⟩ := j
        refine yT.gR (pc' := 50) rfl rfl hT14 o0 rfl rfl w16 (fun o17 => ?_)
        refine zI (yT.cw (G2 := 0) (pc' := 53) rfl rfl rfl hT14 o17 xM_41 (kNu_size hT14 o17 j) rfl (by decide) (by decide) rfl) (fun h18 x20 hT19 j => ?_)
        exact yT.retI rfl rfl ⟨_, rfl, hT19, j⟩
      · replace j := j.2 c9
        refine yT.aan (pc' := 32) g0 rfl rfl rfl ?_
        refine yT.zb (pc' := 34) (z := (-6)) rfl rfl (by decide) ?_
        exact j.elim
-- rX8_newCell
def WPS_newCell  (q0 : Nat) (x1 : Int32) (x2 : Int32) (x3 : Int32) (m : Mm) (K : Mm → Int32 → Prop) : Prop := ∃ p1, m.rv q0 0 = p1 + 1 ∧ WWe_mayOwn p1 x2 m (fun m4 x6 => ((x6 = 0) → False) ∧ (¬ (x6 = 0) → ∃ p9, m4.rv q0 0 = p9 + 1 ∧ WWe_isFull p9 m4 (fun m12 x14 => ((x14 = 0) → ∃ p17, m12.rv q0 0 = p17 + 1 ∧ WWe_addCell p17 x1 x2 x3.toInt64 0 m12 (fun m20 x24 => K m20 x24)) ∧ (¬ (x14 = 0) → False))))
set_option maxRecDepth 100000 in
set_option maxHeartbeats 4000000 in
theorem kPS_newCell {ks : List Nat} {h : List xE} (hT : TT ks h) {q0 : Nat} (o0 : xnth ks q0 = some 18) (x1 : Int32) (x2 : Int32) (x3 : Int32)  {K : Mm → Int32 → Prop} (j : WPS_newCell  q0 x1 x2 x3 (mm h) K) : yM 88 (5) 763 [.ref (q0 + 1), .int x1, .int x2, .int x3] h (PIa ks K) := by
  unfold WPS_newCell at j
  refine yM.st xM_88 rfl rfl (fun lv g => ?_)
  have g0 := g 0 _ rfl
  have g1 := g 1 _ rfl
  have g2 := g 2 _ rfl
  have g3 := g 3 _ rfl
  refine yT.aan (pc' := 1) g0 rfl rfl rfl ?_
  obtain ⟨p1, w2, j⟩ := j
  refine yT.gR (pc' := 4) rfl rfl hT o0 rfl rfl w2 (fun o3 => ?_)
  refine yT.iln (pc' := 5) g2 rfl rfl ?_
  refine zZ (yT.cw (G2 := 763) (pc' := 8) rfl rfl rfl hT o3 xM_72 (kWe_mayOwn hT o3 x2 j) rfl (by decide) (by decide) rfl) (fun h4 x6 hT5 b7 j => ?_)
  refine yT.zne1 (t := 18) (pc' := 11) rfl rfl rfl (fun c8 => ?_) (fun c8 => ?_)
  · replace j := j.1 c8
    refine yT.aan (pc' := 12) g0 rfl rfl rfl ?_
    refine yT.zb (pc' := 14) (z := (-2)) rfl rfl (by decide) ?_
    exact j.elim
  · replace j := j.2 c8
    refine yT.aan (pc' := 19) g0 rfl rfl rfl ?_
    obtain ⟨p9, w10, j⟩ := j
    refine yT.gR (pc' := 22) rfl rfl hT5 o0 rfl rfl w10 (fun o11 => ?_)
    refine zZ (yT.cw (G2 := 763) (pc' := 25) rfl rfl rfl hT5 o11 xM_70 (kWe_isFull hT5 o11 j) rfl (by decide) (by decide) rfl) (fun h12 x14 hT13 b15 j => ?_)
    refine yT.zeq1 (t := 35) (pc' := 28) rfl rfl rfl (fun c16 => ?_) (fun c16 => ?_)
    · replace j := j.1 c16
      refine yT.aan (pc' := 36) g0 rfl rfl rfl ?_
      obtain ⟨p17, w18, j⟩ := j
      refine yT.gR (pc' := 39) rfl rfl hT13 o0 rfl rfl w18 (fun o19 => ?_)
      refine yT.iln (pc' := 40) g1 rfl rfl ?_
      refine yT.iln (pc' := 41) g2 rfl rfl ?_
      refine yT.iln (pc' := 42) g3 rfl rfl ?_
      refine yT.p (pc' := 43) rfl rfl (fun _ _ _ _ => rfl) ?_
      refine yT.p (pc' := 44) rfl rfl (fun _ _ _ _ => rfl) ?_
      refine zIa (yT.cw (G2 := 0) (pc' := 47) rfl rfl rfl hT13 o19 xM_73 (kWe_addCell hT13 o19 x1 x2 x3.toInt64 (Or.inl ⟨rfl, rfl⟩) j) rfl (by decide) (by decide) rfl) (fun h20 ks22 kg23 x24 hT21 j => ?_)
      exact yT.retI rfl rfl ⟨_, rfl, _, kg23, hT21, j⟩
    · replace j := j.2 c16
      refine yT.aan (pc' := 29) g0 rfl rfl rfl ?_
      refine yT.zb (pc' := 31) (z := (-6)) rfl rfl (by decide) ?_
      exact j.elim
-- rX8_source
def WPS_source  (q0 : Nat) (x1 : Int32) (x2 : Int32) (m : Mm) (K : Mm → Int32 → Prop) : Prop := WPS_newCell q0 1 x2 x1 m (fun m1 x5 => K m1 x5)
set_option maxRecDepth 100000 in
set_option maxHeartbeats 4000000 in
theorem kPS_source {ks : List Nat} {h : List xE} (hT : TT ks h) {q0 : Nat} (o0 : xnth ks q0 = some 18) (x1 : Int32) (x2 : Int32)  {K : Mm → Int32 → Prop} (j : WPS_source  q0 x1 x2 (mm h) K) : yM 87 (6) 763 [.ref (q0 + 1), .int x1, .int x2] h (PIa ks K) := by
  unfold WPS_source at j
  refine yM.st xM_87 rfl rfl (fun lv g => ?_)
  have g0 := g 0 _ rfl
  have g1 := g 1 _ rfl
  have g2 := g 2 _ rfl
  refine yT.aan (pc' := 1) g0 rfl rfl rfl ?_
  refine yT.zk (pc' := 2) (z := 1) rfl rfl (by decide) ?_
  refine yT.iln (pc' := 3) g2 rfl rfl ?_
  refine yT.iln (pc' := 4) g1 rfl rfl ?_
  refine zIa (yT.cw (G2 := 0) (pc' := 7) rfl rfl rfl hT o0 xM_88 (kPS_newCell hT o0 1 x2 x1 j) rfl (by decide) (by decide) rfl) (fun h1 ks3 kg4 x5 hT2 j => ?_)
  exact yT.retI rfl rfl ⟨_, rfl, _, kg4, hT2, j⟩
-- rX8_newComputed
def WPS_newComputed  (q0 : Nat) (x1 : Int32) (x2 : Int32) (m : Mm) (K : Mm → Int32 → Prop) : Prop := ∃ p1, m.rv q0 0 = p1 + 1 ∧ WWe_mayOwn p1 x2 m (fun m4 x6 => ((x6 = 0) → False) ∧ (¬ (x6 = 0) → ∃ p9, m4.rv q0 5 = p9 + 1 ∧ ∃ p12, m4.rv q0 6 = p12 + 1 ∧ ∃ p15, m4.rv q0 0 = p15 + 1 ∧ WWe_count p15 m4 (fun m18 x20 => WRe_take p9 p12 x20 m18 (fun m21 => nn (False) (fun p25 => ∃ p28, m21.rv q0 0 = p28 + 1 ∧ WWe_isFull p28 m21 (fun m31 x33 => ((x33 = 0) → ∃ p36, m31.rv q0 0 = p36 + 1 ∧ WWe_addCell p36 x1 x2 0 (p25 + 1) m31 (fun m39 x43 => K m39 x43)) ∧ (¬ (x33 = 0) → False)))))))
set_option maxRecDepth 100000 in
set_option maxHeartbeats 4000000 in
theorem kPS_newComputed {ks : List Nat} {h : List xE} (hT : TT ks h) {q0 : Nat} (o0 : xnth ks q0 = some 18) (x1 : Int32) (x2 : Int32)  {K : Mm → Int32 → Prop} (j : WPS_newComputed  q0 x1 x2 (mm h) K) : yM 91 (6) 3783 [.ref (q0 + 1), .int x1, .int x2] h (PIa ks K) := by
  unfold WPS_newComputed at j
  refine yM.st xM_91 rfl rfl (fun lv g => ?_)
  have g0 := g 0 _ rfl
  have g1 := g 1 _ rfl
  have g2 := g 2 _ rfl
  refine yT.aan (pc' := 1) g0 rfl rfl rfl ?_
  obtain ⟨p1, w2, j⟩ := j
  refine yT.gR (pc' := 4) rfl rfl hT o0 rfl rfl w2 (fun o3 => ?_)
  refine yT.iln (pc' := 5) g2 rfl rfl ?_
  refine zZ (yT.cw (G2 := 3783) (pc' := 8) rfl rfl rfl hT o3 xM_72 (kWe_mayOwn hT o3 x2 j) rfl (by decide) (by decide) rfl) (fun h4 x6 hT5 b7 j => ?_)
  refine yT.zne1 (t := 18) (pc' := 11) rfl rfl rfl (fun c8 => ?_) (fun c8 => ?_)
  · replace j := j.1 c8
    refine yT.aan (pc' := 12) g0 rfl rfl rfl ?_
    refine yT.zb (pc' := 14) (z := (-2)) rfl rfl (by decide) ?_
    exact j.elim
  · replace j := j.2 c8
    refine yT.aan (pc' := 19) g0 rfl rfl rfl ?_
    obtain ⟨p9, w10, j⟩ := j
    refine yT.gR (pc' := 22) rfl rfl hT5 o0 rfl rfl w10 (fun o11 => ?_)
    refine yT.aan (pc' := 23) g0 rfl rfl rfl ?_
    obtain ⟨p12, w13, j⟩ := j
    refine yT.gR (pc' := 26) rfl rfl hT5 o0 rfl rfl w13 (fun o14 => ?_)
    refine yT.aan (pc' := 27) g0 rfl rfl rfl ?_
    obtain ⟨p15, w16, j⟩ := j
    refine yT.gR (pc' := 30) rfl rfl hT5 o0 rfl rfl w16 (fun o17 => ?_)
    refine zI (yT.cw (G2 := 3783) (pc' := 33) rfl rfl rfl hT5 o17 xM_69 (kWe_count hT5 o17 j) rfl (by decide) (by decide) rfl) (fun h18 x20 hT19 j => ?_)
    refine zRa (yT.cw (G2 := 763) (pc' := 36) rfl rfl rfl hT19 o11 xM_19 (kRe_take hT19 o11 o14 x20 j) rfl (by decide) (by decide) rfl) (fun h21 ks23 kg24 hT22 j => ?_) (fun h21 ks23 kg24 p25 hT22 o27 j => ?_)
    · replace j := j.1 rfl
      refine yT.p (pc' := 37) (lv' := xst1 _ 3 (.null)) rfl rfl (fun _ _ _ _ => rfl) ?_
      refine yT.aan (pc' := 38) xg_eq rfl rfl rfl ?_
      refine yT.p (pc' := 41) rfl rfl (fun _ _ _ _ => rfl) ?_
      refine yT.aan (pc' := 42) (xg_ne g0 rfl) rfl rfl rfl ?_
      exact j.elim
    · replace j := j.2 _ rfl
      refine yT.p (pc' := 37) (lv' := xst1 _ 3 (.ref (p25 + 1))) rfl rfl (fun _ _ _ _ => rfl) ?_
      refine yT.aan (pc' := 38) xg_eq rfl rfl rfl ?_
      refine yT.p (pc' := 46) rfl rfl (fun _ _ _ _ => rfl) ?_
      refine yT.aan (pc' := 47) (xg_ne g0 rfl) rfl rfl rfl ?_
      obtain ⟨p28, w29, j⟩ := j
      refine yT.gR (pc' := 50) rfl rfl hT22 (kg24.up o0) rfl rfl w29 (fun o30 => ?_)
      refine zZ (yT.cw (G2 := 763) (pc' := 53) rfl rfl rfl hT22 o30 xM_70 (kWe_isFull hT22 o30 j) rfl (by decide) (by decide) rfl) (fun h31 x33 hT32 b34 j => ?_)
      refine yT.zeq1 (t := 63) (pc' := 56) rfl rfl rfl (fun c35 => ?_) (fun c35 => ?_)
      · replace j := j.1 c35
        refine yT.aan (pc' := 64) (xg_ne g0 rfl) rfl rfl rfl ?_
        obtain ⟨p36, w37, j⟩ := j
        refine yT.gR (pc' := 67) rfl rfl hT32 (kg24.up o0) rfl rfl w37 (fun o38 => ?_)
        refine yT.iln (pc' := 68) (xg_ne g1 rfl) rfl rfl ?_
        refine yT.iln (pc' := 69) (xg_ne g2 rfl) rfl rfl ?_
        refine yT.zl (pc' := 70) (z := 0) rfl rfl (by decide) ?_
        refine yT.aan (pc' := 71) xg_eq rfl rfl rfl ?_
        refine zIa (yT.cw (G2 := 0) (pc' := 74) rfl rfl rfl hT32 o38 xM_73 (kWe_addCell hT32 o38 x1 x2 0 (Or.inr ⟨_, rfl, rfl, o27⟩) j) rfl (by decide) (by decide) rfl) (fun h39 ks41 kg42 x43 hT40 j => ?_)
        exact yT.retI rfl rfl ⟨_, rfl, _, (kg24.tr kg42), hT40, j⟩
      · replace j := j.2 c35
        refine yT.aan (pc' := 57) (xg_ne g0 rfl) rfl rfl rfl ?_
        refine yT.zb (pc' := 59) (z := (-6)) rfl rfl (by decide) ?_
        exact j.elim
-- rX8_memo
def WPS_memo  (q0 : Nat) (x1 : Int32) (m : Mm) (K : Mm → Int32 → Prop) : Prop := WPS_newComputed q0 3 x1 m (fun m1 x5 => ∃ p6, m1.rv q0 6 = p6 + 1 ∧ WNu_clear p6 m1 (fun m9 => K m9 x5))
set_option maxRecDepth 100000 in
set_option maxHeartbeats 4000000 in
theorem kPS_memo {ks : List Nat} {h : List xE} (hT : TT ks h) {q0 : Nat} (o0 : xnth ks q0 = some 18) (x1 : Int32)  {K : Mm → Int32 → Prop} (j : WPS_memo  q0 x1 (mm h) K) : yM 89 (7) 3783 [.ref (q0 + 1), .int x1] h (PIa ks K) := by
  unfold WPS_memo at j
  refine yM.st xM_89 rfl rfl (fun lv g => ?_)
  have g0 := g 0 _ rfl
  have g1 := g 1 _ rfl
  refine yT.aan (pc' := 1) g0 rfl rfl rfl ?_
  refine yT.zk (pc' := 2) (z := 3) rfl rfl (by decide) ?_
  refine yT.iln (pc' := 3) g1 rfl rfl ?_
  refine zIa (yT.cw (G2 := 0) (pc' := 6) rfl rfl rfl hT o0 xM_91 (kPS_newComputed hT o0 3 x1 j) rfl (by decide) (by decide) rfl) (fun h1 ks3 kg4 x5 hT2 j => ?_)
  refine yT.p (pc' := 7) (lv' := xst1 _ 2 (.int x5)) rfl rfl (fun _ _ _ _ => rfl) ?_
  refine yT.aan (pc' := 8) (xg_ne g0 rfl) rfl rfl rfl ?_
  obtain ⟨p6, w7, j⟩ := j
  refine yT.gR (pc' := 11) rfl rfl hT2 (kg4.up o0) rfl rfl w7 (fun o8 => ?_)
  refine zV (yT.cw (G2 := 0) (pc' := 14) rfl rfl rfl hT2 o8 xM_52 (kNu_clear hT2 o8 j) rfl (by decide) (by decide) rfl) (fun h9 hT10 j => ?_)
  refine yT.iln (pc' := 15) xg_eq rfl rfl ?_
  exact yT.retI rfl rfl ⟨_, rfl, _, kg4, hT10, j⟩
-- rX8_effect
def WPS_effect  (q0 : Nat) (x1 : Int32) (m : Mm) (K : Mm → Int32 → Prop) : Prop := WPS_newComputed q0 4 x1 m (fun m1 x5 => ∃ p6, m1.rv q0 6 = p6 + 1 ∧ WNu_clear p6 m1 (fun m9 => ((x5.toInt < 0) → K m9 x5) ∧ (¬ (x5.toInt < 0) → ∃ p12, m9.rv q0 0 = p12 + 1 ∧ ∃ p15, m9.rv p12 3 = p15 + 1 ∧ WNu_add p15 x5 m9 (fun m18 => ∃ p20, m18.rv q0 3 = p20 + 1 ∧ WPu_flushUnlessBatch p20 m18 (fun m23 => K m23 x5)))))
set_option maxRecDepth 100000 in
set_option maxHeartbeats 4000000 in
theorem kPS_effect {ks : List Nat} {h : List xE} (hT : TT ks h) {q0 : Nat} (o0 : xnth ks q0 = some 18) (x1 : Int32)  {K : Mm → Int32 → Prop} (j : WPS_effect  q0 x1 (mm h) K) : yM 90 (89) 3783 [.ref (q0 + 1), .int x1] h (PIa ks K) := by
  unfold WPS_effect at j
  refine yM.st xM_90 rfl rfl (fun lv g => ?_)
  have g0 := g 0 _ rfl
  have g1 := g 1 _ rfl
  refine yT.aan (pc' := 1) g0 rfl rfl rfl ?_
  refine yT.zk (pc' := 2) (z := 4) rfl rfl (by decide) ?_
  refine yT.iln (pc' := 3) g1 rfl rfl ?_
  refine zIa (yT.cw (G2 := 0) (pc' := 6) rfl rfl rfl hT o0 xM_91 (kPS_newComputed hT o0 4 x1 j) rfl (by decide) (by decide) rfl) (fun h1 ks3 kg4 x5 hT2 j => ?_)
  refine yT.p (pc' := 7) (lv' := xst1 _ 2 (.int x5)) rfl rfl (fun _ _ _ _ => rfl) ?_
  refine yT.aan (pc' := 8) (xg_ne g0 rfl) rfl rfl rfl ?_
  obtain ⟨p6, w7, j⟩ := j
  refine yT.gR (pc' := 11) rfl rfl hT2 (kg4.up o0) rfl rfl w7 (fun o8 => ?_)
  refine zV (yT.cw (G2 := 0) (pc' := 14) rfl rfl rfl hT2 o8 xM_52 (kNu_clear hT2 o8 j) rfl (by decide) (by decide) rfl) (fun h9 hT10 j => ?_)
  refine yT.iln (pc' := 15) xg_eq rfl rfl ?_
  refine yT.zlt1 (t := 36) (pc' := 18) rfl rfl rfl (fun c11 => ?_) (fun c11 => ?_)
  · replace j := j.1 c11
    refine yT.iln (pc' := 37) xg_eq rfl rfl ?_
    exact yT.retI rfl rfl ⟨_, rfl, _, kg4, hT10, j⟩
  · replace j := j.2 c11
    refine yT.aan (pc' := 19) (xg_ne g0 rfl) rfl rfl rfl ?_
    obtain ⟨p12, w13, j⟩ := j
    refine yT.gR (pc' := 22) rfl rfl hT10 (kg4.up o0) rfl rfl w13 (fun o14 => ?_)
    obtain ⟨p15, w16, j⟩ := j
    refine yT.gR (pc' := 25) rfl rfl hT10 o14 rfl rfl w16 (fun o17 => ?_)
    refine yT.iln (pc' := 26) xg_eq rfl rfl ?_
    refine zV (yT.cw (G2 := 0) (pc' := 29) rfl rfl rfl hT10 o17 xM_47 (kNu_add hT10 o17 x5 j) rfl (by decide) (by decide) rfl) (fun h18 hT19 j => ?_)
    refine yT.aan (pc' := 30) (xg_ne g0 rfl) rfl rfl rfl ?_
    obtain ⟨p20, w21, j⟩ := j
    refine yT.gR (pc' := 33) rfl rfl hT19 (kg4.up o0) rfl rfl w21 (fun o22 => ?_)
    refine zV (yT.cw (G2 := 0) (pc' := 36) rfl rfl rfl hT19 o22 xM_57 (kPu_flushUnlessBatch hT19 o22 j) rfl (by decide) (by decide) rfl) (fun h23 hT24 j => ?_)
    refine yT.iln (pc' := 37) xg_eq rfl rfl ?_
    exact yT.retI rfl rfl ⟨_, rfl, _, kg4, hT24, j⟩
