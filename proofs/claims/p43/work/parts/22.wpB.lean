-- rX2_goesOn
def WFo_goesOn_L2 (q0 : Nat) (K : Mm → Int32 → Prop) : Nat → Int32 → Mm → Prop
  | 0, _, _ => False
  | n8 + 1, y6, m2 => ((y6.toInt < (250 : Int32).toInt) → ∃ p11, m2.rv q0 0 = p11 + 1 ∧ WNu_size p11 m2 (fun m14 x16 => (((m2.iv q0 4).toInt < x16.toInt) → (((lg_cmp (m14.lg q0 5) 0) = 0) → ∃ p19, m14.rv q0 0 = p19 + 1 ∧ WNu_at p19 (m14.iv q0 4) m14 (fun m22 x24 => ∃ p25, m22.rv q0 1 = p25 + 1 ∧ WNu_at p25 (m22.iv q0 4) m22 (fun m28 x30 => ∀ m31, m31 = m28.st q0 4 (.int ((m28.iv q0 4) + (1 : Int32))) → ((x24 = 11) → ∀ m35, m35 = m31.st q0 6 (.int x30) → ((x24 = 11) → ∀ m39, m39 = m35.st q0 7 (.int 1) → K m39 1) ∧ (¬ (x24 = 11) → ∀ m42, m42 = m35.st q0 7 (.int 0) → K m42 1)) ∧ (¬ (x24 = 11) → ((x24 = 12) → ∀ m46, m46 = m31.st q0 6 (.int x30) → ((x24 = 11) → ∀ m50, m50 = m46.st q0 7 (.int 1) → K m50 1) ∧ (¬ (x24 = 11) → ∀ m53, m53 = m46.st q0 7 (.int 0) → K m53 1)) ∧ (¬ (x24 = 12) → WFo_takeStep q0 x24 x30 m31 (fun m56 => WFo_goesOn_L2 q0  K n8 (y6 + 1) m56)))))) ∧ (¬ ((lg_cmp (m14.lg q0 5) 0) = 0) → K m14 0)) ∧ (¬ ((m2.iv q0 4).toInt < x16.toInt) → K m14 0))) ∧ (¬ (y6.toInt < (250 : Int32).toInt) → K m2 0)
set_option maxRecDepth 100000 in
theorem WFo_goesOn_L2_u {q0 : Nat} {K : Mm → Int32 → Prop} {n8 : Nat} {y6 : Int32} {m2 : Mm} (j : WFo_goesOn_L2 q0  K (n8 + 1) y6 m2) : ((y6.toInt < (250 : Int32).toInt) → ∃ p11, m2.rv q0 0 = p11 + 1 ∧ WNu_size p11 m2 (fun m14 x16 => (((m2.iv q0 4).toInt < x16.toInt) → (((lg_cmp (m14.lg q0 5) 0) = 0) → ∃ p19, m14.rv q0 0 = p19 + 1 ∧ WNu_at p19 (m14.iv q0 4) m14 (fun m22 x24 => ∃ p25, m22.rv q0 1 = p25 + 1 ∧ WNu_at p25 (m22.iv q0 4) m22 (fun m28 x30 => ∀ m31, m31 = m28.st q0 4 (.int ((m28.iv q0 4) + (1 : Int32))) → ((x24 = 11) → ∀ m35, m35 = m31.st q0 6 (.int x30) → ((x24 = 11) → ∀ m39, m39 = m35.st q0 7 (.int 1) → K m39 1) ∧ (¬ (x24 = 11) → ∀ m42, m42 = m35.st q0 7 (.int 0) → K m42 1)) ∧ (¬ (x24 = 11) → ((x24 = 12) → ∀ m46, m46 = m31.st q0 6 (.int x30) → ((x24 = 11) → ∀ m50, m50 = m46.st q0 7 (.int 1) → K m50 1) ∧ (¬ (x24 = 11) → ∀ m53, m53 = m46.st q0 7 (.int 0) → K m53 1)) ∧ (¬ (x24 = 12) → WFo_takeStep q0 x24 x30 m31 (fun m56 => WFo_goesOn_L2 q0  K n8 (y6 + 1) m56)))))) ∧ (¬ ((lg_cmp (m14.lg q0 5) 0) = 0) → K m14 0)) ∧ (¬ ((m2.iv q0 4).toInt < x16.toInt) → K m14 0))) ∧ (¬ (y6.toInt < (250 : Int32).toInt) → K m2 0) := j
set_option maxRecDepth 100000 in
theorem WFo_goesOn_L2_i {q0 : Nat} {K : Mm → Int32 → Prop} {n8 : Nat} {y6 : Int32} {m2 : Mm} (j : ((y6.toInt < (250 : Int32).toInt) → ∃ p11, m2.rv q0 0 = p11 + 1 ∧ WNu_size p11 m2 (fun m14 x16 => (((m2.iv q0 4).toInt < x16.toInt) → (((lg_cmp (m14.lg q0 5) 0) = 0) → ∃ p19, m14.rv q0 0 = p19 + 1 ∧ WNu_at p19 (m14.iv q0 4) m14 (fun m22 x24 => ∃ p25, m22.rv q0 1 = p25 + 1 ∧ WNu_at p25 (m22.iv q0 4) m22 (fun m28 x30 => ∀ m31, m31 = m28.st q0 4 (.int ((m28.iv q0 4) + (1 : Int32))) → ((x24 = 11) → ∀ m35, m35 = m31.st q0 6 (.int x30) → ((x24 = 11) → ∀ m39, m39 = m35.st q0 7 (.int 1) → K m39 1) ∧ (¬ (x24 = 11) → ∀ m42, m42 = m35.st q0 7 (.int 0) → K m42 1)) ∧ (¬ (x24 = 11) → ((x24 = 12) → ∀ m46, m46 = m31.st q0 6 (.int x30) → ((x24 = 11) → ∀ m50, m50 = m46.st q0 7 (.int 1) → K m50 1) ∧ (¬ (x24 = 11) → ∀ m53, m53 = m46.st q0 7 (.int 0) → K m53 1)) ∧ (¬ (x24 = 12) → WFo_takeStep q0 x24 x30 m31 (fun m56 => WFo_goesOn_L2 q0  K n8 (y6 + 1) m56)))))) ∧ (¬ ((lg_cmp (m14.lg q0 5) 0) = 0) → K m14 0)) ∧ (¬ ((m2.iv q0 4).toInt < x16.toInt) → K m14 0))) ∧ (¬ (y6.toInt < (250 : Int32).toInt) → K m2 0)) : WFo_goesOn_L2 q0  K (n8 + 1) y6 m2 := j
def WFo_goesOn  (q0 : Nat) (m : Mm) (K : Mm → Int32 → Prop) : Prop := ∃ n58, WFo_goesOn_L2 q0  K n58 0 m
set_option maxRecDepth 100000 in
set_option maxHeartbeats 4000000 in
theorem kFo_goesOn {ks : List Nat} {h : List xE} (hT : TT ks h) {q0 : Nat} (o0 : xnth ks q0 = some 12)  {K : Mm → Int32 → Prop} (j : WFo_goesOn  q0 (mm h) K) : yM 12 (3) 0 [.ref (q0 + 1)] h (PZ ks K) := by
  unfold WFo_goesOn at j
  refine yM.st xM_12 rfl rfl (fun lv g => ?_)
  have g0 := g 0 _ rfl
  refine yT.zk (pc' := 1) (z := 0) rfl rfl (by decide) ?_
  refine yT.p (pc' := 2) (lv' := xst1 _ 1 (.int 0)) rfl rfl (fun _ _ _ _ => rfl) ?_
  have L7 : ∀ (n8 : Nat) (lv1 : xLv) (h2 : List xE) (y6 : Int32), TT ks h2 → xget lv1 0 = some (.ref (q0 + 1)) → xget lv1 1 = some (.int y6) → WFo_goesOn_L2 q0  K n8 y6 (mm h2) → yT 0 [] rX2_goesOn (3) 0 2 lv1 [] h2 (PZ ks K) := by
    intro n8
    induction n8 with
    | zero => intro lv1 h2 y6 hT3 g4 g5 j; exact j.elim
    | succ n8 ih9 =>
      intro lv1 h2 y6 hT3 g4 g5 j
      replace j := WFo_goesOn_L2_u j
      refine yT.iln (pc' := 3) g5 rfl rfl ?_
      refine yT.zs (pc' := 6) (z := 250) rfl rfl (by decide) ?_
      refine yT.zge2 (t := 112) (pc' := 9) rfl rfl rfl (fun c10 => ?_) (fun c10 => ?_)
      · replace j := j.1 c10
        refine yT.aan (pc' := 10) g4 rfl rfl rfl ?_
        refine yT.gI (pc' := 13) rfl rfl hT3 o0 rfl ?_
        refine yT.aan (pc' := 14) g4 rfl rfl rfl ?_
        obtain ⟨p11, w12, j⟩ := j
        refine yT.gR (pc' := 17) rfl rfl hT3 o0 rfl rfl w12 (fun o13 => ?_)
        refine zI (yT.cw (G2 := 0) (pc' := 20) rfl rfl rfl hT3 o13 xM_41 (kNu_size hT3 o13 j) rfl (by decide) (by decide) rfl) (fun h14 x16 hT15 j => ?_)
        refine yT.zge2 (t := 112) (pc' := 23) rfl rfl rfl (fun c17 => ?_) (fun c17 => ?_)
        · replace j := j.1 c17
          refine yT.aan (pc' := 24) g4 rfl rfl rfl ?_
          refine yT.gL (pc' := 27) rfl rfl hT15 o0 rfl ?_
          refine yT.zl (pc' := 28) (z := 0) rfl rfl (by decide) ?_
          refine yT.p (pc' := 29) rfl rfl (fun _ _ _ _ => rfl) ?_
          refine yT.zne1 (t := 112) (pc' := 32) rfl rfl rfl (fun c18 => ?_) (fun c18 => ?_)
          · replace j := j.1 c18
            refine yT.aan (pc' := 33) g4 rfl rfl rfl ?_
            obtain ⟨p19, w20, j⟩ := j
            refine yT.gR (pc' := 36) rfl rfl hT15 o0 rfl rfl w20 (fun o21 => ?_)
            refine yT.aan (pc' := 37) g4 rfl rfl rfl ?_
            refine yT.gI (pc' := 40) rfl rfl hT15 o0 rfl ?_
            refine zI (yT.cw (G2 := 0) (pc' := 43) rfl rfl rfl hT15 o21 xM_43 (kNu_at hT15 o21 ((mm h14).iv q0 4) j) rfl (by decide) (by decide) rfl) (fun h22 x24 hT23 j => ?_)
            refine yT.p (pc' := 44) (lv' := xst1 _ 2 (.int x24)) rfl rfl (fun _ _ _ _ => rfl) ?_
            refine yT.aan (pc' := 45) (xg_ne g4 rfl) rfl rfl rfl ?_
            obtain ⟨p25, w26, j⟩ := j
            refine yT.gR (pc' := 48) rfl rfl hT23 o0 rfl rfl w26 (fun o27 => ?_)
            refine yT.aan (pc' := 49) (xg_ne g4 rfl) rfl rfl rfl ?_
            refine yT.gI (pc' := 52) rfl rfl hT23 o0 rfl ?_
            refine zI (yT.cw (G2 := 0) (pc' := 55) rfl rfl rfl hT23 o27 xM_43 (kNu_at hT23 o27 ((mm h22).iv q0 4) j) rfl (by decide) (by decide) rfl) (fun h28 x30 hT29 j => ?_)
            refine yT.p (pc' := 56) (lv' := xst1 _ 3 (.int x30)) rfl rfl (fun _ _ _ _ => rfl) ?_
            refine yT.aan (pc' := 57) (xg_ne (xg_ne g4 rfl) rfl) rfl rfl rfl ?_
            refine yT.p (pc' := 58) rfl rfl (fun _ _ _ _ => rfl) ?_
            refine yT.gI (pc' := 61) rfl rfl hT29 o0 rfl ?_
            refine yT.zk (pc' := 62) (z := 1) rfl rfl (by decide) ?_
            refine yT.p (pc' := 63) rfl rfl (fun _ _ _ _ => rfl) ?_
            refine yT.sI (pc' := 66) rfl rfl hT29 o0 rfl rfl (fun h31 hT32 e33 => ?_)
            replace j := j _ e33
            refine yT.iln (pc' := 67) (xg_ne xg_eq rfl) rfl rfl ?_
            refine yT.zb (pc' := 69) (z := 11) rfl rfl (by decide) ?_
            refine yT.zeq2 (t := 78) (pc' := 72) rfl rfl rfl (fun c34 => ?_) (fun c34 => ?_)
            · replace j := j.1 c34
              refine yT.aan (pc' := 79) (xg_ne (xg_ne g4 rfl) rfl) rfl rfl rfl ?_
              refine yT.iln (pc' := 80) xg_eq rfl rfl ?_
              refine yT.sI (pc' := 83) rfl rfl hT32 o0 rfl rfl (fun h35 hT36 e37 => ?_)
              replace j := j _ e37
              refine yT.aan (pc' := 84) (xg_ne (xg_ne g4 rfl) rfl) rfl rfl rfl ?_
              refine yT.iln (pc' := 85) (xg_ne xg_eq rfl) rfl rfl ?_
              refine yT.zb (pc' := 87) (z := 11) rfl rfl (by decide) ?_
              refine yT.zne2 (t := 94) (pc' := 90) rfl rfl rfl (fun c38 => ?_) (fun c38 => ?_)
              · replace j := j.1 c38
                refine yT.zk (pc' := 91) (z := 1) rfl rfl (by decide) ?_
                refine yT.p (pc' := 95) rfl rfl (fun _ _ _ _ => rfl) ?_
                refine yT.sZ (pc' := 98) rfl rfl hT36 o0 rfl rfl (Or.inr rfl) (fun h39 hT40 e41 => ?_)
                replace j := j _ e41
                refine yT.zk (pc' := 99) (z := 1) rfl rfl (by decide) ?_
                exact yT.retZ rfl rfl (Or.inr rfl) ⟨_, rfl, hT40, (Or.inr rfl), j⟩
              · replace j := j.2 c38
                refine yT.zk (pc' := 95) (z := 0) rfl rfl (by decide) ?_
                refine yT.sZ (pc' := 98) rfl rfl hT36 o0 rfl rfl (Or.inl rfl) (fun h42 hT43 e44 => ?_)
                replace j := j _ e44
                refine yT.zk (pc' := 99) (z := 1) rfl rfl (by decide) ?_
                exact yT.retZ rfl rfl (Or.inr rfl) ⟨_, rfl, hT43, (Or.inr rfl), j⟩
            · replace j := j.2 c34
              refine yT.iln (pc' := 73) (xg_ne xg_eq rfl) rfl rfl ?_
              refine yT.zb (pc' := 75) (z := 12) rfl rfl (by decide) ?_
              refine yT.zne2 (t := 100) (pc' := 78) rfl rfl rfl (fun c45 => ?_) (fun c45 => ?_)
              · replace j := j.1 c45
                refine yT.aan (pc' := 79) (xg_ne (xg_ne g4 rfl) rfl) rfl rfl rfl ?_
                refine yT.iln (pc' := 80) xg_eq rfl rfl ?_
                refine yT.sI (pc' := 83) rfl rfl hT32 o0 rfl rfl (fun h46 hT47 e48 => ?_)
                replace j := j _ e48
                refine yT.aan (pc' := 84) (xg_ne (xg_ne g4 rfl) rfl) rfl rfl rfl ?_
                refine yT.iln (pc' := 85) (xg_ne xg_eq rfl) rfl rfl ?_
                refine yT.zb (pc' := 87) (z := 11) rfl rfl (by decide) ?_
                refine yT.zne2 (t := 94) (pc' := 90) rfl rfl rfl (fun c49 => ?_) (fun c49 => ?_)
                · replace j := j.1 c49
                  refine yT.zk (pc' := 91) (z := 1) rfl rfl (by decide) ?_
                  refine yT.p (pc' := 95) rfl rfl (fun _ _ _ _ => rfl) ?_
                  refine yT.sZ (pc' := 98) rfl rfl hT47 o0 rfl rfl (Or.inr rfl) (fun h50 hT51 e52 => ?_)
                  replace j := j _ e52
                  refine yT.zk (pc' := 99) (z := 1) rfl rfl (by decide) ?_
                  exact yT.retZ rfl rfl (Or.inr rfl) ⟨_, rfl, hT51, (Or.inr rfl), j⟩
                · replace j := j.2 c49
                  refine yT.zk (pc' := 95) (z := 0) rfl rfl (by decide) ?_
                  refine yT.sZ (pc' := 98) rfl rfl hT47 o0 rfl rfl (Or.inl rfl) (fun h53 hT54 e55 => ?_)
                  replace j := j _ e55
                  refine yT.zk (pc' := 99) (z := 1) rfl rfl (by decide) ?_
                  exact yT.retZ rfl rfl (Or.inr rfl) ⟨_, rfl, hT54, (Or.inr rfl), j⟩
              · replace j := j.2 c45
                refine yT.aan (pc' := 101) (xg_ne (xg_ne g4 rfl) rfl) rfl rfl rfl ?_
                refine yT.iln (pc' := 102) (xg_ne xg_eq rfl) rfl rfl ?_
                refine yT.iln (pc' := 103) xg_eq rfl rfl ?_
                refine zV (yT.cw (G2 := 0) (pc' := 106) rfl rfl rfl hT32 o0 xM_15 (kFo_takeStep hT32 o0 x24 x30 j) rfl (by decide) (by decide) rfl) (fun h56 hT57 j => ?_)
                refine yT.iif (pc' := 109) (z := y6 + 1) (xg_ne (xg_ne g5 rfl) rfl) rfl rfl rfl rfl ?_
                refine yT.p (pc' := 2) rfl rfl (fun _ _ _ _ => rfl) ?_
                exact ih9 _ _ _ hT57 (xg_ne (xg_ne (xg_ne g4 rfl) rfl) rfl) xg_eq j
          · replace j := j.2 c18
            refine yT.zk (pc' := 113) (z := 0) rfl rfl (by decide) ?_
            exact yT.retZ rfl rfl (Or.inl rfl) ⟨_, rfl, hT15, (Or.inl rfl), j⟩
        · replace j := j.2 c17
          refine yT.zk (pc' := 113) (z := 0) rfl rfl (by decide) ?_
          exact yT.retZ rfl rfl (Or.inl rfl) ⟨_, rfl, hT15, (Or.inl rfl), j⟩
      · replace j := j.2 c10
        refine yT.zk (pc' := 113) (z := 0) rfl rfl (by decide) ?_
        exact yT.retZ rfl rfl (Or.inl rfl) ⟨_, rfl, hT3, (Or.inl rfl), j⟩
  obtain ⟨n58, j⟩ := j
  exact L7 n58 _ _ _ hT (xg_ne g0 rfl) xg_eq j
-- rX2_give
def WFo_give  (q0 : Nat) (x1 : Int64) (m : Mm) (K : Mm → Prop) : Prop := WPS_isFail x1 m (fun m1 x3 => ((x3 = 0) → ∃ p6, m1.rv q0 3 = p6 + 1 ∧ WNu_add p6 x1.toInt32 m1 (fun m9 => K m9)) ∧ (¬ (x3 = 0) → ∀ m11, m11 = m1.st q0 5 (.long x1) → K m11))
set_option maxRecDepth 100000 in
set_option maxHeartbeats 4000000 in
theorem kFo_give {ks : List Nat} {h : List xE} (hT : TT ks h) {q0 : Nat} (o0 : xnth ks q0 = some 12) (x1 : Int64)  {K : Mm → Prop} (j : WFo_give  q0 x1 (mm h) K) : yM 13 (1) 0 [.ref (q0 + 1), .long x1] h (PV ks K) := by
  unfold WFo_give at j
  refine yM.st xM_13 rfl rfl (fun lv g => ?_)
  have g0 := g 0 _ rfl
  have g1 := g 1 _ rfl
  refine yT.lln (pc' := 1) g1 rfl rfl ?_
  refine zZ (yT.cst (G2 := 0) (pc' := 4) rfl rfl xM_107 (kPS_isFail hT x1 j) rfl (by decide) (by decide) rfl) (fun h1 x3 hT2 b4 j => ?_)
  refine yT.zeq1 (t := 15) (pc' := 7) rfl rfl rfl (fun c5 => ?_) (fun c5 => ?_)
  · replace j := j.1 c5
    refine yT.aan (pc' := 16) g0 rfl rfl rfl ?_
    obtain ⟨p6, w7, j⟩ := j
    refine yT.gR (pc' := 19) rfl rfl hT2 o0 rfl rfl w7 (fun o8 => ?_)
    refine yT.lln (pc' := 20) g1 rfl rfl ?_
    refine yT.p (pc' := 21) rfl rfl (fun _ _ _ _ => rfl) ?_
    refine zV (yT.cw (G2 := 0) (pc' := 24) rfl rfl rfl hT2 o8 xM_47 (kNu_add hT2 o8 x1.toInt32 j) rfl (by decide) (by decide) rfl) (fun h9 hT10 j => ?_)
    exact yT.retV rfl rfl ⟨rfl, hT10, j⟩
  · replace j := j.2 c5
    refine yT.aan (pc' := 8) g0 rfl rfl rfl ?_
    refine yT.lln (pc' := 9) g1 rfl rfl ?_
    refine yT.sL (pc' := 12) rfl rfl hT2 o0 rfl rfl (fun h11 hT12 e13 => ?_)
    replace j := j _ e13
    refine yT.p (pc' := 24) rfl rfl (fun _ _ _ _ => rfl) ?_
    exact yT.retV rfl rfl ⟨rfl, hT12, j⟩
-- rX2_outcome
def WFo_outcome  (q0 : Nat) (m : Mm) (K : Mm → Int64 → Prop) : Prop := (((lg_cmp (m.lg q0 5) 0) = 0) → ∃ p2, m.rv q0 3 = p2 + 1 ∧ WNu_last p2 m (fun m5 x7 => K m5 x7.toInt64)) ∧ (¬ ((lg_cmp (m.lg q0 5) 0) = 0) → K m (m.lg q0 5))
set_option maxRecDepth 100000 in
set_option maxHeartbeats 4000000 in
theorem kFo_outcome {ks : List Nat} {h : List xE} (hT : TT ks h) {q0 : Nat} (o0 : xnth ks q0 = some 12)  {K : Mm → Int64 → Prop} (j : WFo_outcome  q0 (mm h) K) : yM 14 (1) 0 [.ref (q0 + 1)] h (PL ks K) := by
  unfold WFo_outcome at j
  refine yM.st xM_14 rfl rfl (fun lv g => ?_)
  have g0 := g 0 _ rfl
  refine yT.aan (pc' := 1) g0 rfl rfl rfl ?_
  refine yT.gL (pc' := 4) rfl rfl hT o0 rfl ?_
  refine yT.zl (pc' := 5) (z := 0) rfl rfl (by decide) ?_
  refine yT.p (pc' := 6) rfl rfl (fun _ _ _ _ => rfl) ?_
  refine yT.zeq1 (t := 16) (pc' := 9) rfl rfl rfl (fun c1 => ?_) (fun c1 => ?_)
  · replace j := j.1 c1
    refine yT.aan (pc' := 17) g0 rfl rfl rfl ?_
    obtain ⟨p2, w3, j⟩ := j
    refine yT.gR (pc' := 20) rfl rfl hT o0 rfl rfl w3 (fun o4 => ?_)
    refine zI (yT.cw (G2 := 0) (pc' := 23) rfl rfl rfl hT o4 xM_44 (kNu_last hT o4 j) rfl (by decide) (by decide) rfl) (fun h5 x7 hT6 j => ?_)
    refine yT.p (pc' := 24) rfl rfl (fun _ _ _ _ => rfl) ?_
    exact yT.retL rfl rfl ⟨_, rfl, hT6, j⟩
  · replace j := j.2 c1
    refine yT.aan (pc' := 10) g0 rfl rfl rfl ?_
    refine yT.gL (pc' := 13) rfl rfl hT o0 rfl ?_
    refine yT.p (pc' := 24) rfl rfl (fun _ _ _ _ => rfl) ?_
    exact yT.retL rfl rfl ⟨_, rfl, hT, j⟩
-- rX3_start
def WRe_start  (q0 : Nat) (x1 : Int32) (m : Mm) (K : Mm → Prop) : Prop := ∃ p1, m.rv q0 0 = p1 + 1 ∧ WNu_clear p1 m (fun m4 => ∃ p6, m4.rv q0 1 = p6 + 1 ∧ WNu_clear p6 m4 (fun m9 => ∃ p11, m9.rv q0 2 = p11 + 1 ∧ WNu_clear p11 m9 (fun m14 => ∃ p16, m14.rv q0 3 = p16 + 1 ∧ WNu_clear p16 m14 (fun m19 => ∃ p21, m19.rv q0 4 = p21 + 1 ∧ WNu_clear p21 m19 (fun m24 => ∃ p26, m24.rv q0 5 = p26 + 1 ∧ WNu_clear p26 m24 (fun m29 => ∃ p31, m29.rv q0 6 = p31 + 1 ∧ WNu_clear p31 m29 (fun m34 => ∀ m36, m36 = m34.st q0 7 (.int 0) → ∀ m39, m39 = m36.st q0 8 (.int x1) → ∀ m42, m42 = m39.st q0 9 (.int 0) → ∀ m45, m45 = m42.st q0 10 (.int (-1)) → ∀ m48, m48 = m45.st q0 11 (.int 1) → ∀ m51, m51 = m48.st q0 12 (.int 0) → K m51)))))))
set_option maxRecDepth 100000 in
set_option maxHeartbeats 4000000 in
theorem kRe_start {ks : List Nat} {h : List xE} (hT : TT ks h) {q0 : Nat} (o0 : xnth ks q0 = some 13) (x1 : Int32)  {K : Mm → Prop} (j : WRe_start  q0 x1 (mm h) K) : yM 20 (1) 0 [.ref (q0 + 1), .int x1] h (PV ks K) := by
  unfold WRe_start at j
  refine yM.st xM_20 rfl rfl (fun lv g => ?_)
  have g0 := g 0 _ rfl
  have g1 := g 1 _ rfl
  refine yT.aan (pc' := 1) g0 rfl rfl rfl ?_
  obtain ⟨p1, w2, j⟩ := j
  refine yT.gR (pc' := 4) rfl rfl hT o0 rfl rfl w2 (fun o3 => ?_)
  refine zV (yT.cw (G2 := 0) (pc' := 7) rfl rfl rfl hT o3 xM_52 (kNu_clear hT o3 j) rfl (by decide) (by decide) rfl) (fun h4 hT5 j => ?_)
  refine yT.aan (pc' := 8) g0 rfl rfl rfl ?_
  obtain ⟨p6, w7, j⟩ := j
  refine yT.gR (pc' := 11) rfl rfl hT5 o0 rfl rfl w7 (fun o8 => ?_)
  refine zV (yT.cw (G2 := 0) (pc' := 14) rfl rfl rfl hT5 o8 xM_52 (kNu_clear hT5 o8 j) rfl (by decide) (by decide) rfl) (fun h9 hT10 j => ?_)
  refine yT.aan (pc' := 15) g0 rfl rfl rfl ?_
  obtain ⟨p11, w12, j⟩ := j
  refine yT.gR (pc' := 18) rfl rfl hT10 o0 rfl rfl w12 (fun o13 => ?_)
  refine zV (yT.cw (G2 := 0) (pc' := 21) rfl rfl rfl hT10 o13 xM_52 (kNu_clear hT10 o13 j) rfl (by decide) (by decide) rfl) (fun h14 hT15 j => ?_)
  refine yT.aan (pc' := 22) g0 rfl rfl rfl ?_
  obtain ⟨p16, w17, j⟩ := j
  refine yT.gR (pc' := 25) rfl rfl hT15 o0 rfl rfl w17 (fun o18 => ?_)
  refine zV (yT.cw (G2 := 0) (pc' := 28) rfl rfl rfl hT15 o18 xM_52 (kNu_clear hT15 o18 j) rfl (by decide) (by decide) rfl) (fun h19 hT20 j => ?_)
  refine yT.aan (pc' := 29) g0 rfl rfl rfl ?_
  obtain ⟨p21, w22, j⟩ := j
  refine yT.gR (pc' := 32) rfl rfl hT20 o0 rfl rfl w22 (fun o23 => ?_)
  refine zV (yT.cw (G2 := 0) (pc' := 35) rfl rfl rfl hT20 o23 xM_52 (kNu_clear hT20 o23 j) rfl (by decide) (by decide) rfl) (fun h24 hT25 j => ?_)
  refine yT.aan (pc' := 36) g0 rfl rfl rfl ?_
  obtain ⟨p26, w27, j⟩ := j
  refine yT.gR (pc' := 39) rfl rfl hT25 o0 rfl rfl w27 (fun o28 => ?_)
  refine zV (yT.cw (G2 := 0) (pc' := 42) rfl rfl rfl hT25 o28 xM_52 (kNu_clear hT25 o28 j) rfl (by decide) (by decide) rfl) (fun h29 hT30 j => ?_)
  refine yT.aan (pc' := 43) g0 rfl rfl rfl ?_
  obtain ⟨p31, w32, j⟩ := j
  refine yT.gR (pc' := 46) rfl rfl hT30 o0 rfl rfl w32 (fun o33 => ?_)
  refine zV (yT.cw (G2 := 0) (pc' := 49) rfl rfl rfl hT30 o33 xM_52 (kNu_clear hT30 o33 j) rfl (by decide) (by decide) rfl) (fun h34 hT35 j => ?_)
  refine yT.aan (pc' := 50) g0 rfl rfl rfl ?_
  refine yT.zk (pc' := 51) (z := 0) rfl rfl (by decide) ?_
  refine yT.sI (pc' := 54) rfl rfl hT35 o0 rfl rfl (fun h36 hT37 e38 => ?_)
  replace j := j _ e38
  refine yT.aan (pc' := 55) g0 rfl rfl rfl ?_
  refine yT.iln (pc' := 56) g1 rfl rfl ?_
  refine yT.sI (pc' := 59) rfl rfl hT37 o0 rfl rfl (fun h39 hT40 e41 => ?_)
  replace j := j _ e41
  refine yT.aan (pc' := 60) g0 rfl rfl rfl ?_
  refine yT.zk (pc' := 61) (z := 0) rfl rfl (by decide) ?_
  refine yT.sI (pc' := 64) rfl rfl hT40 o0 rfl rfl (fun h42 hT43 e44 => ?_)
  replace j := j _ e44
  refine yT.aan (pc' := 65) g0 rfl rfl rfl ?_
  refine yT.zk (pc' := 66) (z := (-1)) rfl rfl (by decide) ?_
  refine yT.sI (pc' := 69) rfl rfl hT43 o0 rfl rfl (fun h45 hT46 e47 => ?_)
  replace j := j _ e47
  refine yT.aan (pc' := 70) g0 rfl rfl rfl ?_
  refine yT.zk (pc' := 71) (z := 1) rfl rfl (by decide) ?_
  refine yT.sZ (pc' := 74) rfl rfl hT46 o0 rfl rfl (Or.inr rfl) (fun h48 hT49 e50 => ?_)
  replace j := j _ e50
  refine yT.aan (pc' := 75) g0 rfl rfl rfl ?_
  refine yT.zk (pc' := 76) (z := 0) rfl rfl (by decide) ?_
  refine yT.sZ (pc' := 79) rfl rfl hT49 o0 rfl rfl (Or.inl rfl) (fun h51 hT52 e53 => ?_)
  replace j := j _ e53
  exact yT.retV rfl rfl ⟨rfl, hT52, j⟩
-- rX3_isLetter
def WRe_isLetter  (q0 : Nat) (x1 : Int32) (m : Mm) (K : Mm → Int32 → Prop) : Prop := ((x1.toInt < (97 : Int32).toInt) → K m 0) ∧ (¬ (x1.toInt < (97 : Int32).toInt) → ((x1.toInt < ((97 : Int32) + (m.iv q0 8)).toInt) → K m 1) ∧ (¬ (x1.toInt < ((97 : Int32) + (m.iv q0 8)).toInt) → K m 0))
set_option maxRecDepth 100000 in
set_option maxHeartbeats 4000000 in
theorem kRe_isLetter {ks : List Nat} {h : List xE} (hT : TT ks h) {q0 : Nat} (o0 : xnth ks q0 = some 13) (x1 : Int32)  {K : Mm → Int32 → Prop} (j : WRe_isLetter  q0 x1 (mm h) K) : yM 26 (0) 0 [.ref (q0 + 1), .int x1] h (PZ ks K) := by
  unfold WRe_isLetter at j
  refine yM.st xM_26 rfl rfl (fun lv g => ?_)
  have g0 := g 0 _ rfl
  have g1 := g 1 _ rfl
  refine yT.iln (pc' := 1) g1 rfl rfl ?_
  refine yT.zb (pc' := 3) (z := 97) rfl rfl (by decide) ?_
  refine yT.zlt2 (t := 21) (pc' := 6) rfl rfl rfl (fun c1 => ?_) (fun c1 => ?_)
  · replace j := j.1 c1
    refine yT.zk (pc' := 22) (z := 0) rfl rfl (by decide) ?_
    exact yT.retZ rfl rfl (Or.inl rfl) ⟨_, rfl, hT, (Or.inl rfl), j⟩
  · replace j := j.2 c1
    refine yT.iln (pc' := 7) g1 rfl rfl ?_
    refine yT.zb (pc' := 9) (z := 97) rfl rfl (by decide) ?_
    refine yT.aan (pc' := 10) g0 rfl rfl rfl ?_
    refine yT.gI (pc' := 13) rfl rfl hT o0 rfl ?_
    refine yT.p (pc' := 14) rfl rfl (fun _ _ _ _ => rfl) ?_
    refine yT.zge2 (t := 21) (pc' := 17) rfl rfl rfl (fun c2 => ?_) (fun c2 => ?_)
    · replace j := j.1 c2
      refine yT.zk (pc' := 18) (z := 1) rfl rfl (by decide) ?_
      refine yT.p (pc' := 22) rfl rfl (fun _ _ _ _ => rfl) ?_
      exact yT.retZ rfl rfl (Or.inr rfl) ⟨_, rfl, hT, (Or.inr rfl), j⟩
    · replace j := j.2 c2
      refine yT.zk (pc' := 22) (z := 0) rfl rfl (by decide) ?_
      exact yT.retZ rfl rfl (Or.inl rfl) ⟨_, rfl, hT, (Or.inl rfl), j⟩
-- rX3_isDigit
def WRe_isDigit  (x0 : Int32) (m : Mm) (K : Mm → Int32 → Prop) : Prop := ((x0.toInt < (48 : Int32).toInt) → K m 0) ∧ (¬ (x0.toInt < (48 : Int32).toInt) → (((57 : Int32).toInt < x0.toInt) → K m 0) ∧ (¬ ((57 : Int32).toInt < x0.toInt) → K m 1))
set_option maxRecDepth 100000 in
set_option maxHeartbeats 4000000 in
theorem kRe_isDigit {ks : List Nat} {h : List xE} (hT : TT ks h) (x0 : Int32)  {K : Mm → Int32 → Prop} (j : WRe_isDigit  x0 (mm h) K) : yM 27 (0) 0 [.int x0] h (PZ ks K) := by
  unfold WRe_isDigit at j
  refine yM.st xM_27 rfl rfl (fun lv g => ?_)
  have g0 := g 0 _ rfl
  refine yT.iln (pc' := 1) g0 rfl rfl ?_
  refine yT.zb (pc' := 3) (z := 48) rfl rfl (by decide) ?_
  refine yT.zlt2 (t := 16) (pc' := 6) rfl rfl rfl (fun c1 => ?_) (fun c1 => ?_)
  · replace j := j.1 c1
    refine yT.zk (pc' := 17) (z := 0) rfl rfl (by decide) ?_
    exact yT.retZ rfl rfl (Or.inl rfl) ⟨_, rfl, hT, (Or.inl rfl), j⟩
  · replace j := j.2 c1
    refine yT.iln (pc' := 7) g0 rfl rfl ?_
    refine yT.zb (pc' := 9) (z := 57) rfl rfl (by decide) ?_
    refine yT.zgt2 (t := 16) (pc' := 12) rfl rfl rfl (fun c2 => ?_) (fun c2 => ?_)
    · replace j := j.1 c2
      refine yT.zk (pc' := 17) (z := 0) rfl rfl (by decide) ?_
      exact yT.retZ rfl rfl (Or.inl rfl) ⟨_, rfl, hT, (Or.inl rfl), j⟩
    · replace j := j.2 c2
      refine yT.zk (pc' := 13) (z := 1) rfl rfl (by decide) ?_
      refine yT.p (pc' := 17) rfl rfl (fun _ _ _ _ => rfl) ?_
      exact yT.retZ rfl rfl (Or.inr rfl) ⟨_, rfl, hT, (Or.inr rfl), j⟩
-- rX3_addStep
def WRe_addStep  (q0 : Nat) (x1 : Int32) (x2 : Int32) (m : Mm) (K : Mm → Prop) : Prop := ∃ p1, m.rv q0 0 = p1 + 1 ∧ WNu_add p1 x1 m (fun m4 => ∃ p6, m4.rv q0 1 = p6 + 1 ∧ WNu_add p6 x2 m4 (fun m9 => K m9))
set_option maxRecDepth 100000 in
set_option maxHeartbeats 4000000 in
theorem kRe_addStep {ks : List Nat} {h : List xE} (hT : TT ks h) {q0 : Nat} (o0 : xnth ks q0 = some 13) (x1 : Int32) (x2 : Int32)  {K : Mm → Prop} (j : WRe_addStep  q0 x1 x2 (mm h) K) : yM 36 (1) 0 [.ref (q0 + 1), .int x1, .int x2] h (PV ks K) := by
  unfold WRe_addStep at j
  refine yM.st xM_36 rfl rfl (fun lv g => ?_)
  have g0 := g 0 _ rfl
  have g1 := g 1 _ rfl
  have g2 := g 2 _ rfl
  refine yT.aan (pc' := 1) g0 rfl rfl rfl ?_
  obtain ⟨p1, w2, j⟩ := j
  refine yT.gR (pc' := 4) rfl rfl hT o0 rfl rfl w2 (fun o3 => ?_)
  refine yT.iln (pc' := 5) g1 rfl rfl ?_
  refine zV (yT.cw (G2 := 0) (pc' := 8) rfl rfl rfl hT o3 xM_47 (kNu_add hT o3 x1 j) rfl (by decide) (by decide) rfl) (fun h4 hT5 j => ?_)
  refine yT.aan (pc' := 9) g0 rfl rfl rfl ?_
  obtain ⟨p6, w7, j⟩ := j
  refine yT.gR (pc' := 12) rfl rfl hT5 o0 rfl rfl w7 (fun o8 => ?_)
  refine yT.iln (pc' := 13) g2 rfl rfl ?_
  refine zV (yT.cw (G2 := 0) (pc' := 16) rfl rfl rfl hT5 o8 xM_47 (kNu_add hT5 o8 x2 j) rfl (by decide) (by decide) rfl) (fun h9 hT10 j => ?_)
  exact yT.retV rfl rfl ⟨rfl, hT10, j⟩
-- rX3_openUp
def WRe_openUp  (q0 : Nat) (x1 : Int32) (m : Mm) (K : Mm → Prop) : Prop := ∃ p1, m.rv q0 3 = p1 + 1 ∧ WNu_add p1 x1 m (fun m4 => ∃ p6, m4.rv q0 4 = p6 + 1 ∧ ∃ p9, m4.rv q0 2 = p9 + 1 ∧ WNu_size p9 m4 (fun m12 x14 => WNu_add p6 x14 m12 (fun m15 => ∃ p17, m15.rv q0 5 = p17 + 1 ∧ WNu_add p17 (-1) m15 (fun m20 => K m20))))
set_option maxRecDepth 100000 in
set_option maxHeartbeats 4000000 in
theorem kRe_openUp {ks : List Nat} {h : List xE} (hT : TT ks h) {q0 : Nat} (o0 : xnth ks q0 = some 13) (x1 : Int32)  {K : Mm → Prop} (j : WRe_openUp  q0 x1 (mm h) K) : yM 33 (1) 0 [.ref (q0 + 1), .int x1] h (PV ks K) := by
  unfold WRe_openUp at j
  refine yM.st xM_33 rfl rfl (fun lv g => ?_)
  have g0 := g 0 _ rfl
  have g1 := g 1 _ rfl
  refine yT.aan (pc' := 1) g0 rfl rfl rfl ?_
  obtain ⟨p1, w2, j⟩ := j
  refine yT.gR (pc' := 4) rfl rfl hT o0 rfl rfl w2 (fun o3 => ?_)
  refine yT.iln (pc' := 5) g1 rfl rfl ?_
  refine zV (yT.cw (G2 := 0) (pc' := 8) rfl rfl rfl hT o3 xM_47 (kNu_add hT o3 x1 j) rfl (by decide) (by decide) rfl) (fun h4 hT5 j => ?_)
  refine yT.aan (pc' := 9) g0 rfl rfl rfl ?_
  obtain ⟨p6, w7, j⟩ := j
  refine yT.gR (pc' := 12) rfl rfl hT5 o0 rfl rfl w7 (fun o8 => ?_)
  refine yT.aan (pc' := 13) g0 rfl rfl rfl ?_
  obtain ⟨p9, w10, j⟩ := j
  refine yT.gR (pc' := 16) rfl rfl hT5 o0 rfl rfl w10 (fun o11 => ?_)
  refine zI (yT.cw (G2 := 0) (pc' := 19) rfl rfl rfl hT5 o11 xM_41 (kNu_size hT5 o11 j) rfl (by decide) (by decide) rfl) (fun h12 x14 hT13 j => ?_)
  refine zV (yT.cw (G2 := 0) (pc' := 22) rfl rfl rfl hT13 o8 xM_47 (kNu_add hT13 o8 x14 j) rfl (by decide) (by decide) rfl) (fun h15 hT16 j => ?_)
  refine yT.aan (pc' := 23) g0 rfl rfl rfl ?_
  obtain ⟨p17, w18, j⟩ := j
  refine yT.gR (pc' := 26) rfl rfl hT16 o0 rfl rfl w18 (fun o19 => ?_)
  refine yT.zk (pc' := 27) (z := (-1)) rfl rfl (by decide) ?_
  refine zV (yT.cw (G2 := 0) (pc' := 30) rfl rfl rfl hT16 o19 xM_47 (kNu_add hT16 o19 (-1) j) rfl (by decide) (by decide) rfl) (fun h20 hT21 j => ?_)
  exact yT.retV rfl rfl ⟨rfl, hT21, j⟩
-- rX3_closeDown
def WRe_closeDown  (q0 : Nat) (m : Mm) (K : Mm → Prop) : Prop := ∃ p1, m.rv q0 3 = p1 + 1 ∧ WNu_dropLast p1 m (fun m4 => ∃ p6, m4.rv q0 4 = p6 + 1 ∧ WNu_dropLast p6 m4 (fun m9 => ∃ p11, m9.rv q0 5 = p11 + 1 ∧ WNu_dropLast p11 m9 (fun m14 => K m14)))
set_option maxRecDepth 100000 in
set_option maxHeartbeats 4000000 in
theorem kRe_closeDown {ks : List Nat} {h : List xE} (hT : TT ks h) {q0 : Nat} (o0 : xnth ks q0 = some 13)  {K : Mm → Prop} (j : WRe_closeDown  q0 (mm h) K) : yM 34 (1) 0 [.ref (q0 + 1)] h (PV ks K) := by
  unfold WRe_closeDown at j
  refine yM.st xM_34 rfl rfl (fun lv g => ?_)
  have g0 := g 0 _ rfl
  refine yT.aan (pc' := 1) g0 rfl rfl rfl ?_
  obtain ⟨p1, w2, j⟩ := j
  refine yT.gR (pc' := 4) rfl rfl hT o0 rfl rfl w2 (fun o3 => ?_)
  refine zV (yT.cw (G2 := 0) (pc' := 7) rfl rfl rfl hT o3 xM_50 (kNu_dropLast hT o3 j) rfl (by decide) (by decide) rfl) (fun h4 hT5 j => ?_)
  refine yT.aan (pc' := 8) g0 rfl rfl rfl ?_
  obtain ⟨p6, w7, j⟩ := j
  refine yT.gR (pc' := 11) rfl rfl hT5 o0 rfl rfl w7 (fun o8 => ?_)
  refine zV (yT.cw (G2 := 0) (pc' := 14) rfl rfl rfl hT5 o8 xM_50 (kNu_dropLast hT5 o8 j) rfl (by decide) (by decide) rfl) (fun h9 hT10 j => ?_)
  refine yT.aan (pc' := 15) g0 rfl rfl rfl ?_
  obtain ⟨p11, w12, j⟩ := j
  refine yT.gR (pc' := 18) rfl rfl hT10 o0 rfl rfl w12 (fun o13 => ?_)
  refine zV (yT.cw (G2 := 0) (pc' := 21) rfl rfl rfl hT10 o13 xM_50 (kNu_dropLast hT10 o13 j) rfl (by decide) (by decide) rfl) (fun h14 hT15 j => ?_)
  exact yT.retV rfl rfl ⟨rfl, hT15, j⟩
-- rX3_closeWithPart
def WRe_closeWithPart  (q0 : Nat) (m : Mm) (K : Mm → Prop) : Prop := ∃ p1, m.rv q0 6 = p1 + 1 ∧ WNu_size p1 m (fun m4 x6 => ∃ p7, m4.rv q0 4 = p7 + 1 ∧ WNu_last p7 m4 (fun m10 x12 => WNu_put p1 (x6 - (1 : Int32)) x12 m10 (fun m13 => WRe_closeDown q0 m13 (fun m15 => K m15))))
set_option maxRecDepth 100000 in
set_option maxHeartbeats 4000000 in
theorem kRe_closeWithPart {ks : List Nat} {h : List xE} (hT : TT ks h) {q0 : Nat} (o0 : xnth ks q0 = some 13)  {K : Mm → Prop} (j : WRe_closeWithPart  q0 (mm h) K) : yM 35 (2) 0 [.ref (q0 + 1)] h (PV ks K) := by
  unfold WRe_closeWithPart at j
  refine yM.st xM_35 rfl rfl (fun lv g => ?_)
  have g0 := g 0 _ rfl
  refine yT.aan (pc' := 1) g0 rfl rfl rfl ?_
  obtain ⟨p1, w2, j⟩ := j
  refine yT.gR (pc' := 4) rfl rfl hT o0 rfl rfl w2 (fun o3 => ?_)
  refine yT.aan (pc' := 5) g0 rfl rfl rfl ?_
  refine yT.gR (pc' := 8) rfl rfl hT o0 rfl rfl w2 (fun _ => ?_)
  refine zI (yT.cw (G2 := 0) (pc' := 11) rfl rfl rfl hT o3 xM_41 (kNu_size hT o3 j) rfl (by decide) (by decide) rfl) (fun h4 x6 hT5 j => ?_)
  refine yT.zk (pc' := 12) (z := 1) rfl rfl (by decide) ?_
  refine yT.p (pc' := 13) rfl rfl (fun _ _ _ _ => rfl) ?_
  refine yT.aan (pc' := 14) g0 rfl rfl rfl ?_
  obtain ⟨p7, w8, j⟩ := j
  refine yT.gR (pc' := 17) rfl rfl hT5 o0 rfl rfl w8 (fun o9 => ?_)
  refine zI (yT.cw (G2 := 0) (pc' := 20) rfl rfl rfl hT5 o9 xM_44 (kNu_last hT5 o9 j) rfl (by decide) (by decide) rfl) (fun h10 x12 hT11 j => ?_)
  refine zV (yT.cw (G2 := 0) (pc' := 23) rfl rfl rfl hT11 o3 xM_48 (kNu_put hT11 o3 (x6 - (1 : Int32)) x12 j) rfl (by decide) (by decide) rfl) (fun h13 hT14 j => ?_)
  refine yT.aan (pc' := 24) g0 rfl rfl rfl ?_
  refine zV (yT.cw (G2 := 0) (pc' := 27) rfl rfl rfl hT14 o0 xM_34 (kRe_closeDown hT14 o0 j) rfl (by decide) (by decide) rfl) (fun h15 hT16 j => ?_)
  exact yT.retV rfl rfl ⟨rfl, hT16, j⟩
-- rX3_joiningSign
def WRe_joiningSign  (x0 : Int32) (m : Mm) (K : Mm → Int32 → Prop) : Prop := (x0.toInt = 37 → K m 4) ∧ (¬ x0.toInt = 37 → (x0.toInt = 42 → K m 2) ∧ (¬ x0.toInt = 42 → (x0.toInt = 43 → K m 0) ∧ (¬ x0.toInt = 43 → (x0.toInt = 45 → K m 1) ∧ (¬ x0.toInt = 45 → (x0.toInt = 47 → K m 3) ∧ (¬ x0.toInt = 47 → (x0.toInt = 60 → K m 5) ∧ (¬ x0.toInt = 60 → (x0.toInt = 61 → K m 6) ∧ (¬ x0.toInt = 61 → (x0.toInt = 62 → K m 7) ∧ (¬ x0.toInt = 62 → K m (-1)))))))))
set_option maxRecDepth 100000 in
set_option maxHeartbeats 4000000 in
theorem kRe_joiningSign {ks : List Nat} {h : List xE} (hT : TT ks h) (x0 : Int32)  {K : Mm → Int32 → Prop} (j : WRe_joiningSign  x0 (mm h) K) : yM 37 (0) 0 [.int x0] h (PI ks K) := by
  unfold WRe_joiningSign at j
  refine yM.st xM_37 rfl rfl (fun lv g => ?_)
  have g0 := g 0 _ rfl
  refine yT.iln (pc' := 1) g0 rfl rfl ?_
  by_cases c1 : x0.toInt = 37
  · replace j := j.1 c1
    refine yT.tswK 0 (t := 128) rfl rfl (by omega) rfl rfl ?_
    refine yT.zk (pc' := 129) (z := 4) rfl rfl (by decide) ?_
    exact yT.retI rfl rfl ⟨_, rfl, hT, j⟩
  · replace j := j.2 c1
    by_cases c2 : x0.toInt = 42
    · replace j := j.1 c2
      refine yT.tswK 5 (t := 124) rfl rfl (by omega) rfl rfl ?_
      refine yT.zk (pc' := 125) (z := 2) rfl rfl (by decide) ?_
      exact yT.retI rfl rfl ⟨_, rfl, hT, j⟩
    · replace j := j.2 c2
      by_cases c3 : x0.toInt = 43
      · replace j := j.1 c3
        refine yT.tswK 6 (t := 120) rfl rfl (by omega) rfl rfl ?_
        refine yT.zk (pc' := 121) (z := 0) rfl rfl (by decide) ?_
        exact yT.retI rfl rfl ⟨_, rfl, hT, j⟩
      · replace j := j.2 c3
        by_cases c4 : x0.toInt = 45
        · replace j := j.1 c4
          refine yT.tswK 8 (t := 122) rfl rfl (by omega) rfl rfl ?_
          refine yT.zk (pc' := 123) (z := 1) rfl rfl (by decide) ?_
          exact yT.retI rfl rfl ⟨_, rfl, hT, j⟩
        · replace j := j.2 c4
          by_cases c5 : x0.toInt = 47
          · replace j := j.1 c5
            refine yT.tswK 10 (t := 126) rfl rfl (by omega) rfl rfl ?_
            refine yT.zk (pc' := 127) (z := 3) rfl rfl (by decide) ?_
            exact yT.retI rfl rfl ⟨_, rfl, hT, j⟩
          · replace j := j.2 c5
            by_cases c6 : x0.toInt = 60
            · replace j := j.1 c6
              refine yT.tswK 23 (t := 130) rfl rfl (by omega) rfl rfl ?_
              refine yT.zk (pc' := 131) (z := 5) rfl rfl (by decide) ?_
              exact yT.retI rfl rfl ⟨_, rfl, hT, j⟩
            · replace j := j.2 c6
              by_cases c7 : x0.toInt = 61
              · replace j := j.1 c7
                refine yT.tswK 24 (t := 132) rfl rfl (by omega) rfl rfl ?_
                refine yT.zb (pc' := 134) (z := 6) rfl rfl (by decide) ?_
                exact yT.retI rfl rfl ⟨_, rfl, hT, j⟩
              · replace j := j.2 c7
                by_cases c8 : x0.toInt = 62
                · replace j := j.1 c8
                  refine yT.tswK 25 (t := 135) rfl rfl (by omega) rfl rfl ?_
                  refine yT.zb (pc' := 137) (z := 7) rfl rfl (by decide) ?_
                  exact yT.retI rfl rfl ⟨_, rfl, hT, j⟩
                · replace j := j.2 c8
                  refine yT.tswJ (t := 138) ?_ ?_
                  · intro J9
                    by_cases c10 : x0.toInt = 38
                    · exact yT.tswK 1 (t := 138) rfl rfl (by omega) rfl rfl J9
                    · by_cases c11 : x0.toInt = 39
                      · exact yT.tswK 2 (t := 138) rfl rfl (by omega) rfl rfl J9
                      · by_cases c12 : x0.toInt = 40
                        · exact yT.tswK 3 (t := 138) rfl rfl (by omega) rfl rfl J9
                        · by_cases c13 : x0.toInt = 41
                          · exact yT.tswK 4 (t := 138) rfl rfl (by omega) rfl rfl J9
                          · by_cases c14 : x0.toInt = 44
                            · exact yT.tswK 7 (t := 138) rfl rfl (by omega) rfl rfl J9
                            · by_cases c15 : x0.toInt = 46
                              · exact yT.tswK 9 (t := 138) rfl rfl (by omega) rfl rfl J9
                              · by_cases c16 : x0.toInt = 48
                                · exact yT.tswK 11 (t := 138) rfl rfl (by omega) rfl rfl J9
                                · by_cases c17 : x0.toInt = 49
                                  · exact yT.tswK 12 (t := 138) rfl rfl (by omega) rfl rfl J9
                                  · by_cases c18 : x0.toInt = 50
                                    · exact yT.tswK 13 (t := 138) rfl rfl (by omega) rfl rfl J9
                                    · by_cases c19 : x0.toInt = 51
                                      · exact yT.tswK 14 (t := 138) rfl rfl (by omega) rfl rfl J9
                                      · by_cases c20 : x0.toInt = 52
                                        · exact yT.tswK 15 (t := 138) rfl rfl (by omega) rfl rfl J9
                                        · by_cases c21 : x0.toInt = 53
                                          · exact yT.tswK 16 (t := 138) rfl rfl (by omega) rfl rfl J9
                                          · by_cases c22 : x0.toInt = 54
                                            · exact yT.tswK 17 (t := 138) rfl rfl (by omega) rfl rfl J9
                                            · by_cases c23 : x0.toInt = 55
                                              · exact yT.tswK 18 (t := 138) rfl rfl (by omega) rfl rfl J9
                                              · by_cases c24 : x0.toInt = 56
                                                · exact yT.tswK 19 (t := 138) rfl rfl (by omega) rfl rfl J9
                                                · by_cases c25 : x0.toInt = 57
                                                  · exact yT.tswK 20 (t := 138) rfl rfl (by omega) rfl rfl J9
                                                  · by_cases c26 : x0.toInt = 58
                                                    · exact yT.tswK 21 (t := 138) rfl rfl (by omega) rfl rfl J9
                                                    · by_cases c27 : x0.toInt = 59
                                                      · exact yT.tswK 22 (t := 138) rfl rfl (by omega) rfl rfl J9
                                                      · exact yT.tswD (t := 138) rfl rfl rfl (by omega) J9
                  · refine yT.zk (pc' := 139) (z := (-1)) rfl rfl (by decide) ?_
                    exact yT.retI rfl rfl ⟨_, rfl, hT, j⟩
-- rX3_level
def WRe_level  (x0 : Int32) (m : Mm) (K : Mm → Int32 → Prop) : Prop := (x0.toInt = 0 → K m 2) ∧ (¬ x0.toInt = 0 → (x0.toInt = 1 → K m 2) ∧ (¬ x0.toInt = 1 → (x0.toInt = 2 → K m 3) ∧ (¬ x0.toInt = 2 → (x0.toInt = 3 → K m 3) ∧ (¬ x0.toInt = 3 → (x0.toInt = 4 → K m 3) ∧ (¬ x0.toInt = 4 → (x0.toInt = 5 → K m 1) ∧ (¬ x0.toInt = 5 → (x0.toInt = 6 → K m 1) ∧ (¬ x0.toInt = 6 → (x0.toInt = 7 → K m 1) ∧ (¬ x0.toInt = 7 → K m 0))))))))
set_option maxRecDepth 100000 in
set_option maxHeartbeats 4000000 in
theorem kRe_level {ks : List Nat} {h : List xE} (hT : TT ks h) (x0 : Int32)  {K : Mm → Int32 → Prop} (j : WRe_level  x0 (mm h) K) : yM 38 (0) 0 [.int x0] h (PI ks K) := by
  unfold WRe_level at j
  refine yM.st xM_38 rfl rfl (fun lv g => ?_)
  have g0 := g 0 _ rfl
  refine yT.iln (pc' := 1) g0 rfl rfl ?_
  by_cases c1 : x0.toInt = 0
  · replace j := j.1 c1
    refine yT.tswK 0 (t := 50) rfl rfl (by omega) rfl rfl ?_
    refine yT.zk (pc' := 51) (z := 2) rfl rfl (by decide) ?_
    exact yT.retI rfl rfl ⟨_, rfl, hT, j⟩
  · replace j := j.2 c1
    by_cases c2 : x0.toInt = 1
    · replace j := j.1 c2
      refine yT.tswK 1 (t := 50) rfl rfl (by omega) rfl rfl ?_
      refine yT.zk (pc' := 51) (z := 2) rfl rfl (by decide) ?_
      exact yT.retI rfl rfl ⟨_, rfl, hT, j⟩
    · replace j := j.2 c2
      by_cases c3 : x0.toInt = 2
      · replace j := j.1 c3
        refine yT.tswK 2 (t := 48) rfl rfl (by omega) rfl rfl ?_
        refine yT.zk (pc' := 49) (z := 3) rfl rfl (by decide) ?_
        exact yT.retI rfl rfl ⟨_, rfl, hT, j⟩
      · replace j := j.2 c3
        by_cases c4 : x0.toInt = 3
        · replace j := j.1 c4
          refine yT.tswK 3 (t := 48) rfl rfl (by omega) rfl rfl ?_
          refine yT.zk (pc' := 49) (z := 3) rfl rfl (by decide) ?_
          exact yT.retI rfl rfl ⟨_, rfl, hT, j⟩
        · replace j := j.2 c4
          by_cases c5 : x0.toInt = 4
          · replace j := j.1 c5
            refine yT.tswK 4 (t := 48) rfl rfl (by omega) rfl rfl ?_
            refine yT.zk (pc' := 49) (z := 3) rfl rfl (by decide) ?_
            exact yT.retI rfl rfl ⟨_, rfl, hT, j⟩
          · replace j := j.2 c5
            by_cases c6 : x0.toInt = 5
            · replace j := j.1 c6
              refine yT.tswK 5 (t := 52) rfl rfl (by omega) rfl rfl ?_
              refine yT.zk (pc' := 53) (z := 1) rfl rfl (by decide) ?_
              exact yT.retI rfl rfl ⟨_, rfl, hT, j⟩
            · replace j := j.2 c6
              by_cases c7 : x0.toInt = 6
              · replace j := j.1 c7
                refine yT.tswK 6 (t := 52) rfl rfl (by omega) rfl rfl ?_
                refine yT.zk (pc' := 53) (z := 1) rfl rfl (by decide) ?_
                exact yT.retI rfl rfl ⟨_, rfl, hT, j⟩
              · replace j := j.2 c7
                by_cases c8 : x0.toInt = 7
                · replace j := j.1 c8
                  refine yT.tswK 7 (t := 52) rfl rfl (by omega) rfl rfl ?_
                  refine yT.zk (pc' := 53) (z := 1) rfl rfl (by decide) ?_
                  exact yT.retI rfl rfl ⟨_, rfl, hT, j⟩
                · replace j := j.2 c8
                  refine yT.tswD (t := 54) rfl rfl rfl (by omega) ?_
                  refine yT.zk (pc' := 55) (z := 0) rfl rfl (by decide) ?_
                  exact yT.retI rfl rfl ⟨_, rfl, hT, j⟩
-- rX3_awaited
def WRe_awaited  (x0 : Int32) (m : Mm) (K : Mm → Int32 → Prop) : Prop := (x0.toInt = 21 → K m 63) ∧ (¬ x0.toInt = 21 → (x0.toInt = 22 → K m 58) ∧ (¬ x0.toInt = 22 → (x0.toInt = 23 → K m 93) ∧ (¬ x0.toInt = 23 → (x0.toInt = 24 → K m 44) ∧ (¬ x0.toInt = 24 → K m 41))))
set_option maxRecDepth 100000 in
set_option maxHeartbeats 4000000 in
theorem kRe_awaited {ks : List Nat} {h : List xE} (hT : TT ks h) (x0 : Int32)  {K : Mm → Int32 → Prop} (j : WRe_awaited  x0 (mm h) K) : yM 39 (0) 0 [.int x0] h (PI ks K) := by
  unfold WRe_awaited at j
  refine yM.st xM_39 rfl rfl (fun lv g => ?_)
  have g0 := g 0 _ rfl
  refine yT.iln (pc' := 1) g0 rfl rfl ?_
  by_cases c1 : x0.toInt = 21
  · replace j := j.1 c1
    refine yT.tswK 0 (t := 32) rfl rfl (by omega) rfl rfl ?_
    refine yT.zb (pc' := 34) (z := 63) rfl rfl (by decide) ?_
    exact yT.retI rfl rfl ⟨_, rfl, hT, j⟩
  · replace j := j.2 c1
    by_cases c2 : x0.toInt = 22
    · replace j := j.1 c2
      refine yT.tswK 1 (t := 35) rfl rfl (by omega) rfl rfl ?_
      refine yT.zb (pc' := 37) (z := 58) rfl rfl (by decide) ?_
      exact yT.retI rfl rfl ⟨_, rfl, hT, j⟩
    · replace j := j.2 c2
      by_cases c3 : x0.toInt = 23
      · replace j := j.1 c3
        refine yT.tswK 2 (t := 38) rfl rfl (by omega) rfl rfl ?_
        refine yT.zb (pc' := 40) (z := 93) rfl rfl (by decide) ?_
        exact yT.retI rfl rfl ⟨_, rfl, hT, j⟩
      · replace j := j.2 c3
        by_cases c4 : x0.toInt = 24
        · replace j := j.1 c4
          refine yT.tswK 3 (t := 41) rfl rfl (by omega) rfl rfl ?_
          refine yT.zb (pc' := 43) (z := 44) rfl rfl (by decide) ?_
          exact yT.retI rfl rfl ⟨_, rfl, hT, j⟩
        · replace j := j.2 c4
          refine yT.tswD (t := 44) rfl rfl rfl (by omega) ?_
          refine yT.zb (pc' := 46) (z := 41) rfl rfl (by decide) ?_
          exact yT.retI rfl rfl ⟨_, rfl, hT, j⟩
-- rX3_choose
def WRe_choose  (q0 : Nat) (x1 : Int32) (x2 : Int32) (m : Mm) (K : Mm → Prop) : Prop := ∃ p1, m.rv q0 6 = p1 + 1 ∧ WNu_dropLast p1 m (fun m4 => WRe_addStep q0 x1 0 m4 (fun m6 => ∃ p8, m6.rv q0 1 = p8 + 1 ∧ ∃ p11, m6.rv q0 5 = p11 + 1 ∧ WNu_last p11 m6 (fun m14 x16 => ∃ p17, m14.rv q0 0 = p17 + 1 ∧ WNu_size p17 m14 (fun m20 x22 => WNu_put p8 x16 x22 m20 (fun m23 => ∃ p25, m23.rv q0 5 = p25 + 1 ∧ WNu_size p25 m23 (fun m28 x30 => ∃ p31, m28.rv q0 0 = p31 + 1 ∧ WNu_size p31 m28 (fun m34 x36 => WNu_put p25 (x30 - (1 : Int32)) (x36 - (1 : Int32)) m34 (fun m37 => ∃ p39, m37.rv q0 3 = p39 + 1 ∧ WNu_size p39 m37 (fun m42 x44 => WNu_put p39 (x44 - (1 : Int32)) x2 m42 (fun m45 => ∀ m47, m47 = m45.st q0 11 (.int 1) → K m47))))))))))
set_option maxRecDepth 100000 in
set_option maxHeartbeats 4000000 in
theorem kRe_choose {ks : List Nat} {h : List xE} (hT : TT ks h) {q0 : Nat} (o0 : xnth ks q0 = some 13) (x1 : Int32) (x2 : Int32)  {K : Mm → Prop} (j : WRe_choose  q0 x1 x2 (mm h) K) : yM 32 (2) 0 [.ref (q0 + 1), .int x1, .int x2] h (PV ks K) := by
  unfold WRe_choose at j
  refine yM.st xM_32 rfl rfl (fun lv g => ?_)
  have g0 := g 0 _ rfl
  have g1 := g 1 _ rfl
  have g2 := g 2 _ rfl
  refine yT.aan (pc' := 1) g0 rfl rfl rfl ?_
  obtain ⟨p1, w2, j⟩ := j
  refine yT.gR (pc' := 4) rfl rfl hT o0 rfl rfl w2 (fun o3 => ?_)
  refine zV (yT.cw (G2 := 0) (pc' := 7) rfl rfl rfl hT o3 xM_50 (kNu_dropLast hT o3 j) rfl (by decide) (by decide) rfl) (fun h4 hT5 j => ?_)
  refine yT.aan (pc' := 8) g0 rfl rfl rfl ?_
  refine yT.iln (pc' := 9) g1 rfl rfl ?_
  refine yT.zk (pc' := 10) (z := 0) rfl rfl (by decide) ?_
  refine zV (yT.cw (G2 := 0) (pc' := 13) rfl rfl rfl hT5 o0 xM_36 (kRe_addStep hT5 o0 x1 0 j) rfl (by decide) (by decide) rfl) (fun h6 hT7 j => ?_)
  refine yT.aan (pc' := 14) g0 rfl rfl rfl ?_
  obtain ⟨p8, w9, j⟩ := j
  refine yT.gR (pc' := 17) rfl rfl hT7 o0 rfl rfl w9 (fun o10 => ?_)
  refine yT.aan (pc' := 18) g0 rfl rfl rfl ?_
  obtain ⟨p11, w12, j⟩ := j
  refine yT.gR (pc' := 21) rfl rfl hT7 o0 rfl rfl w12 (fun o13 => ?_)
  refine zI (yT.cw (G2 := 0) (pc' := 24) rfl rfl rfl hT7 o13 xM_44 (kNu_last hT7 o13 j) rfl (by decide) (by decide) rfl) (fun h14 x16 hT15 j => ?_)
  refine yT.aan (pc' := 25) g0 rfl rfl rfl ?_
  obtain ⟨p17, w18, j⟩ := j
  refine yT.gR (pc' := 28) rfl rfl hT15 o0 rfl rfl w18 (fun o19 => ?_)
  refine zI (yT.cw (G2 := 0) (pc' := 31) rfl rfl rfl hT15 o19 xM_41 (kNu_size hT15 o19 j) rfl (by decide) (by decide) rfl) (fun h20 x22 hT21 j => ?_)
  refine zV (yT.cw (G2 := 0) (pc' := 34) rfl rfl rfl hT21 o10 xM_48 (kNu_put hT21 o10 x16 x22 j) rfl (by decide) (by decide) rfl) (fun h23 hT24 j => ?_)
  refine yT.aan (pc' := 35) g0 rfl rfl rfl ?_
  obtain ⟨p25, w26, j⟩ := j
  refine yT.gR (pc' := 38) rfl rfl hT24 o0 rfl rfl w26 (fun o27 => ?_)
  refine yT.aan (pc' := 39) g0 rfl rfl rfl ?_
  refine yT.gR (pc' := 42) rfl rfl hT24 o0 rfl rfl w26 (fun _ => ?_)
  refine zI (yT.cw (G2 := 0) (pc' := 45) rfl rfl rfl hT24 o27 xM_41 (kNu_size hT24 o27 j) rfl (by decide) (by decide) rfl) (fun h28 x30 hT29 j => ?_)
  refine yT.zk (pc' := 46) (z := 1) rfl rfl (by decide) ?_
  refine yT.p (pc' := 47) rfl rfl (fun _ _ _ _ => rfl) ?_
  refine yT.aan (pc' := 48) g0 rfl rfl rfl ?_
  obtain ⟨p31, w32, j⟩ := j
  refine yT.gR (pc' := 51) rfl rfl hT29 o0 rfl rfl w32 (fun o33 => ?_)
  refine zI (yT.cw (G2 := 0) (pc' := 54) rfl rfl rfl hT29 o33 xM_41 (kNu_size hT29 o33 j) rfl (by decide) (by decide) rfl) (fun h34 x36 hT35 j => ?_)
  refine yT.zk (pc' := 55) (z := 1) rfl rfl (by decide) ?_
  refine yT.p (pc' := 56) rfl rfl (fun _ _ _ _ => rfl) ?_
  refine zV (yT.cw (G2 := 0) (pc' := 59) rfl rfl rfl hT35 o27 xM_48 (kNu_put hT35 o27 (x30 - (1 : Int32)) (x36 - (1 : Int32)) j) rfl (by decide) (by decide) rfl) (fun h37 hT38 j => ?_)
  refine yT.aan (pc' := 60) g0 rfl rfl rfl ?_
  obtain ⟨p39, w40, j⟩ := j
  refine yT.gR (pc' := 63) rfl rfl hT38 o0 rfl rfl w40 (fun o41 => ?_)
  refine yT.aan (pc' := 64) g0 rfl rfl rfl ?_
  refine yT.gR (pc' := 67) rfl rfl hT38 o0 rfl rfl w40 (fun _ => ?_)
  refine zI (yT.cw (G2 := 0) (pc' := 70) rfl rfl rfl hT38 o41 xM_41 (kNu_size hT38 o41 j) rfl (by decide) (by decide) rfl) (fun h42 x44 hT43 j => ?_)
  refine yT.zk (pc' := 71) (z := 1) rfl rfl (by decide) ?_
  refine yT.p (pc' := 72) rfl rfl (fun _ _ _ _ => rfl) ?_
  refine yT.iln (pc' := 73) g2 rfl rfl ?_
  refine zV (yT.cw (G2 := 0) (pc' := 76) rfl rfl rfl hT43 o41 xM_48 (kNu_put hT43 o41 (x44 - (1 : Int32)) x2 j) rfl (by decide) (by decide) rfl) (fun h45 hT46 j => ?_)
  refine yT.aan (pc' := 77) g0 rfl rfl rfl ?_
  refine yT.zk (pc' := 78) (z := 1) rfl rfl (by decide) ?_
  refine yT.sZ (pc' := 81) rfl rfl hT46 o0 rfl rfl (Or.inr rfl) (fun h47 hT48 e49 => ?_)
  replace j := j _ e49
  exact yT.retV rfl rfl ⟨rfl, hT48, j⟩
-- rX3_readNumber
def WRe_readNumber_L4 (q0 : Nat) (q1 : Nat) (K : Mm → Int32 → Prop) : Nat → Int32 → Int32 → Mm → Prop
  | 0, _, _, _ => False
  | n11 + 1, y7, y9, m2 => ((y9.toInt < (3 : Int32).toInt) → WNu_at q1 (m2.iv q0 9) m2 (fun m14 x16 => WRe_isDigit x16 m14 (fun m17 x19 => ((x19 = 0) → K m17 y7) ∧ (¬ (x19 = 0) → WNu_at q1 (m17.iv q0 9) m17 (fun m22 x24 => ∃ p25, m22.rv q0 2 = p25 + 1 ∧ WNu_at q1 (m22.iv q0 9) m22 (fun m28 x30 => WNu_add p25 x30 m28 (fun m31 => ∀ m33, m33 = m31.st q0 9 (.int ((m31.iv q0 9) + (1 : Int32))) → WRe_readNumber_L4 q0 q1  K n11 (((y7 * (10 : Int32)) + x24) - (48 : Int32)) (y9 + 1) m33))))))) ∧ (¬ (y9.toInt < (3 : Int32).toInt) → K m2 y7)
set_option maxRecDepth 100000 in
theorem WRe_readNumber_L4_u {q0 : Nat} {q1 : Nat} {K : Mm → Int32 → Prop} {n11 : Nat} {y7 : Int32} {y9 : Int32} {m2 : Mm} (j : WRe_readNumber_L4 q0 q1  K (n11 + 1) y7 y9 m2) : ((y9.toInt < (3 : Int32).toInt) → WNu_at q1 (m2.iv q0 9) m2 (fun m14 x16 => WRe_isDigit x16 m14 (fun m17 x19 => ((x19 = 0) → K m17 y7) ∧ (¬ (x19 = 0) → WNu_at q1 (m17.iv q0 9) m17 (fun m22 x24 => ∃ p25, m22.rv q0 2 = p25 + 1 ∧ WNu_at q1 (m22.iv q0 9) m22 (fun m28 x30 => WNu_add p25 x30 m28 (fun m31 => ∀ m33, m33 = m31.st q0 9 (.int ((m31.iv q0 9) + (1 : Int32))) → WRe_readNumber_L4 q0 q1  K n11 (((y7 * (10 : Int32)) + x24) - (48 : Int32)) (y9 + 1) m33))))))) ∧ (¬ (y9.toInt < (3 : Int32).toInt) → K m2 y7) := j
set_option maxRecDepth 100000 in
theorem WRe_readNumber_L4_i {q0 : Nat} {q1 : Nat} {K : Mm → Int32 → Prop} {n11 : Nat} {y7 : Int32} {y9 : Int32} {m2 : Mm} (j : ((y9.toInt < (3 : Int32).toInt) → WNu_at q1 (m2.iv q0 9) m2 (fun m14 x16 => WRe_isDigit x16 m14 (fun m17 x19 => ((x19 = 0) → K m17 y7) ∧ (¬ (x19 = 0) → WNu_at q1 (m17.iv q0 9) m17 (fun m22 x24 => ∃ p25, m22.rv q0 2 = p25 + 1 ∧ WNu_at q1 (m22.iv q0 9) m22 (fun m28 x30 => WNu_add p25 x30 m28 (fun m31 => ∀ m33, m33 = m31.st q0 9 (.int ((m31.iv q0 9) + (1 : Int32))) → WRe_readNumber_L4 q0 q1  K n11 (((y7 * (10 : Int32)) + x24) - (48 : Int32)) (y9 + 1) m33))))))) ∧ (¬ (y9.toInt < (3 : Int32).toInt) → K m2 y7)) : WRe_readNumber_L4 q0 q1  K (n11 + 1) y7 y9 m2 := j
def WRe_readNumber  (q0 : Nat) (q1 : Nat) (m : Mm) (K : Mm → Int32 → Prop) : Prop := ∃ n36, WRe_readNumber_L4 q0 q1  K n36 0 0 m
set_option maxRecDepth 100000 in
set_option maxHeartbeats 4000000 in
theorem kRe_readNumber {ks : List Nat} {h : List xE} (hT : TT ks h) {q0 : Nat} (o0 : xnth ks q0 = some 13) {q1 : Nat} (o1 : xnth ks q1 = some 14)  {K : Mm → Int32 → Prop} (j : WRe_readNumber  q0 q1 (mm h) K) : yM 25 (1) 0 [.ref (q0 + 1), .ref (q1 + 1)] h (PI ks K) := by
  unfold WRe_readNumber at j
  refine yM.st xM_25 rfl rfl (fun lv g => ?_)
  have g0 := g 0 _ rfl
  have g1 := g 1 _ rfl
  refine yT.zk (pc' := 1) (z := 0) rfl rfl (by decide) ?_
  refine yT.p (pc' := 2) (lv' := xst1 _ 2 (.int 0)) rfl rfl (fun _ _ _ _ => rfl) ?_
  refine yT.zk (pc' := 3) (z := 0) rfl rfl (by decide) ?_
  refine yT.p (pc' := 4) (lv' := xst1 _ 3 (.int 0)) rfl rfl (fun _ _ _ _ => rfl) ?_
  have L10 : ∀ (n11 : Nat) (lv1 : xLv) (h2 : List xE) (y7 : Int32) (y9 : Int32), TT ks h2 → xget lv1 0 = some (.ref (q0 + 1)) → xget lv1 1 = some (.ref (q1 + 1)) → xget lv1 2 = some (.int y7) → xget lv1 3 = some (.int y9) → WRe_readNumber_L4 q0 q1  K n11 y7 y9 (mm h2) → yT 0 [] rX3_readNumber (1) 0 4 lv1 [] h2 (PI ks K) := by
    intro n11
    induction n11 with
    | zero => intro lv1 h2 y7 y9 hT3 g4 g5 g6 g8 j; exact j.elim
    | succ n11 ih12 =>
      intro lv1 h2 y7 y9 hT3 g4 g5 g6 g8 j
      replace j := WRe_readNumber_L4_u j
      refine yT.iln (pc' := 5) g8 rfl rfl ?_
      refine yT.zk (pc' := 6) (z := 3) rfl rfl (by decide) ?_
      refine yT.zge2 (t := 71) (pc' := 9) rfl rfl rfl (fun c13 => ?_) (fun c13 => ?_)
      · replace j := j.1 c13
        refine yT.aan (pc' := 10) g5 rfl rfl rfl ?_
        refine yT.aan (pc' := 11) g4 rfl rfl rfl ?_
        refine yT.gI (pc' := 14) rfl rfl hT3 o0 rfl ?_
        refine zI (yT.cw (G2 := 0) (pc' := 17) rfl rfl rfl hT3 o1 xM_43 (kNu_at hT3 o1 ((mm h2).iv q0 9) j) rfl (by decide) (by decide) rfl) (fun h14 x16 hT15 j => ?_)
        refine zZ (yT.cst (G2 := 0) (pc' := 20) rfl rfl xM_27 (kRe_isDigit hT15 x16 j) rfl (by decide) (by decide) rfl) (fun h17 x19 hT18 b20 j => ?_)
        refine yT.zeq1 (t := 71) (pc' := 23) rfl rfl rfl (fun c21 => ?_) (fun c21 => ?_)
        · replace j := j.1 c21
          refine yT.iln (pc' := 72) g6 rfl rfl ?_
          exact yT.retI rfl rfl ⟨_, rfl, hT18, j⟩
        · replace j := j.2 c21
          refine yT.iln (pc' := 24) g6 rfl rfl ?_
          refine yT.zb (pc' := 26) (z := 10) rfl rfl (by decide) ?_
          refine yT.p (pc' := 27) rfl rfl (fun _ _ _ _ => rfl) ?_
          refine yT.aan (pc' := 28) g5 rfl rfl rfl ?_
          refine yT.aan (pc' := 29) g4 rfl rfl rfl ?_
          refine yT.gI (pc' := 32) rfl rfl hT18 o0 rfl ?_
          refine zI (yT.cw (G2 := 0) (pc' := 35) rfl rfl rfl hT18 o1 xM_43 (kNu_at hT18 o1 ((mm h17).iv q0 9) j) rfl (by decide) (by decide) rfl) (fun h22 x24 hT23 j => ?_)
          refine yT.p (pc' := 36) rfl rfl (fun _ _ _ _ => rfl) ?_
          refine yT.zb (pc' := 38) (z := 48) rfl rfl (by decide) ?_
          refine yT.p (pc' := 39) rfl rfl (fun _ _ _ _ => rfl) ?_
          refine yT.p (pc' := 40) (lv' := xst1 _ 2 (.int (((y7 * (10 : Int32)) + x24) - (48 : Int32)))) rfl rfl (fun _ _ _ _ => rfl) ?_
          refine yT.aan (pc' := 41) (xg_ne g4 rfl) rfl rfl rfl ?_
          obtain ⟨p25, w26, j⟩ := j
          refine yT.gR (pc' := 44) rfl rfl hT23 o0 rfl rfl w26 (fun o27 => ?_)
          refine yT.aan (pc' := 45) (xg_ne g5 rfl) rfl rfl rfl ?_
          refine yT.aan (pc' := 46) (xg_ne g4 rfl) rfl rfl rfl ?_
          refine yT.gI (pc' := 49) rfl rfl hT23 o0 rfl ?_
          refine zI (yT.cw (G2 := 0) (pc' := 52) rfl rfl rfl hT23 o1 xM_43 (kNu_at hT23 o1 ((mm h22).iv q0 9) j) rfl (by decide) (by decide) rfl) (fun h28 x30 hT29 j => ?_)
          refine zV (yT.cw (G2 := 0) (pc' := 55) rfl rfl rfl hT29 o27 xM_47 (kNu_add hT29 o27 x30 j) rfl (by decide) (by decide) rfl) (fun h31 hT32 j => ?_)
          refine yT.aan (pc' := 56) (xg_ne g4 rfl) rfl rfl rfl ?_
          refine yT.p (pc' := 57) rfl rfl (fun _ _ _ _ => rfl) ?_
          refine yT.gI (pc' := 60) rfl rfl hT32 o0 rfl ?_
          refine yT.zk (pc' := 61) (z := 1) rfl rfl (by decide) ?_
          refine yT.p (pc' := 62) rfl rfl (fun _ _ _ _ => rfl) ?_
          refine yT.sI (pc' := 65) rfl rfl hT32 o0 rfl rfl (fun h33 hT34 e35 => ?_)
          replace j := j _ e35
          refine yT.iif (pc' := 68) (z := y9 + 1) (xg_ne g8 rfl) rfl rfl rfl rfl ?_
          refine yT.p (pc' := 4) rfl rfl (fun _ _ _ _ => rfl) ?_
          exact ih12 _ _ _ _ hT34 (xg_ne (xg_ne g4 rfl) rfl) (xg_ne (xg_ne g5 rfl) rfl) (xg_ne xg_eq rfl) xg_eq j
      · replace j := j.2 c13
        refine yT.iln (pc' := 72) g6 rfl rfl ?_
        exact yT.retI rfl rfl ⟨_, rfl, hT3, j⟩
  obtain ⟨n36, j⟩ := j
  exact L10 n36 _ _ _ _ hT (xg_ne (xg_ne g0 rfl) rfl) (xg_ne (xg_ne g1 rfl) rfl) (xg_ne xg_eq rfl) xg_eq j
-- rX3_readPlainPart
def WRe_readPlainPart  (q0 : Nat) (q1 : Nat) (x2 : Int32) (m : Mm) (K : Mm → Prop) : Prop := WRe_isLetter q0 x2 m (fun m1 x3 => ((x3 = 0) → WRe_isDigit x2 m1 (fun m6 x8 => ((x8 = 0) → ∀ m11, m11 = m6.st q0 10 (.int (m6.iv q0 9)) → K m11) ∧ (¬ (x8 = 0) → ∃ p14, m6.rv q0 6 = p14 + 1 ∧ ∃ p17, m6.rv q0 2 = p17 + 1 ∧ WNu_size p17 m6 (fun m20 x22 => WNu_add p14 x22 m20 (fun m23 => WRe_readNumber q0 q1 m23 (fun m25 x27 => WRe_addStep q0 10 x27 m25 (fun m28 => ∀ m30, m30 = m28.st q0 12 (.int 1) → K m30))))))) ∧ (¬ (x3 = 0) → ∃ p33, m1.rv q0 6 = p33 + 1 ∧ ∃ p36, m1.rv q0 2 = p36 + 1 ∧ WNu_size p36 m1 (fun m39 x41 => WNu_add p33 x41 m39 (fun m42 => ∃ p44, m42.rv q0 2 = p44 + 1 ∧ WNu_add p44 x2 m42 (fun m47 => ∀ m49, m49 = m47.st q0 9 (.int ((m47.iv q0 9) + (1 : Int32))) → WRe_addStep q0 11 (x2 - (97 : Int32)) m49 (fun m52 => ∀ m54, m54 = m52.st q0 12 (.int 1) → K m54))))))
set_option maxRecDepth 100000 in
set_option maxHeartbeats 4000000 in
theorem kRe_readPlainPart {ks : List Nat} {h : List xE} (hT : TT ks h) {q0 : Nat} (o0 : xnth ks q0 = some 13) {q1 : Nat} (o1 : xnth ks q1 = some 14) (x2 : Int32)  {K : Mm → Prop} (j : WRe_readPlainPart  q0 q1 x2 (mm h) K) : yM 24 (2) 0 [.ref (q0 + 1), .ref (q1 + 1), .int x2] h (PV ks K) := by
  unfold WRe_readPlainPart at j
  refine yM.st xM_24 rfl rfl (fun lv g => ?_)
  have g0 := g 0 _ rfl
  have g1 := g 1 _ rfl
  have g2 := g 2 _ rfl
  refine yT.aan (pc' := 1) g0 rfl rfl rfl ?_
  refine yT.iln (pc' := 2) g2 rfl rfl ?_
  refine zZ (yT.cw (G2 := 0) (pc' := 5) rfl rfl rfl hT o0 xM_26 (kRe_isLetter hT o0 x2 j) rfl (by decide) (by decide) rfl) (fun h1 x3 hT2 b4 j => ?_)
  refine yT.zeq1 (t := 58) (pc' := 8) rfl rfl rfl (fun c5 => ?_) (fun c5 => ?_)
  · replace j := j.1 c5
    refine yT.iln (pc' := 59) g2 rfl rfl ?_
    refine zZ (yT.cst (G2 := 0) (pc' := 62) rfl rfl xM_27 (kRe_isDigit hT2 x2 j) rfl (by decide) (by decide) rfl) (fun h6 x8 hT7 b9 j => ?_)
    refine yT.zeq1 (t := 98) (pc' := 65) rfl rfl rfl (fun c10 => ?_) (fun c10 => ?_)
    · replace j := j.1 c10
      refine yT.aan (pc' := 99) g0 rfl rfl rfl ?_
      refine yT.aan (pc' := 100) g0 rfl rfl rfl ?_
      refine yT.gI (pc' := 103) rfl rfl hT7 o0 rfl ?_
      refine yT.sI (pc' := 106) rfl rfl hT7 o0 rfl rfl (fun h11 hT12 e13 => ?_)
      replace j := j _ e13
      exact yT.retV rfl rfl ⟨rfl, hT12, j⟩
    · replace j := j.2 c10
      refine yT.aan (pc' := 66) g0 rfl rfl rfl ?_
      obtain ⟨p14, w15, j⟩ := j
      refine yT.gR (pc' := 69) rfl rfl hT7 o0 rfl rfl w15 (fun o16 => ?_)
      refine yT.aan (pc' := 70) g0 rfl rfl rfl ?_
      obtain ⟨p17, w18, j⟩ := j
      refine yT.gR (pc' := 73) rfl rfl hT7 o0 rfl rfl w18 (fun o19 => ?_)
      refine zI (yT.cw (G2 := 0) (pc' := 76) rfl rfl rfl hT7 o19 xM_41 (kNu_size hT7 o19 j) rfl (by decide) (by decide) rfl) (fun h20 x22 hT21 j => ?_)
      refine zV (yT.cw (G2 := 0) (pc' := 79) rfl rfl rfl hT21 o16 xM_47 (kNu_add hT21 o16 x22 j) rfl (by decide) (by decide) rfl) (fun h23 hT24 j => ?_)
      refine yT.aan (pc' := 80) g0 rfl rfl rfl ?_
      refine yT.zb (pc' := 82) (z := 10) rfl rfl (by decide) ?_
      refine yT.aan (pc' := 83) g0 rfl rfl rfl ?_
      refine yT.aan (pc' := 84) g1 rfl rfl rfl ?_
      refine zI (yT.cw (G2 := 0) (pc' := 87) rfl rfl rfl hT24 o0 xM_25 (kRe_readNumber hT24 o0 o1 j) rfl (by decide) (by decide) rfl) (fun h25 x27 hT26 j => ?_)
      refine zV (yT.cw (G2 := 0) (pc' := 90) rfl rfl rfl hT26 o0 xM_36 (kRe_addStep hT26 o0 10 x27 j) rfl (by decide) (by decide) rfl) (fun h28 hT29 j => ?_)
      refine yT.aan (pc' := 91) g0 rfl rfl rfl ?_
      refine yT.zk (pc' := 92) (z := 1) rfl rfl (by decide) ?_
      refine yT.sZ (pc' := 95) rfl rfl hT29 o0 rfl rfl (Or.inr rfl) (fun h30 hT31 e32 => ?_)
      replace j := j _ e32
      refine yT.p (pc' := 106) rfl rfl (fun _ _ _ _ => rfl) ?_
      exact yT.retV rfl rfl ⟨rfl, hT31, j⟩
  · replace j := j.2 c5
    refine yT.aan (pc' := 9) g0 rfl rfl rfl ?_
    obtain ⟨p33, w34, j⟩ := j
    refine yT.gR (pc' := 12) rfl rfl hT2 o0 rfl rfl w34 (fun o35 => ?_)
    refine yT.aan (pc' := 13) g0 rfl rfl rfl ?_
    obtain ⟨p36, w37, j⟩ := j
    refine yT.gR (pc' := 16) rfl rfl hT2 o0 rfl rfl w37 (fun o38 => ?_)
    refine zI (yT.cw (G2 := 0) (pc' := 19) rfl rfl rfl hT2 o38 xM_41 (kNu_size hT2 o38 j) rfl (by decide) (by decide) rfl) (fun h39 x41 hT40 j => ?_)
    refine zV (yT.cw (G2 := 0) (pc' := 22) rfl rfl rfl hT40 o35 xM_47 (kNu_add hT40 o35 x41 j) rfl (by decide) (by decide) rfl) (fun h42 hT43 j => ?_)
    refine yT.aan (pc' := 23) g0 rfl rfl rfl ?_
    obtain ⟨p44, w45, j⟩ := j
    refine yT.gR (pc' := 26) rfl rfl hT43 o0 rfl rfl w45 (fun o46 => ?_)
    refine yT.iln (pc' := 27) g2 rfl rfl ?_
    refine zV (yT.cw (G2 := 0) (pc' := 30) rfl rfl rfl hT43 o46 xM_47 (kNu_add hT43 o46 x2 j) rfl (by decide) (by decide) rfl) (fun h47 hT48 j => ?_)
    refine yT.aan (pc' := 31) g0 rfl rfl rfl ?_
    refine yT.p (pc' := 32) rfl rfl (fun _ _ _ _ => rfl) ?_
    refine yT.gI (pc' := 35) rfl rfl hT48 o0 rfl ?_
    refine yT.zk (pc' := 36) (z := 1) rfl rfl (by decide) ?_
    refine yT.p (pc' := 37) rfl rfl (fun _ _ _ _ => rfl) ?_
    refine yT.sI (pc' := 40) rfl rfl hT48 o0 rfl rfl (fun h49 hT50 e51 => ?_)
    replace j := j _ e51
    refine yT.aan (pc' := 41) g0 rfl rfl rfl ?_
    refine yT.zb (pc' := 43) (z := 11) rfl rfl (by decide) ?_
    refine yT.iln (pc' := 44) g2 rfl rfl ?_
    refine yT.zb (pc' := 46) (z := 97) rfl rfl (by decide) ?_
    refine yT.p (pc' := 47) rfl rfl (fun _ _ _ _ => rfl) ?_
    refine zV (yT.cw (G2 := 0) (pc' := 50) rfl rfl rfl hT50 o0 xM_36 (kRe_addStep hT50 o0 11 (x2 - (97 : Int32)) j) rfl (by decide) (by decide) rfl) (fun h52 hT53 j => ?_)
    refine yT.aan (pc' := 51) g0 rfl rfl rfl ?_
    refine yT.zk (pc' := 52) (z := 1) rfl rfl (by decide) ?_
    refine yT.sZ (pc' := 55) rfl rfl hT53 o0 rfl rfl (Or.inr rfl) (fun h54 hT55 e56 => ?_)
    replace j := j _ e56
    refine yT.p (pc' := 106) rfl rfl (fun _ _ _ _ => rfl) ?_
    exact yT.retV rfl rfl ⟨rfl, hT55, j⟩
-- rX3_readGreater
def WRe_readGreater  (q0 : Nat) (q1 : Nat) (m : Mm) (K : Mm → Prop) : Prop := WNu_at q1 ((m.iv q0 9) + (1 : Int32)) m (fun m1 x3 => ((x3 = 40) → WRe_openUp q0 24 m1 (fun m5 => ∃ p7, m5.rv q0 2 = p7 + 1 ∧ WNu_add p7 94 m5 (fun m10 => ∃ p12, m10.rv q0 2 = p12 + 1 ∧ WNu_add p12 40 m10 (fun m15 => ∀ m17, m17 = m15.st q0 9 (.int ((m15.iv q0 9) + (2 : Int32))) → K m17)))) ∧ (¬ (x3 = 40) → ∀ m20, m20 = m1.st q0 10 (.int ((m1.iv q0 9) + (1 : Int32))) → K m20))
set_option maxRecDepth 100000 in
set_option maxHeartbeats 4000000 in
theorem kRe_readGreater {ks : List Nat} {h : List xE} (hT : TT ks h) {q0 : Nat} (o0 : xnth ks q0 = some 13) {q1 : Nat} (o1 : xnth ks q1 = some 14)  {K : Mm → Prop} (j : WRe_readGreater  q0 q1 (mm h) K) : yM 22 (2) 0 [.ref (q0 + 1), .ref (q1 + 1)] h (PV ks K) := by
  unfold WRe_readGreater at j
  refine yM.st xM_22 rfl rfl (fun lv g => ?_)
  have g0 := g 0 _ rfl
  have g1 := g 1 _ rfl
  refine yT.aan (pc' := 1) g1 rfl rfl rfl ?_
  refine yT.aan (pc' := 2) g0 rfl rfl rfl ?_
  refine yT.gI (pc' := 5) rfl rfl hT o0 rfl ?_
  refine yT.zk (pc' := 6) (z := 1) rfl rfl (by decide) ?_
  refine yT.p (pc' := 7) rfl rfl (fun _ _ _ _ => rfl) ?_
  refine zI (yT.cw (G2 := 0) (pc' := 10) rfl rfl rfl hT o1 xM_43 (kNu_at hT o1 (((mm h).iv q0 9) + (1 : Int32)) j) rfl (by decide) (by decide) rfl) (fun h1 x3 hT2 j => ?_)
  refine yT.zb (pc' := 12) (z := 40) rfl rfl (by decide) ?_
  refine yT.zeq2 (t := 26) (pc' := 15) rfl rfl rfl (fun c4 => ?_) (fun c4 => ?_)
  · replace j := j.1 c4
    refine yT.aan (pc' := 27) g0 rfl rfl rfl ?_
    refine yT.zb (pc' := 29) (z := 24) rfl rfl (by decide) ?_
    refine zV (yT.cw (G2 := 0) (pc' := 32) rfl rfl rfl hT2 o0 xM_33 (kRe_openUp hT2 o0 24 j) rfl (by decide) (by decide) rfl) (fun h5 hT6 j => ?_)
    refine yT.aan (pc' := 33) g0 rfl rfl rfl ?_
    obtain ⟨p7, w8, j⟩ := j
    refine yT.gR (pc' := 36) rfl rfl hT6 o0 rfl rfl w8 (fun o9 => ?_)
    refine yT.zb (pc' := 38) (z := 94) rfl rfl (by decide) ?_
    refine zV (yT.cw (G2 := 0) (pc' := 41) rfl rfl rfl hT6 o9 xM_47 (kNu_add hT6 o9 94 j) rfl (by decide) (by decide) rfl) (fun h10 hT11 j => ?_)
    refine yT.aan (pc' := 42) g0 rfl rfl rfl ?_
    obtain ⟨p12, w13, j⟩ := j
    refine yT.gR (pc' := 45) rfl rfl hT11 o0 rfl rfl w13 (fun o14 => ?_)
    refine yT.zb (pc' := 47) (z := 40) rfl rfl (by decide) ?_
    refine zV (yT.cw (G2 := 0) (pc' := 50) rfl rfl rfl hT11 o14 xM_47 (kNu_add hT11 o14 40 j) rfl (by decide) (by decide) rfl) (fun h15 hT16 j => ?_)
    refine yT.aan (pc' := 51) g0 rfl rfl rfl ?_
    refine yT.p (pc' := 52) rfl rfl (fun _ _ _ _ => rfl) ?_
    refine yT.gI (pc' := 55) rfl rfl hT16 o0 rfl ?_
    refine yT.zk (pc' := 56) (z := 2) rfl rfl (by decide) ?_
    refine yT.p (pc' := 57) rfl rfl (fun _ _ _ _ => rfl) ?_
    refine yT.sI (pc' := 60) rfl rfl hT16 o0 rfl rfl (fun h17 hT18 e19 => ?_)
    replace j := j _ e19
    exact yT.retV rfl rfl ⟨rfl, hT18, j⟩
  · replace j := j.2 c4
    refine yT.aan (pc' := 16) g0 rfl rfl rfl ?_
    refine yT.aan (pc' := 17) g0 rfl rfl rfl ?_
    refine yT.gI (pc' := 20) rfl rfl hT2 o0 rfl ?_
    refine yT.zk (pc' := 21) (z := 1) rfl rfl (by decide) ?_
    refine yT.p (pc' := 22) rfl rfl (fun _ _ _ _ => rfl) ?_
    refine yT.sI (pc' := 25) rfl rfl hT2 o0 rfl rfl (fun h20 hT21 e22 => ?_)
    replace j := j _ e22
    exact yT.retV rfl rfl ⟨rfl, hT21, j⟩
