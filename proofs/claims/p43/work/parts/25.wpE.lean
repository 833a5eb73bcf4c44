-- rX5_disposeOwned
def WPu_disposeOwned_L23 (q0 : Nat) (x2 : Int32) (K : Mm → Prop) : Nat → Int32 → Mm → Prop
  | 0, _, _ => False
  | n11 + 1, y9, m3 => ((y9.toInt < 0) → K m3) ∧ (¬ (y9.toInt < 0) → K m3)
set_option maxRecDepth 100000 in
theorem WPu_disposeOwned_L23_u {q0 : Nat} {x2 : Int32} {K : Mm → Prop} {n11 : Nat} {y9 : Int32} {m3 : Mm} (j : WPu_disposeOwned_L23 q0 x2  K (n11 + 1) y9 m3) : ((y9.toInt < 0) → K m3) ∧ (¬ (y9.toInt < 0) → K m3) := j
set_option maxRecDepth 100000 in
theorem WPu_disposeOwned_L23_i {q0 : Nat} {x2 : Int32} {K : Mm → Prop} {n11 : Nat} {y9 : Int32} {m3 : Mm} (j : ((y9.toInt < 0) → K m3) ∧ (¬ (y9.toInt < 0) → K m3)) : WPu_disposeOwned_L23 q0 x2  K (n11 + 1) y9 m3 := j
def WPu_disposeOwned_L23v17 (q0 : Nat) (x2 : Int32) (x20 : Int32) (K : Mm → Prop) : Nat → Int32 → Mm → Prop
  | 0, _, _ => False
  | n30 + 1, y28, m22 => ((y28.toInt < 0) → K m22) ∧ (¬ (y28.toInt < 0) → ((x20 = 0) → K m22) ∧ (¬ (x20 = 0) → ((((x20 >>> (y28 &&& 31)) &&& (1 : Int32)) = 0) → WPu_disposeOwned_L23v17 q0 x2 x20  K n30 (y28 - 1) m22) ∧ (¬ (((x20 >>> (y28 &&& 31)) &&& (1 : Int32)) = 0) → False)))
set_option maxRecDepth 100000 in
theorem WPu_disposeOwned_L23v17_u {q0 : Nat} {x2 : Int32} {x20 : Int32} {K : Mm → Prop} {n30 : Nat} {y28 : Int32} {m22 : Mm} (j : WPu_disposeOwned_L23v17 q0 x2 x20  K (n30 + 1) y28 m22) : ((y28.toInt < 0) → K m22) ∧ (¬ (y28.toInt < 0) → ((x20 = 0) → K m22) ∧ (¬ (x20 = 0) → ((((x20 >>> (y28 &&& 31)) &&& (1 : Int32)) = 0) → WPu_disposeOwned_L23v17 q0 x2 x20  K n30 (y28 - 1) m22) ∧ (¬ (((x20 >>> (y28 &&& 31)) &&& (1 : Int32)) = 0) → False))) := j
set_option maxRecDepth 100000 in
theorem WPu_disposeOwned_L23v17_i {q0 : Nat} {x2 : Int32} {x20 : Int32} {K : Mm → Prop} {n30 : Nat} {y28 : Int32} {m22 : Mm} (j : ((y28.toInt < 0) → K m22) ∧ (¬ (y28.toInt < 0) → ((x20 = 0) → K m22) ∧ (¬ (x20 = 0) → ((((x20 >>> (y28 &&& 31)) &&& (1 : Int32)) = 0) → WPu_disposeOwned_L23v17 q0 x2 x20  K n30 (y28 - 1) m22) ∧ (¬ (((x20 >>> (y28 &&& 31)) &&& (1 : Int32)) = 0) → False)))) : WPu_disposeOwned_L23v17 q0 x2 x20  K (n30 + 1) y28 m22 := j
def WPu_disposeOwned  (q0 : Nat) (x1 : Int32) (x2 : Int32) (m : Mm) (K : Mm → Prop) : Prop := (((24 : Int32).toInt < x2.toInt) → ∃ n14, WPu_disposeOwned_L23 q0 x2  K n14 23 m) ∧ (¬ ((24 : Int32).toInt < x2.toInt) → ∃ p15, m.rv q0 0 = p15 + 1 ∧ WWe_ownedBy p15 x1 m (fun m18 x20 => ∃ n35, WPu_disposeOwned_L23v17 q0 x2 x20  K n35 23 m18))
set_option maxRecDepth 100000 in
set_option maxHeartbeats 4000000 in
theorem kPu_disposeOwned {ks : List Nat} {h : List xE} (hT : TT ks h) {q0 : Nat} (o0 : xnth ks q0 = some 15) (x1 : Int32) (x2 : Int32)  {K : Mm → Prop} (j : WPu_disposeOwned  q0 x1 x2 (mm h) K) : yM 59 (1) 0 [.ref (q0 + 1), .int x1, .int x2] h (PV ks K) := by
  unfold WPu_disposeOwned at j
  refine yM.st xM_59 rfl rfl (fun lv g => ?_)
  have g0 := g 0 _ rfl
  have g1 := g 1 _ rfl
  have g2 := g 2 _ rfl
  refine yT.iln (pc' := 1) g2 rfl rfl ?_
  refine yT.zb (pc' := 3) (z := 24) rfl rfl (by decide) ?_
  refine yT.zle2 (t := 10) (pc' := 6) rfl rfl rfl (fun c1 => ?_) (fun c1 => ?_)
  · replace j := j.1 c1
    refine yT.zk (pc' := 7) (z := 0) rfl rfl (by decide) ?_
    refine yT.p (pc' := 18) rfl rfl (fun _ _ _ _ => rfl) ?_
    refine yT.p (pc' := 19) (lv' := xst1 _ 3 (.int 0)) rfl rfl (fun _ _ _ _ => rfl) ?_
    refine yT.zb (pc' := 21) (z := 23) rfl rfl (by decide) ?_
    refine yT.p (pc' := 23) (lv' := xst1 _ 4 (.int 23)) rfl rfl (fun _ _ _ _ => rfl) ?_
    have L10 : ∀ (n11 : Nat) (lv2 : xLv) (h3 : List xE) (y9 : Int32), TT ks h3 → xget lv2 0 = some (.ref (q0 + 1)) → xget lv2 2 = some (.int x2) → xget lv2 3 = some (.int 0) → xget lv2 4 = some (.int y9) → WPu_disposeOwned_L23 q0 x2  K n11 y9 (mm h3) → yT 0 [] rX5_disposeOwned (1) 0 23 lv2 [] h3 (PV ks K) := by
      intro n11
      induction n11 with
      | zero => intro lv2 h3 y9 hT4 g5 g6 g7 g8 j; exact j.elim
      | succ n11 ih12 =>
        intro lv2 h3 y9 hT4 g5 g6 g7 g8 j
        replace j := WPu_disposeOwned_L23_u j
        refine yT.il (pc' := 25) g8 rfl rfl ?_
        refine yT.zlt1 (t := 62) (pc' := 28) rfl rfl rfl (fun c13 => ?_) (fun c13 => ?_)
        · replace j := j.1 c13
          exact yT.retV rfl rfl ⟨rfl, hT4, j⟩
        · replace j := j.2 c13
          refine yT.iln (pc' := 29) g7 rfl rfl ?_
          refine yT.zy1 (t := 62) (pc' := 32) rfl rfl rfl (by decide) ?_
          exact yT.retV rfl rfl ⟨rfl, hT4, j⟩
    obtain ⟨n14, j⟩ := j
    exact L10 n14 _ _ _ hT (xg_ne (xg_ne g0 rfl) rfl) (xg_ne (xg_ne g2 rfl) rfl) (xg_ne xg_eq rfl) xg_eq j
  · replace j := j.2 c1
    refine yT.aan (pc' := 11) g0 rfl rfl rfl ?_
    obtain ⟨p15, w16, j⟩ := j
    refine yT.gR (pc' := 14) rfl rfl hT o0 rfl rfl w16 (fun o17 => ?_)
    refine yT.iln (pc' := 15) g1 rfl rfl ?_
    refine zI (yT.cw (G2 := 0) (pc' := 18) rfl rfl rfl hT o17 xM_75 (kWe_ownedBy hT o17 x1 j) rfl (by decide) (by decide) rfl) (fun h18 x20 hT19 j => ?_)
    refine yT.p (pc' := 19) (lv' := xst1 _ 3 (.int x20)) rfl rfl (fun _ _ _ _ => rfl) ?_
    refine yT.zb (pc' := 21) (z := 23) rfl rfl (by decide) ?_
    refine yT.p (pc' := 23) (lv' := xst1 _ 4 (.int 23)) rfl rfl (fun _ _ _ _ => rfl) ?_
    have L29 : ∀ (n30 : Nat) (lv21 : xLv) (h22 : List xE) (y28 : Int32), TT ks h22 → xget lv21 0 = some (.ref (q0 + 1)) → xget lv21 2 = some (.int x2) → xget lv21 3 = some (.int x20) → xget lv21 4 = some (.int y28) → WPu_disposeOwned_L23v17 q0 x2 x20  K n30 y28 (mm h22) → yT 0 [] rX5_disposeOwned (1) 0 23 lv21 [] h22 (PV ks K) := by
      intro n30
      induction n30 with
      | zero => intro lv21 h22 y28 hT23 g24 g25 g26 g27 j; exact j.elim
      | succ n30 ih31 =>
        intro lv21 h22 y28 hT23 g24 g25 g26 g27 j
        replace j := WPu_disposeOwned_L23v17_u j
        refine yT.il (pc' := 25) g27 rfl rfl ?_
        refine yT.zlt1 (t := 62) (pc' := 28) rfl rfl rfl (fun c32 => ?_) (fun c32 => ?_)
        · replace j := j.1 c32
          exact yT.retV rfl rfl ⟨rfl, hT23, j⟩
        · replace j := j.2 c32
          refine yT.iln (pc' := 29) g26 rfl rfl ?_
          refine yT.zeq1 (t := 62) (pc' := 32) rfl rfl rfl (fun c33 => ?_) (fun c33 => ?_)
          · replace j := j.1 c33
            exact yT.retV rfl rfl ⟨rfl, hT23, j⟩
          · replace j := j.2 c33
            refine yT.iln (pc' := 33) g26 rfl rfl ?_
            refine yT.il (pc' := 35) g27 rfl rfl ?_
            refine yT.p (pc' := 36) rfl rfl (fun _ _ _ _ => rfl) ?_
            refine yT.zk (pc' := 37) (z := 1) rfl rfl (by decide) ?_
            refine yT.p (pc' := 38) rfl rfl (fun _ _ _ _ => rfl) ?_
            refine yT.zeq1 (t := 56) (pc' := 41) rfl rfl rfl (fun c34 => ?_) (fun c34 => ?_)
            · replace j := j.1 c34
              refine yT.iif (pc' := 59) (z := y28 - 1) g27 (i32_dec _) rfl rfl rfl ?_
              refine yT.p (pc' := 23) rfl rfl (fun _ _ _ _ => rfl) ?_
              exact ih31 _ _ _ hT23 (xg_ne g24 rfl) (xg_ne g25 rfl) (xg_ne g26 rfl) xg_eq j
            · replace j := j.2 c34
              refine yT.aan (pc' := 42) g24 rfl rfl rfl ?_
              refine yT.il (pc' := 44) g27 rfl rfl ?_
              refine yT.iln (pc' := 45) g25 rfl rfl ?_
              refine yT.zk (pc' := 46) (z := 1) rfl rfl (by decide) ?_
              refine yT.p (pc' := 47) rfl rfl (fun _ _ _ _ => rfl) ?_
              exact j.elim
    obtain ⟨n35, j⟩ := j
    exact L29 n35 _ _ _ hT19 (xg_ne (xg_ne g0 rfl) rfl) (xg_ne (xg_ne g2 rfl) rfl) (xg_ne xg_eq rfl) xg_eq j
-- rX5_colour
def WPu_colour_J90 (q0 : Nat) (x1 : Int32) (x2 : Int32) (y8 : Int32) (p25 : Nat) (rl2 : Int32 → Mm → Prop) (K : Mm → Prop)  (m30 : Mm) : Prop := (((m30.iv p25 0) = 4) → (((m30.iv p25 4) = 0) → rl2 (y8 + 1) m30) ∧ (¬ ((m30.iv p25 4) = 0) → ∃ p41, m30.rv q0 0 = p41 + 1 ∧ ∃ p44, m30.rv p41 3 = p44 + 1 ∧ WNu_add p44 y8 m30 (fun m47 => rl2 (y8 + 1) m47))) ∧ (¬ ((m30.iv p25 0) = 4) → rl2 (y8 + 1) m30)
set_option maxRecDepth 100000 in
theorem WPu_colour_J90_u {q0 : Nat} {x1 : Int32} {x2 : Int32} {y8 : Int32} {p25 : Nat} {rl2 : Int32 → Mm → Prop} {K : Mm → Prop} {m30 : Mm} (j : WPu_colour_J90 q0 x1 x2 y8 p25 rl2 K  m30) : (((m30.iv p25 0) = 4) → (((m30.iv p25 4) = 0) → rl2 (y8 + 1) m30) ∧ (¬ ((m30.iv p25 4) = 0) → ∃ p41, m30.rv q0 0 = p41 + 1 ∧ ∃ p44, m30.rv p41 3 = p44 + 1 ∧ WNu_add p44 y8 m30 (fun m47 => rl2 (y8 + 1) m47))) ∧ (¬ ((m30.iv p25 0) = 4) → rl2 (y8 + 1) m30) := j
set_option maxRecDepth 100000 in
theorem WPu_colour_J90_i {q0 : Nat} {x1 : Int32} {x2 : Int32} {y8 : Int32} {p25 : Nat} {rl2 : Int32 → Mm → Prop} {K : Mm → Prop} {m30 : Mm} (j : (((m30.iv p25 0) = 4) → (((m30.iv p25 4) = 0) → rl2 (y8 + 1) m30) ∧ (¬ ((m30.iv p25 4) = 0) → ∃ p41, m30.rv q0 0 = p41 + 1 ∧ ∃ p44, m30.rv p41 3 = p44 + 1 ∧ WNu_add p44 y8 m30 (fun m47 => rl2 (y8 + 1) m47))) ∧ (¬ ((m30.iv p25 0) = 4) → rl2 (y8 + 1) m30)) : WPu_colour_J90 q0 x1 x2 y8 p25 rl2 K  m30 := j
def WPu_colour_J90v20 (q0 : Nat) (x1 : Int32) (x2 : Int32) (y8 : Int32) (p25 : Nat) (rl2 : Int32 → Mm → Prop) (K : Mm → Prop)  (m58 : Mm) : Prop := (((m58.iv p25 0) = 4) → rl2 (y8 + 1) m58) ∧ (¬ ((m58.iv p25 0) = 4) → rl2 (y8 + 1) m58)
set_option maxRecDepth 100000 in
theorem WPu_colour_J90v20_u {q0 : Nat} {x1 : Int32} {x2 : Int32} {y8 : Int32} {p25 : Nat} {rl2 : Int32 → Mm → Prop} {K : Mm → Prop} {m58 : Mm} (j : WPu_colour_J90v20 q0 x1 x2 y8 p25 rl2 K  m58) : (((m58.iv p25 0) = 4) → rl2 (y8 + 1) m58) ∧ (¬ ((m58.iv p25 0) = 4) → rl2 (y8 + 1) m58) := j
set_option maxRecDepth 100000 in
theorem WPu_colour_J90v20_i {q0 : Nat} {x1 : Int32} {x2 : Int32} {y8 : Int32} {p25 : Nat} {rl2 : Int32 → Mm → Prop} {K : Mm → Prop} {m58 : Mm} (j : (((m58.iv p25 0) = 4) → rl2 (y8 + 1) m58) ∧ (¬ ((m58.iv p25 0) = 4) → rl2 (y8 + 1) m58)) : WPu_colour_J90v20 q0 x1 x2 y8 p25 rl2 K  m58 := j
def WPu_colour_L2 (q0 : Nat) (x1 : Int32) (x2 : Int32) (K : Mm → Prop) : Nat → Int32 → Mm → Prop
  | 0, _, _ => False
  | n10 + 1, y8, m2 => (((i32_ushr (x1 ||| x2) y8) = 0) → K m2) ∧ (¬ ((i32_ushr (x1 ||| x2) y8) = 0) → ∃ p13, m2.rv q0 0 = p13 + 1 ∧ WWe_count p13 m2 (fun m16 x18 => ((y8.toInt < x18.toInt) → ∃ p20, m16.rv q0 0 = p20 + 1 ∧ WWe_cell p20 y8 m16 (fun m23 => nn (WPu_colour_L2 q0 x1 x2  K n10 (y8 + 1) m23) (fun p25 => (((m23.iv p25 4) = 0) → ((((x1 >>> (y8 &&& 31)) &&& (1 : Int32)) = 0) → ((((x2 >>> (y8 &&& 31)) &&& (1 : Int32)) = 0) → WPu_colour_J90 q0 x1 x2 y8 p25 (WPu_colour_L2 q0 x1 x2  K n10) K  m23) ∧ (¬ (((x2 >>> (y8 &&& 31)) &&& (1 : Int32)) = 0) → ∀ m51, m51 = m23.st p25 4 (.int 1) → WPu_colour_J90 q0 x1 x2 y8 p25 (WPu_colour_L2 q0 x1 x2  K n10) K  m51)) ∧ (¬ (((x1 >>> (y8 &&& 31)) &&& (1 : Int32)) = 0) → ∀ m54, m54 = m23.st p25 4 (.int 2) → WPu_colour_J90 q0 x1 x2 y8 p25 (WPu_colour_L2 q0 x1 x2  K n10) K  m54)) ∧ (¬ ((m23.iv p25 4) = 0) → ((((x1 >>> (y8 &&& 31)) &&& (1 : Int32)) = 0) → WPu_colour_J90v20 q0 x1 x2 y8 p25 (WPu_colour_L2 q0 x1 x2  K n10) K  m23) ∧ (¬ (((x1 >>> (y8 &&& 31)) &&& (1 : Int32)) = 0) → ∀ m69, m69 = m23.st p25 4 (.int 2) → WPu_colour_J90v20 q0 x1 x2 y8 p25 (WPu_colour_L2 q0 x1 x2  K n10) K  m69))))) ∧ (¬ (y8.toInt < x18.toInt) → K m16)))
set_option maxRecDepth 100000 in
theorem WPu_colour_L2_u {q0 : Nat} {x1 : Int32} {x2 : Int32} {K : Mm → Prop} {n10 : Nat} {y8 : Int32} {m2 : Mm} (j : WPu_colour_L2 q0 x1 x2  K (n10 + 1) y8 m2) : (((i32_ushr (x1 ||| x2) y8) = 0) → K m2) ∧ (¬ ((i32_ushr (x1 ||| x2) y8) = 0) → ∃ p13, m2.rv q0 0 = p13 + 1 ∧ WWe_count p13 m2 (fun m16 x18 => ((y8.toInt < x18.toInt) → ∃ p20, m16.rv q0 0 = p20 + 1 ∧ WWe_cell p20 y8 m16 (fun m23 => nn (WPu_colour_L2 q0 x1 x2  K n10 (y8 + 1) m23) (fun p25 => (((m23.iv p25 4) = 0) → ((((x1 >>> (y8 &&& 31)) &&& (1 : Int32)) = 0) → ((((x2 >>> (y8 &&& 31)) &&& (1 : Int32)) = 0) → WPu_colour_J90 q0 x1 x2 y8 p25 (WPu_colour_L2 q0 x1 x2  K n10) K  m23) ∧ (¬ (((x2 >>> (y8 &&& 31)) &&& (1 : Int32)) = 0) → ∀ m51, m51 = m23.st p25 4 (.int 1) → WPu_colour_J90 q0 x1 x2 y8 p25 (WPu_colour_L2 q0 x1 x2  K n10) K  m51)) ∧ (¬ (((x1 >>> (y8 &&& 31)) &&& (1 : Int32)) = 0) → ∀ m54, m54 = m23.st p25 4 (.int 2) → WPu_colour_J90 q0 x1 x2 y8 p25 (WPu_colour_L2 q0 x1 x2  K n10) K  m54)) ∧ (¬ ((m23.iv p25 4) = 0) → ((((x1 >>> (y8 &&& 31)) &&& (1 : Int32)) = 0) → WPu_colour_J90v20 q0 x1 x2 y8 p25 (WPu_colour_L2 q0 x1 x2  K n10) K  m23) ∧ (¬ (((x1 >>> (y8 &&& 31)) &&& (1 : Int32)) = 0) → ∀ m69, m69 = m23.st p25 4 (.int 2) → WPu_colour_J90v20 q0 x1 x2 y8 p25 (WPu_colour_L2 q0 x1 x2  K n10) K  m69))))) ∧ (¬ (y8.toInt < x18.toInt) → K m16))) := j
set_option maxRecDepth 100000 in
theorem WPu_colour_L2_i {q0 : Nat} {x1 : Int32} {x2 : Int32} {K : Mm → Prop} {n10 : Nat} {y8 : Int32} {m2 : Mm} (j : (((i32_ushr (x1 ||| x2) y8) = 0) → K m2) ∧ (¬ ((i32_ushr (x1 ||| x2) y8) = 0) → ∃ p13, m2.rv q0 0 = p13 + 1 ∧ WWe_count p13 m2 (fun m16 x18 => ((y8.toInt < x18.toInt) → ∃ p20, m16.rv q0 0 = p20 + 1 ∧ WWe_cell p20 y8 m16 (fun m23 => nn (WPu_colour_L2 q0 x1 x2  K n10 (y8 + 1) m23) (fun p25 => (((m23.iv p25 4) = 0) → ((((x1 >>> (y8 &&& 31)) &&& (1 : Int32)) = 0) → ((((x2 >>> (y8 &&& 31)) &&& (1 : Int32)) = 0) → WPu_colour_J90 q0 x1 x2 y8 p25 (WPu_colour_L2 q0 x1 x2  K n10) K  m23) ∧ (¬ (((x2 >>> (y8 &&& 31)) &&& (1 : Int32)) = 0) → ∀ m51, m51 = m23.st p25 4 (.int 1) → WPu_colour_J90 q0 x1 x2 y8 p25 (WPu_colour_L2 q0 x1 x2  K n10) K  m51)) ∧ (¬ (((x1 >>> (y8 &&& 31)) &&& (1 : Int32)) = 0) → ∀ m54, m54 = m23.st p25 4 (.int 2) → WPu_colour_J90 q0 x1 x2 y8 p25 (WPu_colour_L2 q0 x1 x2  K n10) K  m54)) ∧ (¬ ((m23.iv p25 4) = 0) → ((((x1 >>> (y8 &&& 31)) &&& (1 : Int32)) = 0) → WPu_colour_J90v20 q0 x1 x2 y8 p25 (WPu_colour_L2 q0 x1 x2  K n10) K  m23) ∧ (¬ (((x1 >>> (y8 &&& 31)) &&& (1 : Int32)) = 0) → ∀ m69, m69 = m23.st p25 4 (.int 2) → WPu_colour_J90v20 q0 x1 x2 y8 p25 (WPu_colour_L2 q0 x1 x2  K n10) K  m69))))) ∧ (¬ (y8.toInt < x18.toInt) → K m16)))) : WPu_colour_L2 q0 x1 x2  K (n10 + 1) y8 m2 := j
def WPu_colour  (q0 : Nat) (x1 : Int32) (x2 : Int32) (m : Mm) (K : Mm → Prop) : Prop := ∃ n72, WPu_colour_L2 q0 x1 x2  K n72 0 m
set_option maxRecDepth 100000 in
set_option maxHeartbeats 4000000 in
theorem kPu_colour {ks : List Nat} {h : List xE} (hT : TT ks h) {q0 : Nat} (o0 : xnth ks q0 = some 15) (x1 : Int32) (x2 : Int32)  {K : Mm → Prop} (j : WPu_colour  q0 x1 x2 (mm h) K) : yM 61 (1) 0 [.ref (q0 + 1), .int x1, .int x2] h (PV ks K) := by
  unfold WPu_colour at j
  refine yM.st xM_61 rfl rfl (fun lv g => ?_)
  have g0 := g 0 _ rfl
  have g1 := g 1 _ rfl
  have g2 := g 2 _ rfl
  refine yT.zk (pc' := 1) (z := 0) rfl rfl (by decide) ?_
  refine yT.p (pc' := 2) (lv' := xst1 _ 3 (.int 0)) rfl rfl (fun _ _ _ _ => rfl) ?_
  have L9 : ∀ (n10 : Nat) (lv1 : xLv) (h2 : List xE) (y8 : Int32), TT ks h2 → xget lv1 0 = some (.ref (q0 + 1)) → xget lv1 1 = some (.int x1) → xget lv1 2 = some (.int x2) → xget lv1 3 = some (.int y8) → WPu_colour_L2 q0 x1 x2  K n10 y8 (mm h2) → yT 0 [] rX5_colour (1) 0 2 lv1 [] h2 (PV ks K) := by
    intro n10
    induction n10 with
    | zero => intro lv1 h2 y8 hT3 g4 g5 g6 g7 j; exact j.elim
    | succ n10 ih11 =>
      intro lv1 h2 y8 hT3 g4 g5 g6 g7 j
      replace j := WPu_colour_L2_u j
      refine yT.iln (pc' := 3) g5 rfl rfl ?_
      refine yT.iln (pc' := 4) g6 rfl rfl ?_
      refine yT.p (pc' := 5) rfl rfl (fun _ _ _ _ => rfl) ?_
      refine yT.iln (pc' := 6) g7 rfl rfl ?_
      refine yT.zush (pc' := 7) rfl rfl ?_
      refine yT.zeq1 (t := 129) (pc' := 10) rfl rfl rfl (fun c12 => ?_) (fun c12 => ?_)
      · replace j := j.1 c12
        exact yT.retV rfl rfl ⟨rfl, hT3, j⟩
      · replace j := j.2 c12
        refine yT.iln (pc' := 11) g7 rfl rfl ?_
        refine yT.aan (pc' := 12) g4 rfl rfl rfl ?_
        obtain ⟨p13, w14, j⟩ := j
        refine yT.gR (pc' := 15) rfl rfl hT3 o0 rfl rfl w14 (fun o15 => ?_)
        refine zI (yT.cw (G2 := 0) (pc' := 18) rfl rfl rfl hT3 o15 xM_69 (kWe_count hT3 o15 j) rfl (by decide) (by decide) rfl) (fun h16 x18 hT17 j => ?_)
        refine yT.zge2 (t := 129) (pc' := 21) rfl rfl rfl (fun c19 => ?_) (fun c19 => ?_)
        · replace j := j.1 c19
          refine yT.aan (pc' := 22) g4 rfl rfl rfl ?_
          obtain ⟨p20, w21, j⟩ := j
          refine yT.gR (pc' := 25) rfl rfl hT17 o0 rfl rfl w21 (fun o22 => ?_)
          refine yT.iln (pc' := 26) g7 rfl rfl ?_
          refine zR (yT.cw (G2 := 0) (pc' := 29) rfl rfl rfl hT17 o22 xM_71 (kWe_cell hT17 o22 y8 j) rfl (by decide) (by decide) rfl) (fun h23 hT24 j => ?_) (fun h23 p25 hT24 o27 j => ?_)
          · replace j := j.1 rfl
            refine yT.p (pc' := 31) (lv' := xst1 _ 4 (.null)) rfl rfl (fun _ _ _ _ => rfl) ?_
            refine yT.aa_ (pc' := 33) xg_eq rfl rfl rfl ?_
            refine yT.p (pc' := 36) rfl rfl (fun _ _ _ _ => rfl) ?_
            refine yT.p (pc' := 123) rfl rfl (fun _ _ _ _ => rfl) ?_
            refine yT.iif (pc' := 126) (z := y8 + 1) (xg_ne g7 rfl) rfl rfl rfl rfl ?_
            refine yT.p (pc' := 2) rfl rfl (fun _ _ _ _ => rfl) ?_
            exact ih11 _ _ _ hT24 (xg_ne (xg_ne g4 rfl) rfl) (xg_ne (xg_ne g5 rfl) rfl) (xg_ne (xg_ne g6 rfl) rfl) xg_eq j
          · replace j := j.2 _ rfl
            refine yT.p (pc' := 31) (lv' := xst1 _ 4 (.ref (p25 + 1))) rfl rfl (fun _ _ _ _ => rfl) ?_
            refine yT.aa_ (pc' := 33) xg_eq rfl rfl rfl ?_
            refine yT.p (pc' := 39) rfl rfl (fun _ _ _ _ => rfl) ?_
            refine yT.aa_ (pc' := 41) xg_eq rfl rfl rfl ?_
            refine yT.gI (pc' := 44) rfl rfl hT24 o27 rfl ?_
            refine yT.zne1 (t := 51) (pc' := 47) rfl rfl rfl (fun c28 => ?_) (fun c28 => ?_)
            · replace j := j.1 c28
              refine yT.zk (pc' := 48) (z := 1) rfl rfl (by decide) ?_
              refine yT.p (pc' := 52) rfl rfl (fun _ _ _ _ => rfl) ?_
              refine yT.p (pc' := 54) (lv' := xst1 _ 5 (.int 1)) rfl rfl (fun _ _ _ _ => rfl) ?_
              refine yT.iln (pc' := 55) (xg_ne (xg_ne g5 rfl) rfl) rfl rfl ?_
              refine yT.iln (pc' := 56) (xg_ne (xg_ne g7 rfl) rfl) rfl rfl ?_
              refine yT.p (pc' := 57) rfl rfl (fun _ _ _ _ => rfl) ?_
              refine yT.zk (pc' := 58) (z := 1) rfl rfl (by decide) ?_
              refine yT.p (pc' := 59) rfl rfl (fun _ _ _ _ => rfl) ?_
              have L38 : ∀ (lv29 : xLv) (h30 : List xE), TT ks h30 → xget lv29 0 = some (.ref (q0 + 1)) → xget lv29 1 = some (.int x1) → xget lv29 2 = some (.int x2) → xget lv29 3 = some (.int y8) → xget lv29 4 = some (.ref (p25 + 1)) → xget lv29 5 = some (.int 1) → WPu_colour_J90 q0 x1 x2 y8 p25 (WPu_colour_L2 q0 x1 x2  K n10) K  (mm h30) → yT 0 [] rX5_colour (1) 0 90 lv29 [] h30 (PV ks K) := by
                intro lv29 h30 hT31 g32 g33 g34 g35 g36 g37 j
                replace j := WPu_colour_J90_u j
                refine yT.aa_ (pc' := 92) g36 rfl rfl rfl ?_
                refine yT.gI (pc' := 95) rfl rfl hT31 o27 rfl ?_
                refine yT.zk (pc' := 96) (z := 4) rfl rfl (by decide) ?_
                refine yT.zne2 (t := 123) (pc' := 99) rfl rfl rfl (fun c39 => ?_) (fun c39 => ?_)
                · replace j := j.1 c39
                  refine yT.il (pc' := 101) g37 rfl rfl ?_
                  refine yT.zn1 (t := 123) (pc' := 104) rfl rfl rfl (by decide) ?_
                  refine yT.aa_ (pc' := 106) g36 rfl rfl rfl ?_
                  refine yT.gI (pc' := 109) rfl rfl hT31 o27 rfl ?_
                  refine yT.zeq1 (t := 123) (pc' := 112) rfl rfl rfl (fun c40 => ?_) (fun c40 => ?_)
                  · replace j := j.1 c40
                    refine yT.iif (pc' := 126) (z := y8 + 1) g35 rfl rfl rfl rfl ?_
                    refine yT.p (pc' := 2) rfl rfl (fun _ _ _ _ => rfl) ?_
                    exact ih11 _ _ _ hT31 (xg_ne g32 rfl) (xg_ne g33 rfl) (xg_ne g34 rfl) xg_eq j
                  · replace j := j.2 c40
                    refine yT.aan (pc' := 113) g32 rfl rfl rfl ?_
                    obtain ⟨p41, w42, j⟩ := j
                    refine yT.gR (pc' := 116) rfl rfl hT31 o0 rfl rfl w42 (fun o43 => ?_)
                    obtain ⟨p44, w45, j⟩ := j
                    refine yT.gR (pc' := 119) rfl rfl hT31 o43 rfl rfl w45 (fun o46 => ?_)
                    refine yT.iln (pc' := 120) g35 rfl rfl ?_
                    refine zV (yT.cw (G2 := 0) (pc' := 123) rfl rfl rfl hT31 o46 xM_47 (kNu_add hT31 o46 y8 j) rfl (by decide) (by decide) rfl) (fun h47 hT48 j => ?_)
                    refine yT.iif (pc' := 126) (z := y8 + 1) g35 rfl rfl rfl rfl ?_
                    refine yT.p (pc' := 2) rfl rfl (fun _ _ _ _ => rfl) ?_
                    exact ih11 _ _ _ hT48 (xg_ne g32 rfl) (xg_ne g33 rfl) (xg_ne g34 rfl) xg_eq j
                · replace j := j.2 c39
                  refine yT.iif (pc' := 126) (z := y8 + 1) g35 rfl rfl rfl rfl ?_
                  refine yT.p (pc' := 2) rfl rfl (fun _ _ _ _ => rfl) ?_
                  exact ih11 _ _ _ hT31 (xg_ne g32 rfl) (xg_ne g33 rfl) (xg_ne g34 rfl) xg_eq j
              refine yT.zeq1 (t := 71) (pc' := 62) rfl rfl rfl (fun c49 => ?_) (fun c49 => ?_)
              · replace j := j.1 c49
                refine yT.il (pc' := 73) xg_eq rfl rfl ?_
                refine yT.zn1 (t := 90) (pc' := 76) rfl rfl rfl (by decide) ?_
                refine yT.iln (pc' := 77) (xg_ne (xg_ne g6 rfl) rfl) rfl rfl ?_
                refine yT.iln (pc' := 78) (xg_ne (xg_ne g7 rfl) rfl) rfl rfl ?_
                refine yT.p (pc' := 79) rfl rfl (fun _ _ _ _ => rfl) ?_
                refine yT.zk (pc' := 80) (z := 1) rfl rfl (by decide) ?_
                refine yT.p (pc' := 81) rfl rfl (fun _ _ _ _ => rfl) ?_
                refine yT.zeq1 (t := 90) (pc' := 84) rfl rfl rfl (fun c50 => ?_) (fun c50 => ?_)
                · replace j := j.1 c50
                  exact L38 _ _  hT24 (xg_ne (xg_ne g4 rfl) rfl) (xg_ne (xg_ne g5 rfl) rfl) (xg_ne (xg_ne g6 rfl) rfl) (xg_ne (xg_ne g7 rfl) rfl) (xg_ne xg_eq rfl) xg_eq j
                · replace j := j.2 c50
                  refine yT.aa_ (pc' := 86) (xg_ne xg_eq rfl) rfl rfl rfl ?_
                  refine yT.zk (pc' := 87) (z := 1) rfl rfl (by decide) ?_
                  refine yT.sI (pc' := 90) rfl rfl hT24 o27 rfl rfl (fun h51 hT52 e53 => ?_)
                  replace j := j _ e53
                  exact L38 _ _  hT52 (xg_ne (xg_ne g4 rfl) rfl) (xg_ne (xg_ne g5 rfl) rfl) (xg_ne (xg_ne g6 rfl) rfl) (xg_ne (xg_ne g7 rfl) rfl) (xg_ne xg_eq rfl) xg_eq j
              · replace j := j.2 c49
                refine yT.aa_ (pc' := 64) (xg_ne xg_eq rfl) rfl rfl rfl ?_
                refine yT.zk (pc' := 65) (z := 2) rfl rfl (by decide) ?_
                refine yT.sI (pc' := 68) rfl rfl hT24 o27 rfl rfl (fun h54 hT55 e56 => ?_)
                replace j := j _ e56
                refine yT.p (pc' := 90) rfl rfl (fun _ _ _ _ => rfl) ?_
                exact L38 _ _  hT55 (xg_ne (xg_ne g4 rfl) rfl) (xg_ne (xg_ne g5 rfl) rfl) (xg_ne (xg_ne g6 rfl) rfl) (xg_ne (xg_ne g7 rfl) rfl) (xg_ne xg_eq rfl) xg_eq j
            · replace j := j.2 c28
              refine yT.zk (pc' := 52) (z := 0) rfl rfl (by decide) ?_
              refine yT.p (pc' := 54) (lv' := xst1 _ 5 (.int 0)) rfl rfl (fun _ _ _ _ => rfl) ?_
              refine yT.iln (pc' := 55) (xg_ne (xg_ne g5 rfl) rfl) rfl rfl ?_
              refine yT.iln (pc' := 56) (xg_ne (xg_ne g7 rfl) rfl) rfl rfl ?_
              refine yT.p (pc' := 57) rfl rfl (fun _ _ _ _ => rfl) ?_
              refine yT.zk (pc' := 58) (z := 1) rfl rfl (by decide) ?_
              refine yT.p (pc' := 59) rfl rfl (fun _ _ _ _ => rfl) ?_
              have L66 : ∀ (lv57 : xLv) (h58 : List xE), TT ks h58 → xget lv57 0 = some (.ref (q0 + 1)) → xget lv57 1 = some (.int x1) → xget lv57 2 = some (.int x2) → xget lv57 3 = some (.int y8) → xget lv57 4 = some (.ref (p25 + 1)) → xget lv57 5 = some (.int 0) → WPu_colour_J90v20 q0 x1 x2 y8 p25 (WPu_colour_L2 q0 x1 x2  K n10) K  (mm h58) → yT 0 [] rX5_colour (1) 0 90 lv57 [] h58 (PV ks K) := by
                intro lv57 h58 hT59 g60 g61 g62 g63 g64 g65 j
                replace j := WPu_colour_J90v20_u j
                refine yT.aa_ (pc' := 92) g64 rfl rfl rfl ?_
                refine yT.gI (pc' := 95) rfl rfl hT59 o27 rfl ?_
                refine yT.zk (pc' := 96) (z := 4) rfl rfl (by decide) ?_
                refine yT.zne2 (t := 123) (pc' := 99) rfl rfl rfl (fun c67 => ?_) (fun c67 => ?_)
                · replace j := j.1 c67
                  refine yT.il (pc' := 101) g65 rfl rfl ?_
                  refine yT.zy1 (t := 123) (pc' := 104) rfl rfl rfl (by decide) ?_
                  refine yT.iif (pc' := 126) (z := y8 + 1) g63 rfl rfl rfl rfl ?_
                  refine yT.p (pc' := 2) rfl rfl (fun _ _ _ _ => rfl) ?_
                  exact ih11 _ _ _ hT59 (xg_ne g60 rfl) (xg_ne g61 rfl) (xg_ne g62 rfl) xg_eq j
                · replace j := j.2 c67
                  refine yT.iif (pc' := 126) (z := y8 + 1) g63 rfl rfl rfl rfl ?_
                  refine yT.p (pc' := 2) rfl rfl (fun _ _ _ _ => rfl) ?_
                  exact ih11 _ _ _ hT59 (xg_ne g60 rfl) (xg_ne g61 rfl) (xg_ne g62 rfl) xg_eq j
              refine yT.zeq1 (t := 71) (pc' := 62) rfl rfl rfl (fun c68 => ?_) (fun c68 => ?_)
              · replace j := j.1 c68
                refine yT.il (pc' := 73) xg_eq rfl rfl ?_
                refine yT.zy1 (t := 90) (pc' := 76) rfl rfl rfl (by decide) ?_
                exact L66 _ _  hT24 (xg_ne (xg_ne g4 rfl) rfl) (xg_ne (xg_ne g5 rfl) rfl) (xg_ne (xg_ne g6 rfl) rfl) (xg_ne (xg_ne g7 rfl) rfl) (xg_ne xg_eq rfl) xg_eq j
              · replace j := j.2 c68
                refine yT.aa_ (pc' := 64) (xg_ne xg_eq rfl) rfl rfl rfl ?_
                refine yT.zk (pc' := 65) (z := 2) rfl rfl (by decide) ?_
                refine yT.sI (pc' := 68) rfl rfl hT24 o27 rfl rfl (fun h69 hT70 e71 => ?_)
                replace j := j _ e71
                refine yT.p (pc' := 90) rfl rfl (fun _ _ _ _ => rfl) ?_
                exact L66 _ _  hT70 (xg_ne (xg_ne g4 rfl) rfl) (xg_ne (xg_ne g5 rfl) rfl) (xg_ne (xg_ne g6 rfl) rfl) (xg_ne (xg_ne g7 rfl) rfl) (xg_ne xg_eq rfl) xg_eq j
        · replace j := j.2 c19
          exact yT.retV rfl rfl ⟨rfl, hT17, j⟩
  obtain ⟨n72, j⟩ := j
  exact L9 n72 _ _ _ hT (xg_ne g0 rfl) (xg_ne g1 rfl) (xg_ne g2 rfl) xg_eq j
-- rX5_outcomeRead
def WPu_outcomeRead_J60 (R : Int32 → Int32 → Mm → (Mm → Prop) → Prop) (q0 : Nat) (x3 : Int32) (x4 : Int32) (p6 : Nat) (K : Mm → Int64 → Prop)  (m25 : Mm) : Prop := (m25.iv p6 3 = 0 ∨ m25.iv p6 3 = 1) → (((m25.iv p6 3) = 0) → (((m25.iv p6 0) = 3) → R x3 (x4 + (1 : Int32)) m25 (fun m35 => K m35 (m35.lg p6 7))) ∧ (¬ ((m25.iv p6 0) = 3) → K m25 (m25.lg p6 7))) ∧ (¬ ((m25.iv p6 3) = 0) → K m25 4000000002)
set_option maxRecDepth 100000 in
theorem WPu_outcomeRead_J60_u {R : Int32 → Int32 → Mm → (Mm → Prop) → Prop} {q0 : Nat} {x3 : Int32} {x4 : Int32} {p6 : Nat} {K : Mm → Int64 → Prop} {m25 : Mm} (j : WPu_outcomeRead_J60 R q0 x3 x4 p6  K  m25) : (m25.iv p6 3 = 0 ∨ m25.iv p6 3 = 1) → (((m25.iv p6 3) = 0) → (((m25.iv p6 0) = 3) → R x3 (x4 + (1 : Int32)) m25 (fun m35 => K m35 (m35.lg p6 7))) ∧ (¬ ((m25.iv p6 0) = 3) → K m25 (m25.lg p6 7))) ∧ (¬ ((m25.iv p6 3) = 0) → K m25 4000000002) := j
set_option maxRecDepth 100000 in
theorem WPu_outcomeRead_J60_i {R : Int32 → Int32 → Mm → (Mm → Prop) → Prop} {q0 : Nat} {x3 : Int32} {x4 : Int32} {p6 : Nat} {K : Mm → Int64 → Prop} {m25 : Mm} (j : (m25.iv p6 3 = 0 ∨ m25.iv p6 3 = 1) → (((m25.iv p6 3) = 0) → (((m25.iv p6 0) = 3) → R x3 (x4 + (1 : Int32)) m25 (fun m35 => K m35 (m35.lg p6 7))) ∧ (¬ ((m25.iv p6 0) = 3) → K m25 (m25.lg p6 7))) ∧ (¬ ((m25.iv p6 3) = 0) → K m25 4000000002)) : WPu_outcomeRead_J60 R q0 x3 x4 p6  K  m25 := j
def WPu_outcomeRead (R : Int32 → Int32 → Mm → (Mm → Prop) → Prop) (q0 : Nat) (q1 : Nat) (x2 : Int32) (x3 : Int32) (x4 : Int32) (m : Mm) (K : Mm → Int64 → Prop) : Prop := ∃ p1, m.rv q0 0 = p1 + 1 ∧ WWe_cell p1 x3 m (fun m4 => nn ((m4.rv q1 8 = 0 → K m4 4000000003) ∧ (∀ p9, m4.rv q1 8 = p9 + 1 → K m4 4000000003)) (fun p6 => (m4.rv q1 8 = 0 → K m4 4000000003) ∧ (∀ p12, m4.rv q1 8 = p12 + 1 → WCe_isReadable p6 m4 (fun m15 x17 => ((x17 = 0) → K m15 4000000003) ∧ (¬ (x17 = 0) → WFo_isTracked p12 m15 (fun m20 x22 => ((x22 = 0) → WPu_outcomeRead_J60 R q0 x3 x4 p6  K  m20) ∧ (¬ (x22 = 0) → ((x3 = x2) → WPu_outcomeRead_J60 R q0 x3 x4 p6  K  m20) ∧ (¬ (x3 = x2) → ∃ p39, m20.rv q0 0 = p39 + 1 ∧ WWe_addRead p39 x2 x3 m20 (fun m42 => WPu_outcomeRead_J60 R q0 x3 x4 p6  K  m42)))))))))
set_option maxRecDepth 100000 in
set_option maxHeartbeats 4000000 in
theorem kPu_outcomeRead {ks : List Nat} {h : List xE} (hT : TT ks h) {q0 : Nat} (o0 : xnth ks q0 = some 15) {q1 : Nat} (o1 : xnth ks q1 = some 11) (x2 : Int32) (x3 : Int32) (x4 : Int32) {d : Nat} {R : Int32 → Int32 → Mm → (Mm → Prop) → Prop} (hR : ∀ {h : List xE}, TT ks h → ∀ (x y : Int32) {K : Mm → Prop}, R x y (mm h) K → yM 62 (3 * d + 12) 0 [.ref (q0 + 1), .int x, .int y] h (PV ks K)) {K : Mm → Int64 → Prop} (j : WPu_outcomeRead R q0 q1 x2 x3 x4 (mm h) K) : yM 65 (3 * d + 13) 0 [.ref (q0 + 1), .ref (q1 + 1), .int x2, .int x3, .int x4] h (PL ks K) := by
  unfold WPu_outcomeRead at j
  refine yM.st xM_65 rfl rfl (fun lv g => ?_)
  have g0 := g 0 _ rfl
  have g1 := g 1 _ rfl
  have g2 := g 2 _ rfl
  have g3 := g 3 _ rfl
  have g4 := g 4 _ rfl
  refine yT.aan (pc' := 1) g0 rfl rfl rfl ?_
  obtain ⟨p1, w2, j⟩ := j
  refine yT.gR (pc' := 4) rfl rfl hT o0 rfl rfl w2 (fun o3 => ?_)
  refine yT.iln (pc' := 5) g3 rfl rfl ?_
  refine zR (yT.cw (G2 := 0) (pc' := 8) rfl rfl rfl hT o3 xM_71 (kWe_cell hT o3 x3 j) rfl (by omega) (by decide) rfl) (fun h4 hT5 j => ?_) (fun h4 p6 hT5 o8 j => ?_)
  · replace j := j.1 rfl
    refine yT.p (pc' := 10) (lv' := xst1 _ 5 (.null)) rfl rfl (fun _ _ _ _ => rfl) ?_
    refine yT.aan (pc' := 11) (xg_ne g1 rfl) rfl rfl rfl ?_
    refine yT.gN (pc' := 14) rfl rfl hT5 o1 rfl rfl (fun w10 => ?_) (fun p9 w10 o11 => ?_)
    · replace j := j.1 w10
      refine yT.p (pc' := 16) (lv' := xst1 _ 6 (.null)) rfl rfl (fun _ _ _ _ => rfl) ?_
      refine yT.aa_ (pc' := 18) (xg_ne xg_eq rfl) rfl rfl rfl ?_
      refine yT.p (pc' := 34) rfl rfl (fun _ _ _ _ => rfl) ?_
      refine yT.zw (pc' := 37) (z := 4000000003) rfl rfl rfl rfl ?_
      exact yT.retL rfl rfl ⟨_, rfl, hT5, j⟩
    · replace j := j.2 p9 w10
      refine yT.p (pc' := 16) (lv' := xst1 _ 6 (.ref (p9 + 1))) rfl rfl (fun _ _ _ _ => rfl) ?_
      refine yT.aa_ (pc' := 18) (xg_ne xg_eq rfl) rfl rfl rfl ?_
      refine yT.p (pc' := 34) rfl rfl (fun _ _ _ _ => rfl) ?_
      refine yT.zw (pc' := 37) (z := 4000000003) rfl rfl rfl rfl ?_
      exact yT.retL rfl rfl ⟨_, rfl, hT5, j⟩
  · replace j := j.2 _ rfl
    refine yT.p (pc' := 10) (lv' := xst1 _ 5 (.ref (p6 + 1))) rfl rfl (fun _ _ _ _ => rfl) ?_
    refine yT.aan (pc' := 11) (xg_ne g1 rfl) rfl rfl rfl ?_
    refine yT.gN (pc' := 14) rfl rfl hT5 o1 rfl rfl (fun w13 => ?_) (fun p12 w13 o14 => ?_)
    · replace j := j.1 w13
      refine yT.p (pc' := 16) (lv' := xst1 _ 6 (.null)) rfl rfl (fun _ _ _ _ => rfl) ?_
      refine yT.aa_ (pc' := 18) (xg_ne xg_eq rfl) rfl rfl rfl ?_
      refine yT.p (pc' := 21) rfl rfl (fun _ _ _ _ => rfl) ?_
      refine yT.aa_ (pc' := 23) xg_eq rfl rfl rfl ?_
      refine yT.p (pc' := 34) rfl rfl (fun _ _ _ _ => rfl) ?_
      refine yT.zw (pc' := 37) (z := 4000000003) rfl rfl rfl rfl ?_
      exact yT.retL rfl rfl ⟨_, rfl, hT5, j⟩
    · replace j := j.2 p12 w13
      refine yT.p (pc' := 16) (lv' := xst1 _ 6 (.ref (p12 + 1))) rfl rfl (fun _ _ _ _ => rfl) ?_
      refine yT.aa_ (pc' := 18) (xg_ne xg_eq rfl) rfl rfl rfl ?_
      refine yT.p (pc' := 21) rfl rfl (fun _ _ _ _ => rfl) ?_
      refine yT.aa_ (pc' := 23) xg_eq rfl rfl rfl ?_
      refine yT.p (pc' := 26) rfl rfl (fun _ _ _ _ => rfl) ?_
      refine yT.aa_ (pc' := 28) (xg_ne xg_eq rfl) rfl rfl rfl ?_
      refine zZ (yT.cw (G2 := 0) (pc' := 31) rfl rfl rfl hT5 o8 xM_7 (kCe_isReadable hT5 o8 j) rfl (by omega) (by decide) rfl) (fun h15 x17 hT16 b18 j => ?_)
      refine yT.zne1 (t := 38) (pc' := 34) rfl rfl rfl (fun c19 => ?_) (fun c19 => ?_)
      · replace j := j.1 c19
        refine yT.zw (pc' := 37) (z := 4000000003) rfl rfl rfl rfl ?_
        exact yT.retL rfl rfl ⟨_, rfl, hT16, j⟩
      · replace j := j.2 c19
        refine yT.aa_ (pc' := 40) xg_eq rfl rfl rfl ?_
        refine zZ (yT.cw (G2 := 0) (pc' := 43) rfl rfl rfl hT16 o14 xM_10 (kFo_isTracked hT16 o14 j) rfl (by omega) (by decide) rfl) (fun h20 x22 hT21 b23 j => ?_)
        have L31 : ∀ (lv24 : xLv) (h25 : List xE), TT ks h25 → xget lv24 0 = some (.ref (q0 + 1)) → xget lv24 3 = some (.int x3) → xget lv24 4 = some (.int x4) → xget lv24 5 = some (.ref (p6 + 1)) → WPu_outcomeRead_J60 R q0 x3 x4 p6  K  (mm h25) → yT 0 [] rX5_outcomeRead (3 * d + 13) 0 60 lv24 [] h25 (PL ks K) := by
          intro lv24 h25 hT26 g27 g28 g29 g30 j
          replace j := WPu_outcomeRead_J60_u j
          refine yT.aa_ (pc' := 62) g30 rfl rfl rfl ?_
          refine yT.gZ (pc' := 65) rfl rfl hT26 o8 rfl (fun b32 => ?_)
          replace j := j b32
          refine yT.zeq1 (t := 72) (pc' := 68) rfl rfl rfl (fun c33 => ?_) (fun c33 => ?_)
          · replace j := j.1 c33
            refine yT.aa_ (pc' := 74) g30 rfl rfl rfl ?_
            refine yT.gI (pc' := 77) rfl rfl hT26 o8 rfl ?_
            refine yT.zk (pc' := 78) (z := 3) rfl rfl (by decide) ?_
            refine yT.zne2 (t := 90) (pc' := 81) rfl rfl rfl (fun c34 => ?_) (fun c34 => ?_)
            · replace j := j.1 c34
              refine yT.aan (pc' := 82) g27 rfl rfl rfl ?_
              refine yT.iln (pc' := 83) g28 rfl rfl ?_
              refine yT.il (pc' := 85) g29 rfl rfl ?_
              refine yT.zk (pc' := 86) (z := 1) rfl rfl (by decide) ?_
              refine yT.p (pc' := 87) rfl rfl (fun _ _ _ _ => rfl) ?_
              refine zV (yT.cw (G2 := 0) (pc' := 90) rfl rfl rfl hT26 o0 xM_62 (hR hT26 x3 (x4 + (1 : Int32)) j) rfl (by omega) (by decide) rfl) (fun h35 hT36 j => ?_)
              refine yT.aa_ (pc' := 92) g30 rfl rfl rfl ?_
              refine yT.gL (pc' := 95) rfl rfl hT36 o8 rfl ?_
              exact yT.retL rfl rfl ⟨_, rfl, hT36, j⟩
            · replace j := j.2 c34
              refine yT.aa_ (pc' := 92) g30 rfl rfl rfl ?_
              refine yT.gL (pc' := 95) rfl rfl hT26 o8 rfl ?_
              exact yT.retL rfl rfl ⟨_, rfl, hT26, j⟩
          · replace j := j.2 c33
            refine yT.zw (pc' := 71) (z := 4000000002) rfl rfl rfl rfl ?_
            exact yT.retL rfl rfl ⟨_, rfl, hT26, j⟩
        refine yT.zeq1 (t := 60) (pc' := 46) rfl rfl rfl (fun c37 => ?_) (fun c37 => ?_)
        · replace j := j.1 c37
          exact L31 _ _  hT21 (xg_ne (xg_ne g0 rfl) rfl) (xg_ne (xg_ne g3 rfl) rfl) (xg_ne (xg_ne g4 rfl) rfl) (xg_ne xg_eq rfl) j
        · replace j := j.2 c37
          refine yT.iln (pc' := 47) (xg_ne (xg_ne g3 rfl) rfl) rfl rfl ?_
          refine yT.iln (pc' := 48) (xg_ne (xg_ne g2 rfl) rfl) rfl rfl ?_
          refine yT.zeq2 (t := 60) (pc' := 51) rfl rfl rfl (fun c38 => ?_) (fun c38 => ?_)
          · replace j := j.1 c38
            exact L31 _ _  hT21 (xg_ne (xg_ne g0 rfl) rfl) (xg_ne (xg_ne g3 rfl) rfl) (xg_ne (xg_ne g4 rfl) rfl) (xg_ne xg_eq rfl) j
          · replace j := j.2 c38
            refine yT.aan (pc' := 52) (xg_ne (xg_ne g0 rfl) rfl) rfl rfl rfl ?_
            obtain ⟨p39, w40, j⟩ := j
            refine yT.gR (pc' := 55) rfl rfl hT21 o0 rfl rfl w40 (fun o41 => ?_)
            refine yT.iln (pc' := 56) (xg_ne (xg_ne g2 rfl) rfl) rfl rfl ?_
            refine yT.iln (pc' := 57) (xg_ne (xg_ne g3 rfl) rfl) rfl rfl ?_
            refine zV (yT.cw (G2 := 0) (pc' := 60) rfl rfl rfl hT21 o41 xM_76 (kWe_addRead hT21 o41 x2 x3 j) rfl (by omega) (by decide) rfl) (fun h42 hT43 j => ?_)
            exact L31 _ _  hT43 (xg_ne (xg_ne g0 rfl) rfl) (xg_ne (xg_ne g3 rfl) rfl) (xg_ne (xg_ne g4 rfl) rfl) (xg_ne xg_eq rfl) j
-- rX5_checkReads
def WPu_checkReads_L2 (R : Int32 → Int32 → Mm → (Mm → Prop) → Prop) (q0 : Nat) (q1 : Nat) (x2 : Int32) (K : Mm → Prop) : Nat → Int32 → Mm → Prop
  | 0, _, _ => False
  | n10 + 1, y8, m2 => ∃ p12, m2.rv q1 9 = p12 + 1 ∧ WNu_size p12 m2 (fun m15 x17 => ((y8.toInt < x17.toInt) → (((m15.iv q1 4) = 1) → ∃ p20, m15.rv q1 9 = p20 + 1 ∧ WNu_at p20 y8 m15 (fun m23 x25 => ∃ p26, m23.rv q0 0 = p26 + 1 ∧ WWe_cell p26 x25 m23 (fun m29 => nn (WPu_checkReads_L2 R q0 q1 x2  K n10 (y8 + 1) m29) (fun p31 => (((m29.iv p31 0) = 3) → R x25 (x2 + (1 : Int32)) m29 (fun m35 => WPu_checkReads_L2 R q0 q1 x2  K n10 (y8 + 1) m35)) ∧ (¬ ((m29.iv p31 0) = 3) → WPu_checkReads_L2 R q0 q1 x2  K n10 (y8 + 1) m29))))) ∧ (¬ ((m15.iv q1 4) = 1) → (((m15.iv q1 4) = 1) → ∀ m38, m38 = m15.st q1 4 (.int 0) → K m38) ∧ (¬ ((m15.iv q1 4) = 1) → K m15))) ∧ (¬ (y8.toInt < x17.toInt) → (((m15.iv q1 4) = 1) → ∀ m42, m42 = m15.st q1 4 (.int 0) → K m42) ∧ (¬ ((m15.iv q1 4) = 1) → K m15)))
set_option maxRecDepth 100000 in
theorem WPu_checkReads_L2_u {R : Int32 → Int32 → Mm → (Mm → Prop) → Prop} {q0 : Nat} {q1 : Nat} {x2 : Int32} {K : Mm → Prop} {n10 : Nat} {y8 : Int32} {m2 : Mm} (j : WPu_checkReads_L2 R q0 q1 x2  K (n10 + 1) y8 m2) : ∃ p12, m2.rv q1 9 = p12 + 1 ∧ WNu_size p12 m2 (fun m15 x17 => ((y8.toInt < x17.toInt) → (((m15.iv q1 4) = 1) → ∃ p20, m15.rv q1 9 = p20 + 1 ∧ WNu_at p20 y8 m15 (fun m23 x25 => ∃ p26, m23.rv q0 0 = p26 + 1 ∧ WWe_cell p26 x25 m23 (fun m29 => nn (WPu_checkReads_L2 R q0 q1 x2  K n10 (y8 + 1) m29) (fun p31 => (((m29.iv p31 0) = 3) → R x25 (x2 + (1 : Int32)) m29 (fun m35 => WPu_checkReads_L2 R q0 q1 x2  K n10 (y8 + 1) m35)) ∧ (¬ ((m29.iv p31 0) = 3) → WPu_checkReads_L2 R q0 q1 x2  K n10 (y8 + 1) m29))))) ∧ (¬ ((m15.iv q1 4) = 1) → (((m15.iv q1 4) = 1) → ∀ m38, m38 = m15.st q1 4 (.int 0) → K m38) ∧ (¬ ((m15.iv q1 4) = 1) → K m15))) ∧ (¬ (y8.toInt < x17.toInt) → (((m15.iv q1 4) = 1) → ∀ m42, m42 = m15.st q1 4 (.int 0) → K m42) ∧ (¬ ((m15.iv q1 4) = 1) → K m15))) := j
set_option maxRecDepth 100000 in
theorem WPu_checkReads_L2_i {R : Int32 → Int32 → Mm → (Mm → Prop) → Prop} {q0 : Nat} {q1 : Nat} {x2 : Int32} {K : Mm → Prop} {n10 : Nat} {y8 : Int32} {m2 : Mm} (j : ∃ p12, m2.rv q1 9 = p12 + 1 ∧ WNu_size p12 m2 (fun m15 x17 => ((y8.toInt < x17.toInt) → (((m15.iv q1 4) = 1) → ∃ p20, m15.rv q1 9 = p20 + 1 ∧ WNu_at p20 y8 m15 (fun m23 x25 => ∃ p26, m23.rv q0 0 = p26 + 1 ∧ WWe_cell p26 x25 m23 (fun m29 => nn (WPu_checkReads_L2 R q0 q1 x2  K n10 (y8 + 1) m29) (fun p31 => (((m29.iv p31 0) = 3) → R x25 (x2 + (1 : Int32)) m29 (fun m35 => WPu_checkReads_L2 R q0 q1 x2  K n10 (y8 + 1) m35)) ∧ (¬ ((m29.iv p31 0) = 3) → WPu_checkReads_L2 R q0 q1 x2  K n10 (y8 + 1) m29))))) ∧ (¬ ((m15.iv q1 4) = 1) → (((m15.iv q1 4) = 1) → ∀ m38, m38 = m15.st q1 4 (.int 0) → K m38) ∧ (¬ ((m15.iv q1 4) = 1) → K m15))) ∧ (¬ (y8.toInt < x17.toInt) → (((m15.iv q1 4) = 1) → ∀ m42, m42 = m15.st q1 4 (.int 0) → K m42) ∧ (¬ ((m15.iv q1 4) = 1) → K m15)))) : WPu_checkReads_L2 R q0 q1 x2  K (n10 + 1) y8 m2 := j
def WPu_checkReads (R : Int32 → Int32 → Mm → (Mm → Prop) → Prop) (q0 : Nat) (q1 : Nat) (x2 : Int32) (m : Mm) (K : Mm → Prop) : Prop := ∃ n45, WPu_checkReads_L2 R q0 q1 x2  K n45 0 m
set_option maxRecDepth 100000 in
set_option maxHeartbeats 4000000 in
theorem kPu_checkReads {ks : List Nat} {h : List xE} (hT : TT ks h) {q0 : Nat} (o0 : xnth ks q0 = some 15) {q1 : Nat} (o1 : xnth ks q1 = some 11) (x2 : Int32) {d : Nat} {R : Int32 → Int32 → Mm → (Mm → Prop) → Prop} (hR : ∀ {h : List xE}, TT ks h → ∀ (x y : Int32) {K : Mm → Prop}, R x y (mm h) K → yM 62 (3 * d + 12) 0 [.ref (q0 + 1), .int x, .int y] h (PV ks K)) {K : Mm → Prop} (j : WPu_checkReads R q0 q1 x2 (mm h) K) : yM 63 (3 * d + 13) 0 [.ref (q0 + 1), .ref (q1 + 1), .int x2] h (PV ks K) := by
  unfold WPu_checkReads at j
  refine yM.st xM_63 rfl rfl (fun lv g => ?_)
  have g0 := g 0 _ rfl
  have g1 := g 1 _ rfl
  have g2 := g 2 _ rfl
  refine yT.zk (pc' := 1) (z := 0) rfl rfl (by decide) ?_
  refine yT.p (pc' := 2) (lv' := xst1 _ 3 (.int 0)) rfl rfl (fun _ _ _ _ => rfl) ?_
  have L9 : ∀ (n10 : Nat) (lv1 : xLv) (h2 : List xE) (y8 : Int32), TT ks h2 → xget lv1 0 = some (.ref (q0 + 1)) → xget lv1 1 = some (.ref (q1 + 1)) → xget lv1 2 = some (.int x2) → xget lv1 3 = some (.int y8) → WPu_checkReads_L2 R q0 q1 x2  K n10 y8 (mm h2) → yT 0 [] rX5_checkReads (3 * d + 13) 0 2 lv1 [] h2 (PV ks K) := by
    intro n10
    induction n10 with
    | zero => intro lv1 h2 y8 hT3 g4 g5 g6 g7 j; exact j.elim
    | succ n10 ih11 =>
      intro lv1 h2 y8 hT3 g4 g5 g6 g7 j
      replace j := WPu_checkReads_L2_u j
      refine yT.iln (pc' := 3) g7 rfl rfl ?_
      refine yT.aan (pc' := 4) g5 rfl rfl rfl ?_
      obtain ⟨p12, w13, j⟩ := j
      refine yT.gR (pc' := 7) rfl rfl hT3 o1 rfl rfl w13 (fun o14 => ?_)
      refine zI (yT.cw (G2 := 0) (pc' := 10) rfl rfl rfl hT3 o14 xM_41 (kNu_size hT3 o14 j) rfl (by omega) (by decide) rfl) (fun h15 x17 hT16 j => ?_)
      refine yT.zge2 (t := 71) (pc' := 13) rfl rfl rfl (fun c18 => ?_) (fun c18 => ?_)
      · replace j := j.1 c18
        refine yT.aan (pc' := 14) g5 rfl rfl rfl ?_
        refine yT.gI (pc' := 17) rfl rfl hT16 o1 rfl ?_
        refine yT.zk (pc' := 18) (z := 1) rfl rfl (by decide) ?_
        refine yT.zne2 (t := 71) (pc' := 21) rfl rfl rfl (fun c19 => ?_) (fun c19 => ?_)
        · replace j := j.1 c19
          refine yT.aan (pc' := 22) g5 rfl rfl rfl ?_
          obtain ⟨p20, w21, j⟩ := j
          refine yT.gR (pc' := 25) rfl rfl hT16 o1 rfl rfl w21 (fun o22 => ?_)
          refine yT.iln (pc' := 26) g7 rfl rfl ?_
          refine zI (yT.cw (G2 := 0) (pc' := 29) rfl rfl rfl hT16 o22 xM_43 (kNu_at hT16 o22 y8 j) rfl (by omega) (by decide) rfl) (fun h23 x25 hT24 j => ?_)
          refine yT.p (pc' := 31) (lv' := xst1 _ 4 (.int x25)) rfl rfl (fun _ _ _ _ => rfl) ?_
          refine yT.aan (pc' := 32) (xg_ne g4 rfl) rfl rfl rfl ?_
          obtain ⟨p26, w27, j⟩ := j
          refine yT.gR (pc' := 35) rfl rfl hT24 o0 rfl rfl w27 (fun o28 => ?_)
          refine yT.il (pc' := 37) xg_eq rfl rfl ?_
          refine zR (yT.cw (G2 := 0) (pc' := 40) rfl rfl rfl hT24 o28 xM_71 (kWe_cell hT24 o28 x25 j) rfl (by omega) (by decide) rfl) (fun h29 hT30 j => ?_) (fun h29 p31 hT30 o33 j => ?_)
          · replace j := j.1 rfl
            refine yT.p (pc' := 42) (lv' := xst1 _ 5 (.null)) rfl rfl (fun _ _ _ _ => rfl) ?_
            refine yT.aa_ (pc' := 44) xg_eq rfl rfl rfl ?_
            refine yT.p (pc' := 65) rfl rfl (fun _ _ _ _ => rfl) ?_
            refine yT.iif (pc' := 68) (z := y8 + 1) (xg_ne (xg_ne g7 rfl) rfl) rfl rfl rfl rfl ?_
            refine yT.p (pc' := 2) rfl rfl (fun _ _ _ _ => rfl) ?_
            exact ih11 _ _ _ hT30 (xg_ne (xg_ne (xg_ne g4 rfl) rfl) rfl) (xg_ne (xg_ne (xg_ne g5 rfl) rfl) rfl) (xg_ne (xg_ne (xg_ne g6 rfl) rfl) rfl) xg_eq j
          · replace j := j.2 _ rfl
            refine yT.p (pc' := 42) (lv' := xst1 _ 5 (.ref (p31 + 1))) rfl rfl (fun _ _ _ _ => rfl) ?_
            refine yT.aa_ (pc' := 44) xg_eq rfl rfl rfl ?_
            refine yT.p (pc' := 47) rfl rfl (fun _ _ _ _ => rfl) ?_
            refine yT.aa_ (pc' := 49) xg_eq rfl rfl rfl ?_
            refine yT.gI (pc' := 52) rfl rfl hT30 o33 rfl ?_
            refine yT.zk (pc' := 53) (z := 3) rfl rfl (by decide) ?_
            refine yT.zne2 (t := 65) (pc' := 56) rfl rfl rfl (fun c34 => ?_) (fun c34 => ?_)
            · replace j := j.1 c34
              refine yT.aan (pc' := 57) (xg_ne (xg_ne g4 rfl) rfl) rfl rfl rfl ?_
              refine yT.il (pc' := 59) (xg_ne xg_eq rfl) rfl rfl ?_
              refine yT.iln (pc' := 60) (xg_ne (xg_ne g6 rfl) rfl) rfl rfl ?_
              refine yT.zk (pc' := 61) (z := 1) rfl rfl (by decide) ?_
              refine yT.p (pc' := 62) rfl rfl (fun _ _ _ _ => rfl) ?_
              refine zV (yT.cw (G2 := 0) (pc' := 65) rfl rfl rfl hT30 o0 xM_62 (hR hT30 x25 (x2 + (1 : Int32)) j) rfl (by omega) (by decide) rfl) (fun h35 hT36 j => ?_)
              refine yT.iif (pc' := 68) (z := y8 + 1) (xg_ne (xg_ne g7 rfl) rfl) rfl rfl rfl rfl ?_
              refine yT.p (pc' := 2) rfl rfl (fun _ _ _ _ => rfl) ?_
              exact ih11 _ _ _ hT36 (xg_ne (xg_ne (xg_ne g4 rfl) rfl) rfl) (xg_ne (xg_ne (xg_ne g5 rfl) rfl) rfl) (xg_ne (xg_ne (xg_ne g6 rfl) rfl) rfl) xg_eq j
            · replace j := j.2 c34
              refine yT.iif (pc' := 68) (z := y8 + 1) (xg_ne (xg_ne g7 rfl) rfl) rfl rfl rfl rfl ?_
              refine yT.p (pc' := 2) rfl rfl (fun _ _ _ _ => rfl) ?_
              exact ih11 _ _ _ hT30 (xg_ne (xg_ne (xg_ne g4 rfl) rfl) rfl) (xg_ne (xg_ne (xg_ne g5 rfl) rfl) rfl) (xg_ne (xg_ne (xg_ne g6 rfl) rfl) rfl) xg_eq j
        · replace j := j.2 c19
          refine yT.aan (pc' := 72) g5 rfl rfl rfl ?_
          refine yT.gI (pc' := 75) rfl rfl hT16 o1 rfl ?_
          refine yT.zk (pc' := 76) (z := 1) rfl rfl (by decide) ?_
          refine yT.zne2 (t := 84) (pc' := 79) rfl rfl rfl (fun c37 => ?_) (fun c37 => ?_)
          · replace j := j.1 c37
            refine yT.aan (pc' := 80) g5 rfl rfl rfl ?_
            refine yT.zk (pc' := 81) (z := 0) rfl rfl (by decide) ?_
            refine yT.sI (pc' := 84) rfl rfl hT16 o1 rfl rfl (fun h38 hT39 e40 => ?_)
            replace j := j _ e40
            exact yT.retV rfl rfl ⟨rfl, hT39, j⟩
          · replace j := j.2 c37
            exact yT.retV rfl rfl ⟨rfl, hT16, j⟩
      · replace j := j.2 c18
        refine yT.aan (pc' := 72) g5 rfl rfl rfl ?_
        refine yT.gI (pc' := 75) rfl rfl hT16 o1 rfl ?_
        refine yT.zk (pc' := 76) (z := 1) rfl rfl (by decide) ?_
        refine yT.zne2 (t := 84) (pc' := 79) rfl rfl rfl (fun c41 => ?_) (fun c41 => ?_)
        · replace j := j.1 c41
          refine yT.aan (pc' := 80) g5 rfl rfl rfl ?_
          refine yT.zk (pc' := 81) (z := 0) rfl rfl (by decide) ?_
          refine yT.sI (pc' := 84) rfl rfl hT16 o1 rfl rfl (fun h42 hT43 e44 => ?_)
          replace j := j _ e44
          exact yT.retV rfl rfl ⟨rfl, hT43, j⟩
        · replace j := j.2 c41
          exact yT.retV rfl rfl ⟨rfl, hT16, j⟩
  obtain ⟨n45, j⟩ := j
  exact L9 n45 _ _ _ hT (xg_ne g0 rfl) (xg_ne g1 rfl) (xg_ne g2 rfl) xg_eq j
-- rX5_runOnce
def WPu_runOnce_J140 (R : Int32 → Int32 → Mm → (Mm → Prop) → Prop) (q0 : Nat) (q1 : Nat) (x2 : Int32) (z42 : Int64) (rl42 : Int32 → Mm → Prop) (K : Mm → Prop)  (m58 : Mm) : Prop := ∀ m65, m65 = m58.st q1 7 (.long z42) → ∀ m68, m68 = m65.st q1 5 (.long ((m65.lg q1 5) + 1)) → ∃ p71, m68.rv q0 0 = p71 + 1 ∧ WWe_readersOf p71 x2 m68 (fun m74 x76 => WPu_colour q0 x76 0 m74 (fun m77 => K m77))
set_option maxRecDepth 100000 in
theorem WPu_runOnce_J140_u {R : Int32 → Int32 → Mm → (Mm → Prop) → Prop} {q0 : Nat} {q1 : Nat} {x2 : Int32} {z42 : Int64} {rl42 : Int32 → Mm → Prop} {K : Mm → Prop} {m58 : Mm} (j : WPu_runOnce_J140 R q0 q1 x2 z42 rl42 K  m58) : ∀ m65, m65 = m58.st q1 7 (.long z42) → ∀ m68, m68 = m65.st q1 5 (.long ((m65.lg q1 5) + 1)) → ∃ p71, m68.rv q0 0 = p71 + 1 ∧ WWe_readersOf p71 x2 m68 (fun m74 x76 => WPu_colour q0 x76 0 m74 (fun m77 => K m77)) := j
set_option maxRecDepth 100000 in
theorem WPu_runOnce_J140_i {R : Int32 → Int32 → Mm → (Mm → Prop) → Prop} {q0 : Nat} {q1 : Nat} {x2 : Int32} {z42 : Int64} {rl42 : Int32 → Mm → Prop} {K : Mm → Prop} {m58 : Mm} (j : ∀ m65, m65 = m58.st q1 7 (.long z42) → ∀ m68, m68 = m65.st q1 5 (.long ((m65.lg q1 5) + 1)) → ∃ p71, m68.rv q0 0 = p71 + 1 ∧ WWe_readersOf p71 x2 m68 (fun m74 x76 => WPu_colour q0 x76 0 m74 (fun m77 => K m77))) : WPu_runOnce_J140 R q0 q1 x2 z42 rl42 K  m58 := j
def WPu_runOnce_J121 (R : Int32 → Int32 → Mm → (Mm → Prop) → Prop) (q0 : Nat) (q1 : Nat) (x2 : Int32) (z42 : Int64) (rl42 : Int32 → Mm → Prop) (K : Mm → Prop)  (m50 : Mm) : Prop := (((lg_cmp z42 (m50.lg q1 7)) = 0) → (((lg_cmp (m50.lg q1 5) 0) = 0) → WPu_runOnce_J140 R q0 q1 x2 z42 rl42 K  m50) ∧ (¬ ((lg_cmp (m50.lg q1 5) 0) = 0) → K m50)) ∧ (¬ ((lg_cmp z42 (m50.lg q1 7)) = 0) → WPu_runOnce_J140 R q0 q1 x2 z42 rl42 K  m50)
set_option maxRecDepth 100000 in
theorem WPu_runOnce_J121_u {R : Int32 → Int32 → Mm → (Mm → Prop) → Prop} {q0 : Nat} {q1 : Nat} {x2 : Int32} {z42 : Int64} {rl42 : Int32 → Mm → Prop} {K : Mm → Prop} {m50 : Mm} (j : WPu_runOnce_J121 R q0 q1 x2 z42 rl42 K  m50) : (((lg_cmp z42 (m50.lg q1 7)) = 0) → (((lg_cmp (m50.lg q1 5) 0) = 0) → WPu_runOnce_J140 R q0 q1 x2 z42 rl42 K  m50) ∧ (¬ ((lg_cmp (m50.lg q1 5) 0) = 0) → K m50)) ∧ (¬ ((lg_cmp z42 (m50.lg q1 7)) = 0) → WPu_runOnce_J140 R q0 q1 x2 z42 rl42 K  m50) := j
set_option maxRecDepth 100000 in
theorem WPu_runOnce_J121_i {R : Int32 → Int32 → Mm → (Mm → Prop) → Prop} {q0 : Nat} {q1 : Nat} {x2 : Int32} {z42 : Int64} {rl42 : Int32 → Mm → Prop} {K : Mm → Prop} {m50 : Mm} (j : (((lg_cmp z42 (m50.lg q1 7)) = 0) → (((lg_cmp (m50.lg q1 5) 0) = 0) → WPu_runOnce_J140 R q0 q1 x2 z42 rl42 K  m50) ∧ (¬ ((lg_cmp (m50.lg q1 5) 0) = 0) → K m50)) ∧ (¬ ((lg_cmp z42 (m50.lg q1 7)) = 0) → WPu_runOnce_J140 R q0 q1 x2 z42 rl42 K  m50)) : WPu_runOnce_J121 R q0 q1 x2 z42 rl42 K  m50 := j
def WPu_runOnce_J81 (R : Int32 → Int32 → Mm → (Mm → Prop) → Prop) (q0 : Nat) (q1 : Nat) (x2 : Int32) (p14 : Nat) (rl42 : Int32 → Mm → Prop) (K : Mm → Prop)  (m33 : Mm) : Prop := WFo_outcome p14 m33 (fun m40 z42 => ∀ m43, m43 = m40.st q1 4 (.int 0) → ∀ m46, m46 = m43.st q1 6 (.int ((m43.iv q1 6) + (1 : Int32))) → (((m46.iv q1 0) = 4) → ∃ p82, m46.rv q0 0 = p82 + 1 ∧ WWe_addToLog p82 x2 z42 m46 (fun m85 => WPu_runOnce_J121 R q0 q1 x2 z42 rl42 K  m85)) ∧ (¬ ((m46.iv q1 0) = 4) → WPu_runOnce_J121 R q0 q1 x2 z42 rl42 K  m46))
set_option maxRecDepth 100000 in
theorem WPu_runOnce_J81_u {R : Int32 → Int32 → Mm → (Mm → Prop) → Prop} {q0 : Nat} {q1 : Nat} {x2 : Int32} {p14 : Nat} {rl42 : Int32 → Mm → Prop} {K : Mm → Prop} {m33 : Mm} (j : WPu_runOnce_J81 R q0 q1 x2 p14 rl42 K  m33) : WFo_outcome p14 m33 (fun m40 z42 => ∀ m43, m43 = m40.st q1 4 (.int 0) → ∀ m46, m46 = m43.st q1 6 (.int ((m43.iv q1 6) + (1 : Int32))) → (((m46.iv q1 0) = 4) → ∃ p82, m46.rv q0 0 = p82 + 1 ∧ WWe_addToLog p82 x2 z42 m46 (fun m85 => WPu_runOnce_J121 R q0 q1 x2 z42 rl42 K  m85)) ∧ (¬ ((m46.iv q1 0) = 4) → WPu_runOnce_J121 R q0 q1 x2 z42 rl42 K  m46)) := j
set_option maxRecDepth 100000 in
theorem WPu_runOnce_J81_i {R : Int32 → Int32 → Mm → (Mm → Prop) → Prop} {q0 : Nat} {q1 : Nat} {x2 : Int32} {p14 : Nat} {rl42 : Int32 → Mm → Prop} {K : Mm → Prop} {m33 : Mm} (j : WFo_outcome p14 m33 (fun m40 z42 => ∀ m43, m43 = m40.st q1 4 (.int 0) → ∀ m46, m46 = m43.st q1 6 (.int ((m43.iv q1 6) + (1 : Int32))) → (((m46.iv q1 0) = 4) → ∃ p82, m46.rv q0 0 = p82 + 1 ∧ WWe_addToLog p82 x2 z42 m46 (fun m85 => WPu_runOnce_J121 R q0 q1 x2 z42 rl42 K  m85)) ∧ (¬ ((m46.iv q1 0) = 4) → WPu_runOnce_J121 R q0 q1 x2 z42 rl42 K  m46))) : WPu_runOnce_J81 R q0 q1 x2 p14 rl42 K  m33 := j
def WPu_runOnce_L42 (R : Int32 → Int32 → Mm → (Mm → Prop) → Prop) (q0 : Nat) (q1 : Nat) (x2 : Int32) (x3 : Int32) (p14 : Nat) (K : Mm → Prop) : Nat → Int32 → Mm → Prop
  | 0, _, _ => False
  | n30 + 1, y28, m20 => ((y28.toInt < (250 : Int32).toInt) → WFo_goesOn p14 m20 (fun m88 x90 => ((x90 = 0) → WPu_runOnce_J81 R q0 q1 x2 p14 (WPu_runOnce_L42 R q0 q1 x2 x3 p14  K n30) K  m88) ∧ (¬ (x90 = 0) → WFo_asked p14 m88 (fun m93 x95 => WPu_outcomeRead R q0 q1 x2 x95 x3 m93 (fun m96 z98 => WFo_give p14 z98 m96 (fun m99 => WPu_runOnce_L42 R q0 q1 x2 x3 p14  K n30 (y28 + 1) m99)))))) ∧ (¬ (y28.toInt < (250 : Int32).toInt) → WPu_runOnce_J81 R q0 q1 x2 p14 (WPu_runOnce_L42 R q0 q1 x2 x3 p14  K n30) K  m20)
set_option maxRecDepth 100000 in
theorem WPu_runOnce_L42_u {R : Int32 → Int32 → Mm → (Mm → Prop) → Prop} {q0 : Nat} {q1 : Nat} {x2 : Int32} {x3 : Int32} {p14 : Nat} {K : Mm → Prop} {n30 : Nat} {y28 : Int32} {m20 : Mm} (j : WPu_runOnce_L42 R q0 q1 x2 x3 p14  K (n30 + 1) y28 m20) : ((y28.toInt < (250 : Int32).toInt) → WFo_goesOn p14 m20 (fun m88 x90 => ((x90 = 0) → WPu_runOnce_J81 R q0 q1 x2 p14 (WPu_runOnce_L42 R q0 q1 x2 x3 p14  K n30) K  m88) ∧ (¬ (x90 = 0) → WFo_asked p14 m88 (fun m93 x95 => WPu_outcomeRead R q0 q1 x2 x95 x3 m93 (fun m96 z98 => WFo_give p14 z98 m96 (fun m99 => WPu_runOnce_L42 R q0 q1 x2 x3 p14  K n30 (y28 + 1) m99)))))) ∧ (¬ (y28.toInt < (250 : Int32).toInt) → WPu_runOnce_J81 R q0 q1 x2 p14 (WPu_runOnce_L42 R q0 q1 x2 x3 p14  K n30) K  m20) := j
set_option maxRecDepth 100000 in
theorem WPu_runOnce_L42_i {R : Int32 → Int32 → Mm → (Mm → Prop) → Prop} {q0 : Nat} {q1 : Nat} {x2 : Int32} {x3 : Int32} {p14 : Nat} {K : Mm → Prop} {n30 : Nat} {y28 : Int32} {m20 : Mm} (j : ((y28.toInt < (250 : Int32).toInt) → WFo_goesOn p14 m20 (fun m88 x90 => ((x90 = 0) → WPu_runOnce_J81 R q0 q1 x2 p14 (WPu_runOnce_L42 R q0 q1 x2 x3 p14  K n30) K  m88) ∧ (¬ (x90 = 0) → WFo_asked p14 m88 (fun m93 x95 => WPu_outcomeRead R q0 q1 x2 x95 x3 m93 (fun m96 z98 => WFo_give p14 z98 m96 (fun m99 => WPu_runOnce_L42 R q0 q1 x2 x3 p14  K n30 (y28 + 1) m99)))))) ∧ (¬ (y28.toInt < (250 : Int32).toInt) → WPu_runOnce_J81 R q0 q1 x2 p14 (WPu_runOnce_L42 R q0 q1 x2 x3 p14  K n30) K  m20)) : WPu_runOnce_L42 R q0 q1 x2 x3 p14  K (n30 + 1) y28 m20 := j
def WPu_runOnce_J22 (R : Int32 → Int32 → Mm → (Mm → Prop) → Prop) (q0 : Nat) (q1 : Nat) (x2 : Int32) (x3 : Int32) (K : Mm → Prop)  (m7 : Mm) : Prop := (m7.rv q1 8 = 0 → K m7) ∧ (∀ p14, m7.rv q1 8 = p14 + 1 → WFo_start p14 m7 (fun m17 => ∃ n101, WPu_runOnce_L42 R q0 q1 x2 x3 p14  K n101 0 m17))
set_option maxRecDepth 100000 in
theorem WPu_runOnce_J22_u {R : Int32 → Int32 → Mm → (Mm → Prop) → Prop} {q0 : Nat} {q1 : Nat} {x2 : Int32} {x3 : Int32} {K : Mm → Prop} {m7 : Mm} (j : WPu_runOnce_J22 R q0 q1 x2 x3  K  m7) : (m7.rv q1 8 = 0 → K m7) ∧ (∀ p14, m7.rv q1 8 = p14 + 1 → WFo_start p14 m7 (fun m17 => ∃ n101, WPu_runOnce_L42 R q0 q1 x2 x3 p14  K n101 0 m17)) := j
set_option maxRecDepth 100000 in
theorem WPu_runOnce_J22_i {R : Int32 → Int32 → Mm → (Mm → Prop) → Prop} {q0 : Nat} {q1 : Nat} {x2 : Int32} {x3 : Int32} {K : Mm → Prop} {m7 : Mm} (j : (m7.rv q1 8 = 0 → K m7) ∧ (∀ p14, m7.rv q1 8 = p14 + 1 → WFo_start p14 m7 (fun m17 => ∃ n101, WPu_runOnce_L42 R q0 q1 x2 x3 p14  K n101 0 m17))) : WPu_runOnce_J22 R q0 q1 x2 x3  K  m7 := j
def WPu_runOnce (R : Int32 → Int32 → Mm → (Mm → Prop) → Prop) (q0 : Nat) (q1 : Nat) (x2 : Int32) (x3 : Int32) (m : Mm) (K : Mm → Prop) : Prop := ∃ p1, m.rv q0 0 = p1 + 1 ∧ WWe_clearReads p1 x2 m (fun m4 => (((m4.iv q1 0) = 4) → WPu_disposeOwned q0 x2 0 m4 (fun m103 => WPu_runOnce_J22 R q0 q1 x2 x3  K  m103)) ∧ (¬ ((m4.iv q1 0) = 4) → WPu_runOnce_J22 R q0 q1 x2 x3  K  m4))
set_option maxRecDepth 100000 in
set_option maxHeartbeats 4000000 in
theorem kPu_runOnce {ks : List Nat} {h : List xE} (hT : TT ks h) {q0 : Nat} (o0 : xnth ks q0 = some 15) {q1 : Nat} (o1 : xnth ks q1 = some 11) (x2 : Int32) (x3 : Int32) {d : Nat} {R : Int32 → Int32 → Mm → (Mm → Prop) → Prop} (hR : ∀ {h : List xE}, TT ks h → ∀ (x y : Int32) {K : Mm → Prop}, R x y (mm h) K → yM 62 (3 * d + 12) 0 [.ref (q0 + 1), .int x, .int y] h (PV ks K)) {K : Mm → Prop} (j : WPu_runOnce R q0 q1 x2 x3 (mm h) K) : yM 64 (3 * d + 14) 0 [.ref (q0 + 1), .ref (q1 + 1), .int x2, .int x3] h (PV ks K) := by
  unfold WPu_runOnce at j
  refine yM.st xM_64 rfl rfl (fun lv g => ?_)
  have g0 := g 0 _ rfl
  have g1 := g 1 _ rfl
  have g2 := g 2 _ rfl
  have g3 := g 3 _ rfl
  refine yT.aan (pc' := 1) g0 rfl rfl rfl ?_
  obtain ⟨p1, w2, j⟩ := j
  refine yT.gR (pc' := 4) rfl rfl hT o0 rfl rfl w2 (fun o3 => ?_)
  refine yT.iln (pc' := 5) g2 rfl rfl ?_
  refine zV (yT.cw (G2 := 0) (pc' := 8) rfl rfl rfl hT o3 xM_77 (kWe_clearReads hT o3 x2 j) rfl (by omega) (by decide) rfl) (fun h4 hT5 j => ?_)
  refine yT.aan (pc' := 9) g1 rfl rfl rfl ?_
  refine yT.gI (pc' := 12) rfl rfl hT5 o1 rfl ?_
  refine yT.zk (pc' := 13) (z := 4) rfl rfl (by decide) ?_
  have L13 : ∀ (lv6 : xLv) (h7 : List xE), TT ks h7 → xget lv6 0 = some (.ref (q0 + 1)) → xget lv6 1 = some (.ref (q1 + 1)) → xget lv6 2 = some (.int x2) → xget lv6 3 = some (.int x3) → WPu_runOnce_J22 R q0 q1 x2 x3  K  (mm h7) → yT 0 [] rX5_runOnce (3 * d + 14) 0 22 lv6 [] h7 (PV ks K) := by
    intro lv6 h7 hT8 g9 g10 g11 g12 j
    replace j := WPu_runOnce_J22_u j
    refine yT.aan (pc' := 23) g10 rfl rfl rfl ?_
    refine yT.gN (pc' := 26) rfl rfl hT8 o1 rfl rfl (fun w15 => ?_) (fun p14 w15 o16 => ?_)
    · replace j := j.1 w15
      refine yT.p (pc' := 28) (lv' := xst1 _ 4 (.null)) rfl rfl (fun _ _ _ _ => rfl) ?_
      refine yT.aa_ (pc' := 30) xg_eq rfl rfl rfl ?_
      refine yT.p (pc' := 33) rfl rfl (fun _ _ _ _ => rfl) ?_
      exact yT.retV rfl rfl ⟨rfl, hT8, j⟩
    · replace j := j.2 p14 w15
      refine yT.p (pc' := 28) (lv' := xst1 _ 4 (.ref (p14 + 1))) rfl rfl (fun _ _ _ _ => rfl) ?_
      refine yT.aa_ (pc' := 30) xg_eq rfl rfl rfl ?_
      refine yT.p (pc' := 34) rfl rfl (fun _ _ _ _ => rfl) ?_
      refine yT.aa_ (pc' := 36) xg_eq rfl rfl rfl ?_
      refine zV (yT.cw (G2 := 0) (pc' := 39) rfl rfl rfl hT8 o16 xM_11 (kFo_start hT8 o16 j) rfl (by omega) (by decide) rfl) (fun h17 hT18 j => ?_)
      refine yT.zk (pc' := 40) (z := 0) rfl rfl (by decide) ?_
      refine yT.p (pc' := 42) (lv' := xst1 _ 5 (.int 0)) rfl rfl (fun _ _ _ _ => rfl) ?_
      have L29 : ∀ (n30 : Nat) (lv19 : xLv) (h20 : List xE) (y28 : Int32), TT ks h20 → xget lv19 0 = some (.ref (q0 + 1)) → xget lv19 1 = some (.ref (q1 + 1)) → xget lv19 2 = some (.int x2) → xget lv19 3 = some (.int x3) → xget lv19 4 = some (.ref (p14 + 1)) → xget lv19 5 = some (.int y28) → WPu_runOnce_L42 R q0 q1 x2 x3 p14  K n30 y28 (mm h20) → yT 0 [] rX5_runOnce (3 * d + 14) 0 42 lv19 [] h20 (PV ks K) := by
        intro n30
        induction n30 with
        | zero => intro lv19 h20 y28 hT21 g22 g23 g24 g25 g26 g27 j; exact j.elim
        | succ n30 ih31 =>
          intro lv19 h20 y28 hT21 g22 g23 g24 g25 g26 g27 j
          replace j := WPu_runOnce_L42_u j
          refine yT.il (pc' := 44) g27 rfl rfl ?_
          refine yT.zs (pc' := 47) (z := 250) rfl rfl (by decide) ?_
          have L39 : ∀ (lv32 : xLv) (h33 : List xE), TT ks h33 → xget lv32 0 = some (.ref (q0 + 1)) → xget lv32 1 = some (.ref (q1 + 1)) → xget lv32 2 = some (.int x2) → xget lv32 4 = some (.ref (p14 + 1)) → WPu_runOnce_J81 R q0 q1 x2 p14 (WPu_runOnce_L42 R q0 q1 x2 x3 p14  K n30) K  (mm h33) → yT 0 [] rX5_runOnce (3 * d + 14) 0 81 lv32 [] h33 (PV ks K) := by
            intro lv32 h33 hT34 g35 g36 g37 g38 j
            replace j := WPu_runOnce_J81_u j
            refine yT.aa_ (pc' := 83) g38 rfl rfl rfl ?_
            refine zL (yT.cw (G2 := 0) (pc' := 86) rfl rfl rfl hT34 o16 xM_14 (kFo_outcome hT34 o16 j) rfl (by omega) (by decide) rfl) (fun h40 z42 hT41 j => ?_)
            refine yT.p (pc' := 88) (lv' := xst2 _ 5 (.long z42)) rfl rfl (fun _ _ _ _ => rfl) ?_
            refine yT.aan (pc' := 89) (xg2_ne g36 rfl) rfl rfl rfl ?_
            refine yT.zk (pc' := 90) (z := 0) rfl rfl (by decide) ?_
            refine yT.sI (pc' := 93) rfl rfl hT41 o1 rfl rfl (fun h43 hT44 e45 => ?_)
            replace j := j _ e45
            refine yT.aan (pc' := 94) (xg2_ne g36 rfl) rfl rfl rfl ?_
            refine yT.p (pc' := 95) rfl rfl (fun _ _ _ _ => rfl) ?_
            refine yT.gI (pc' := 98) rfl rfl hT44 o1 rfl ?_
            refine yT.zk (pc' := 99) (z := 1) rfl rfl (by decide) ?_
            refine yT.p (pc' := 100) rfl rfl (fun _ _ _ _ => rfl) ?_
            refine yT.sI (pc' := 103) rfl rfl hT44 o1 rfl rfl (fun h46 hT47 e48 => ?_)
            replace j := j _ e48
            refine yT.aan (pc' := 104) (xg2_ne g36 rfl) rfl rfl rfl ?_
            refine yT.gI (pc' := 107) rfl rfl hT47 o1 rfl ?_
            refine yT.zk (pc' := 108) (z := 4) rfl rfl (by decide) ?_
            have L56 : ∀ (lv49 : xLv) (h50 : List xE), TT ks h50 → xget lv49 0 = some (.ref (q0 + 1)) → xget lv49 1 = some (.ref (q1 + 1)) → xget lv49 2 = some (.int x2) → xget lv49 5 = some (.long z42) → WPu_runOnce_J121 R q0 q1 x2 z42 (WPu_runOnce_L42 R q0 q1 x2 x3 p14  K n30) K  (mm h50) → yT 0 [] rX5_runOnce (3 * d + 14) 0 121 lv49 [] h50 (PV ks K) := by
              intro lv49 h50 hT51 g52 g53 g54 g55 j
              replace j := WPu_runOnce_J121_u j
              refine yT.ll (pc' := 123) g55 rfl rfl ?_
              refine yT.aan (pc' := 124) g53 rfl rfl rfl ?_
              refine yT.gL (pc' := 127) rfl rfl hT51 o1 rfl ?_
              refine yT.p (pc' := 128) rfl rfl (fun _ _ _ _ => rfl) ?_
              have L64 : ∀ (lv57 : xLv) (h58 : List xE), TT ks h58 → xget lv57 0 = some (.ref (q0 + 1)) → xget lv57 1 = some (.ref (q1 + 1)) → xget lv57 2 = some (.int x2) → xget lv57 5 = some (.long z42) → WPu_runOnce_J140 R q0 q1 x2 z42 (WPu_runOnce_L42 R q0 q1 x2 x3 p14  K n30) K  (mm h58) → yT 0 [] rX5_runOnce (3 * d + 14) 0 140 lv57 [] h58 (PV ks K) := by
                intro lv57 h58 hT59 g60 g61 g62 g63 j
                replace j := WPu_runOnce_J140_u j
                refine yT.aan (pc' := 141) g61 rfl rfl rfl ?_
                refine yT.ll (pc' := 143) g63 rfl rfl ?_
                refine yT.sL (pc' := 146) rfl rfl hT59 o1 rfl rfl (fun h65 hT66 e67 => ?_)
                replace j := j _ e67
                refine yT.aan (pc' := 147) g61 rfl rfl rfl ?_
                refine yT.p (pc' := 148) rfl rfl (fun _ _ _ _ => rfl) ?_
                refine yT.gL (pc' := 151) rfl rfl hT66 o1 rfl ?_
                refine yT.zl (pc' := 152) (z := 1) rfl rfl (by decide) ?_
                refine yT.p (pc' := 153) rfl rfl (fun _ _ _ _ => rfl) ?_
                refine yT.sL (pc' := 156) rfl rfl hT66 o1 rfl rfl (fun h68 hT69 e70 => ?_)
                replace j := j _ e70
                refine yT.aan (pc' := 157) g60 rfl rfl rfl ?_
                refine yT.aan (pc' := 158) g60 rfl rfl rfl ?_
                obtain ⟨p71, w72, j⟩ := j
                refine yT.gR (pc' := 161) rfl rfl hT69 o0 rfl rfl w72 (fun o73 => ?_)
                refine yT.iln (pc' := 162) g62 rfl rfl ?_
                refine zI (yT.cw (G2 := 0) (pc' := 165) rfl rfl rfl hT69 o73 xM_78 (kWe_readersOf hT69 o73 x2 j) rfl (by omega) (by decide) rfl) (fun h74 x76 hT75 j => ?_)
                refine yT.zk (pc' := 166) (z := 0) rfl rfl (by decide) ?_
                refine zV (yT.cw (G2 := 0) (pc' := 169) rfl rfl rfl hT75 o0 xM_61 (kPu_colour hT75 o0 x76 0 j) rfl (by omega) (by decide) rfl) (fun h77 hT78 j => ?_)
                exact yT.retV rfl rfl ⟨rfl, hT78, j⟩
              refine yT.zne1 (t := 140) (pc' := 131) rfl rfl rfl (fun c79 => ?_) (fun c79 => ?_)
              · replace j := j.1 c79
                refine yT.aan (pc' := 132) g53 rfl rfl rfl ?_
                refine yT.gL (pc' := 135) rfl rfl hT51 o1 rfl ?_
                refine yT.zl (pc' := 136) (z := 0) rfl rfl (by decide) ?_
                refine yT.p (pc' := 137) rfl rfl (fun _ _ _ _ => rfl) ?_
                refine yT.zne1 (t := 169) (pc' := 140) rfl rfl rfl (fun c80 => ?_) (fun c80 => ?_)
                · replace j := j.1 c80
                  exact L64 _ _  hT51 g52 g53 g54 g55 j
                · replace j := j.2 c80
                  exact yT.retV rfl rfl ⟨rfl, hT51, j⟩
              · replace j := j.2 c79
                exact L64 _ _  hT51 g52 g53 g54 g55 j
            refine yT.zne2 (t := 121) (pc' := 111) rfl rfl rfl (fun c81 => ?_) (fun c81 => ?_)
            · replace j := j.1 c81
              refine yT.aan (pc' := 112) (xg2_ne g35 rfl) rfl rfl rfl ?_
              obtain ⟨p82, w83, j⟩ := j
              refine yT.gR (pc' := 115) rfl rfl hT47 o0 rfl rfl w83 (fun o84 => ?_)
              refine yT.iln (pc' := 116) (xg2_ne g37 rfl) rfl rfl ?_
              refine yT.ll (pc' := 118) xg2_eq rfl rfl ?_
              refine zV (yT.cw (G2 := 0) (pc' := 121) rfl rfl rfl hT47 o84 xM_83 (kWe_addToLog hT47 o84 x2 z42 j) rfl (by omega) (by decide) rfl) (fun h85 hT86 j => ?_)
              exact L56 _ _  hT86 (xg2_ne g35 rfl) (xg2_ne g36 rfl) (xg2_ne g37 rfl) xg2_eq j
            · replace j := j.2 c81
              exact L56 _ _  hT47 (xg2_ne g35 rfl) (xg2_ne g36 rfl) (xg2_ne g37 rfl) xg2_eq j
          refine yT.zge2 (t := 81) (pc' := 50) rfl rfl rfl (fun c87 => ?_) (fun c87 => ?_)
          · replace j := j.1 c87
            refine yT.aa_ (pc' := 52) g26 rfl rfl rfl ?_
            refine zZ (yT.cw (G2 := 0) (pc' := 55) rfl rfl rfl hT21 o16 xM_12 (kFo_goesOn hT21 o16 j) rfl (by omega) (by decide) rfl) (fun h88 x90 hT89 b91 j => ?_)
            refine yT.zeq1 (t := 81) (pc' := 58) rfl rfl rfl (fun c92 => ?_) (fun c92 => ?_)
            · replace j := j.1 c92
              exact L39 _ _  hT89 g22 g23 g24 g26 j
            · replace j := j.2 c92
              refine yT.aa_ (pc' := 60) g26 rfl rfl rfl ?_
              refine yT.aan (pc' := 61) g22 rfl rfl rfl ?_
              refine yT.aan (pc' := 62) g23 rfl rfl rfl ?_
              refine yT.iln (pc' := 63) g24 rfl rfl ?_
              refine yT.aa_ (pc' := 65) g26 rfl rfl rfl ?_
              refine zI (yT.cw (G2 := 0) (pc' := 68) rfl rfl rfl hT89 o16 xM_9 (kFo_asked hT89 o16 j) rfl (by omega) (by decide) rfl) (fun h93 x95 hT94 j => ?_)
              refine yT.iln (pc' := 69) g25 rfl rfl ?_
              refine zL (yT.cw (G2 := 0) (pc' := 72) rfl rfl rfl hT94 o0 xM_65 (kPu_outcomeRead hT94 o0 o1 x2 x95 x3 hR j) rfl (by omega) (by decide) rfl) (fun h96 z98 hT97 j => ?_)
              refine zV (yT.cw (G2 := 0) (pc' := 75) rfl rfl rfl hT97 o16 xM_13 (kFo_give hT97 o16 z98 j) rfl (by omega) (by decide) rfl) (fun h99 hT100 j => ?_)
              refine yT.iif (pc' := 78) (z := y28 + 1) g27 rfl rfl rfl rfl ?_
              refine yT.p (pc' := 42) rfl rfl (fun _ _ _ _ => rfl) ?_
              exact ih31 _ _ _ hT100 (xg_ne g22 rfl) (xg_ne g23 rfl) (xg_ne g24 rfl) (xg_ne g25 rfl) (xg_ne g26 rfl) xg_eq j
          · replace j := j.2 c87
            exact L39 _ _  hT21 g22 g23 g24 g26 j
      obtain ⟨n101, j⟩ := j
      exact L29 n101 _ _ _ hT18 (xg_ne (xg_ne g9 rfl) rfl) (xg_ne (xg_ne g10 rfl) rfl) (xg_ne (xg_ne g11 rfl) rfl) (xg_ne (xg_ne g12 rfl) rfl) (xg_ne xg_eq rfl) xg_eq j
  refine yT.zne2 (t := 22) (pc' := 16) rfl rfl rfl (fun c102 => ?_) (fun c102 => ?_)
  · replace j := j.1 c102
    refine yT.aan (pc' := 17) g0 rfl rfl rfl ?_
    refine yT.iln (pc' := 18) g2 rfl rfl ?_
    refine yT.zk (pc' := 19) (z := 0) rfl rfl (by decide) ?_
    refine zV (yT.cw (G2 := 0) (pc' := 22) rfl rfl rfl hT5 o0 xM_59 (kPu_disposeOwned hT5 o0 x2 0 j) rfl (by omega) (by decide) rfl) (fun h103 hT104 j => ?_)
    exact L13 _ _  hT104 g0 g1 g2 g3 j
  · replace j := j.2 c102
    exact L13 _ _  hT5 g0 g1 g2 g3 j
-- rX5_refresh
def WPu_refresh (R : Int32 → Int32 → Mm → (Mm → Prop) → Prop) (q0 : Nat) (x1 : Int32) (x2 : Int32) (m : Mm) (K : Mm → Prop) : Prop := ∃ p1, m.rv q0 0 = p1 + 1 ∧ WWe_cell p1 x1 m (fun m4 => nn (K m4) (fun p6 => (m4.iv p6 3 = 0 ∨ m4.iv p6 3 = 1) → (((m4.iv p6 3) = 0) → (((m4.iv p6 4) = 0) → K m4) ∧ (¬ ((m4.iv p6 4) = 0) → (((24 : Int32).toInt < x2.toInt) → K m4) ∧ (¬ ((24 : Int32).toInt < x2.toInt) → ∀ m13, m13 = m4.st p6 3 (.int 1) → (((m13.iv p6 4) = 1) → WPu_checkReads R q0 p6 x2 m13 (fun m17 => (((m17.iv p6 4) = 2) → WPu_runOnce R q0 p6 x1 x2 m17 (fun m20 => ∀ m22, m22 = m20.st p6 3 (.int 0) → K m22)) ∧ (¬ ((m17.iv p6 4) = 2) → ∀ m25, m25 = m17.st p6 3 (.int 0) → K m25))) ∧ (¬ ((m13.iv p6 4) = 1) → (((m13.iv p6 4) = 2) → WPu_runOnce R q0 p6 x1 x2 m13 (fun m29 => ∀ m31, m31 = m29.st p6 3 (.int 0) → K m31)) ∧ (¬ ((m13.iv p6 4) = 2) → ∀ m34, m34 = m13.st p6 3 (.int 0) → K m34))))) ∧ (¬ ((m4.iv p6 3) = 0) → K m4)))
set_option maxRecDepth 100000 in
set_option maxHeartbeats 4000000 in
theorem kPu_refresh {ks : List Nat} {h : List xE} (hT : TT ks h) {q0 : Nat} (o0 : xnth ks q0 = some 15) (x1 : Int32) (x2 : Int32) {d : Nat} {R : Int32 → Int32 → Mm → (Mm → Prop) → Prop} (hR : ∀ {h : List xE}, TT ks h → ∀ (x y : Int32) {K : Mm → Prop}, R x y (mm h) K → yM 62 (3 * d + 12) 0 [.ref (q0 + 1), .int x, .int y] h (PV ks K)) {K : Mm → Prop} (j : WPu_refresh R q0 x1 x2 (mm h) K) : yM 62 (3 * d + 15) 0 [.ref (q0 + 1), .int x1, .int x2] h (PV ks K) := by
  unfold WPu_refresh at j
  refine yM.st xM_62 rfl rfl (fun lv g => ?_)
  have g0 := g 0 _ rfl
  have g1 := g 1 _ rfl
  have g2 := g 2 _ rfl
  refine yT.aan (pc' := 1) g0 rfl rfl rfl ?_
  obtain ⟨p1, w2, j⟩ := j
  refine yT.gR (pc' := 4) rfl rfl hT o0 rfl rfl w2 (fun o3 => ?_)
  refine yT.iln (pc' := 5) g1 rfl rfl ?_
  refine zR (yT.cw (G2 := 0) (pc' := 8) rfl rfl rfl hT o3 xM_71 (kWe_cell hT o3 x1 j) rfl (by omega) (by decide) rfl) (fun h4 hT5 j => ?_) (fun h4 p6 hT5 o8 j => ?_)
  · replace j := j.1 rfl
    refine yT.p (pc' := 9) (lv' := xst1 _ 3 (.null)) rfl rfl (fun _ _ _ _ => rfl) ?_
    refine yT.aan (pc' := 10) xg_eq rfl rfl rfl ?_
    refine yT.p (pc' := 33) rfl rfl (fun _ _ _ _ => rfl) ?_
    exact yT.retV rfl rfl ⟨rfl, hT5, j⟩
  · replace j := j.2 _ rfl
    refine yT.p (pc' := 9) (lv' := xst1 _ 3 (.ref (p6 + 1))) rfl rfl (fun _ _ _ _ => rfl) ?_
    refine yT.aan (pc' := 10) xg_eq rfl rfl rfl ?_
    refine yT.p (pc' := 13) rfl rfl (fun _ _ _ _ => rfl) ?_
    refine yT.aan (pc' := 14) xg_eq rfl rfl rfl ?_
    refine yT.gZ (pc' := 17) rfl rfl hT5 o8 rfl (fun b9 => ?_)
    replace j := j b9
    refine yT.zne1 (t := 33) (pc' := 20) rfl rfl rfl (fun c10 => ?_) (fun c10 => ?_)
    · replace j := j.1 c10
      refine yT.aan (pc' := 21) xg_eq rfl rfl rfl ?_
      refine yT.gI (pc' := 24) rfl rfl hT5 o8 rfl ?_
      refine yT.zeq1 (t := 33) (pc' := 27) rfl rfl rfl (fun c11 => ?_) (fun c11 => ?_)
      · replace j := j.1 c11
        exact yT.retV rfl rfl ⟨rfl, hT5, j⟩
      · replace j := j.2 c11
        refine yT.iln (pc' := 28) (xg_ne g2 rfl) rfl rfl ?_
        refine yT.zb (pc' := 30) (z := 24) rfl rfl (by decide) ?_
        refine yT.zle2 (t := 34) (pc' := 33) rfl rfl rfl (fun c12 => ?_) (fun c12 => ?_)
        · replace j := j.1 c12
          exact yT.retV rfl rfl ⟨rfl, hT5, j⟩
        · replace j := j.2 c12
          refine yT.aan (pc' := 35) xg_eq rfl rfl rfl ?_
          refine yT.zk (pc' := 36) (z := 1) rfl rfl (by decide) ?_
          refine yT.sZ (pc' := 39) rfl rfl hT5 o8 rfl rfl (Or.inr rfl) (fun h13 hT14 e15 => ?_)
          replace j := j _ e15
          refine yT.aan (pc' := 40) xg_eq rfl rfl rfl ?_
          refine yT.gI (pc' := 43) rfl rfl hT14 o8 rfl ?_
          refine yT.zk (pc' := 44) (z := 1) rfl rfl (by decide) ?_
          refine yT.zne2 (t := 53) (pc' := 47) rfl rfl rfl (fun c16 => ?_) (fun c16 => ?_)
          · replace j := j.1 c16
            refine yT.aan (pc' := 48) (xg_ne g0 rfl) rfl rfl rfl ?_
            refine yT.aan (pc' := 49) xg_eq rfl rfl rfl ?_
            refine yT.iln (pc' := 50) (xg_ne g2 rfl) rfl rfl ?_
            refine zV (yT.cw (G2 := 0) (pc' := 53) rfl rfl rfl hT14 o0 xM_63 (kPu_checkReads hT14 o0 o8 x2 hR j) rfl (by omega) (by decide) rfl) (fun h17 hT18 j => ?_)
            refine yT.aan (pc' := 54) xg_eq rfl rfl rfl ?_
            refine yT.gI (pc' := 57) rfl rfl hT18 o8 rfl ?_
            refine yT.zk (pc' := 58) (z := 2) rfl rfl (by decide) ?_
            refine yT.zne2 (t := 68) (pc' := 61) rfl rfl rfl (fun c19 => ?_) (fun c19 => ?_)
            · replace j := j.1 c19
              refine yT.aan (pc' := 62) (xg_ne g0 rfl) rfl rfl rfl ?_
              refine yT.aan (pc' := 63) xg_eq rfl rfl rfl ?_
              refine yT.iln (pc' := 64) (xg_ne g1 rfl) rfl rfl ?_
              refine yT.iln (pc' := 65) (xg_ne g2 rfl) rfl rfl ?_
              refine zV (yT.cw (G2 := 0) (pc' := 68) rfl rfl rfl hT18 o0 xM_64 (kPu_runOnce hT18 o0 o8 x1 x2 hR j) rfl (by omega) (by decide) rfl) (fun h20 hT21 j => ?_)
              refine yT.aan (pc' := 69) xg_eq rfl rfl rfl ?_
              refine yT.zk (pc' := 70) (z := 0) rfl rfl (by decide) ?_
              refine yT.sZ (pc' := 73) rfl rfl hT21 o8 rfl rfl (Or.inl rfl) (fun h22 hT23 e24 => ?_)
              replace j := j _ e24
              exact yT.retV rfl rfl ⟨rfl, hT23, j⟩
            · replace j := j.2 c19
              refine yT.aan (pc' := 69) xg_eq rfl rfl rfl ?_
              refine yT.zk (pc' := 70) (z := 0) rfl rfl (by decide) ?_
              refine yT.sZ (pc' := 73) rfl rfl hT18 o8 rfl rfl (Or.inl rfl) (fun h25 hT26 e27 => ?_)
              replace j := j _ e27
              exact yT.retV rfl rfl ⟨rfl, hT26, j⟩
          · replace j := j.2 c16
            refine yT.aan (pc' := 54) xg_eq rfl rfl rfl ?_
            refine yT.gI (pc' := 57) rfl rfl hT14 o8 rfl ?_
            refine yT.zk (pc' := 58) (z := 2) rfl rfl (by decide) ?_
            refine yT.zne2 (t := 68) (pc' := 61) rfl rfl rfl (fun c28 => ?_) (fun c28 => ?_)
            · replace j := j.1 c28
              refine yT.aan (pc' := 62) (xg_ne g0 rfl) rfl rfl rfl ?_
              refine yT.aan (pc' := 63) xg_eq rfl rfl rfl ?_
              refine yT.iln (pc' := 64) (xg_ne g1 rfl) rfl rfl ?_
              refine yT.iln (pc' := 65) (xg_ne g2 rfl) rfl rfl ?_
              refine zV (yT.cw (G2 := 0) (pc' := 68) rfl rfl rfl hT14 o0 xM_64 (kPu_runOnce hT14 o0 o8 x1 x2 hR j) rfl (by omega) (by decide) rfl) (fun h29 hT30 j => ?_)
              refine yT.aan (pc' := 69) xg_eq rfl rfl rfl ?_
              refine yT.zk (pc' := 70) (z := 0) rfl rfl (by decide) ?_
              refine yT.sZ (pc' := 73) rfl rfl hT30 o8 rfl rfl (Or.inl rfl) (fun h31 hT32 e33 => ?_)
              replace j := j _ e33
              exact yT.retV rfl rfl ⟨rfl, hT32, j⟩
            · replace j := j.2 c28
              refine yT.aan (pc' := 69) xg_eq rfl rfl rfl ?_
              refine yT.zk (pc' := 70) (z := 0) rfl rfl (by decide) ?_
              refine yT.sZ (pc' := 73) rfl rfl hT14 o8 rfl rfl (Or.inl rfl) (fun h34 hT35 e36 => ?_)
              replace j := j _ e36
              exact yT.retV rfl rfl ⟨rfl, hT35, j⟩
    · replace j := j.2 c10
      exact yT.retV rfl rfl ⟨rfl, hT5, j⟩
-- REFRESH
def WPu_refresh_r (q0 : Nat) : Nat → Int32 → Int32 → Mm → (Mm → Prop) → Prop
  | 0 => fun _ _ _ _ => False
  | n + 1 => fun x y m K => WPu_refresh (WPu_refresh_r q0 n) q0 x y m K
set_option maxRecDepth 100000 in
theorem kPu_refresh_r {ks : List Nat} {q0 : Nat} (o0 : xnth ks q0 = some 15) : ∀ (n : Nat) {h : List xE}, TT ks h → ∀ (x y : Int32) {K : Mm → Prop}, WPu_refresh_r q0 n x y (mm h) K → yM 62 (3 * n + 12) 0 [.ref (q0 + 1), .int x, .int y] h (PV ks K)
  | 0, h, hT, x, y, K, j => False.elim j
  | n + 1, h, hT, x, y, K, j => (kPu_refresh hT o0 x y (kPu_refresh_r o0 n) j).w (by omega) (Nat.le_refl _) (fun _ _ h => h)
def WPu_refresh_c (q0 : Nat) (x y : Int32) (m : Mm) (K : Mm → Prop) : Prop := ∃ n, n ≤ 25 ∧ WPu_refresh_r q0 n x y m K
theorem kPu_refresh_c {ks : List Nat} {h : List xE} (hT : TT ks h) {q0 : Nat} (o0 : xnth ks q0 = some 15) (x y : Int32) {K : Mm → Prop} (j : WPu_refresh_c q0 x y (mm h) K) : yM 62 (87) 0 [.ref (q0 + 1), .int x, .int y] h (PV ks K) := by
  obtain ⟨n, hn, j⟩ := j
  exact (kPu_refresh_r o0 n hT x y j).w (by omega) (Nat.le_refl _) (fun _ _ h => h)
-- rX5_pull
def WPu_pull  (q0 : Nat) (x1 : Int32) (m : Mm) (K : Mm → Prop) : Prop := WPu_refresh_c q0 x1 0 m (fun m1 => K m1)
set_option maxRecDepth 100000 in
set_option maxHeartbeats 4000000 in
theorem kPu_pull {ks : List Nat} {h : List xE} (hT : TT ks h) {q0 : Nat} (o0 : xnth ks q0 = some 15) (x1 : Int32)  {K : Mm → Prop} (j : WPu_pull  q0 x1 (mm h) K) : yM 56 (88) 0 [.ref (q0 + 1), .int x1] h (PV ks K) := by
  unfold WPu_pull at j
  refine yM.st xM_56 rfl rfl (fun lv g => ?_)
  have g0 := g 0 _ rfl
  have g1 := g 1 _ rfl
  refine yT.aan (pc' := 1) g0 rfl rfl rfl ?_
  refine yT.iln (pc' := 2) g1 rfl rfl ?_
  refine yT.zk (pc' := 3) (z := 0) rfl rfl (by decide) ?_
  refine zV (yT.cw (G2 := 0) (pc' := 6) rfl rfl rfl hT o0 xM_62 (kPu_refresh_c hT o0 x1 0 j) rfl (by decide) (by decide) rfl) (fun h1 hT2 j => ?_)
  exact yT.retV rfl rfl ⟨rfl, hT2, j⟩
-- rX5_flushUnlessBatch
def WPu_flushUnlessBatch_L13 (q0 : Nat) (K : Mm → Prop) : Nat → Int32 → Mm → Prop
  | 0, _, _ => False
  | n12 + 1, y10, m6 => ((y10.toInt < (100 : Int32).toInt) → ∃ p15, m6.rv q0 0 = p15 + 1 ∧ ∃ p18, m6.rv p15 3 = p18 + 1 ∧ WNu_size p18 m6 (fun m21 x23 => ((0 < x23.toInt) → ∃ p25, m21.rv q0 0 = p25 + 1 ∧ ∃ p28, m21.rv p25 3 = p28 + 1 ∧ WNu_at p28 0 m21 (fun m31 x33 => ∃ p34, m31.rv q0 0 = p34 + 1 ∧ ∃ p37, m31.rv p34 3 = p37 + 1 ∧ WNu_drop p37 x33 m31 (fun m40 => WPu_refresh_c q0 x33 0 m40 (fun m42 => WPu_flushUnlessBatch_L13 q0  K n12 (y10 + 1) m42)))) ∧ (¬ (0 < x23.toInt) → K m21))) ∧ (¬ (y10.toInt < (100 : Int32).toInt) → K m6)
set_option maxRecDepth 100000 in
theorem WPu_flushUnlessBatch_L13_u {q0 : Nat} {K : Mm → Prop} {n12 : Nat} {y10 : Int32} {m6 : Mm} (j : WPu_flushUnlessBatch_L13 q0  K (n12 + 1) y10 m6) : ((y10.toInt < (100 : Int32).toInt) → ∃ p15, m6.rv q0 0 = p15 + 1 ∧ ∃ p18, m6.rv p15 3 = p18 + 1 ∧ WNu_size p18 m6 (fun m21 x23 => ((0 < x23.toInt) → ∃ p25, m21.rv q0 0 = p25 + 1 ∧ ∃ p28, m21.rv p25 3 = p28 + 1 ∧ WNu_at p28 0 m21 (fun m31 x33 => ∃ p34, m31.rv q0 0 = p34 + 1 ∧ ∃ p37, m31.rv p34 3 = p37 + 1 ∧ WNu_drop p37 x33 m31 (fun m40 => WPu_refresh_c q0 x33 0 m40 (fun m42 => WPu_flushUnlessBatch_L13 q0  K n12 (y10 + 1) m42)))) ∧ (¬ (0 < x23.toInt) → K m21))) ∧ (¬ (y10.toInt < (100 : Int32).toInt) → K m6) := j
set_option maxRecDepth 100000 in
theorem WPu_flushUnlessBatch_L13_i {q0 : Nat} {K : Mm → Prop} {n12 : Nat} {y10 : Int32} {m6 : Mm} (j : ((y10.toInt < (100 : Int32).toInt) → ∃ p15, m6.rv q0 0 = p15 + 1 ∧ ∃ p18, m6.rv p15 3 = p18 + 1 ∧ WNu_size p18 m6 (fun m21 x23 => ((0 < x23.toInt) → ∃ p25, m21.rv q0 0 = p25 + 1 ∧ ∃ p28, m21.rv p25 3 = p28 + 1 ∧ WNu_at p28 0 m21 (fun m31 x33 => ∃ p34, m31.rv q0 0 = p34 + 1 ∧ ∃ p37, m31.rv p34 3 = p37 + 1 ∧ WNu_drop p37 x33 m31 (fun m40 => WPu_refresh_c q0 x33 0 m40 (fun m42 => WPu_flushUnlessBatch_L13 q0  K n12 (y10 + 1) m42)))) ∧ (¬ (0 < x23.toInt) → K m21))) ∧ (¬ (y10.toInt < (100 : Int32).toInt) → K m6)) : WPu_flushUnlessBatch_L13 q0  K (n12 + 1) y10 m6 := j
def WPu_flushUnlessBatch  (q0 : Nat) (m : Mm) (K : Mm → Prop) : Prop := ∃ p1, m.rv q0 0 = p1 + 1 ∧ ((0 < (m.iv p1 7).toInt) → K m) ∧ (¬ (0 < (m.iv p1 7).toInt) → ∃ n44, WPu_flushUnlessBatch_L13 q0  K n44 0 m)
set_option maxRecDepth 100000 in
set_option maxHeartbeats 4000000 in
theorem kPu_flushUnlessBatch {ks : List Nat} {h : List xE} (hT : TT ks h) {q0 : Nat} (o0 : xnth ks q0 = some 15)  {K : Mm → Prop} (j : WPu_flushUnlessBatch  q0 (mm h) K) : yM 57 (88) 0 [.ref (q0 + 1)] h (PV ks K) := by
  unfold WPu_flushUnlessBatch at j
  refine yM.st xM_57 rfl rfl (fun lv g => ?_)
  have g0 := g 0 _ rfl
  refine yT.aan (pc' := 1) g0 rfl rfl rfl ?_
  obtain ⟨p1, w2, j⟩ := j
  refine yT.gR (pc' := 4) rfl rfl hT o0 rfl rfl w2 (fun o3 => ?_)
  refine yT.gI (pc' := 7) rfl rfl hT o3 rfl ?_
  refine yT.zle1 (t := 11) (pc' := 10) rfl rfl rfl (fun c4 => ?_) (fun c4 => ?_)
  · replace j := j.1 c4
    exact yT.retV rfl rfl ⟨rfl, hT, j⟩
  · replace j := j.2 c4
    refine yT.zk (pc' := 12) (z := 0) rfl rfl (by decide) ?_
    refine yT.p (pc' := 13) (lv' := xst1 _ 1 (.int 0)) rfl rfl (fun _ _ _ _ => rfl) ?_
    have L11 : ∀ (n12 : Nat) (lv5 : xLv) (h6 : List xE) (y10 : Int32), TT ks h6 → xget lv5 0 = some (.ref (q0 + 1)) → xget lv5 1 = some (.int y10) → WPu_flushUnlessBatch_L13 q0  K n12 y10 (mm h6) → yT 0 [] rX5_flushUnlessBatch (88) 0 13 lv5 [] h6 (PV ks K) := by
      intro n12
      induction n12 with
      | zero => intro lv5 h6 y10 hT7 g8 g9 j; exact j.elim
      | succ n12 ih13 =>
        intro lv5 h6 y10 hT7 g8 g9 j
        replace j := WPu_flushUnlessBatch_L13_u j
        refine yT.iln (pc' := 14) g9 rfl rfl ?_
        refine yT.zb (pc' := 16) (z := 100) rfl rfl (by decide) ?_
        refine yT.zge2 (t := 67) (pc' := 19) rfl rfl rfl (fun c14 => ?_) (fun c14 => ?_)
        · replace j := j.1 c14
          refine yT.aan (pc' := 20) g8 rfl rfl rfl ?_
          obtain ⟨p15, w16, j⟩ := j
          refine yT.gR (pc' := 23) rfl rfl hT7 o0 rfl rfl w16 (fun o17 => ?_)
          obtain ⟨p18, w19, j⟩ := j
          refine yT.gR (pc' := 26) rfl rfl hT7 o17 rfl rfl w19 (fun o20 => ?_)
          refine zI (yT.cw (G2 := 0) (pc' := 29) rfl rfl rfl hT7 o20 xM_41 (kNu_size hT7 o20 j) rfl (by decide) (by decide) rfl) (fun h21 x23 hT22 j => ?_)
          refine yT.zle1 (t := 67) (pc' := 32) rfl rfl rfl (fun c24 => ?_) (fun c24 => ?_)
          · replace j := j.1 c24
            refine yT.aan (pc' := 33) g8 rfl rfl rfl ?_
            obtain ⟨p25, w26, j⟩ := j
            refine yT.gR (pc' := 36) rfl rfl hT22 o0 rfl rfl w26 (fun o27 => ?_)
            obtain ⟨p28, w29, j⟩ := j
            refine yT.gR (pc' := 39) rfl rfl hT22 o27 rfl rfl w29 (fun o30 => ?_)
            refine yT.zk (pc' := 40) (z := 0) rfl rfl (by decide) ?_
            refine zI (yT.cw (G2 := 0) (pc' := 43) rfl rfl rfl hT22 o30 xM_43 (kNu_at hT22 o30 0 j) rfl (by decide) (by decide) rfl) (fun h31 x33 hT32 j => ?_)
            refine yT.p (pc' := 44) (lv' := xst1 _ 2 (.int x33)) rfl rfl (fun _ _ _ _ => rfl) ?_
            refine yT.aan (pc' := 45) (xg_ne g8 rfl) rfl rfl rfl ?_
            obtain ⟨p34, w35, j⟩ := j
            refine yT.gR (pc' := 48) rfl rfl hT32 o0 rfl rfl w35 (fun o36 => ?_)
            obtain ⟨p37, w38, j⟩ := j
            refine yT.gR (pc' := 51) rfl rfl hT32 o36 rfl rfl w38 (fun o39 => ?_)
            refine yT.iln (pc' := 52) xg_eq rfl rfl ?_
            refine zV (yT.cw (G2 := 0) (pc' := 55) rfl rfl rfl hT32 o39 xM_51 (kNu_drop hT32 o39 x33 j) rfl (by decide) (by decide) rfl) (fun h40 hT41 j => ?_)
            refine yT.aan (pc' := 56) (xg_ne g8 rfl) rfl rfl rfl ?_
            refine yT.iln (pc' := 57) xg_eq rfl rfl ?_
            refine yT.zk (pc' := 58) (z := 0) rfl rfl (by decide) ?_
            refine zV (yT.cw (G2 := 0) (pc' := 61) rfl rfl rfl hT41 o0 xM_62 (kPu_refresh_c hT41 o0 x33 0 j) rfl (by decide) (by decide) rfl) (fun h42 hT43 j => ?_)
            refine yT.iif (pc' := 64) (z := y10 + 1) (xg_ne g9 rfl) rfl rfl rfl rfl ?_
            refine yT.p (pc' := 13) rfl rfl (fun _ _ _ _ => rfl) ?_
            exact ih13 _ _ _ hT43 (xg_ne (xg_ne g8 rfl) rfl) xg_eq j
          · replace j := j.2 c24
            exact yT.retV rfl rfl ⟨rfl, hT22, j⟩
        · replace j := j.2 c14
          exact yT.retV rfl rfl ⟨rfl, hT7, j⟩
    obtain ⟨n44, j⟩ := j
    exact L11 n44 _ _ _ hT (xg_ne g0 rfl) xg_eq j
