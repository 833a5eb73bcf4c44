-- rX3_readPart
def WRe_readPart  (q0 : Nat) (q1 : Nat) (m : Mm) (K : Mm → Prop) : Prop := WNu_at q1 (m.iv q0 9) m (fun m1 x3 => (x3.toInt = 40 → WRe_openUp q0 20 m1 (fun m5 => ∀ m7, m7 = m5.st q0 9 (.int ((m5.iv q0 9) + (1 : Int32))) → K m7)) ∧ (¬ x3.toInt = 40 → (x3.toInt = 45 → WRe_openUp q0 9 m1 (fun m11 => ∃ p13, m11.rv q0 2 = p13 + 1 ∧ WNu_add p13 40 m11 (fun m16 => ∃ p18, m16.rv q0 2 = p18 + 1 ∧ WNu_add p18 45 m16 (fun m21 => ∀ m23, m23 = m21.st q0 9 (.int ((m21.iv q0 9) + (1 : Int32))) → K m23)))) ∧ (¬ x3.toInt = 45 → (x3.toInt = 91 → WRe_openUp q0 21 m1 (fun m27 => ∃ p29, m27.rv q0 2 = p29 + 1 ∧ WNu_add p29 91 m27 (fun m32 => ∀ m34, m34 = m32.st q0 9 (.int ((m32.iv q0 9) + (1 : Int32))) → K m34))) ∧ (¬ x3.toInt = 91 → (x3.toInt = 94 → WRe_readGreater q0 q1 m1 (fun m38 => K m38)) ∧ (¬ x3.toInt = 94 → (x3.toInt = 126 → False) ∧ (¬ x3.toInt = 126 → WRe_readPlainPart q0 q1 x3 m1 (fun m41 => K m41)))))))
set_option maxRecDepth 100000 in
set_option maxHeartbeats 4000000 in
theorem kRe_readPart {ks : List Nat} {h : List xE} (hT : TT ks h) {q0 : Nat} (o0 : xnth ks q0 = some 13) {q1 : Nat} (o1 : xnth ks q1 = some 14)  {K : Mm → Prop} (j : WRe_readPart  q0 q1 (mm h) K) : yM 21 (3) 0 [.ref (q0 + 1), .ref (q1 + 1)] h (PV ks K) := by
  unfold WRe_readPart at j
  refine yM.st xM_21 rfl rfl (fun lv g => ?_)
  have g0 := g 0 _ rfl
  have g1 := g 1 _ rfl
  refine yT.aan (pc' := 1) g1 rfl rfl rfl ?_
  refine yT.aan (pc' := 2) g0 rfl rfl rfl ?_
  refine yT.gI (pc' := 5) rfl rfl hT o0 rfl ?_
  refine zI (yT.cw (G2 := 0) (pc' := 8) rfl rfl rfl hT o1 xM_43 (kNu_at hT o1 ((mm h).iv q0 9) j) rfl (by decide) (by decide) rfl) (fun h1 x3 hT2 j => ?_)
  refine yT.p (pc' := 9) (lv' := xst1 _ 2 (.int x3)) rfl rfl (fun _ _ _ _ => rfl) ?_
  refine yT.iln (pc' := 10) xg_eq rfl rfl ?_
  by_cases c4 : x3.toInt = 40
  · replace j := j.1 c4
    refine yT.lsw (off := 87) (t := 97) rfl rfl rfl (by rw [c4]; rfl) rfl ?_
    refine yT.aan (pc' := 98) (xg_ne g0 rfl) rfl rfl rfl ?_
    refine yT.zb (pc' := 100) (z := 20) rfl rfl (by decide) ?_
    refine zV (yT.cw (G2 := 0) (pc' := 103) rfl rfl rfl hT2 o0 xM_33 (kRe_openUp hT2 o0 20 j) rfl (by decide) (by decide) rfl) (fun h5 hT6 j => ?_)
    refine yT.aan (pc' := 104) (xg_ne g0 rfl) rfl rfl rfl ?_
    refine yT.p (pc' := 105) rfl rfl (fun _ _ _ _ => rfl) ?_
    refine yT.gI (pc' := 108) rfl rfl hT6 o0 rfl ?_
    refine yT.zk (pc' := 109) (z := 1) rfl rfl (by decide) ?_
    refine yT.p (pc' := 110) rfl rfl (fun _ _ _ _ => rfl) ?_
    refine yT.sI (pc' := 113) rfl rfl hT6 o0 rfl rfl (fun h7 hT8 e9 => ?_)
    replace j := j _ e9
    refine yT.p (pc' := 166) rfl rfl (fun _ _ _ _ => rfl) ?_
    exact yT.retV rfl rfl ⟨rfl, hT8, j⟩
  · replace j := j.2 c4
    by_cases c10 : x3.toInt = 45
    · replace j := j.1 c10
      refine yT.lsw (off := 50) (t := 60) rfl rfl rfl (by rw [c10]; rfl) rfl ?_
      refine yT.aan (pc' := 61) (xg_ne g0 rfl) rfl rfl rfl ?_
      refine yT.zb (pc' := 63) (z := 9) rfl rfl (by decide) ?_
      refine zV (yT.cw (G2 := 0) (pc' := 66) rfl rfl rfl hT2 o0 xM_33 (kRe_openUp hT2 o0 9 j) rfl (by decide) (by decide) rfl) (fun h11 hT12 j => ?_)
      refine yT.aan (pc' := 67) (xg_ne g0 rfl) rfl rfl rfl ?_
      obtain ⟨p13, w14, j⟩ := j
      refine yT.gR (pc' := 70) rfl rfl hT12 o0 rfl rfl w14 (fun o15 => ?_)
      refine yT.zb (pc' := 72) (z := 40) rfl rfl (by decide) ?_
      refine zV (yT.cw (G2 := 0) (pc' := 75) rfl rfl rfl hT12 o15 xM_47 (kNu_add hT12 o15 40 j) rfl (by decide) (by decide) rfl) (fun h16 hT17 j => ?_)
      refine yT.aan (pc' := 76) (xg_ne g0 rfl) rfl rfl rfl ?_
      obtain ⟨p18, w19, j⟩ := j
      refine yT.gR (pc' := 79) rfl rfl hT17 o0 rfl rfl w19 (fun o20 => ?_)
      refine yT.zb (pc' := 81) (z := 45) rfl rfl (by decide) ?_
      refine zV (yT.cw (G2 := 0) (pc' := 84) rfl rfl rfl hT17 o20 xM_47 (kNu_add hT17 o20 45 j) rfl (by decide) (by decide) rfl) (fun h21 hT22 j => ?_)
      refine yT.aan (pc' := 85) (xg_ne g0 rfl) rfl rfl rfl ?_
      refine yT.p (pc' := 86) rfl rfl (fun _ _ _ _ => rfl) ?_
      refine yT.gI (pc' := 89) rfl rfl hT22 o0 rfl ?_
      refine yT.zk (pc' := 90) (z := 1) rfl rfl (by decide) ?_
      refine yT.p (pc' := 91) rfl rfl (fun _ _ _ _ => rfl) ?_
      refine yT.sI (pc' := 94) rfl rfl hT22 o0 rfl rfl (fun h23 hT24 e25 => ?_)
      replace j := j _ e25
      refine yT.p (pc' := 166) rfl rfl (fun _ _ _ _ => rfl) ?_
      exact yT.retV rfl rfl ⟨rfl, hT24, j⟩
    · replace j := j.2 c10
      by_cases c26 : x3.toInt = 91
      · replace j := j.1 c26
        refine yT.lsw (off := 106) (t := 116) rfl rfl rfl (by rw [c26]; rfl) rfl ?_
        refine yT.aan (pc' := 117) (xg_ne g0 rfl) rfl rfl rfl ?_
        refine yT.zb (pc' := 119) (z := 21) rfl rfl (by decide) ?_
        refine zV (yT.cw (G2 := 0) (pc' := 122) rfl rfl rfl hT2 o0 xM_33 (kRe_openUp hT2 o0 21 j) rfl (by decide) (by decide) rfl) (fun h27 hT28 j => ?_)
        refine yT.aan (pc' := 123) (xg_ne g0 rfl) rfl rfl rfl ?_
        obtain ⟨p29, w30, j⟩ := j
        refine yT.gR (pc' := 126) rfl rfl hT28 o0 rfl rfl w30 (fun o31 => ?_)
        refine yT.zb (pc' := 128) (z := 91) rfl rfl (by decide) ?_
        refine zV (yT.cw (G2 := 0) (pc' := 131) rfl rfl rfl hT28 o31 xM_47 (kNu_add hT28 o31 91 j) rfl (by decide) (by decide) rfl) (fun h32 hT33 j => ?_)
        refine yT.aan (pc' := 132) (xg_ne g0 rfl) rfl rfl rfl ?_
        refine yT.p (pc' := 133) rfl rfl (fun _ _ _ _ => rfl) ?_
        refine yT.gI (pc' := 136) rfl rfl hT33 o0 rfl ?_
        refine yT.zk (pc' := 137) (z := 1) rfl rfl (by decide) ?_
        refine yT.p (pc' := 138) rfl rfl (fun _ _ _ _ => rfl) ?_
        refine yT.sI (pc' := 141) rfl rfl hT33 o0 rfl rfl (fun h34 hT35 e36 => ?_)
        replace j := j _ e36
        refine yT.p (pc' := 166) rfl rfl (fun _ _ _ _ => rfl) ?_
        exact yT.retV rfl rfl ⟨rfl, hT35, j⟩
      · replace j := j.2 c26
        by_cases c37 : x3.toInt = 94
        · replace j := j.1 c37
          refine yT.lsw (off := 134) (t := 144) rfl rfl rfl (by rw [c37]; rfl) rfl ?_
          refine yT.aan (pc' := 145) (xg_ne g0 rfl) rfl rfl rfl ?_
          refine yT.aan (pc' := 146) (xg_ne g1 rfl) rfl rfl rfl ?_
          refine zV (yT.cw (G2 := 0) (pc' := 149) rfl rfl rfl hT2 o0 xM_22 (kRe_readGreater hT2 o0 o1 j) rfl (by decide) (by decide) rfl) (fun h38 hT39 j => ?_)
          refine yT.p (pc' := 166) rfl rfl (fun _ _ _ _ => rfl) ?_
          exact yT.retV rfl rfl ⟨rfl, hT39, j⟩
        · replace j := j.2 c37
          by_cases c40 : x3.toInt = 126
          · replace j := j.1 c40
            refine yT.lsw (off := 142) (t := 152) rfl rfl rfl (by rw [c40]; rfl) rfl ?_
            refine yT.aan (pc' := 153) (xg_ne g0 rfl) rfl rfl rfl ?_
            refine yT.aan (pc' := 154) (xg_ne g1 rfl) rfl rfl rfl ?_
            exact j.elim
          · replace j := j.2 c40
            refine yT.lsw (off := 150) (t := 160) rfl rfl rfl (by simp [Op.lookupswitch.offset]; omega) rfl ?_
            refine yT.aan (pc' := 161) (xg_ne g0 rfl) rfl rfl rfl ?_
            refine yT.aan (pc' := 162) (xg_ne g1 rfl) rfl rfl rfl ?_
            refine yT.iln (pc' := 163) xg_eq rfl rfl ?_
            refine zV (yT.cw (G2 := 0) (pc' := 166) rfl rfl rfl hT2 o0 xM_24 (kRe_readPlainPart hT2 o0 o1 x3 j) rfl (by decide) (by decide) rfl) (fun h41 hT42 j => ?_)
            exact yT.retV rfl rfl ⟨rfl, hT42, j⟩
-- rX3_endPart
def WRe_endPart_L25 (q0 : Nat) (K : Mm → Prop) : Nat → Int32 → Mm → Prop
  | 0, _, _ => False
  | n20 + 1, y18, m14 => ((y18.toInt < (250 : Int32).toInt) → ∃ p23, m14.rv q0 3 = p23 + 1 ∧ WNu_last p23 m14 (fun m26 x28 => ((x28 = 9) → WRe_addStep q0 9 0 m26 (fun m30 => ∃ p32, m30.rv q0 2 = p32 + 1 ∧ WNu_add p32 41 m30 (fun m35 => WRe_closeWithPart q0 m35 (fun m37 => WRe_endPart_L25 q0  K n20 (y18 + 1) m37)))) ∧ (¬ (x28 = 9) → ∀ m39, m39 = m26.st q0 11 (.int 0) → K m39))) ∧ (¬ (y18.toInt < (250 : Int32).toInt) → ∀ m42, m42 = m14.st q0 11 (.int 0) → K m42)
set_option maxRecDepth 100000 in
theorem WRe_endPart_L25_u {q0 : Nat} {K : Mm → Prop} {n20 : Nat} {y18 : Int32} {m14 : Mm} (j : WRe_endPart_L25 q0  K (n20 + 1) y18 m14) : ((y18.toInt < (250 : Int32).toInt) → ∃ p23, m14.rv q0 3 = p23 + 1 ∧ WNu_last p23 m14 (fun m26 x28 => ((x28 = 9) → WRe_addStep q0 9 0 m26 (fun m30 => ∃ p32, m30.rv q0 2 = p32 + 1 ∧ WNu_add p32 41 m30 (fun m35 => WRe_closeWithPart q0 m35 (fun m37 => WRe_endPart_L25 q0  K n20 (y18 + 1) m37)))) ∧ (¬ (x28 = 9) → ∀ m39, m39 = m26.st q0 11 (.int 0) → K m39))) ∧ (¬ (y18.toInt < (250 : Int32).toInt) → ∀ m42, m42 = m14.st q0 11 (.int 0) → K m42) := j
set_option maxRecDepth 100000 in
theorem WRe_endPart_L25_i {q0 : Nat} {K : Mm → Prop} {n20 : Nat} {y18 : Int32} {m14 : Mm} (j : ((y18.toInt < (250 : Int32).toInt) → ∃ p23, m14.rv q0 3 = p23 + 1 ∧ WNu_last p23 m14 (fun m26 x28 => ((x28 = 9) → WRe_addStep q0 9 0 m26 (fun m30 => ∃ p32, m30.rv q0 2 = p32 + 1 ∧ WNu_add p32 41 m30 (fun m35 => WRe_closeWithPart q0 m35 (fun m37 => WRe_endPart_L25 q0  K n20 (y18 + 1) m37)))) ∧ (¬ (x28 = 9) → ∀ m39, m39 = m26.st q0 11 (.int 0) → K m39))) ∧ (¬ (y18.toInt < (250 : Int32).toInt) → ∀ m42, m42 = m14.st q0 11 (.int 0) → K m42)) : WRe_endPart_L25 q0  K (n20 + 1) y18 m14 := j
def WRe_endPart  (q0 : Nat) (m : Mm) (K : Mm → Prop) : Prop := ∀ m1, m1 = m.st q0 12 (.int 0) → ∃ p4, m1.rv q0 6 = p4 + 1 ∧ WNu_size p4 m1 (fun m7 x9 => ∀ m10, m10 = m7.st q0 7 (.int (if (m1.iv q0 7) < x9 then x9 else (m1.iv q0 7))) → ∃ n45, WRe_endPart_L25 q0  K n45 0 m10)
set_option maxRecDepth 100000 in
set_option maxHeartbeats 4000000 in
theorem kRe_endPart {ks : List Nat} {h : List xE} (hT : TT ks h) {q0 : Nat} (o0 : xnth ks q0 = some 13)  {K : Mm → Prop} (j : WRe_endPart  q0 (mm h) K) : yM 28 (3) 0 [.ref (q0 + 1)] h (PV ks K) := by
  unfold WRe_endPart at j
  refine yM.st xM_28 rfl rfl (fun lv g => ?_)
  have g0 := g 0 _ rfl
  refine yT.aan (pc' := 1) g0 rfl rfl rfl ?_
  refine yT.zk (pc' := 2) (z := 0) rfl rfl (by decide) ?_
  refine yT.sZ (pc' := 5) rfl rfl hT o0 rfl rfl (Or.inl rfl) (fun h1 hT2 e3 => ?_)
  replace j := j _ e3
  refine yT.aan (pc' := 6) g0 rfl rfl rfl ?_
  refine yT.aan (pc' := 7) g0 rfl rfl rfl ?_
  refine yT.gI (pc' := 10) rfl rfl hT2 o0 rfl ?_
  refine yT.aan (pc' := 11) g0 rfl rfl rfl ?_
  obtain ⟨p4, w5, j⟩ := j
  refine yT.gR (pc' := 14) rfl rfl hT2 o0 rfl rfl w5 (fun o6 => ?_)
  refine zI (yT.cw (G2 := 0) (pc' := 17) rfl rfl rfl hT2 o6 xM_41 (kNu_size hT2 o6 j) rfl (by decide) (by decide) rfl) (fun h7 x9 hT8 j => ?_)
  refine yT.zmx (pc' := 20) rfl rfl (by decide) rfl ?_
  refine yT.sI (pc' := 23) rfl rfl hT8 o0 rfl rfl (fun h10 hT11 e12 => ?_)
  replace j := j _ e12
  refine yT.zk (pc' := 24) (z := 0) rfl rfl (by decide) ?_
  refine yT.p (pc' := 25) (lv' := xst1 _ 1 (.int 0)) rfl rfl (fun _ _ _ _ => rfl) ?_
  have L19 : ∀ (n20 : Nat) (lv13 : xLv) (h14 : List xE) (y18 : Int32), TT ks h14 → xget lv13 0 = some (.ref (q0 + 1)) → xget lv13 1 = some (.int y18) → WRe_endPart_L25 q0  K n20 y18 (mm h14) → yT 0 [] rX3_endPart (3) 0 25 lv13 [] h14 (PV ks K) := by
    intro n20
    induction n20 with
    | zero => intro lv13 h14 y18 hT15 g16 g17 j; exact j.elim
    | succ n20 ih21 =>
      intro lv13 h14 y18 hT15 g16 g17 j
      replace j := WRe_endPart_L25_u j
      refine yT.iln (pc' := 26) g17 rfl rfl ?_
      refine yT.zs (pc' := 29) (z := 250) rfl rfl (by decide) ?_
      refine yT.zge2 (t := 70) (pc' := 32) rfl rfl rfl (fun c22 => ?_) (fun c22 => ?_)
      · replace j := j.1 c22
        refine yT.aan (pc' := 33) g16 rfl rfl rfl ?_
        obtain ⟨p23, w24, j⟩ := j
        refine yT.gR (pc' := 36) rfl rfl hT15 o0 rfl rfl w24 (fun o25 => ?_)
        refine zI (yT.cw (G2 := 0) (pc' := 39) rfl rfl rfl hT15 o25 xM_44 (kNu_last hT15 o25 j) rfl (by decide) (by decide) rfl) (fun h26 x28 hT27 j => ?_)
        refine yT.zb (pc' := 41) (z := 9) rfl rfl (by decide) ?_
        refine yT.zne2 (t := 70) (pc' := 44) rfl rfl rfl (fun c29 => ?_) (fun c29 => ?_)
        · replace j := j.1 c29
          refine yT.aan (pc' := 45) g16 rfl rfl rfl ?_
          refine yT.zb (pc' := 47) (z := 9) rfl rfl (by decide) ?_
          refine yT.zk (pc' := 48) (z := 0) rfl rfl (by decide) ?_
          refine zV (yT.cw (G2 := 0) (pc' := 51) rfl rfl rfl hT27 o0 xM_36 (kRe_addStep hT27 o0 9 0 j) rfl (by decide) (by decide) rfl) (fun h30 hT31 j => ?_)
          refine yT.aan (pc' := 52) g16 rfl rfl rfl ?_
          obtain ⟨p32, w33, j⟩ := j
          refine yT.gR (pc' := 55) rfl rfl hT31 o0 rfl rfl w33 (fun o34 => ?_)
          refine yT.zb (pc' := 57) (z := 41) rfl rfl (by decide) ?_
          refine zV (yT.cw (G2 := 0) (pc' := 60) rfl rfl rfl hT31 o34 xM_47 (kNu_add hT31 o34 41 j) rfl (by decide) (by decide) rfl) (fun h35 hT36 j => ?_)
          refine yT.aan (pc' := 61) g16 rfl rfl rfl ?_
          refine zV (yT.cw (G2 := 0) (pc' := 64) rfl rfl rfl hT36 o0 xM_35 (kRe_closeWithPart hT36 o0 j) rfl (by decide) (by decide) rfl) (fun h37 hT38 j => ?_)
          refine yT.iif (pc' := 67) (z := y18 + 1) g17 rfl rfl rfl rfl ?_
          refine yT.p (pc' := 25) rfl rfl (fun _ _ _ _ => rfl) ?_
          exact ih21 _ _ _ hT38 (xg_ne g16 rfl) xg_eq j
        · replace j := j.2 c29
          refine yT.aan (pc' := 71) g16 rfl rfl rfl ?_
          refine yT.zk (pc' := 72) (z := 0) rfl rfl (by decide) ?_
          refine yT.sZ (pc' := 75) rfl rfl hT27 o0 rfl rfl (Or.inl rfl) (fun h39 hT40 e41 => ?_)
          replace j := j _ e41
          exact yT.retV rfl rfl ⟨rfl, hT40, j⟩
      · replace j := j.2 c22
        refine yT.aan (pc' := 71) g16 rfl rfl rfl ?_
        refine yT.zk (pc' := 72) (z := 0) rfl rfl (by decide) ?_
        refine yT.sZ (pc' := 75) rfl rfl hT15 o0 rfl rfl (Or.inl rfl) (fun h42 hT43 e44 => ?_)
        replace j := j _ e44
        exact yT.retV rfl rfl ⟨rfl, hT43, j⟩
  obtain ⟨n45, j⟩ := j
  exact L19 n45 _ _ _ hT11 (xg_ne g0 rfl) xg_eq j
-- rX3_gather
def WRe_gather_L2 (q0 : Nat) (x1 : Int32) (K : Mm → Prop) : Nat → Int32 → Mm → Prop
  | 0, _, _ => False
  | n9 + 1, y7, m2 => ((y7.toInt < (250 : Int32).toInt) → ∃ p12, m2.rv q0 3 = p12 + 1 ∧ WNu_last p12 m2 (fun m15 x17 => WRe_level x17 m15 (fun m18 x20 => ((x20.toInt < x1.toInt) → K m18) ∧ (¬ (x20.toInt < x1.toInt) → (m18.iv q0 11 = 0 ∨ m18.iv q0 11 = 1) → (((m18.iv q0 11) = 0) → ∃ p24, m18.rv q0 3 = p24 + 1 ∧ WNu_last p24 m18 (fun m27 x29 => WRe_addStep q0 x29 0 m27 (fun m30 => WRe_closeDown q0 m30 (fun m32 => ∃ p34, m32.rv q0 6 = p34 + 1 ∧ WNu_dropLast p34 m32 (fun m37 => ∃ p39, m37.rv q0 2 = p39 + 1 ∧ ∃ p42, m37.rv q0 6 = p42 + 1 ∧ WNu_last p42 m37 (fun m45 x47 => WNu_insert p39 x47 40 m45 (fun m48 => ∃ p50, m48.rv q0 2 = p50 + 1 ∧ WNu_add p50 41 m48 (fun m53 => WRe_gather_L2 q0 x1  K n9 (y7 + 1) m53)))))))) ∧ (¬ ((m18.iv q0 11) = 0) → K m18))))) ∧ (¬ (y7.toInt < (250 : Int32).toInt) → K m2)
set_option maxRecDepth 100000 in
theorem WRe_gather_L2_u {q0 : Nat} {x1 : Int32} {K : Mm → Prop} {n9 : Nat} {y7 : Int32} {m2 : Mm} (j : WRe_gather_L2 q0 x1  K (n9 + 1) y7 m2) : ((y7.toInt < (250 : Int32).toInt) → ∃ p12, m2.rv q0 3 = p12 + 1 ∧ WNu_last p12 m2 (fun m15 x17 => WRe_level x17 m15 (fun m18 x20 => ((x20.toInt < x1.toInt) → K m18) ∧ (¬ (x20.toInt < x1.toInt) → (m18.iv q0 11 = 0 ∨ m18.iv q0 11 = 1) → (((m18.iv q0 11) = 0) → ∃ p24, m18.rv q0 3 = p24 + 1 ∧ WNu_last p24 m18 (fun m27 x29 => WRe_addStep q0 x29 0 m27 (fun m30 => WRe_closeDown q0 m30 (fun m32 => ∃ p34, m32.rv q0 6 = p34 + 1 ∧ WNu_dropLast p34 m32 (fun m37 => ∃ p39, m37.rv q0 2 = p39 + 1 ∧ ∃ p42, m37.rv q0 6 = p42 + 1 ∧ WNu_last p42 m37 (fun m45 x47 => WNu_insert p39 x47 40 m45 (fun m48 => ∃ p50, m48.rv q0 2 = p50 + 1 ∧ WNu_add p50 41 m48 (fun m53 => WRe_gather_L2 q0 x1  K n9 (y7 + 1) m53)))))))) ∧ (¬ ((m18.iv q0 11) = 0) → K m18))))) ∧ (¬ (y7.toInt < (250 : Int32).toInt) → K m2) := j
set_option maxRecDepth 100000 in
theorem WRe_gather_L2_i {q0 : Nat} {x1 : Int32} {K : Mm → Prop} {n9 : Nat} {y7 : Int32} {m2 : Mm} (j : ((y7.toInt < (250 : Int32).toInt) → ∃ p12, m2.rv q0 3 = p12 + 1 ∧ WNu_last p12 m2 (fun m15 x17 => WRe_level x17 m15 (fun m18 x20 => ((x20.toInt < x1.toInt) → K m18) ∧ (¬ (x20.toInt < x1.toInt) → (m18.iv q0 11 = 0 ∨ m18.iv q0 11 = 1) → (((m18.iv q0 11) = 0) → ∃ p24, m18.rv q0 3 = p24 + 1 ∧ WNu_last p24 m18 (fun m27 x29 => WRe_addStep q0 x29 0 m27 (fun m30 => WRe_closeDown q0 m30 (fun m32 => ∃ p34, m32.rv q0 6 = p34 + 1 ∧ WNu_dropLast p34 m32 (fun m37 => ∃ p39, m37.rv q0 2 = p39 + 1 ∧ ∃ p42, m37.rv q0 6 = p42 + 1 ∧ WNu_last p42 m37 (fun m45 x47 => WNu_insert p39 x47 40 m45 (fun m48 => ∃ p50, m48.rv q0 2 = p50 + 1 ∧ WNu_add p50 41 m48 (fun m53 => WRe_gather_L2 q0 x1  K n9 (y7 + 1) m53)))))))) ∧ (¬ ((m18.iv q0 11) = 0) → K m18))))) ∧ (¬ (y7.toInt < (250 : Int32).toInt) → K m2)) : WRe_gather_L2 q0 x1  K (n9 + 1) y7 m2 := j
def WRe_gather  (q0 : Nat) (x1 : Int32) (m : Mm) (K : Mm → Prop) : Prop := ∃ n55, WRe_gather_L2 q0 x1  K n55 0 m
set_option maxRecDepth 100000 in
set_option maxHeartbeats 4000000 in
theorem kRe_gather {ks : List Nat} {h : List xE} (hT : TT ks h) {q0 : Nat} (o0 : xnth ks q0 = some 13) (x1 : Int32)  {K : Mm → Prop} (j : WRe_gather  q0 x1 (mm h) K) : yM 30 (2) 0 [.ref (q0 + 1), .int x1] h (PV ks K) := by
  unfold WRe_gather at j
  refine yM.st xM_30 rfl rfl (fun lv g => ?_)
  have g0 := g 0 _ rfl
  have g1 := g 1 _ rfl
  refine yT.zk (pc' := 1) (z := 0) rfl rfl (by decide) ?_
  refine yT.p (pc' := 2) (lv' := xst1 _ 2 (.int 0)) rfl rfl (fun _ _ _ _ => rfl) ?_
  have L8 : ∀ (n9 : Nat) (lv1 : xLv) (h2 : List xE) (y7 : Int32), TT ks h2 → xget lv1 0 = some (.ref (q0 + 1)) → xget lv1 1 = some (.int x1) → xget lv1 2 = some (.int y7) → WRe_gather_L2 q0 x1  K n9 y7 (mm h2) → yT 0 [] rX3_gather (2) 0 2 lv1 [] h2 (PV ks K) := by
    intro n9
    induction n9 with
    | zero => intro lv1 h2 y7 hT3 g4 g5 g6 j; exact j.elim
    | succ n9 ih10 =>
      intro lv1 h2 y7 hT3 g4 g5 g6 j
      replace j := WRe_gather_L2_u j
      refine yT.iln (pc' := 3) g6 rfl rfl ?_
      refine yT.zs (pc' := 6) (z := 250) rfl rfl (by decide) ?_
      refine yT.zge2 (t := 84) (pc' := 9) rfl rfl rfl (fun c11 => ?_) (fun c11 => ?_)
      · replace j := j.1 c11
        refine yT.aan (pc' := 10) g4 rfl rfl rfl ?_
        obtain ⟨p12, w13, j⟩ := j
        refine yT.gR (pc' := 13) rfl rfl hT3 o0 rfl rfl w13 (fun o14 => ?_)
        refine zI (yT.cw (G2 := 0) (pc' := 16) rfl rfl rfl hT3 o14 xM_44 (kNu_last hT3 o14 j) rfl (by decide) (by decide) rfl) (fun h15 x17 hT16 j => ?_)
        refine zI (yT.cst (G2 := 0) (pc' := 19) rfl rfl xM_38 (kRe_level hT16 x17 j) rfl (by decide) (by decide) rfl) (fun h18 x20 hT19 j => ?_)
        refine yT.iln (pc' := 20) g5 rfl rfl ?_
        refine yT.zlt2 (t := 84) (pc' := 23) rfl rfl rfl (fun c21 => ?_) (fun c21 => ?_)
        · replace j := j.1 c21
          exact yT.retV rfl rfl ⟨rfl, hT19, j⟩
        · replace j := j.2 c21
          refine yT.aan (pc' := 24) g4 rfl rfl rfl ?_
          refine yT.gZ (pc' := 27) rfl rfl hT19 o0 rfl (fun b22 => ?_)
          replace j := j b22
          refine yT.zne1 (t := 84) (pc' := 30) rfl rfl rfl (fun c23 => ?_) (fun c23 => ?_)
          · replace j := j.1 c23
            refine yT.aan (pc' := 31) g4 rfl rfl rfl ?_
            refine yT.aan (pc' := 32) g4 rfl rfl rfl ?_
            obtain ⟨p24, w25, j⟩ := j
            refine yT.gR (pc' := 35) rfl rfl hT19 o0 rfl rfl w25 (fun o26 => ?_)
            refine zI (yT.cw (G2 := 0) (pc' := 38) rfl rfl rfl hT19 o26 xM_44 (kNu_last hT19 o26 j) rfl (by decide) (by decide) rfl) (fun h27 x29 hT28 j => ?_)
            refine yT.zk (pc' := 39) (z := 0) rfl rfl (by decide) ?_
            refine zV (yT.cw (G2 := 0) (pc' := 42) rfl rfl rfl hT28 o0 xM_36 (kRe_addStep hT28 o0 x29 0 j) rfl (by decide) (by decide) rfl) (fun h30 hT31 j => ?_)
            refine yT.aan (pc' := 43) g4 rfl rfl rfl ?_
            refine zV (yT.cw (G2 := 0) (pc' := 46) rfl rfl rfl hT31 o0 xM_34 (kRe_closeDown hT31 o0 j) rfl (by decide) (by decide) rfl) (fun h32 hT33 j => ?_)
            refine yT.aan (pc' := 47) g4 rfl rfl rfl ?_
            obtain ⟨p34, w35, j⟩ := j
            refine yT.gR (pc' := 50) rfl rfl hT33 o0 rfl rfl w35 (fun o36 => ?_)
            refine zV (yT.cw (G2 := 0) (pc' := 53) rfl rfl rfl hT33 o36 xM_50 (kNu_dropLast hT33 o36 j) rfl (by decide) (by decide) rfl) (fun h37 hT38 j => ?_)
            refine yT.aan (pc' := 54) g4 rfl rfl rfl ?_
            obtain ⟨p39, w40, j⟩ := j
            refine yT.gR (pc' := 57) rfl rfl hT38 o0 rfl rfl w40 (fun o41 => ?_)
            refine yT.aan (pc' := 58) g4 rfl rfl rfl ?_
            obtain ⟨p42, w43, j⟩ := j
            refine yT.gR (pc' := 61) rfl rfl hT38 o0 rfl rfl w43 (fun o44 => ?_)
            refine zI (yT.cw (G2 := 0) (pc' := 64) rfl rfl rfl hT38 o44 xM_44 (kNu_last hT38 o44 j) rfl (by decide) (by decide) rfl) (fun h45 x47 hT46 j => ?_)
            refine yT.zb (pc' := 66) (z := 40) rfl rfl (by decide) ?_
            refine zV (yT.cw (G2 := 0) (pc' := 69) rfl rfl rfl hT46 o41 xM_49 (kNu_insert hT46 o41 x47 40 j) rfl (by decide) (by decide) rfl) (fun h48 hT49 j => ?_)
            refine yT.aan (pc' := 70) g4 rfl rfl rfl ?_
            obtain ⟨p50, w51, j⟩ := j
            refine yT.gR (pc' := 73) rfl rfl hT49 o0 rfl rfl w51 (fun o52 => ?_)
            refine yT.zb (pc' := 75) (z := 41) rfl rfl (by decide) ?_
            refine zV (yT.cw (G2 := 0) (pc' := 78) rfl rfl rfl hT49 o52 xM_47 (kNu_add hT49 o52 41 j) rfl (by decide) (by decide) rfl) (fun h53 hT54 j => ?_)
            refine yT.iif (pc' := 81) (z := y7 + 1) g6 rfl rfl rfl rfl ?_
            refine yT.p (pc' := 2) rfl rfl (fun _ _ _ _ => rfl) ?_
            exact ih10 _ _ _ hT54 (xg_ne g4 rfl) (xg_ne g5 rfl) xg_eq j
          · replace j := j.2 c23
            exact yT.retV rfl rfl ⟨rfl, hT19, j⟩
      · replace j := j.2 c11
        exact yT.retV rfl rfl ⟨rfl, hT3, j⟩
  obtain ⟨n55, j⟩ := j
  exact L8 n55 _ _ _ hT (xg_ne g0 rfl) (xg_ne g1 rfl) xg_eq j
-- rX3_readBracketSign
def WRe_readBracketSign_J54 (q0 : Nat) (x6 : Int32) (K : Mm → Prop)  (m19 : Mm) : Prop := (x6.toInt = 21 → WRe_choose q0 14 22 m19 (fun m25 => K m25)) ∧ (¬ x6.toInt = 21 → (x6.toInt = 22 → WRe_choose q0 13 23 m19 (fun m28 => K m28)) ∧ (¬ x6.toInt = 22 → (x6.toInt = 23 → ∃ p31, m19.rv q0 1 = p31 + 1 ∧ ∃ p34, m19.rv q0 5 = p34 + 1 ∧ WNu_last p34 m19 (fun m37 x39 => ∃ p40, m37.rv q0 0 = p40 + 1 ∧ WNu_size p40 m37 (fun m43 x45 => WNu_put p31 x39 x45 m43 (fun m46 => WRe_closeWithPart q0 m46 (fun m48 => ∀ m50, m50 = m48.st q0 12 (.int 1) → K m50))))) ∧ (¬ x6.toInt = 23 → (x6.toInt = 24 → ∃ p54, m19.rv q0 3 = p54 + 1 ∧ WNu_size p54 m19 (fun m57 x59 => WNu_put p54 (x59 - (1 : Int32)) 25 m57 (fun m60 => ∀ m62, m62 = m60.st q0 11 (.int 1) → K m62))) ∧ (¬ x6.toInt = 24 → (x6.toInt = 25 → WRe_addStep q0 8 0 m19 (fun m66 => ∃ p68, m66.rv q0 6 = p68 + 1 ∧ WNu_dropLast p68 m66 (fun m71 => WRe_closeWithPart q0 m71 (fun m73 => ∀ m75, m75 = m73.st q0 12 (.int 1) → K m75)))) ∧ (¬ x6.toInt = 25 → WRe_closeDown q0 m19 (fun m78 => ∀ m80, m80 = m78.st q0 12 (.int 1) → K m80))))))
set_option maxRecDepth 100000 in
theorem WRe_readBracketSign_J54_u {q0 : Nat} {x6 : Int32} {K : Mm → Prop} {m19 : Mm} (j : WRe_readBracketSign_J54 q0 x6  K  m19) : (x6.toInt = 21 → WRe_choose q0 14 22 m19 (fun m25 => K m25)) ∧ (¬ x6.toInt = 21 → (x6.toInt = 22 → WRe_choose q0 13 23 m19 (fun m28 => K m28)) ∧ (¬ x6.toInt = 22 → (x6.toInt = 23 → ∃ p31, m19.rv q0 1 = p31 + 1 ∧ ∃ p34, m19.rv q0 5 = p34 + 1 ∧ WNu_last p34 m19 (fun m37 x39 => ∃ p40, m37.rv q0 0 = p40 + 1 ∧ WNu_size p40 m37 (fun m43 x45 => WNu_put p31 x39 x45 m43 (fun m46 => WRe_closeWithPart q0 m46 (fun m48 => ∀ m50, m50 = m48.st q0 12 (.int 1) → K m50))))) ∧ (¬ x6.toInt = 23 → (x6.toInt = 24 → ∃ p54, m19.rv q0 3 = p54 + 1 ∧ WNu_size p54 m19 (fun m57 x59 => WNu_put p54 (x59 - (1 : Int32)) 25 m57 (fun m60 => ∀ m62, m62 = m60.st q0 11 (.int 1) → K m62))) ∧ (¬ x6.toInt = 24 → (x6.toInt = 25 → WRe_addStep q0 8 0 m19 (fun m66 => ∃ p68, m66.rv q0 6 = p68 + 1 ∧ WNu_dropLast p68 m66 (fun m71 => WRe_closeWithPart q0 m71 (fun m73 => ∀ m75, m75 = m73.st q0 12 (.int 1) → K m75)))) ∧ (¬ x6.toInt = 25 → WRe_closeDown q0 m19 (fun m78 => ∀ m80, m80 = m78.st q0 12 (.int 1) → K m80)))))) := j
set_option maxRecDepth 100000 in
theorem WRe_readBracketSign_J54_i {q0 : Nat} {x6 : Int32} {K : Mm → Prop} {m19 : Mm} (j : (x6.toInt = 21 → WRe_choose q0 14 22 m19 (fun m25 => K m25)) ∧ (¬ x6.toInt = 21 → (x6.toInt = 22 → WRe_choose q0 13 23 m19 (fun m28 => K m28)) ∧ (¬ x6.toInt = 22 → (x6.toInt = 23 → ∃ p31, m19.rv q0 1 = p31 + 1 ∧ ∃ p34, m19.rv q0 5 = p34 + 1 ∧ WNu_last p34 m19 (fun m37 x39 => ∃ p40, m37.rv q0 0 = p40 + 1 ∧ WNu_size p40 m37 (fun m43 x45 => WNu_put p31 x39 x45 m43 (fun m46 => WRe_closeWithPart q0 m46 (fun m48 => ∀ m50, m50 = m48.st q0 12 (.int 1) → K m50))))) ∧ (¬ x6.toInt = 23 → (x6.toInt = 24 → ∃ p54, m19.rv q0 3 = p54 + 1 ∧ WNu_size p54 m19 (fun m57 x59 => WNu_put p54 (x59 - (1 : Int32)) 25 m57 (fun m60 => ∀ m62, m62 = m60.st q0 11 (.int 1) → K m62))) ∧ (¬ x6.toInt = 24 → (x6.toInt = 25 → WRe_addStep q0 8 0 m19 (fun m66 => ∃ p68, m66.rv q0 6 = p68 + 1 ∧ WNu_dropLast p68 m66 (fun m71 => WRe_closeWithPart q0 m71 (fun m73 => ∀ m75, m75 = m73.st q0 12 (.int 1) → K m75)))) ∧ (¬ x6.toInt = 25 → WRe_closeDown q0 m19 (fun m78 => ∀ m80, m80 = m78.st q0 12 (.int 1) → K m80))))))) : WRe_readBracketSign_J54 q0 x6  K  m19 := j
def WRe_readBracketSign  (q0 : Nat) (x1 : Int32) (m : Mm) (K : Mm → Prop) : Prop := ∃ p1, m.rv q0 3 = p1 + 1 ∧ WNu_last p1 m (fun m4 x6 => ((x6 = (-1)) → ∀ m8, m8 = m4.st q0 10 (.int (m4.iv q0 9)) → K m8) ∧ (¬ (x6 = (-1)) → WRe_awaited x6 m4 (fun m11 x13 => ((x1 = x13) → ∀ m15, m15 = m11.st q0 9 (.int ((m11.iv q0 9) + (1 : Int32))) → ((x6 = 20) → WRe_readBracketSign_J54 q0 x6  K  m15) ∧ (¬ (x6 = 20) → ∃ p84, m15.rv q0 2 = p84 + 1 ∧ WNu_add p84 x1 m15 (fun m87 => WRe_readBracketSign_J54 q0 x6  K  m87))) ∧ (¬ (x1 = x13) → ∀ m89, m89 = m11.st q0 10 (.int (m11.iv q0 9)) → K m89))))
set_option maxRecDepth 100000 in
set_option maxHeartbeats 4000000 in
theorem kRe_readBracketSign {ks : List Nat} {h : List xE} (hT : TT ks h) {q0 : Nat} (o0 : xnth ks q0 = some 13) (x1 : Int32)  {K : Mm → Prop} (j : WRe_readBracketSign  q0 x1 (mm h) K) : yM 31 (3) 0 [.ref (q0 + 1), .int x1] h (PV ks K) := by
  unfold WRe_readBracketSign at j
  refine yM.st xM_31 rfl rfl (fun lv g => ?_)
  have g0 := g 0 _ rfl
  have g1 := g 1 _ rfl
  refine yT.aan (pc' := 1) g0 rfl rfl rfl ?_
  obtain ⟨p1, w2, j⟩ := j
  refine yT.gR (pc' := 4) rfl rfl hT o0 rfl rfl w2 (fun o3 => ?_)
  refine zI (yT.cw (G2 := 0) (pc' := 7) rfl rfl rfl hT o3 xM_44 (kNu_last hT o3 j) rfl (by decide) (by decide) rfl) (fun h4 x6 hT5 j => ?_)
  refine yT.p (pc' := 8) (lv' := xst1 _ 2 (.int x6)) rfl rfl (fun _ _ _ _ => rfl) ?_
  refine yT.iln (pc' := 9) xg_eq rfl rfl ?_
  refine yT.zk (pc' := 10) (z := (-1)) rfl rfl (by decide) ?_
  refine yT.zeq2 (t := 21) (pc' := 13) rfl rfl rfl (fun c7 => ?_) (fun c7 => ?_)
  · replace j := j.1 c7
    refine yT.aan (pc' := 22) (xg_ne g0 rfl) rfl rfl rfl ?_
    refine yT.aan (pc' := 23) (xg_ne g0 rfl) rfl rfl rfl ?_
    refine yT.gI (pc' := 26) rfl rfl hT5 o0 rfl ?_
    refine yT.sI (pc' := 29) rfl rfl hT5 o0 rfl rfl (fun h8 hT9 e10 => ?_)
    replace j := j _ e10
    exact yT.retV rfl rfl ⟨rfl, hT9, j⟩
  · replace j := j.2 c7
    refine yT.iln (pc' := 14) (xg_ne g1 rfl) rfl rfl ?_
    refine yT.iln (pc' := 15) xg_eq rfl rfl ?_
    refine zI (yT.cst (G2 := 0) (pc' := 18) rfl rfl xM_39 (kRe_awaited hT5 x6 j) rfl (by decide) (by decide) rfl) (fun h11 x13 hT12 j => ?_)
    refine yT.zeq2 (t := 30) (pc' := 21) rfl rfl rfl (fun c14 => ?_) (fun c14 => ?_)
    · replace j := j.1 c14
      refine yT.aan (pc' := 31) (xg_ne g0 rfl) rfl rfl rfl ?_
      refine yT.p (pc' := 32) rfl rfl (fun _ _ _ _ => rfl) ?_
      refine yT.gI (pc' := 35) rfl rfl hT12 o0 rfl ?_
      refine yT.zk (pc' := 36) (z := 1) rfl rfl (by decide) ?_
      refine yT.p (pc' := 37) rfl rfl (fun _ _ _ _ => rfl) ?_
      refine yT.sI (pc' := 40) rfl rfl hT12 o0 rfl rfl (fun h15 hT16 e17 => ?_)
      replace j := j _ e17
      refine yT.iln (pc' := 41) xg_eq rfl rfl ?_
      refine yT.zb (pc' := 43) (z := 20) rfl rfl (by decide) ?_
      have L23 : ∀ (lv18 : xLv) (h19 : List xE), TT ks h19 → xget lv18 0 = some (.ref (q0 + 1)) → xget lv18 2 = some (.int x6) → WRe_readBracketSign_J54 q0 x6  K  (mm h19) → yT 0 [] rX3_readBracketSign (3) 0 54 lv18 [] h19 (PV ks K) := by
        intro lv18 h19 hT20 g21 g22 j
        replace j := WRe_readBracketSign_J54_u j
        refine yT.iln (pc' := 55) g22 rfl rfl ?_
        by_cases c24 : x6.toInt = 21
        · replace j := j.1 c24
          refine yT.tswK 0 (t := 88) rfl rfl (by omega) rfl rfl ?_
          refine yT.aan (pc' := 89) g21 rfl rfl rfl ?_
          refine yT.zb (pc' := 91) (z := 14) rfl rfl (by decide) ?_
          refine yT.zb (pc' := 93) (z := 22) rfl rfl (by decide) ?_
          refine zV (yT.cw (G2 := 0) (pc' := 96) rfl rfl rfl hT20 o0 xM_32 (kRe_choose hT20 o0 14 22 j) rfl (by decide) (by decide) rfl) (fun h25 hT26 j => ?_)
          refine yT.p (pc' := 204) rfl rfl (fun _ _ _ _ => rfl) ?_
          exact yT.retV rfl rfl ⟨rfl, hT26, j⟩
        · replace j := j.2 c24
          by_cases c27 : x6.toInt = 22
          · replace j := j.1 c27
            refine yT.tswK 1 (t := 99) rfl rfl (by omega) rfl rfl ?_
            refine yT.aan (pc' := 100) g21 rfl rfl rfl ?_
            refine yT.zb (pc' := 102) (z := 13) rfl rfl (by decide) ?_
            refine yT.zb (pc' := 104) (z := 23) rfl rfl (by decide) ?_
            refine zV (yT.cw (G2 := 0) (pc' := 107) rfl rfl rfl hT20 o0 xM_32 (kRe_choose hT20 o0 13 23 j) rfl (by decide) (by decide) rfl) (fun h28 hT29 j => ?_)
            refine yT.p (pc' := 204) rfl rfl (fun _ _ _ _ => rfl) ?_
            exact yT.retV rfl rfl ⟨rfl, hT29, j⟩
          · replace j := j.2 c27
            by_cases c30 : x6.toInt = 23
            · replace j := j.1 c30
              refine yT.tswK 2 (t := 110) rfl rfl (by omega) rfl rfl ?_
              refine yT.aan (pc' := 111) g21 rfl rfl rfl ?_
              obtain ⟨p31, w32, j⟩ := j
              refine yT.gR (pc' := 114) rfl rfl hT20 o0 rfl rfl w32 (fun o33 => ?_)
              refine yT.aan (pc' := 115) g21 rfl rfl rfl ?_
              obtain ⟨p34, w35, j⟩ := j
              refine yT.gR (pc' := 118) rfl rfl hT20 o0 rfl rfl w35 (fun o36 => ?_)
              refine zI (yT.cw (G2 := 0) (pc' := 121) rfl rfl rfl hT20 o36 xM_44 (kNu_last hT20 o36 j) rfl (by decide) (by decide) rfl) (fun h37 x39 hT38 j => ?_)
              refine yT.aan (pc' := 122) g21 rfl rfl rfl ?_
              obtain ⟨p40, w41, j⟩ := j
              refine yT.gR (pc' := 125) rfl rfl hT38 o0 rfl rfl w41 (fun o42 => ?_)
              refine zI (yT.cw (G2 := 0) (pc' := 128) rfl rfl rfl hT38 o42 xM_41 (kNu_size hT38 o42 j) rfl (by decide) (by decide) rfl) (fun h43 x45 hT44 j => ?_)
              refine zV (yT.cw (G2 := 0) (pc' := 131) rfl rfl rfl hT44 o33 xM_48 (kNu_put hT44 o33 x39 x45 j) rfl (by decide) (by decide) rfl) (fun h46 hT47 j => ?_)
              refine yT.aan (pc' := 132) g21 rfl rfl rfl ?_
              refine zV (yT.cw (G2 := 0) (pc' := 135) rfl rfl rfl hT47 o0 xM_35 (kRe_closeWithPart hT47 o0 j) rfl (by decide) (by decide) rfl) (fun h48 hT49 j => ?_)
              refine yT.aan (pc' := 136) g21 rfl rfl rfl ?_
              refine yT.zk (pc' := 137) (z := 1) rfl rfl (by decide) ?_
              refine yT.sZ (pc' := 140) rfl rfl hT49 o0 rfl rfl (Or.inr rfl) (fun h50 hT51 e52 => ?_)
              replace j := j _ e52
              refine yT.p (pc' := 204) rfl rfl (fun _ _ _ _ => rfl) ?_
              exact yT.retV rfl rfl ⟨rfl, hT51, j⟩
            · replace j := j.2 c30
              by_cases c53 : x6.toInt = 24
              · replace j := j.1 c53
                refine yT.tswK 3 (t := 143) rfl rfl (by omega) rfl rfl ?_
                refine yT.aan (pc' := 144) g21 rfl rfl rfl ?_
                obtain ⟨p54, w55, j⟩ := j
                refine yT.gR (pc' := 147) rfl rfl hT20 o0 rfl rfl w55 (fun o56 => ?_)
                refine yT.aan (pc' := 148) g21 rfl rfl rfl ?_
                refine yT.gR (pc' := 151) rfl rfl hT20 o0 rfl rfl w55 (fun _ => ?_)
                refine zI (yT.cw (G2 := 0) (pc' := 154) rfl rfl rfl hT20 o56 xM_41 (kNu_size hT20 o56 j) rfl (by decide) (by decide) rfl) (fun h57 x59 hT58 j => ?_)
                refine yT.zk (pc' := 155) (z := 1) rfl rfl (by decide) ?_
                refine yT.p (pc' := 156) rfl rfl (fun _ _ _ _ => rfl) ?_
                refine yT.zb (pc' := 158) (z := 25) rfl rfl (by decide) ?_
                refine zV (yT.cw (G2 := 0) (pc' := 161) rfl rfl rfl hT58 o56 xM_48 (kNu_put hT58 o56 (x59 - (1 : Int32)) 25 j) rfl (by decide) (by decide) rfl) (fun h60 hT61 j => ?_)
                refine yT.aan (pc' := 162) g21 rfl rfl rfl ?_
                refine yT.zk (pc' := 163) (z := 1) rfl rfl (by decide) ?_
                refine yT.sZ (pc' := 166) rfl rfl hT61 o0 rfl rfl (Or.inr rfl) (fun h62 hT63 e64 => ?_)
                replace j := j _ e64
                refine yT.p (pc' := 204) rfl rfl (fun _ _ _ _ => rfl) ?_
                exact yT.retV rfl rfl ⟨rfl, hT63, j⟩
              · replace j := j.2 c53
                by_cases c65 : x6.toInt = 25
                · replace j := j.1 c65
                  refine yT.tswK 4 (t := 169) rfl rfl (by omega) rfl rfl ?_
                  refine yT.aan (pc' := 170) g21 rfl rfl rfl ?_
                  refine yT.zb (pc' := 172) (z := 8) rfl rfl (by decide) ?_
                  refine yT.zk (pc' := 173) (z := 0) rfl rfl (by decide) ?_
                  refine zV (yT.cw (G2 := 0) (pc' := 176) rfl rfl rfl hT20 o0 xM_36 (kRe_addStep hT20 o0 8 0 j) rfl (by decide) (by decide) rfl) (fun h66 hT67 j => ?_)
                  refine yT.aan (pc' := 177) g21 rfl rfl rfl ?_
                  obtain ⟨p68, w69, j⟩ := j
                  refine yT.gR (pc' := 180) rfl rfl hT67 o0 rfl rfl w69 (fun o70 => ?_)
                  refine zV (yT.cw (G2 := 0) (pc' := 183) rfl rfl rfl hT67 o70 xM_50 (kNu_dropLast hT67 o70 j) rfl (by decide) (by decide) rfl) (fun h71 hT72 j => ?_)
                  refine yT.aan (pc' := 184) g21 rfl rfl rfl ?_
                  refine zV (yT.cw (G2 := 0) (pc' := 187) rfl rfl rfl hT72 o0 xM_35 (kRe_closeWithPart hT72 o0 j) rfl (by decide) (by decide) rfl) (fun h73 hT74 j => ?_)
                  refine yT.aan (pc' := 188) g21 rfl rfl rfl ?_
                  refine yT.zk (pc' := 189) (z := 1) rfl rfl (by decide) ?_
                  refine yT.sZ (pc' := 192) rfl rfl hT74 o0 rfl rfl (Or.inr rfl) (fun h75 hT76 e77 => ?_)
                  replace j := j _ e77
                  refine yT.p (pc' := 204) rfl rfl (fun _ _ _ _ => rfl) ?_
                  exact yT.retV rfl rfl ⟨rfl, hT76, j⟩
                · replace j := j.2 c65
                  refine yT.tswD (t := 195) rfl rfl rfl (by omega) ?_
                  refine yT.aan (pc' := 196) g21 rfl rfl rfl ?_
                  refine zV (yT.cw (G2 := 0) (pc' := 199) rfl rfl rfl hT20 o0 xM_34 (kRe_closeDown hT20 o0 j) rfl (by decide) (by decide) rfl) (fun h78 hT79 j => ?_)
                  refine yT.aan (pc' := 200) g21 rfl rfl rfl ?_
                  refine yT.zk (pc' := 201) (z := 1) rfl rfl (by decide) ?_
                  refine yT.sZ (pc' := 204) rfl rfl hT79 o0 rfl rfl (Or.inr rfl) (fun h80 hT81 e82 => ?_)
                  replace j := j _ e82
                  exact yT.retV rfl rfl ⟨rfl, hT81, j⟩
      refine yT.zeq2 (t := 54) (pc' := 46) rfl rfl rfl (fun c83 => ?_) (fun c83 => ?_)
      · replace j := j.1 c83
        exact L23 _ _  hT16 (xg_ne g0 rfl) xg_eq j
      · replace j := j.2 c83
        refine yT.aan (pc' := 47) (xg_ne g0 rfl) rfl rfl rfl ?_
        obtain ⟨p84, w85, j⟩ := j
        refine yT.gR (pc' := 50) rfl rfl hT16 o0 rfl rfl w85 (fun o86 => ?_)
        refine yT.iln (pc' := 51) (xg_ne g1 rfl) rfl rfl ?_
        refine zV (yT.cw (G2 := 0) (pc' := 54) rfl rfl rfl hT16 o86 xM_47 (kNu_add hT16 o86 x1 j) rfl (by decide) (by decide) rfl) (fun h87 hT88 j => ?_)
        exact L23 _ _  hT88 (xg_ne g0 rfl) xg_eq j
    · replace j := j.2 c14
      refine yT.aan (pc' := 22) (xg_ne g0 rfl) rfl rfl rfl ?_
      refine yT.aan (pc' := 23) (xg_ne g0 rfl) rfl rfl rfl ?_
      refine yT.gI (pc' := 26) rfl rfl hT12 o0 rfl ?_
      refine yT.sI (pc' := 29) rfl rfl hT12 o0 rfl rfl (fun h89 hT90 e91 => ?_)
      replace j := j _ e91
      exact yT.retV rfl rfl ⟨rfl, hT90, j⟩
-- rX3_readSign
def WRe_readSign_J63 (q0 : Nat) (x1 : Int32) (x3 : Int32) (K : Mm → Prop)  (m15 : Mm) : Prop := WRe_openUp q0 x3 m15 (fun m21 => ∃ p23, m21.rv q0 2 = p23 + 1 ∧ WNu_add p23 x1 m21 (fun m26 => ∀ m28, m28 = m26.st q0 9 (.int ((m26.iv q0 9) + (1 : Int32))) → ∀ m31, m31 = m28.st q0 11 (.int 1) → K m31))
set_option maxRecDepth 100000 in
theorem WRe_readSign_J63_u {q0 : Nat} {x1 : Int32} {x3 : Int32} {K : Mm → Prop} {m15 : Mm} (j : WRe_readSign_J63 q0 x1 x3  K  m15) : WRe_openUp q0 x3 m15 (fun m21 => ∃ p23, m21.rv q0 2 = p23 + 1 ∧ WNu_add p23 x1 m21 (fun m26 => ∀ m28, m28 = m26.st q0 9 (.int ((m26.iv q0 9) + (1 : Int32))) → ∀ m31, m31 = m28.st q0 11 (.int 1) → K m31)) := j
set_option maxRecDepth 100000 in
theorem WRe_readSign_J63_i {q0 : Nat} {x1 : Int32} {x3 : Int32} {K : Mm → Prop} {m15 : Mm} (j : WRe_openUp q0 x3 m15 (fun m21 => ∃ p23, m21.rv q0 2 = p23 + 1 ∧ WNu_add p23 x1 m21 (fun m26 => ∀ m28, m28 = m26.st q0 9 (.int ((m26.iv q0 9) + (1 : Int32))) → ∀ m31, m31 = m28.st q0 11 (.int 1) → K m31))) : WRe_readSign_J63 q0 x1 x3  K  m15 := j
def WRe_readSign  (q0 : Nat) (x1 : Int32) (m : Mm) (K : Mm → Prop) : Prop := WRe_joiningSign x1 m (fun m1 x3 => ((x3 = (-1)) → WRe_gather q0 1 m1 (fun m5 => WRe_readBracketSign q0 x1 m5 (fun m7 => K m7))) ∧ (¬ (x3 = (-1)) → WRe_level x3 m1 (fun m9 x11 => WRe_gather q0 (if x11 < 2 then 2 else x11) m9 (fun m12 => ((x11 = 1) → ∃ p35, m12.rv q0 3 = p35 + 1 ∧ WNu_last p35 m12 (fun m38 x40 => WRe_level x40 m38 (fun m41 x43 => ((x43 = 1) → ∀ m45, m45 = m41.st q0 10 (.int (m41.iv q0 9)) → K m45) ∧ (¬ (x43 = 1) → WRe_readSign_J63 q0 x1 x3  K  m41)))) ∧ (¬ (x11 = 1) → WRe_readSign_J63 q0 x1 x3  K  m12)))))
set_option maxRecDepth 100000 in
set_option maxHeartbeats 4000000 in
theorem kRe_readSign {ks : List Nat} {h : List xE} (hT : TT ks h) {q0 : Nat} (o0 : xnth ks q0 = some 13) (x1 : Int32)  {K : Mm → Prop} (j : WRe_readSign  q0 x1 (mm h) K) : yM 29 (4) 0 [.ref (q0 + 1), .int x1] h (PV ks K) := by
  unfold WRe_readSign at j
  refine yM.st xM_29 rfl rfl (fun lv g => ?_)
  have g0 := g 0 _ rfl
  have g1 := g 1 _ rfl
  refine yT.iln (pc' := 1) g1 rfl rfl ?_
  refine zI (yT.cst (G2 := 0) (pc' := 4) rfl rfl xM_37 (kRe_joiningSign hT x1 j) rfl (by decide) (by decide) rfl) (fun h1 x3 hT2 j => ?_)
  refine yT.p (pc' := 5) (lv' := xst1 _ 2 (.int x3)) rfl rfl (fun _ _ _ _ => rfl) ?_
  refine yT.iln (pc' := 6) xg_eq rfl rfl ?_
  refine yT.zk (pc' := 7) (z := (-1)) rfl rfl (by decide) ?_
  refine yT.zne2 (t := 21) (pc' := 10) rfl rfl rfl (fun c4 => ?_) (fun c4 => ?_)
  · replace j := j.1 c4
    refine yT.aan (pc' := 11) (xg_ne g0 rfl) rfl rfl rfl ?_
    refine yT.zk (pc' := 12) (z := 1) rfl rfl (by decide) ?_
    refine zV (yT.cw (G2 := 0) (pc' := 15) rfl rfl rfl hT2 o0 xM_30 (kRe_gather hT2 o0 1 j) rfl (by decide) (by decide) rfl) (fun h5 hT6 j => ?_)
    refine yT.aan (pc' := 16) (xg_ne g0 rfl) rfl rfl rfl ?_
    refine yT.iln (pc' := 17) (xg_ne g1 rfl) rfl rfl ?_
    refine zV (yT.cw (G2 := 0) (pc' := 20) rfl rfl rfl hT6 o0 xM_31 (kRe_readBracketSign hT6 o0 x1 j) rfl (by decide) (by decide) rfl) (fun h7 hT8 j => ?_)
    exact yT.retV rfl rfl ⟨rfl, hT8, j⟩
  · replace j := j.2 c4
    refine yT.iln (pc' := 22) xg_eq rfl rfl ?_
    refine zI (yT.cst (G2 := 0) (pc' := 25) rfl rfl xM_38 (kRe_level hT2 x3 j) rfl (by decide) (by decide) rfl) (fun h9 x11 hT10 j => ?_)
    refine yT.p (pc' := 26) (lv' := xst1 _ 3 (.int x11)) rfl rfl (fun _ _ _ _ => rfl) ?_
    refine yT.aan (pc' := 27) (xg_ne (xg_ne g0 rfl) rfl) rfl rfl rfl ?_
    refine yT.iln (pc' := 28) xg_eq rfl rfl ?_
    refine yT.zk (pc' := 29) (z := 2) rfl rfl (by decide) ?_
    refine yT.zmx (pc' := 32) rfl rfl (by decide) rfl ?_
    refine zV (yT.cw (G2 := 0) (pc' := 35) rfl rfl rfl hT10 o0 xM_30 (kRe_gather hT10 o0 (if x11 < 2 then 2 else x11) j) rfl (by decide) (by decide) rfl) (fun h12 hT13 j => ?_)
    refine yT.iln (pc' := 36) xg_eq rfl rfl ?_
    refine yT.zk (pc' := 37) (z := 1) rfl rfl (by decide) ?_
    have L20 : ∀ (lv14 : xLv) (h15 : List xE), TT ks h15 → xget lv14 0 = some (.ref (q0 + 1)) → xget lv14 1 = some (.int x1) → xget lv14 2 = some (.int x3) → WRe_readSign_J63 q0 x1 x3  K  (mm h15) → yT 0 [] rX3_readSign (4) 0 63 lv14 [] h15 (PV ks K) := by
      intro lv14 h15 hT16 g17 g18 g19 j
      replace j := WRe_readSign_J63_u j
      refine yT.aan (pc' := 64) g17 rfl rfl rfl ?_
      refine yT.iln (pc' := 65) g19 rfl rfl ?_
      refine zV (yT.cw (G2 := 0) (pc' := 68) rfl rfl rfl hT16 o0 xM_33 (kRe_openUp hT16 o0 x3 j) rfl (by decide) (by decide) rfl) (fun h21 hT22 j => ?_)
      refine yT.aan (pc' := 69) g17 rfl rfl rfl ?_
      obtain ⟨p23, w24, j⟩ := j
      refine yT.gR (pc' := 72) rfl rfl hT22 o0 rfl rfl w24 (fun o25 => ?_)
      refine yT.iln (pc' := 73) g18 rfl rfl ?_
      refine zV (yT.cw (G2 := 0) (pc' := 76) rfl rfl rfl hT22 o25 xM_47 (kNu_add hT22 o25 x1 j) rfl (by decide) (by decide) rfl) (fun h26 hT27 j => ?_)
      refine yT.aan (pc' := 77) g17 rfl rfl rfl ?_
      refine yT.p (pc' := 78) rfl rfl (fun _ _ _ _ => rfl) ?_
      refine yT.gI (pc' := 81) rfl rfl hT27 o0 rfl ?_
      refine yT.zk (pc' := 82) (z := 1) rfl rfl (by decide) ?_
      refine yT.p (pc' := 83) rfl rfl (fun _ _ _ _ => rfl) ?_
      refine yT.sI (pc' := 86) rfl rfl hT27 o0 rfl rfl (fun h28 hT29 e30 => ?_)
      replace j := j _ e30
      refine yT.aan (pc' := 87) g17 rfl rfl rfl ?_
      refine yT.zk (pc' := 88) (z := 1) rfl rfl (by decide) ?_
      refine yT.sZ (pc' := 91) rfl rfl hT29 o0 rfl rfl (Or.inr rfl) (fun h31 hT32 e33 => ?_)
      replace j := j _ e33
      exact yT.retV rfl rfl ⟨rfl, hT32, j⟩
    refine yT.zne2 (t := 63) (pc' := 40) rfl rfl rfl (fun c34 => ?_) (fun c34 => ?_)
    · replace j := j.1 c34
      refine yT.aan (pc' := 41) (xg_ne (xg_ne g0 rfl) rfl) rfl rfl rfl ?_
      obtain ⟨p35, w36, j⟩ := j
      refine yT.gR (pc' := 44) rfl rfl hT13 o0 rfl rfl w36 (fun o37 => ?_)
      refine zI (yT.cw (G2 := 0) (pc' := 47) rfl rfl rfl hT13 o37 xM_44 (kNu_last hT13 o37 j) rfl (by decide) (by decide) rfl) (fun h38 x40 hT39 j => ?_)
      refine zI (yT.cst (G2 := 0) (pc' := 50) rfl rfl xM_38 (kRe_level hT39 x40 j) rfl (by decide) (by decide) rfl) (fun h41 x43 hT42 j => ?_)
      refine yT.zk (pc' := 51) (z := 1) rfl rfl (by decide) ?_
      refine yT.zne2 (t := 63) (pc' := 54) rfl rfl rfl (fun c44 => ?_) (fun c44 => ?_)
      · replace j := j.1 c44
        refine yT.aan (pc' := 55) (xg_ne (xg_ne g0 rfl) rfl) rfl rfl rfl ?_
        refine yT.aan (pc' := 56) (xg_ne (xg_ne g0 rfl) rfl) rfl rfl rfl ?_
        refine yT.gI (pc' := 59) rfl rfl hT42 o0 rfl ?_
        refine yT.sI (pc' := 62) rfl rfl hT42 o0 rfl rfl (fun h45 hT46 e47 => ?_)
        replace j := j _ e47
        exact yT.retV rfl rfl ⟨rfl, hT46, j⟩
      · replace j := j.2 c44
        exact L20 _ _  hT42 (xg_ne (xg_ne g0 rfl) rfl) (xg_ne (xg_ne g1 rfl) rfl) (xg_ne xg_eq rfl) j
    · replace j := j.2 c34
      exact L20 _ _  hT13 (xg_ne (xg_ne g0 rfl) rfl) (xg_ne (xg_ne g1 rfl) rfl) (xg_ne xg_eq rfl) j
-- rX3_take
def WRe_take_L13 (q0 : Nat) (q1 : Nat) (x5 : Int32) (K : Mm → Nat → Prop) : Nat → Int32 → Mm → Prop
  | 0, _, _ => False
  | n15 + 1, y13, m7 => ((y13.toInt < x5.toInt) → (((m7.iv q0 9).toInt < x5.toInt) → (((m7.iv q0 10) = (-1)) → (m7.iv q0 11 = 0 ∨ m7.iv q0 11 = 1) → (((m7.iv q0 11) = 0) → WNu_at q1 (m7.iv q0 9) m7 (fun m22 x24 => WRe_readSign q0 x24 m22 (fun m25 => (m25.iv q0 12 = 0 ∨ m25.iv q0 12 = 1) → (((m25.iv q0 12) = 0) → WRe_take_L13 q0 q1 x5  K n15 (y13 + 1) m25) ∧ (¬ ((m25.iv q0 12) = 0) → WRe_endPart q0 m25 (fun m29 => WRe_take_L13 q0 q1 x5  K n15 (y13 + 1) m29))))) ∧ (¬ ((m7.iv q0 11) = 0) → WRe_readPart q0 q1 m7 (fun m31 => (m31.iv q0 12 = 0 ∨ m31.iv q0 12 = 1) → (((m31.iv q0 12) = 0) → WRe_take_L13 q0 q1 x5  K n15 (y13 + 1) m31) ∧ (¬ ((m31.iv q0 12) = 0) → WRe_endPart q0 m31 (fun m35 => WRe_take_L13 q0 q1 x5  K n15 (y13 + 1) m35))))) ∧ (¬ ((m7.iv q0 10) = (-1)) → (((m7.iv q0 10) = (-1)) → WRe_gather q0 1 m7 (fun m38 => (m38.iv q0 11 = 0 ∨ m38.iv q0 11 = 1) → (((m38.iv q0 11) = 0) → ∃ p42, m38.rv q0 3 = p42 + 1 ∧ WNu_size p42 m38 (fun m45 x47 => ((0 < x47.toInt) → ∀ m49, m49 = m45.st q0 10 (.int x5) → K m49 0) ∧ (¬ (0 < x47.toInt) → ∀ m52, m52 = m45.nw (eV (.inr (2, xDf 2 8))) 0 → ∃ p58, m52.rv q0 0 = p58 + 1 ∧ ∃ p61, m52.rv q0 1 = p61 + 1 ∧ ∃ p64, m52.rv q0 2 = p64 + 1 ∧ WFo_init (m45.nx) p58 p61 p64 (m52.iv q0 7) m52 (fun m67 => K m67 ((m45.nx) + 1))))) ∧ (¬ ((m38.iv q0 11) = 0) → ∀ m71, m71 = m38.st q0 10 (.int x5) → K m71 0))) ∧ (¬ ((m7.iv q0 10) = (-1)) → K m7 0))) ∧ (¬ ((m7.iv q0 9).toInt < x5.toInt) → (((m7.iv q0 10) = (-1)) → WRe_gather q0 1 m7 (fun m75 => (m75.iv q0 11 = 0 ∨ m75.iv q0 11 = 1) → (((m75.iv q0 11) = 0) → ∃ p79, m75.rv q0 3 = p79 + 1 ∧ WNu_size p79 m75 (fun m82 x84 => ((0 < x84.toInt) → ∀ m86, m86 = m82.st q0 10 (.int x5) → K m86 0) ∧ (¬ (0 < x84.toInt) → ∀ m89, m89 = m82.nw (eV (.inr (2, xDf 2 8))) 0 → ∃ p95, m89.rv q0 0 = p95 + 1 ∧ ∃ p98, m89.rv q0 1 = p98 + 1 ∧ ∃ p101, m89.rv q0 2 = p101 + 1 ∧ WFo_init (m82.nx) p95 p98 p101 (m89.iv q0 7) m89 (fun m104 => K m104 ((m82.nx) + 1))))) ∧ (¬ ((m75.iv q0 11) = 0) → ∀ m108, m108 = m75.st q0 10 (.int x5) → K m108 0))) ∧ (¬ ((m7.iv q0 10) = (-1)) → K m7 0))) ∧ (¬ (y13.toInt < x5.toInt) → (((m7.iv q0 10) = (-1)) → WRe_gather q0 1 m7 (fun m112 => (m112.iv q0 11 = 0 ∨ m112.iv q0 11 = 1) → (((m112.iv q0 11) = 0) → ∃ p116, m112.rv q0 3 = p116 + 1 ∧ WNu_size p116 m112 (fun m119 x121 => ((0 < x121.toInt) → ∀ m123, m123 = m119.st q0 10 (.int x5) → K m123 0) ∧ (¬ (0 < x121.toInt) → ∀ m126, m126 = m119.nw (eV (.inr (2, xDf 2 8))) 0 → ∃ p132, m126.rv q0 0 = p132 + 1 ∧ ∃ p135, m126.rv q0 1 = p135 + 1 ∧ ∃ p138, m126.rv q0 2 = p138 + 1 ∧ WFo_init (m119.nx) p132 p135 p138 (m126.iv q0 7) m126 (fun m141 => K m141 ((m119.nx) + 1))))) ∧ (¬ ((m112.iv q0 11) = 0) → ∀ m145, m145 = m112.st q0 10 (.int x5) → K m145 0))) ∧ (¬ ((m7.iv q0 10) = (-1)) → K m7 0))
set_option maxRecDepth 100000 in
theorem WRe_take_L13_u {q0 : Nat} {q1 : Nat} {x5 : Int32} {K : Mm → Nat → Prop} {n15 : Nat} {y13 : Int32} {m7 : Mm} (j : WRe_take_L13 q0 q1 x5  K (n15 + 1) y13 m7) : ((y13.toInt < x5.toInt) → (((m7.iv q0 9).toInt < x5.toInt) → (((m7.iv q0 10) = (-1)) → (m7.iv q0 11 = 0 ∨ m7.iv q0 11 = 1) → (((m7.iv q0 11) = 0) → WNu_at q1 (m7.iv q0 9) m7 (fun m22 x24 => WRe_readSign q0 x24 m22 (fun m25 => (m25.iv q0 12 = 0 ∨ m25.iv q0 12 = 1) → (((m25.iv q0 12) = 0) → WRe_take_L13 q0 q1 x5  K n15 (y13 + 1) m25) ∧ (¬ ((m25.iv q0 12) = 0) → WRe_endPart q0 m25 (fun m29 => WRe_take_L13 q0 q1 x5  K n15 (y13 + 1) m29))))) ∧ (¬ ((m7.iv q0 11) = 0) → WRe_readPart q0 q1 m7 (fun m31 => (m31.iv q0 12 = 0 ∨ m31.iv q0 12 = 1) → (((m31.iv q0 12) = 0) → WRe_take_L13 q0 q1 x5  K n15 (y13 + 1) m31) ∧ (¬ ((m31.iv q0 12) = 0) → WRe_endPart q0 m31 (fun m35 => WRe_take_L13 q0 q1 x5  K n15 (y13 + 1) m35))))) ∧ (¬ ((m7.iv q0 10) = (-1)) → (((m7.iv q0 10) = (-1)) → WRe_gather q0 1 m7 (fun m38 => (m38.iv q0 11 = 0 ∨ m38.iv q0 11 = 1) → (((m38.iv q0 11) = 0) → ∃ p42, m38.rv q0 3 = p42 + 1 ∧ WNu_size p42 m38 (fun m45 x47 => ((0 < x47.toInt) → ∀ m49, m49 = m45.st q0 10 (.int x5) → K m49 0) ∧ (¬ (0 < x47.toInt) → ∀ m52, m52 = m45.nw (eV (.inr (2, xDf 2 8))) 0 → ∃ p58, m52.rv q0 0 = p58 + 1 ∧ ∃ p61, m52.rv q0 1 = p61 + 1 ∧ ∃ p64, m52.rv q0 2 = p64 + 1 ∧ WFo_init (m45.nx) p58 p61 p64 (m52.iv q0 7) m52 (fun m67 => K m67 ((m45.nx) + 1))))) ∧ (¬ ((m38.iv q0 11) = 0) → ∀ m71, m71 = m38.st q0 10 (.int x5) → K m71 0))) ∧ (¬ ((m7.iv q0 10) = (-1)) → K m7 0))) ∧ (¬ ((m7.iv q0 9).toInt < x5.toInt) → (((m7.iv q0 10) = (-1)) → WRe_gather q0 1 m7 (fun m75 => (m75.iv q0 11 = 0 ∨ m75.iv q0 11 = 1) → (((m75.iv q0 11) = 0) → ∃ p79, m75.rv q0 3 = p79 + 1 ∧ WNu_size p79 m75 (fun m82 x84 => ((0 < x84.toInt) → ∀ m86, m86 = m82.st q0 10 (.int x5) → K m86 0) ∧ (¬ (0 < x84.toInt) → ∀ m89, m89 = m82.nw (eV (.inr (2, xDf 2 8))) 0 → ∃ p95, m89.rv q0 0 = p95 + 1 ∧ ∃ p98, m89.rv q0 1 = p98 + 1 ∧ ∃ p101, m89.rv q0 2 = p101 + 1 ∧ WFo_init (m82.nx) p95 p98 p101 (m89.iv q0 7) m89 (fun m104 => K m104 ((m82.nx) + 1))))) ∧ (¬ ((m75.iv q0 11) = 0) → ∀ m108, m108 = m75.st q0 10 (.int x5) → K m108 0))) ∧ (¬ ((m7.iv q0 10) = (-1)) → K m7 0))) ∧ (¬ (y13.toInt < x5.toInt) → (((m7.iv q0 10) = (-1)) → WRe_gather q0 1 m7 (fun m112 => (m112.iv q0 11 = 0 ∨ m112.iv q0 11 = 1) → (((m112.iv q0 11) = 0) → ∃ p116, m112.rv q0 3 = p116 + 1 ∧ WNu_size p116 m112 (fun m119 x121 => ((0 < x121.toInt) → ∀ m123, m123 = m119.st q0 10 (.int x5) → K m123 0) ∧ (¬ (0 < x121.toInt) → ∀ m126, m126 = m119.nw (eV (.inr (2, xDf 2 8))) 0 → ∃ p132, m126.rv q0 0 = p132 + 1 ∧ ∃ p135, m126.rv q0 1 = p135 + 1 ∧ ∃ p138, m126.rv q0 2 = p138 + 1 ∧ WFo_init (m119.nx) p132 p135 p138 (m126.iv q0 7) m126 (fun m141 => K m141 ((m119.nx) + 1))))) ∧ (¬ ((m112.iv q0 11) = 0) → ∀ m145, m145 = m112.st q0 10 (.int x5) → K m145 0))) ∧ (¬ ((m7.iv q0 10) = (-1)) → K m7 0)) := j
set_option maxRecDepth 100000 in
theorem WRe_take_L13_i {q0 : Nat} {q1 : Nat} {x5 : Int32} {K : Mm → Nat → Prop} {n15 : Nat} {y13 : Int32} {m7 : Mm} (j : ((y13.toInt < x5.toInt) → (((m7.iv q0 9).toInt < x5.toInt) → (((m7.iv q0 10) = (-1)) → (m7.iv q0 11 = 0 ∨ m7.iv q0 11 = 1) → (((m7.iv q0 11) = 0) → WNu_at q1 (m7.iv q0 9) m7 (fun m22 x24 => WRe_readSign q0 x24 m22 (fun m25 => (m25.iv q0 12 = 0 ∨ m25.iv q0 12 = 1) → (((m25.iv q0 12) = 0) → WRe_take_L13 q0 q1 x5  K n15 (y13 + 1) m25) ∧ (¬ ((m25.iv q0 12) = 0) → WRe_endPart q0 m25 (fun m29 => WRe_take_L13 q0 q1 x5  K n15 (y13 + 1) m29))))) ∧ (¬ ((m7.iv q0 11) = 0) → WRe_readPart q0 q1 m7 (fun m31 => (m31.iv q0 12 = 0 ∨ m31.iv q0 12 = 1) → (((m31.iv q0 12) = 0) → WRe_take_L13 q0 q1 x5  K n15 (y13 + 1) m31) ∧ (¬ ((m31.iv q0 12) = 0) → WRe_endPart q0 m31 (fun m35 => WRe_take_L13 q0 q1 x5  K n15 (y13 + 1) m35))))) ∧ (¬ ((m7.iv q0 10) = (-1)) → (((m7.iv q0 10) = (-1)) → WRe_gather q0 1 m7 (fun m38 => (m38.iv q0 11 = 0 ∨ m38.iv q0 11 = 1) → (((m38.iv q0 11) = 0) → ∃ p42, m38.rv q0 3 = p42 + 1 ∧ WNu_size p42 m38 (fun m45 x47 => ((0 < x47.toInt) → ∀ m49, m49 = m45.st q0 10 (.int x5) → K m49 0) ∧ (¬ (0 < x47.toInt) → ∀ m52, m52 = m45.nw (eV (.inr (2, xDf 2 8))) 0 → ∃ p58, m52.rv q0 0 = p58 + 1 ∧ ∃ p61, m52.rv q0 1 = p61 + 1 ∧ ∃ p64, m52.rv q0 2 = p64 + 1 ∧ WFo_init (m45.nx) p58 p61 p64 (m52.iv q0 7) m52 (fun m67 => K m67 ((m45.nx) + 1))))) ∧ (¬ ((m38.iv q0 11) = 0) → ∀ m71, m71 = m38.st q0 10 (.int x5) → K m71 0))) ∧ (¬ ((m7.iv q0 10) = (-1)) → K m7 0))) ∧ (¬ ((m7.iv q0 9).toInt < x5.toInt) → (((m7.iv q0 10) = (-1)) → WRe_gather q0 1 m7 (fun m75 => (m75.iv q0 11 = 0 ∨ m75.iv q0 11 = 1) → (((m75.iv q0 11) = 0) → ∃ p79, m75.rv q0 3 = p79 + 1 ∧ WNu_size p79 m75 (fun m82 x84 => ((0 < x84.toInt) → ∀ m86, m86 = m82.st q0 10 (.int x5) → K m86 0) ∧ (¬ (0 < x84.toInt) → ∀ m89, m89 = m82.nw (eV (.inr (2, xDf 2 8))) 0 → ∃ p95, m89.rv q0 0 = p95 + 1 ∧ ∃ p98, m89.rv q0 1 = p98 + 1 ∧ ∃ p101, m89.rv q0 2 = p101 + 1 ∧ WFo_init (m82.nx) p95 p98 p101 (m89.iv q0 7) m89 (fun m104 => K m104 ((m82.nx) + 1))))) ∧ (¬ ((m75.iv q0 11) = 0) → ∀ m108, m108 = m75.st q0 10 (.int x5) → K m108 0))) ∧ (¬ ((m7.iv q0 10) = (-1)) → K m7 0))) ∧ (¬ (y13.toInt < x5.toInt) → (((m7.iv q0 10) = (-1)) → WRe_gather q0 1 m7 (fun m112 => (m112.iv q0 11 = 0 ∨ m112.iv q0 11 = 1) → (((m112.iv q0 11) = 0) → ∃ p116, m112.rv q0 3 = p116 + 1 ∧ WNu_size p116 m112 (fun m119 x121 => ((0 < x121.toInt) → ∀ m123, m123 = m119.st q0 10 (.int x5) → K m123 0) ∧ (¬ (0 < x121.toInt) → ∀ m126, m126 = m119.nw (eV (.inr (2, xDf 2 8))) 0 → ∃ p132, m126.rv q0 0 = p132 + 1 ∧ ∃ p135, m126.rv q0 1 = p135 + 1 ∧ ∃ p138, m126.rv q0 2 = p138 + 1 ∧ WFo_init (m119.nx) p132 p135 p138 (m126.iv q0 7) m126 (fun m141 => K m141 ((m119.nx) + 1))))) ∧ (¬ ((m112.iv q0 11) = 0) → ∀ m145, m145 = m112.st q0 10 (.int x5) → K m145 0))) ∧ (¬ ((m7.iv q0 10) = (-1)) → K m7 0))) : WRe_take_L13 q0 q1 x5  K (n15 + 1) y13 m7 := j
def WRe_take  (q0 : Nat) (q1 : Nat) (x2 : Int32) (m : Mm) (K : Mm → Nat → Prop) : Prop := WRe_start q0 x2 m (fun m1 => WNu_size q1 m1 (fun m3 x5 => ∃ n148, WRe_take_L13 q0 q1 x5  K n148 0 m3))
set_option maxRecDepth 100000 in
set_option maxHeartbeats 4000000 in
theorem kRe_take {ks : List Nat} {h : List xE} (hT : TT ks h) {q0 : Nat} (o0 : xnth ks q0 = some 13) {q1 : Nat} (o1 : xnth ks q1 = some 14) (x2 : Int32)  {K : Mm → Nat → Prop} (j : WRe_take  q0 q1 x2 (mm h) K) : yM 19 (5) 3020 [.ref (q0 + 1), .ref (q1 + 1), .int x2] h (PRa ks 12 K) := by
  unfold WRe_take at j
  refine yM.st xM_19 rfl rfl (fun lv g => ?_)
  have g0 := g 0 _ rfl
  have g1 := g 1 _ rfl
  have g2 := g 2 _ rfl
  refine yT.aan (pc' := 1) g0 rfl rfl rfl ?_
  refine yT.iln (pc' := 2) g2 rfl rfl ?_
  refine zV (yT.cw (G2 := 3020) (pc' := 5) rfl rfl rfl hT o0 xM_20 (kRe_start hT o0 x2 j) rfl (by decide) (by decide) rfl) (fun h1 hT2 j => ?_)
  refine yT.aan (pc' := 6) g1 rfl rfl rfl ?_
  refine zI (yT.cw (G2 := 3020) (pc' := 9) rfl rfl rfl hT2 o1 xM_41 (kNu_size hT2 o1 j) rfl (by decide) (by decide) rfl) (fun h3 x5 hT4 j => ?_)
  refine yT.p (pc' := 10) (lv' := xst1 _ 3 (.int x5)) rfl rfl (fun _ _ _ _ => rfl) ?_
  refine yT.zk (pc' := 11) (z := 0) rfl rfl (by decide) ?_
  refine yT.p (pc' := 13) (lv' := xst1 _ 4 (.int 0)) rfl rfl (fun _ _ _ _ => rfl) ?_
  have L14 : ∀ (n15 : Nat) (lv6 : xLv) (h7 : List xE) (y13 : Int32), TT ks h7 → xget lv6 0 = some (.ref (q0 + 1)) → xget lv6 1 = some (.ref (q1 + 1)) → xget lv6 3 = some (.int x5) → xget lv6 4 = some (.int y13) → WRe_take_L13 q0 q1 x5  K n15 y13 (mm h7) → yT 0 [] rX3_take (5) 3020 13 lv6 [] h7 (PRa ks 12 K) := by
    intro n15
    induction n15 with
    | zero => intro lv6 h7 y13 hT8 g9 g10 g11 g12 j; exact j.elim
    | succ n15 ih16 =>
      intro lv6 h7 y13 hT8 g9 g10 g11 g12 j
      replace j := WRe_take_L13_u j
      refine yT.il (pc' := 15) g12 rfl rfl ?_
      refine yT.iln (pc' := 16) g11 rfl rfl ?_
      refine yT.zge2 (t := 79) (pc' := 19) rfl rfl rfl (fun c17 => ?_) (fun c17 => ?_)
      · replace j := j.1 c17
        refine yT.aan (pc' := 20) g9 rfl rfl rfl ?_
        refine yT.gI (pc' := 23) rfl rfl hT8 o0 rfl ?_
        refine yT.iln (pc' := 24) g11 rfl rfl ?_
        refine yT.zge2 (t := 79) (pc' := 27) rfl rfl rfl (fun c18 => ?_) (fun c18 => ?_)
        · replace j := j.1 c18
          refine yT.aan (pc' := 28) g9 rfl rfl rfl ?_
          refine yT.gI (pc' := 31) rfl rfl hT8 o0 rfl ?_
          refine yT.zk (pc' := 32) (z := (-1)) rfl rfl (by decide) ?_
          refine yT.zne2 (t := 79) (pc' := 35) rfl rfl rfl (fun c19 => ?_) (fun c19 => ?_)
          · replace j := j.1 c19
            refine yT.aan (pc' := 36) g9 rfl rfl rfl ?_
            refine yT.gZ (pc' := 39) rfl rfl hT8 o0 rfl (fun b20 => ?_)
            replace j := j b20
            refine yT.zeq1 (t := 50) (pc' := 42) rfl rfl rfl (fun c21 => ?_) (fun c21 => ?_)
            · replace j := j.1 c21
              refine yT.aan (pc' := 51) g9 rfl rfl rfl ?_
              refine yT.aan (pc' := 52) g10 rfl rfl rfl ?_
              refine yT.aan (pc' := 53) g9 rfl rfl rfl ?_
              refine yT.gI (pc' := 56) rfl rfl hT8 o0 rfl ?_
              refine zI (yT.cw (G2 := 3020) (pc' := 59) rfl rfl rfl hT8 o1 xM_43 (kNu_at hT8 o1 ((mm h7).iv q0 9) j) rfl (by decide) (by decide) rfl) (fun h22 x24 hT23 j => ?_)
              refine zV (yT.cw (G2 := 3020) (pc' := 62) rfl rfl rfl hT23 o0 xM_29 (kRe_readSign hT23 o0 x24 j) rfl (by decide) (by decide) rfl) (fun h25 hT26 j => ?_)
              refine yT.aan (pc' := 63) g9 rfl rfl rfl ?_
              refine yT.gZ (pc' := 66) rfl rfl hT26 o0 rfl (fun b27 => ?_)
              replace j := j b27
              refine yT.zeq1 (t := 73) (pc' := 69) rfl rfl rfl (fun c28 => ?_) (fun c28 => ?_)
              · replace j := j.1 c28
                refine yT.iif (pc' := 76) (z := y13 + 1) g12 rfl rfl rfl rfl ?_
                refine yT.p (pc' := 13) rfl rfl (fun _ _ _ _ => rfl) ?_
                exact ih16 _ _ _ hT26 (xg_ne g9 rfl) (xg_ne g10 rfl) (xg_ne g11 rfl) xg_eq j
              · replace j := j.2 c28
                refine yT.aan (pc' := 70) g9 rfl rfl rfl ?_
                refine zV (yT.cw (G2 := 3020) (pc' := 73) rfl rfl rfl hT26 o0 xM_28 (kRe_endPart hT26 o0 j) rfl (by decide) (by decide) rfl) (fun h29 hT30 j => ?_)
                refine yT.iif (pc' := 76) (z := y13 + 1) g12 rfl rfl rfl rfl ?_
                refine yT.p (pc' := 13) rfl rfl (fun _ _ _ _ => rfl) ?_
                exact ih16 _ _ _ hT30 (xg_ne g9 rfl) (xg_ne g10 rfl) (xg_ne g11 rfl) xg_eq j
            · replace j := j.2 c21
              refine yT.aan (pc' := 43) g9 rfl rfl rfl ?_
              refine yT.aan (pc' := 44) g10 rfl rfl rfl ?_
              refine zV (yT.cw (G2 := 3020) (pc' := 47) rfl rfl rfl hT8 o0 xM_21 (kRe_readPart hT8 o0 o1 j) rfl (by decide) (by decide) rfl) (fun h31 hT32 j => ?_)
              refine yT.p (pc' := 62) rfl rfl (fun _ _ _ _ => rfl) ?_
              refine yT.aan (pc' := 63) g9 rfl rfl rfl ?_
              refine yT.gZ (pc' := 66) rfl rfl hT32 o0 rfl (fun b33 => ?_)
              replace j := j b33
              refine yT.zeq1 (t := 73) (pc' := 69) rfl rfl rfl (fun c34 => ?_) (fun c34 => ?_)
              · replace j := j.1 c34
                refine yT.iif (pc' := 76) (z := y13 + 1) g12 rfl rfl rfl rfl ?_
                refine yT.p (pc' := 13) rfl rfl (fun _ _ _ _ => rfl) ?_
                exact ih16 _ _ _ hT32 (xg_ne g9 rfl) (xg_ne g10 rfl) (xg_ne g11 rfl) xg_eq j
              · replace j := j.2 c34
                refine yT.aan (pc' := 70) g9 rfl rfl rfl ?_
                refine zV (yT.cw (G2 := 3020) (pc' := 73) rfl rfl rfl hT32 o0 xM_28 (kRe_endPart hT32 o0 j) rfl (by decide) (by decide) rfl) (fun h35 hT36 j => ?_)
                refine yT.iif (pc' := 76) (z := y13 + 1) g12 rfl rfl rfl rfl ?_
                refine yT.p (pc' := 13) rfl rfl (fun _ _ _ _ => rfl) ?_
                exact ih16 _ _ _ hT36 (xg_ne g9 rfl) (xg_ne g10 rfl) (xg_ne g11 rfl) xg_eq j
          · replace j := j.2 c19
            refine yT.aan (pc' := 80) g9 rfl rfl rfl ?_
            refine yT.gI (pc' := 83) rfl rfl hT8 o0 rfl ?_
            refine yT.zk (pc' := 84) (z := (-1)) rfl rfl (by decide) ?_
            refine yT.zeq2 (t := 89) (pc' := 87) rfl rfl rfl (fun c37 => ?_) (fun c37 => ?_)
            · replace j := j.1 c37
              refine yT.aan (pc' := 90) g9 rfl rfl rfl ?_
              refine yT.zk (pc' := 91) (z := 1) rfl rfl (by decide) ?_
              refine zV (yT.cw (G2 := 3020) (pc' := 94) rfl rfl rfl hT8 o0 xM_30 (kRe_gather hT8 o0 1 j) rfl (by decide) (by decide) rfl) (fun h38 hT39 j => ?_)
              refine yT.aan (pc' := 95) g9 rfl rfl rfl ?_
              refine yT.gZ (pc' := 98) rfl rfl hT39 o0 rfl (fun b40 => ?_)
              replace j := j b40
              refine yT.zne1 (t := 111) (pc' := 101) rfl rfl rfl (fun c41 => ?_) (fun c41 => ?_)
              · replace j := j.1 c41
                refine yT.aan (pc' := 102) g9 rfl rfl rfl ?_
                obtain ⟨p42, w43, j⟩ := j
                refine yT.gR (pc' := 105) rfl rfl hT39 o0 rfl rfl w43 (fun o44 => ?_)
                refine zI (yT.cw (G2 := 3020) (pc' := 108) rfl rfl rfl hT39 o44 xM_41 (kNu_size hT39 o44 j) rfl (by decide) (by decide) rfl) (fun h45 x47 hT46 j => ?_)
                refine yT.zle1 (t := 118) (pc' := 111) rfl rfl rfl (fun c48 => ?_) (fun c48 => ?_)
                · replace j := j.1 c48
                  refine yT.aan (pc' := 112) g9 rfl rfl rfl ?_
                  refine yT.iln (pc' := 113) g11 rfl rfl ?_
                  refine yT.sI (pc' := 116) rfl rfl hT46 o0 rfl rfl (fun h49 hT50 e51 => ?_)
                  replace j := j _ e51
                  refine yT.p (pc' := 117) rfl rfl (fun _ _ _ _ => rfl) ?_
                  exact yT.retA rfl rfl rfl ⟨0, rfl, _, KG.rf, Or.inl rfl, hT50, j⟩
                · replace j := j.2 c48
                  refine yT.nO (G2 := 3012) (n := 8) (pc' := 121) rfl rfl rfl rfl (by decide) hT46 rfl (fun h52 ks56 kg55 hT53 o57 e54 => ?_)
                  replace j := j _ e54
                  refine yT.p (pc' := 122) rfl rfl (fun _ _ _ _ => rfl) ?_
                  refine yT.aan (pc' := 123) g9 rfl rfl rfl ?_
                  obtain ⟨p58, w59, j⟩ := j
                  refine yT.gR (pc' := 126) rfl rfl hT53 (kg55.up o0) rfl rfl w59 (fun o60 => ?_)
                  refine yT.aan (pc' := 127) g9 rfl rfl rfl ?_
                  obtain ⟨p61, w62, j⟩ := j
                  refine yT.gR (pc' := 130) rfl rfl hT53 (kg55.up o0) rfl rfl w62 (fun o63 => ?_)
                  refine yT.aan (pc' := 131) g9 rfl rfl rfl ?_
                  obtain ⟨p64, w65, j⟩ := j
                  refine yT.gR (pc' := 134) rfl rfl hT53 (kg55.up o0) rfl rfl w65 (fun o66 => ?_)
                  refine yT.aan (pc' := 135) g9 rfl rfl rfl ?_
                  refine yT.gI (pc' := 138) rfl rfl hT53 (kg55.up o0) rfl ?_
                  refine zVa (yT.cw (G2 := 0) (pc' := 141) rfl rfl rfl hT53 o57 xM_8 (kFo_init hT53 o57 o60 o63 o66 ((mm h52).iv q0 7) j) rfl (by decide) (by decide) rfl) (fun h67 ks69 kg70 hT68 j => ?_)
                  exact yT.retA rfl rfl rfl ⟨_, rfl, _, (kg55.tr kg70), Or.inr ⟨_, rfl, (kg70.up o57)⟩, hT68, j⟩
              · replace j := j.2 c41
                refine yT.aan (pc' := 112) g9 rfl rfl rfl ?_
                refine yT.iln (pc' := 113) g11 rfl rfl ?_
                refine yT.sI (pc' := 116) rfl rfl hT39 o0 rfl rfl (fun h71 hT72 e73 => ?_)
                replace j := j _ e73
                refine yT.p (pc' := 117) rfl rfl (fun _ _ _ _ => rfl) ?_
                exact yT.retA rfl rfl rfl ⟨0, rfl, _, KG.rf, Or.inl rfl, hT72, j⟩
            · replace j := j.2 c37
              refine yT.p (pc' := 88) rfl rfl (fun _ _ _ _ => rfl) ?_
              exact yT.retA rfl rfl rfl ⟨0, rfl, _, KG.rf, Or.inl rfl, hT8, j⟩
        · replace j := j.2 c18
          refine yT.aan (pc' := 80) g9 rfl rfl rfl ?_
          refine yT.gI (pc' := 83) rfl rfl hT8 o0 rfl ?_
          refine yT.zk (pc' := 84) (z := (-1)) rfl rfl (by decide) ?_
          refine yT.zeq2 (t := 89) (pc' := 87) rfl rfl rfl (fun c74 => ?_) (fun c74 => ?_)
          · replace j := j.1 c74
            refine yT.aan (pc' := 90) g9 rfl rfl rfl ?_
            refine yT.zk (pc' := 91) (z := 1) rfl rfl (by decide) ?_
            refine zV (yT.cw (G2 := 3020) (pc' := 94) rfl rfl rfl hT8 o0 xM_30 (kRe_gather hT8 o0 1 j) rfl (by decide) (by decide) rfl) (fun h75 hT76 j => ?_)
            refine yT.aan (pc' := 95) g9 rfl rfl rfl ?_
            refine yT.gZ (pc' := 98) rfl rfl hT76 o0 rfl (fun b77 => ?_)
            replace j := j b77
            refine yT.zne1 (t := 111) (pc' := 101) rfl rfl rfl (fun c78 => ?_) (fun c78 => ?_)
            · replace j := j.1 c78
              refine yT.aan (pc' := 102) g9 rfl rfl rfl ?_
              obtain ⟨p79, w80, j⟩ := j
              refine yT.gR (pc' := 105) rfl rfl hT76 o0 rfl rfl w80 (fun o81 => ?_)
              refine zI (yT.cw (G2 := 3020) (pc' := 108) rfl rfl rfl hT76 o81 xM_41 (kNu_size hT76 o81 j) rfl (by decide) (by decide) rfl) (fun h82 x84 hT83 j => ?_)
              refine yT.zle1 (t := 118) (pc' := 111) rfl rfl rfl (fun c85 => ?_) (fun c85 => ?_)
              · replace j := j.1 c85
                refine yT.aan (pc' := 112) g9 rfl rfl rfl ?_
                refine yT.iln (pc' := 113) g11 rfl rfl ?_
                refine yT.sI (pc' := 116) rfl rfl hT83 o0 rfl rfl (fun h86 hT87 e88 => ?_)
                replace j := j _ e88
                refine yT.p (pc' := 117) rfl rfl (fun _ _ _ _ => rfl) ?_
                exact yT.retA rfl rfl rfl ⟨0, rfl, _, KG.rf, Or.inl rfl, hT87, j⟩
              · replace j := j.2 c85
                refine yT.nO (G2 := 3012) (n := 8) (pc' := 121) rfl rfl rfl rfl (by decide) hT83 rfl (fun h89 ks93 kg92 hT90 o94 e91 => ?_)
                replace j := j _ e91
                refine yT.p (pc' := 122) rfl rfl (fun _ _ _ _ => rfl) ?_
                refine yT.aan (pc' := 123) g9 rfl rfl rfl ?_
                obtain ⟨p95, w96, j⟩ := j
                refine yT.gR (pc' := 126) rfl rfl hT90 (kg92.up o0) rfl rfl w96 (fun o97 => ?_)
                refine yT.aan (pc' := 127) g9 rfl rfl rfl ?_
                obtain ⟨p98, w99, j⟩ := j
                refine yT.gR (pc' := 130) rfl rfl hT90 (kg92.up o0) rfl rfl w99 (fun o100 => ?_)
                refine yT.aan (pc' := 131) g9 rfl rfl rfl ?_
                obtain ⟨p101, w102, j⟩ := j
                refine yT.gR (pc' := 134) rfl rfl hT90 (kg92.up o0) rfl rfl w102 (fun o103 => ?_)
                refine yT.aan (pc' := 135) g9 rfl rfl rfl ?_
                refine yT.gI (pc' := 138) rfl rfl hT90 (kg92.up o0) rfl ?_
                refine zVa (yT.cw (G2 := 0) (pc' := 141) rfl rfl rfl hT90 o94 xM_8 (kFo_init hT90 o94 o97 o100 o103 ((mm h89).iv q0 7) j) rfl (by decide) (by decide) rfl) (fun h104 ks106 kg107 hT105 j => ?_)
                exact yT.retA rfl rfl rfl ⟨_, rfl, _, (kg92.tr kg107), Or.inr ⟨_, rfl, (kg107.up o94)⟩, hT105, j⟩
            · replace j := j.2 c78
              refine yT.aan (pc' := 112) g9 rfl rfl rfl ?_
              refine yT.iln (pc' := 113) g11 rfl rfl ?_
              refine yT.sI (pc' := 116) rfl rfl hT76 o0 rfl rfl (fun h108 hT109 e110 => ?_)
              replace j := j _ e110
              refine yT.p (pc' := 117) rfl rfl (fun _ _ _ _ => rfl) ?_
              exact yT.retA rfl rfl rfl ⟨0, rfl, _, KG.rf, Or.inl rfl, hT109, j⟩
          · replace j := j.2 c74
            refine yT.p (pc' := 88) rfl rfl (fun _ _ _ _ => rfl) ?_
            exact yT.retA rfl rfl rfl ⟨0, rfl, _, KG.rf, Or.inl rfl, hT8, j⟩
      · replace j := j.2 c17
        refine yT.aan (pc' := 80) g9 rfl rfl rfl ?_
        refine yT.gI (pc' := 83) rfl rfl hT8 o0 rfl ?_
        refine yT.zk (pc' := 84) (z := (-1)) rfl rfl (by decide) ?_
        refine yT.zeq2 (t := 89) (pc' := 87) rfl rfl rfl (fun c111 => ?_) (fun c111 => ?_)
        · replace j := j.1 c111
          refine yT.aan (pc' := 90) g9 rfl rfl rfl ?_
          refine yT.zk (pc' := 91) (z := 1) rfl rfl (by decide) ?_
          refine zV (yT.cw (G2 := 3020) (pc' := 94) rfl rfl rfl hT8 o0 xM_30 (kRe_gather hT8 o0 1 j) rfl (by decide) (by decide) rfl) (fun h112 hT113 j => ?_)
          refine yT.aan (pc' := 95) g9 rfl rfl rfl ?_
          refine yT.gZ (pc' := 98) rfl rfl hT113 o0 rfl (fun b114 => ?_)
          replace j := j b114
          refine yT.zne1 (t := 111) (pc' := 101) rfl rfl rfl (fun c115 => ?_) (fun c115 => ?_)
          · replace j := j.1 c115
            refine yT.aan (pc' := 102) g9 rfl rfl rfl ?_
            obtain ⟨p116, w117, j⟩ := j
            refine yT.gR (pc' := 105) rfl rfl hT113 o0 rfl rfl w117 (fun o118 => ?_)
            refine zI (yT.cw (G2 := 3020) (pc' := 108) rfl rfl rfl hT113 o118 xM_41 (kNu_size hT113 o118 j) rfl (by decide) (by decide) rfl) (fun h119 x121 hT120 j => ?_)
            refine yT.zle1 (t := 118) (pc' := 111) rfl rfl rfl (fun c122 => ?_) (fun c122 => ?_)
            · replace j := j.1 c122
              refine yT.aan (pc' := 112) g9 rfl rfl rfl ?_
              refine yT.iln (pc' := 113) g11 rfl rfl ?_
              refine yT.sI (pc' := 116) rfl rfl hT120 o0 rfl rfl (fun h123 hT124 e125 => ?_)
              replace j := j _ e125
              refine yT.p (pc' := 117) rfl rfl (fun _ _ _ _ => rfl) ?_
              exact yT.retA rfl rfl rfl ⟨0, rfl, _, KG.rf, Or.inl rfl, hT124, j⟩
            · replace j := j.2 c122
              refine yT.nO (G2 := 3012) (n := 8) (pc' := 121) rfl rfl rfl rfl (by decide) hT120 rfl (fun h126 ks130 kg129 hT127 o131 e128 => ?_)
              replace j := j _ e128
              refine yT.p (pc' := 122) rfl rfl (fun _ _ _ _ => rfl) ?_
              refine yT.aan (pc' := 123) g9 rfl rfl rfl ?_
              obtain ⟨p132, w133, j⟩ := j
              refine yT.gR (pc' := 126) rfl rfl hT127 (kg129.up o0) rfl rfl w133 (fun o134 => ?_)
              refine yT.aan (pc' := 127) g9 rfl rfl rfl ?_
              obtain ⟨p135, w136, j⟩ := j
              refine yT.gR (pc' := 130) rfl rfl hT127 (kg129.up o0) rfl rfl w136 (fun o137 => ?_)
              refine yT.aan (pc' := 131) g9 rfl rfl rfl ?_
              obtain ⟨p138, w139, j⟩ := j
              refine yT.gR (pc' := 134) rfl rfl hT127 (kg129.up o0) rfl rfl w139 (fun o140 => ?_)
              refine yT.aan (pc' := 135) g9 rfl rfl rfl ?_
              refine yT.gI (pc' := 138) rfl rfl hT127 (kg129.up o0) rfl ?_
              refine zVa (yT.cw (G2 := 0) (pc' := 141) rfl rfl rfl hT127 o131 xM_8 (kFo_init hT127 o131 o134 o137 o140 ((mm h126).iv q0 7) j) rfl (by decide) (by decide) rfl) (fun h141 ks143 kg144 hT142 j => ?_)
              exact yT.retA rfl rfl rfl ⟨_, rfl, _, (kg129.tr kg144), Or.inr ⟨_, rfl, (kg144.up o131)⟩, hT142, j⟩
          · replace j := j.2 c115
            refine yT.aan (pc' := 112) g9 rfl rfl rfl ?_
            refine yT.iln (pc' := 113) g11 rfl rfl ?_
            refine yT.sI (pc' := 116) rfl rfl hT113 o0 rfl rfl (fun h145 hT146 e147 => ?_)
            replace j := j _ e147
            refine yT.p (pc' := 117) rfl rfl (fun _ _ _ _ => rfl) ?_
            exact yT.retA rfl rfl rfl ⟨0, rfl, _, KG.rf, Or.inl rfl, hT146, j⟩
        · replace j := j.2 c111
          refine yT.p (pc' := 88) rfl rfl (fun _ _ _ _ => rfl) ?_
          exact yT.retA rfl rfl rfl ⟨0, rfl, _, KG.rf, Or.inl rfl, hT8, j⟩
  obtain ⟨n148, j⟩ := j
  exact L14 n148 _ _ _ hT4 (xg_ne (xg_ne g0 rfl) rfl) (xg_ne (xg_ne g1 rfl) rfl) (xg_ne xg_eq rfl) xg_eq j
-- rX1_init
def WCe_init  (q0 : Nat) (m : Mm) (K : Mm → Prop) : Prop := ∀ m1, m1 = m.nw (eV (.inr (4, xDf 4 3))) 0 → WNu_init (m.nx) 24 m1 (fun m7 => ∀ m11, m11 = m7.st q0 9 (.ref ((m.nx) + 1)) → K m11)
set_option maxRecDepth 100000 in
set_option maxHeartbeats 4000000 in
theorem kCe_init {ks : List Nat} {h : List xE} (hT : TT ks h) {q0 : Nat} (o0 : xnth ks q0 = some 11)  {K : Mm → Prop} (j : WCe_init  q0 (mm h) K) : yM 5 (2) 753 [.ref (q0 + 1)] h (PVa ks K) := by
  unfold WCe_init at j
  refine yM.st xM_5 rfl rfl (fun lv g => ?_)
  have g0 := g 0 _ rfl
  refine yT.aan (pc' := 1) g0 rfl rfl rfl ?_
  refine yT.obj (pc' := 4) rfl rfl (by decide) rfl ?_
  refine yT.aan (pc' := 5) g0 rfl rfl rfl ?_
  refine yT.nO (G2 := 750) (n := 3) (pc' := 8) rfl rfl rfl rfl (by decide) hT rfl (fun h1 ks5 kg4 hT2 o6 e3 => ?_)
  replace j := j _ e3
  refine yT.p (pc' := 9) rfl rfl (fun _ _ _ _ => rfl) ?_
  refine yT.zb (pc' := 11) (z := 24) rfl rfl (by decide) ?_
  refine zVa (yT.cw (G2 := 0) (pc' := 14) rfl rfl rfl hT2 o6 xM_40 (kNu_init hT2 o6 24 j) rfl (by decide) (by decide) rfl) (fun h7 ks9 kg10 hT8 j => ?_)
  refine yT.sR (pc' := 17) rfl rfl hT8 (kg10.up (kg4.up o0)) rfl rfl rfl (Or.inr ⟨_, rfl, (kg10.up o6)⟩) (fun h11 hT12 e13 => ?_)
  replace j := j _ e13
  exact yT.retV rfl rfl ⟨rfl, _, (kg4.tr kg10), hT12, j⟩
-- rX1_become
def WCe_become  (q0 : Nat) (x1 : Int32) (x2 : Int32) (x3 : Int64) (r5 : Nat) (m : Mm) (K : Mm → Prop) : Prop := (r5 = 0 → ∀ m1, m1 = m.st q0 0 (.int x1) → ∀ m4, m4 = m1.st q0 1 (.int x2) → ∀ m7, m7 = m4.st q0 2 (.int 0) → ∀ m10, m10 = m7.st q0 3 (.int 0) → ∀ m13, m13 = m10.st q0 4 (.int 0) → ∀ m16, m16 = m13.st q0 5 (.long 0) → ∀ m19, m19 = m16.st q0 6 (.int 0) → ∀ m22, m22 = m19.st q0 7 (.long x3) → ∀ m25, m25 = m22.st q0 8 (.null) → ∃ p28, m25.rv q0 9 = p28 + 1 ∧ WNu_clear p28 m25 (fun m31 => K m31)) ∧ (∀ q5, r5 = q5 + 1 → ∀ m33, m33 = m.st q0 0 (.int x1) → ∀ m36, m36 = m33.st q0 1 (.int x2) → ∀ m39, m39 = m36.st q0 2 (.int 0) → ∀ m42, m42 = m39.st q0 3 (.int 0) → ∀ m45, m45 = m42.st q0 4 (.int 2) → ∀ m48, m48 = m45.st q0 5 (.long 0) → ∀ m51, m51 = m48.st q0 6 (.int 0) → ∀ m54, m54 = m51.st q0 7 (.long x3) → ∀ m57, m57 = m54.st q0 8 (.ref (q5 + 1)) → ∃ p60, m57.rv q0 9 = p60 + 1 ∧ WNu_clear p60 m57 (fun m63 => K m63))
set_option maxRecDepth 100000 in
set_option maxHeartbeats 4000000 in
theorem kCe_become {ks : List Nat} {h : List xE} (hT : TT ks h) {q0 : Nat} (o0 : xnth ks q0 = some 11) (x1 : Int32) (x2 : Int32) (x3 : Int64) {r5 : Nat} {v5 : Value} (o5 : (r5 = 0 ∧ v5 = .null) ∨ ∃ p, r5 = p + 1 ∧ v5 = .ref (p + 1) ∧ xnth ks p = some 12)  {K : Mm → Prop} (j : WCe_become  q0 x1 x2 x3 r5 (mm h) K) : yM 6 (1) 0 [.ref (q0 + 1), .int x1, .int x2, .long x3, v5] h (PV ks K) := by
  unfold WCe_become at j
  rcases o5 with ⟨rz5, rfl⟩ | ⟨q5, rz5, rfl, o5⟩
  · replace j := j.1 rz5
    refine yM.st xM_6 rfl rfl (fun lv g => ?_)
    have g0 := g 0 _ rfl
    have g1 := g 1 _ rfl
    have g2 := g 2 _ rfl
    have g3 := g 3 _ rfl
    have g5 := g 5 _ rfl
    refine yT.aan (pc' := 1) g0 rfl rfl rfl ?_
    refine yT.iln (pc' := 2) g1 rfl rfl ?_
    refine yT.sI (pc' := 5) rfl rfl hT o0 rfl rfl (fun h1 hT2 e3 => ?_)
    replace j := j _ e3
    refine yT.aan (pc' := 6) g0 rfl rfl rfl ?_
    refine yT.iln (pc' := 7) g2 rfl rfl ?_
    refine yT.sI (pc' := 10) rfl rfl hT2 o0 rfl rfl (fun h4 hT5 e6 => ?_)
    replace j := j _ e6
    refine yT.aan (pc' := 11) g0 rfl rfl rfl ?_
    refine yT.zk (pc' := 12) (z := 0) rfl rfl (by decide) ?_
    refine yT.sZ (pc' := 15) rfl rfl hT5 o0 rfl rfl (Or.inl rfl) (fun h7 hT8 e9 => ?_)
    replace j := j _ e9
    refine yT.aan (pc' := 16) g0 rfl rfl rfl ?_
    refine yT.zk (pc' := 17) (z := 0) rfl rfl (by decide) ?_
    refine yT.sZ (pc' := 20) rfl rfl hT8 o0 rfl rfl (Or.inl rfl) (fun h10 hT11 e12 => ?_)
    replace j := j _ e12
    refine yT.aan (pc' := 21) g0 rfl rfl rfl ?_
    refine yT.aa_ (pc' := 23) g5 rfl rfl rfl ?_
    refine yT.p (pc' := 26) rfl rfl (fun _ _ _ _ => rfl) ?_
    refine yT.zk (pc' := 27) (z := 0) rfl rfl (by decide) ?_
    refine yT.p (pc' := 31) rfl rfl (fun _ _ _ _ => rfl) ?_
    refine yT.sI (pc' := 34) rfl rfl hT11 o0 rfl rfl (fun h13 hT14 e15 => ?_)
    replace j := j _ e15
    refine yT.aan (pc' := 35) g0 rfl rfl rfl ?_
    refine yT.zl (pc' := 36) (z := 0) rfl rfl (by decide) ?_
    refine yT.sL (pc' := 39) rfl rfl hT14 o0 rfl rfl (fun h16 hT17 e18 => ?_)
    replace j := j _ e18
    refine yT.aan (pc' := 40) g0 rfl rfl rfl ?_
    refine yT.zk (pc' := 41) (z := 0) rfl rfl (by decide) ?_
    refine yT.sI (pc' := 44) rfl rfl hT17 o0 rfl rfl (fun h19 hT20 e21 => ?_)
    replace j := j _ e21
    refine yT.aan (pc' := 45) g0 rfl rfl rfl ?_
    refine yT.lln (pc' := 46) g3 rfl rfl ?_
    refine yT.sL (pc' := 49) rfl rfl hT20 o0 rfl rfl (fun h22 hT23 e24 => ?_)
    replace j := j _ e24
    refine yT.aan (pc' := 50) g0 rfl rfl rfl ?_
    refine yT.aa_ (pc' := 52) g5 rfl rfl rfl ?_
    refine yT.sR (pc' := 55) rfl rfl hT23 o0 rfl rfl rfl (Or.inl rfl) (fun h25 hT26 e27 => ?_)
    replace j := j _ e27
    refine yT.aan (pc' := 56) g0 rfl rfl rfl ?_
    obtain ⟨p28, w29, j⟩ := j
    refine yT.gR (pc' := 59) rfl rfl hT26 o0 rfl rfl w29 (fun o30 => ?_)
    refine zV (yT.cw (G2 := 0) (pc' := 62) rfl rfl rfl hT26 o30 xM_52 (kNu_clear hT26 o30 j) rfl (by decide) (by decide) rfl) (fun h31 hT32 j => ?_)
    exact yT.retV rfl rfl ⟨rfl, hT32, j⟩
  · replace j := j.2 q5 rz5
    refine yM.st xM_6 rfl rfl (fun lv g => ?_)
    have g0 := g 0 _ rfl
    have g1 := g 1 _ rfl
    have g2 := g 2 _ rfl
    have g3 := g 3 _ rfl
    have g5 := g 5 _ rfl
    refine yT.aan (pc' := 1) g0 rfl rfl rfl ?_
    refine yT.iln (pc' := 2) g1 rfl rfl ?_
    refine yT.sI (pc' := 5) rfl rfl hT o0 rfl rfl (fun h33 hT34 e35 => ?_)
    replace j := j _ e35
    refine yT.aan (pc' := 6) g0 rfl rfl rfl ?_
    refine yT.iln (pc' := 7) g2 rfl rfl ?_
    refine yT.sI (pc' := 10) rfl rfl hT34 o0 rfl rfl (fun h36 hT37 e38 => ?_)
    replace j := j _ e38
    refine yT.aan (pc' := 11) g0 rfl rfl rfl ?_
    refine yT.zk (pc' := 12) (z := 0) rfl rfl (by decide) ?_
    refine yT.sZ (pc' := 15) rfl rfl hT37 o0 rfl rfl (Or.inl rfl) (fun h39 hT40 e41 => ?_)
    replace j := j _ e41
    refine yT.aan (pc' := 16) g0 rfl rfl rfl ?_
    refine yT.zk (pc' := 17) (z := 0) rfl rfl (by decide) ?_
    refine yT.sZ (pc' := 20) rfl rfl hT40 o0 rfl rfl (Or.inl rfl) (fun h42 hT43 e44 => ?_)
    replace j := j _ e44
    refine yT.aan (pc' := 21) g0 rfl rfl rfl ?_
    refine yT.aa_ (pc' := 23) g5 rfl rfl rfl ?_
    refine yT.p (pc' := 30) rfl rfl (fun _ _ _ _ => rfl) ?_
    refine yT.zk (pc' := 31) (z := 2) rfl rfl (by decide) ?_
    refine yT.sI (pc' := 34) rfl rfl hT43 o0 rfl rfl (fun h45 hT46 e47 => ?_)
    replace j := j _ e47
    refine yT.aan (pc' := 35) g0 rfl rfl rfl ?_
    refine yT.zl (pc' := 36) (z := 0) rfl rfl (by decide) ?_
    refine yT.sL (pc' := 39) rfl rfl hT46 o0 rfl rfl (fun h48 hT49 e50 => ?_)
    replace j := j _ e50
    refine yT.aan (pc' := 40) g0 rfl rfl rfl ?_
    refine yT.zk (pc' := 41) (z := 0) rfl rfl (by decide) ?_
    refine yT.sI (pc' := 44) rfl rfl hT49 o0 rfl rfl (fun h51 hT52 e53 => ?_)
    replace j := j _ e53
    refine yT.aan (pc' := 45) g0 rfl rfl rfl ?_
    refine yT.lln (pc' := 46) g3 rfl rfl ?_
    refine yT.sL (pc' := 49) rfl rfl hT52 o0 rfl rfl (fun h54 hT55 e56 => ?_)
    replace j := j _ e56
    refine yT.aan (pc' := 50) g0 rfl rfl rfl ?_
    refine yT.aa_ (pc' := 52) g5 rfl rfl rfl ?_
    refine yT.sR (pc' := 55) rfl rfl hT55 o0 rfl rfl rfl (Or.inr ⟨_, rfl, o5⟩) (fun h57 hT58 e59 => ?_)
    replace j := j _ e59
    refine yT.aan (pc' := 56) g0 rfl rfl rfl ?_
    obtain ⟨p60, w61, j⟩ := j
    refine yT.gR (pc' := 59) rfl rfl hT58 o0 rfl rfl w61 (fun o62 => ?_)
    refine zV (yT.cw (G2 := 0) (pc' := 62) rfl rfl rfl hT58 o62 xM_52 (kNu_clear hT58 o62 j) rfl (by decide) (by decide) rfl) (fun h63 hT64 j => ?_)
    exact yT.retV rfl rfl ⟨rfl, hT64, j⟩
-- rX1_isReadable
def WCe_isReadable  (q0 : Nat) (m : Mm) (K : Mm → Int32 → Prop) : Prop := (m.iv q0 2 = 0 ∨ m.iv q0 2 = 1) → (((m.iv q0 2) = 0) → (((m.iv q0 0) = 1) → K m 1) ∧ (¬ ((m.iv q0 0) = 1) → (((m.iv q0 0) = 3) → K m 1) ∧ (¬ ((m.iv q0 0) = 3) → K m 0))) ∧ (¬ ((m.iv q0 2) = 0) → K m 0)
set_option maxRecDepth 100000 in
set_option maxHeartbeats 4000000 in
theorem kCe_isReadable {ks : List Nat} {h : List xE} (hT : TT ks h) {q0 : Nat} (o0 : xnth ks q0 = some 11)  {K : Mm → Int32 → Prop} (j : WCe_isReadable  q0 (mm h) K) : yM 7 (0) 0 [.ref (q0 + 1)] h (PZ ks K) := by
  unfold WCe_isReadable at j
  refine yM.st xM_7 rfl rfl (fun lv g => ?_)
  have g0 := g 0 _ rfl
  refine yT.aan (pc' := 1) g0 rfl rfl rfl ?_
  refine yT.gZ (pc' := 4) rfl rfl hT o0 rfl (fun b1 => ?_)
  replace j := j b1
  refine yT.zne1 (t := 27) (pc' := 7) rfl rfl rfl (fun c2 => ?_) (fun c2 => ?_)
  · replace j := j.1 c2
    refine yT.aan (pc' := 8) g0 rfl rfl rfl ?_
    refine yT.gI (pc' := 11) rfl rfl hT o0 rfl ?_
    refine yT.zk (pc' := 12) (z := 1) rfl rfl (by decide) ?_
    refine yT.zeq2 (t := 23) (pc' := 15) rfl rfl rfl (fun c3 => ?_) (fun c3 => ?_)
    · replace j := j.1 c3
      refine yT.zk (pc' := 24) (z := 1) rfl rfl (by decide) ?_
      refine yT.p (pc' := 28) rfl rfl (fun _ _ _ _ => rfl) ?_
      exact yT.retZ rfl rfl (Or.inr rfl) ⟨_, rfl, hT, (Or.inr rfl), j⟩
    · replace j := j.2 c3
      refine yT.aan (pc' := 16) g0 rfl rfl rfl ?_
      refine yT.gI (pc' := 19) rfl rfl hT o0 rfl ?_
      refine yT.zk (pc' := 20) (z := 3) rfl rfl (by decide) ?_
      refine yT.zne2 (t := 27) (pc' := 23) rfl rfl rfl (fun c4 => ?_) (fun c4 => ?_)
      · replace j := j.1 c4
        refine yT.zk (pc' := 24) (z := 1) rfl rfl (by decide) ?_
        refine yT.p (pc' := 28) rfl rfl (fun _ _ _ _ => rfl) ?_
        exact yT.retZ rfl rfl (Or.inr rfl) ⟨_, rfl, hT, (Or.inr rfl), j⟩
      · replace j := j.2 c4
        refine yT.zk (pc' := 28) (z := 0) rfl rfl (by decide) ?_
        exact yT.retZ rfl rfl (Or.inl rfl) ⟨_, rfl, hT, (Or.inl rfl), j⟩
  · replace j := j.2 c2
    refine yT.zk (pc' := 28) (z := 0) rfl rfl (by decide) ?_
    exact yT.retZ rfl rfl (Or.inl rfl) ⟨_, rfl, hT, (Or.inl rfl), j⟩
