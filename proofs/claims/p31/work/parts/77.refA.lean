-- rX9_computed
set_option maxRecDepth 100000 in
set_option maxHeartbeats 4000000 in
theorem r230 {ks : List cT} {B0 : Nat} (K : KE KS0 ks B0) {σ : sg} {ρ : Nat → xE} {h : List xE} (hT : HT ks σ ρ h) (x1 : Int32) (x2 : Int32) {k : Nat} (p0 : RI k σ) (p1 : k ≤ 512) (p2 : x1.toInt = 3 ∨ x1.toInt = 4) : yM 230 (1572) 0 [.ref (60 + 1), .int x1, .int x2] h (RQI ks ρ (fun σ' r => S1 k σ σ' ∧ fl σ' 12 = 0)) := by
  refine yM.st xM_230 rfl rfl (fun lv g => ?_)
  have g0 := g 0 _ rfl
  have g1 := g 1 _ rfl
  have g2 := g 2 _ rfl
  have hRO := p0.1.1.1
  have hcm := hRO.1
  have hG := p0.1.2.2.1
  have hL := p0.1.2.1
  have hB := p0.1.2.2.2.1
  obtain ⟨m, hm, hm2⟩ := f12 K hT
  refine yT.aan (pc' := 1) g0 rfl rfl rfl ?_
  refine yT.iln (pc' := 2) g2 rfl rfl ?_
  refine kSI (yT.cc (G2 := 0) (pc' := 5) rfl rfl rfl hT (K.up rfl : xnth ks 60 = some (19, 0)) xM_224 (r224  K hT x2 hRO) rfl (by omega) (by decide) rfl) (fun h101 x104 hT102 E103 => ?_)
  have ho := E103.2
  refine yT.if1 (t := 20) (pc' := 8) rfl rfl rfl (c1_ne rfl) (fun c105 => ?_) (fun c105 => ?_)
  · have ho := ho (by omega)
    refine yT.aan (pc' := 21) g0 rfl rfl rfl ?_
    refine kRI (yT.cc (G2 := 0) (pc' := 24) rfl rfl rfl hT102 (K.up rfl : xnth ks 60 = some (19, 0)) xM_202 (r202  K hT102 hcm) rfl (by omega) (by decide) rfl) (fun h106 σ110 x109 hT107 E108 => ?_)
    have hF := E108
    have hF1 := S1.frd p0 hF
    have hfr := hF.2.2.2.2.1
    have h61 := hF.1 61 (by decide)
    have hRO1 := hF1.1.1.1.1.1
    have hcm1 := hRO1.1
    have e68 := nw_e (i := 6768) h61
    refine yT.p (pc' := 25) (lv' := xst1 _ 3 (.int x109)) rfl rfl (fun _ _ _ _ => rfl) ?_
    refine yT.iln (pc' := 26) xg_eq rfl rfl ?_
    refine yT.if1 (t := 35) (pc' := 29) rfl rfl rfl (c1_lt rfl) (fun c111 => ?_) (fun c111 => ?_)
    · refine yT.aan (pc' := 36) (xg_ne g0 rfl) rfl rfl rfl ?_
      refine yT.cg8 (pc' := 39) rfl rfl hT107 (K.up rfl) rfl rfl (fun _ => ?_)
      refine yT.ks (pc' := 42) rfl rfl (by decide) (fun x112 e113 => ?_)
      refine yT.tia (6768) (pc' := 43) rfl rfl hT107 (K.up rfl) e113 (by omega) (fun x114 z116 => ?_)
      have e115 : x114.toInt = nw σ110 (6768) := congrArg Int32.toInt z116
      refine yT.kb (pc' := 45) rfl rfl (by decide) (fun x117 e118 => ?_)
      refine yT.if2 (t := 55) (pc' := 48) rfl rfl rfl (c2_ne e115 e118) (fun c119 => ?_) (fun c119 => ?_)
      · refine yT.aan (pc' := 56) (xg_ne g0 rfl) rfl rfl rfl ?_
        refine yT.iln (pc' := 57) (xg_ne g1 rfl) rfl rfl ?_
        refine yT.iln (pc' := 58) (xg_ne g2 rfl) rfl rfl ?_
        refine kRI (yT.cc (G2 := 0) (pc' := 61) rfl rfl rfl hT107 (K.up rfl : xnth ks 60 = some (19, 0)) xM_225 (r225  K hT107 x1 x2 hRO1 (by omega)) rfl (by omega) (by decide) rfl) (fun h120 σ124 x123 hT121 E122 => ?_)
        have hMD := E122
        have hr := hMD.1
        have h23 : fl σ124 23 = (m : Int) := (fl_eq (hMD.2.1 60 (by decide))).trans (hF.2.2.2.1.trans hm)
        refine yT.p (pc' := 63) (lv' := xst1 _ 4 (.int x123)) rfl rfl (fun _ _ _ _ => rfl) ?_
        refine yT.aan (pc' := 64) (xg_ne (xg_ne g0 rfl) rfl) rfl rfl rfl ?_
        refine yT.il (pc' := 66) xg_eq rfl rfl ?_
        refine kRV (yT.cc (G2 := 0) (pc' := 69) rfl rfl rfl hT121 (K.up rfl : xnth ks 60 = some (19, 0)) xM_203 (r203 (c := (x123.toInt).toNat) K hT121 (by omega) (by omega) h23 (by omega)) rfl (by omega) (by decide) rfl) (fun h125 σ129 hT126 E127 => ?_)
        have hTK := E127
        rw [hr] at hTK
        have hN := RX.new p0 hF (by omega) hm hm2 (by omega) hMD.2 (by omega) (by omega) hTK
        have hNk := hN.2.2
        obtain ⟨f0, f1, f2, f3, f4, f5, f6⟩ := RX.flu hN.1.1 (by omega) (by omega)
        have hEF : EF 0 σ129 σ129 := EF.rf f0 f6.1 (by decide)
        refine yT.iln (pc' := 70) (xg_ne (xg_ne g1 rfl) rfl) rfl rfl ?_
        refine yT.kI (pc' := 71) rfl rfl (by decide) (fun x130 e131 => ?_)
        refine yT.if2 (t := 85) (pc' := 74) rfl rfl rfl (c2_ne rfl e131) (fun c132 => ?_) (fun c132 => ?_)
        · refine yT.il (pc' := 87) xg_eq rfl rfl ?_
          exact yT.retI rfl rfl ⟨_, hT126, _, rfl, (S1.fin ⟨hN.1, hN.2.1⟩ hEF (by omega))⟩
        · refine yT.aan (pc' := 75) (xg_ne (xg_ne g0 rfl) rfl) rfl rfl rfl ?_
          refine yT.il (pc' := 77) xg_eq rfl rfl ?_
          refine yT.kI (pc' := 78) rfl rfl (by decide) (fun x133 e134 => ?_)
          refine kRV (yT.cc (G2 := 0) (pc' := 81) rfl rfl rfl hT126 (K.up rfl : xnth ks 60 = some (19, 0)) xM_185 (r185 (c := (x123.toInt).toNat) K hT126 (by omega) (by omega) (by omega) f0.2.1) rfl (by omega) (by decide) rfl) (fun h135 σ139 hT136 E137 => ?_)
          have hEF := hEF.qs E137
          obtain ⟨f0, f1, f2, f3, f4, f5, f6⟩ := (RX.ef hN.1.1 hEF).flu (by omega) (by omega)
          refine yT.aan (pc' := 82) (xg_ne (xg_ne g0 rfl) rfl) rfl rfl rfl ?_
          refine kRV (yT.cc (G2 := 0) (pc' := 85) rfl rfl rfl hT136 (K.up rfl : xnth ks 60 = some (19, 0)) xM_191 (r191  K hT136 f0 f1 f2 f3 f4 f5 f6) rfl (by omega) (by decide) rfl) (fun h140 σ144 hT141 E142 => ?_)
          have hEF := hEF.tr E142
          refine yT.il (pc' := 87) xg_eq rfl rfl ?_
          exact yT.retI rfl rfl ⟨_, hT141, _, rfl, (S1.fin ⟨hN.1, hN.2.1⟩ hEF (by omega))⟩
      · refine yT.aan (pc' := 49) (xg_ne g0 rfl) rfl rfl rfl ?_
        refine yT.kb (pc' := 51) rfl rfl (by decide) (fun x145 e146 => ?_)
        refine kSI (yT.cc (G2 := 0) (pc' := 54) rfl rfl rfl hT107 (K.up rfl : xnth ks 60 = some (19, 0)) xM_164 (r164  K hT107 x145 (by omega)) rfl (by omega) (by decide) rfl) (fun h147 x150 hT148 E149 => ?_)
        exact yT.retI rfl rfl ⟨_, hT148, _, rfl, hF1⟩
    · refine yT.aan (pc' := 30) (xg_ne g0 rfl) rfl rfl rfl ?_
      refine yT.iln (pc' := 31) xg_eq rfl rfl ?_
      refine kSI (yT.cc (G2 := 0) (pc' := 34) rfl rfl rfl hT107 (K.up rfl : xnth ks 60 = some (19, 0)) xM_229 (r229  K hT107 x109) rfl (by omega) (by decide) rfl) (fun h151 x154 hT152 E153 => ?_)
      exact yT.retI rfl rfl ⟨_, hT152, _, rfl, hF1⟩
  · refine yT.aan (pc' := 9) g0 rfl rfl rfl ?_
    refine yT.kI (pc' := 10) rfl rfl (by decide) (fun x155 e156 => ?_)
    refine yT.cpX (c := x155) (pc' := 13) rfl rfl hT102 (K.up rfl) rfl rfl rfl e156 (by omega) rfl (fun h157 hT158 _ _ => ?_)
    have f159 : fl (us σ 60 12 x155) 12 = 0 := fl_at.trans e156
    refine yT.aan (pc' := 14) g0 rfl rfl rfl ?_
    refine yT.kb (pc' := 16) rfl rfl (by decide) (fun x160 e161 => ?_)
    refine kSI (yT.cc (G2 := 0) (pc' := 19) rfl rfl rfl hT158 (K.up rfl : xnth ks 60 = some (19, 0)) xM_164 (r164  K hT158 x160 (by omega)) rfl (by omega) (by decide) rfl) (fun h162 x165 hT163 E164 => ?_)
    exact yT.retI rfl rfl ⟨_, hT163, _, rfl, (S1.wipe p0 (by omega))⟩
-- rX9_memo
set_option maxRecDepth 100000 in
set_option maxHeartbeats 4000000 in
theorem r231 {ks : List cT} {B0 : Nat} (K : KE KS0 ks B0) {σ : sg} {ρ : Nat → xE} {h : List xE} (hT : HT ks σ ρ h) (x1 : Int32) {k : Nat} (p0 : RI k σ) (p1 : k ≤ 512) : yM 231 (1573) 0 [.ref (60 + 1), .int x1] h (RQI ks ρ (fun σ' r => S1 k σ σ' ∧ fl σ' 12 = 0)) := by
  refine yM.st xM_231 rfl rfl (fun lv g => ?_)
  have g0 := g 0 _ rfl
  have g1 := g 1 _ rfl
  refine yT.aan (pc' := 1) g0 rfl rfl rfl ?_
  refine yT.kI (pc' := 2) rfl rfl (by decide) (fun x101 e102 => ?_)
  refine yT.iln (pc' := 3) g1 rfl rfl ?_
  refine kRI (yT.cc (G2 := 0) (pc' := 6) rfl rfl rfl hT (K.up rfl : xnth ks 60 = some (19, 0)) xM_230 (r230  K hT x101 x1 p0 (by omega) (by omega)) rfl (by omega) (by decide) rfl) (fun h103 σ107 x106 hT104 E105 => ?_)
  exact yT.retI rfl rfl ⟨_, hT104, _, rfl, E105⟩
-- rX9_effect
set_option maxRecDepth 100000 in
set_option maxHeartbeats 4000000 in
theorem r232 {ks : List cT} {B0 : Nat} (K : KE KS0 ks B0) {σ : sg} {ρ : Nat → xE} {h : List xE} (hT : HT ks σ ρ h) (x1 : Int32) {k : Nat} (p0 : RI k σ) (p1 : k ≤ 512) : yM 232 (1573) 0 [.ref (60 + 1), .int x1] h (RQI ks ρ (fun σ' r => S1 k σ σ' ∧ fl σ' 12 = 0)) := by
  refine yM.st xM_232 rfl rfl (fun lv g => ?_)
  have g0 := g 0 _ rfl
  have g1 := g 1 _ rfl
  refine yT.aan (pc' := 1) g0 rfl rfl rfl ?_
  refine yT.kI (pc' := 2) rfl rfl (by decide) (fun x101 e102 => ?_)
  refine yT.iln (pc' := 3) g1 rfl rfl ?_
  refine kRI (yT.cc (G2 := 0) (pc' := 6) rfl rfl rfl hT (K.up rfl : xnth ks 60 = some (19, 0)) xM_230 (r230  K hT x101 x1 p0 (by omega) (by omega)) rfl (by omega) (by decide) rfl) (fun h103 σ107 x106 hT104 E105 => ?_)
  exact yT.retI rfl rfl ⟨_, hT104, _, rfl, E105⟩
-- rX9_reform
set_option maxRecDepth 100000 in
set_option maxHeartbeats 4000000 in
theorem r233 {ks : List cT} {B0 : Nat} (K : KE KS0 ks B0) {σ : sg} {ρ : Nat → xE} {h : List xE} (hT : HT ks σ ρ h) (x1 : Int32) {k : Nat} (p0 : RI k σ) (p1 : k ≤ 512) : yM 233 (1572) 0 [.ref (60 + 1), .int x1] h (RQI ks ρ (fun σ' r => S1 k σ σ' ∧ fl σ' 12 = 0)) := by
  refine yM.st xM_233 rfl rfl (fun lv g => ?_)
  have g0 := g 0 _ rfl
  have g1 := g 1 _ rfl
  have hRO := p0.1.1.1
  have hcm := hRO.1
  have hG := p0.1.2.2.1
  have hL := p0.1.2.1
  have hB := p0.1.2.2.2.1
  obtain ⟨m, hm, hm2⟩ := f12 K hT
  refine yT.aan (pc' := 1) g0 rfl rfl rfl ?_
  refine yT.iln (pc' := 2) g1 rfl rfl ?_
  refine kSI (yT.cc (G2 := 0) (pc' := 5) rfl rfl rfl hT (K.up rfl : xnth ks 60 = some (19, 0)) xM_168 (r168  K hT x1 (by omega)) rfl (by omega) (by decide) rfl) (fun h101 x104 hT102 E103 => ?_)
  refine yT.if1 (t := 26) (pc' := 8) rfl rfl rfl (c1_eq rfl) (fun c105 => ?_) (fun c105 => ?_)
  · refine yT.aan (pc' := 27) g0 rfl rfl rfl ?_
    refine yT.kI (pc' := 28) rfl rfl (by decide) (fun x106 e107 => ?_)
    refine yT.cpX (c := x106) (pc' := 31) rfl rfl hT102 (K.up rfl) rfl rfl rfl e107 (by omega) rfl (fun h108 hT109 _ _ => ?_)
    have f110 : fl (us σ 60 12 x106) 12 = 0 := fl_at.trans e107
    have hcm2 : nw (us σ 60 12 x106) 6768 = nw σ 6768 := nw_o (by decide)
    refine yT.aan (pc' := 32) g0 rfl rfl rfl ?_
    refine yT.aan (pc' := 33) g0 rfl rfl rfl ?_
    refine yT.iln (pc' := 34) g1 rfl rfl ?_
    refine kSI (yT.cc (G2 := 0) (pc' := 37) rfl rfl rfl hT109 (K.up rfl : xnth ks 60 = some (19, 0)) xM_168 (r168  K hT109 x1 (by rw [nw_o (by decide)]; exact hcm)) rfl (by omega) (by decide) rfl) (fun h111 x114 hT112 E113 => ?_)
    refine yT.if1 (t := 53) (pc' := 40) rfl rfl rfl (c1_eq rfl) (fun c115 => ?_) (fun c115 => ?_)
    · refine yT.kb (pc' := 55) rfl rfl (by decide) (fun x116 e117 => ?_)
      refine kSI (yT.cc (G2 := 0) (pc' := 58) rfl rfl rfl hT112 (K.up rfl : xnth ks 60 = some (19, 0)) xM_164 (r164  K hT112 x116 (by omega)) rfl (by omega) (by decide) rfl) (fun h118 x121 hT119 E120 => ?_)
      exact yT.retI rfl rfl ⟨_, hT119, _, rfl, (S1.wipe p0 (by omega))⟩
    · refine yT.aan (pc' := 41) g0 rfl rfl rfl ?_
      refine yT.iln (pc' := 42) g1 rfl rfl ?_
      refine kSI (yT.cc (G2 := 0) (pc' := 45) rfl rfl rfl hT112 (K.up rfl : xnth ks 60 = some (19, 0)) xM_169 (r169 (c := (x1.toInt).toNat) K hT112 (by omega) (by omega)) rfl (by omega) (by decide) rfl) (fun h122 x125 hT123 E124 => ?_)
      refine yT.if1 (t := 53) (pc' := 48) rfl rfl rfl (c1_eq rfl) (fun c126 => ?_) (fun c126 => ?_)
      · refine yT.kb (pc' := 55) rfl rfl (by decide) (fun x127 e128 => ?_)
        refine kSI (yT.cc (G2 := 0) (pc' := 58) rfl rfl rfl hT123 (K.up rfl : xnth ks 60 = some (19, 0)) xM_164 (r164  K hT123 x127 (by omega)) rfl (by omega) (by decide) rfl) (fun h129 x132 hT130 E131 => ?_)
        exact yT.retI rfl rfl ⟨_, hT130, _, rfl, (S1.wipe p0 (by omega))⟩
      · refine yT.kb (pc' := 50) rfl rfl (by decide) (fun x133 e134 => ?_)
        refine yT.p (pc' := 55) rfl rfl (fun _ _ _ _ => rfl) ?_
        refine kSI (yT.cc (G2 := 0) (pc' := 58) rfl rfl rfl hT123 (K.up rfl : xnth ks 60 = some (19, 0)) xM_164 (r164  K hT123 x133 (by omega)) rfl (by omega) (by decide) rfl) (fun h135 x138 hT136 E137 => ?_)
        exact yT.retI rfl rfl ⟨_, hT136, _, rfl, (S1.wipe p0 (by omega))⟩
  · refine yT.aan (pc' := 9) g0 rfl rfl rfl ?_
    refine yT.iln (pc' := 10) g1 rfl rfl ?_
    refine kSI (yT.cc (G2 := 0) (pc' := 13) rfl rfl rfl hT102 (K.up rfl : xnth ks 60 = some (19, 0)) xM_169 (r169 (c := (x1.toInt).toNat) K hT102 (by omega) (by omega)) rfl (by omega) (by decide) rfl) (fun h139 x142 hT140 E141 => ?_)
    refine yT.if1 (t := 26) (pc' := 16) rfl rfl rfl (c1_eq rfl) (fun c143 => ?_) (fun c143 => ?_)
    · refine yT.aan (pc' := 27) g0 rfl rfl rfl ?_
      refine yT.kI (pc' := 28) rfl rfl (by decide) (fun x144 e145 => ?_)
      refine yT.cpX (c := x144) (pc' := 31) rfl rfl hT140 (K.up rfl) rfl rfl rfl e145 (by omega) rfl (fun h146 hT147 _ _ => ?_)
      have f148 : fl (us σ 60 12 x144) 12 = 0 := fl_at.trans e145
      have hcm2 : nw (us σ 60 12 x144) 6768 = nw σ 6768 := nw_o (by decide)
      refine yT.aan (pc' := 32) g0 rfl rfl rfl ?_
      refine yT.aan (pc' := 33) g0 rfl rfl rfl ?_
      refine yT.iln (pc' := 34) g1 rfl rfl ?_
      refine kSI (yT.cc (G2 := 0) (pc' := 37) rfl rfl rfl hT147 (K.up rfl : xnth ks 60 = some (19, 0)) xM_168 (r168  K hT147 x1 (by rw [nw_o (by decide)]; exact hcm)) rfl (by omega) (by decide) rfl) (fun h149 x152 hT150 E151 => ?_)
      refine yT.if1 (t := 53) (pc' := 40) rfl rfl rfl (c1_eq rfl) (fun c153 => ?_) (fun c153 => ?_)
      · refine yT.kb (pc' := 55) rfl rfl (by decide) (fun x154 e155 => ?_)
        refine kSI (yT.cc (G2 := 0) (pc' := 58) rfl rfl rfl hT150 (K.up rfl : xnth ks 60 = some (19, 0)) xM_164 (r164  K hT150 x154 (by omega)) rfl (by omega) (by decide) rfl) (fun h156 x159 hT157 E158 => ?_)
        exact yT.retI rfl rfl ⟨_, hT157, _, rfl, (S1.wipe p0 (by omega))⟩
      · refine yT.aan (pc' := 41) g0 rfl rfl rfl ?_
        refine yT.iln (pc' := 42) g1 rfl rfl ?_
        refine kSI (yT.cc (G2 := 0) (pc' := 45) rfl rfl rfl hT150 (K.up rfl : xnth ks 60 = some (19, 0)) xM_169 (r169 (c := (x1.toInt).toNat) K hT150 (by omega) (by omega)) rfl (by omega) (by decide) rfl) (fun h160 x163 hT161 E162 => ?_)
        refine yT.if1 (t := 53) (pc' := 48) rfl rfl rfl (c1_eq rfl) (fun c164 => ?_) (fun c164 => ?_)
        · refine yT.kb (pc' := 55) rfl rfl (by decide) (fun x165 e166 => ?_)
          refine kSI (yT.cc (G2 := 0) (pc' := 58) rfl rfl rfl hT161 (K.up rfl : xnth ks 60 = some (19, 0)) xM_164 (r164  K hT161 x165 (by omega)) rfl (by omega) (by decide) rfl) (fun h167 x170 hT168 E169 => ?_)
          exact yT.retI rfl rfl ⟨_, hT168, _, rfl, (S1.wipe p0 (by omega))⟩
        · refine yT.kb (pc' := 50) rfl rfl (by decide) (fun x171 e172 => ?_)
          refine yT.p (pc' := 55) rfl rfl (fun _ _ _ _ => rfl) ?_
          refine kSI (yT.cc (G2 := 0) (pc' := 58) rfl rfl rfl hT161 (K.up rfl : xnth ks 60 = some (19, 0)) xM_164 (r164  K hT161 x171 (by omega)) rfl (by omega) (by decide) rfl) (fun h173 x176 hT174 E175 => ?_)
          exact yT.retI rfl rfl ⟨_, hT174, _, rfl, (S1.wipe p0 (by omega))⟩
    · refine yT.aan (pc' := 17) g0 rfl rfl rfl ?_
      refine yT.iln (pc' := 18) g1 rfl rfl ?_
      refine yT.kI (pc' := 19) rfl rfl (by decide) (fun x177 e178 => ?_)
      refine kSI (yT.cc (G2 := 0) (pc' := 22) rfl rfl rfl hT140 (K.up rfl : xnth ks 60 = some (19, 0)) xM_166 (r166 (c := (x1.toInt).toNat) (w := 2) K hT140 (by omega) (by omega) (by omega)) rfl (by omega) (by decide) rfl) (fun h179 x182 hT180 E181 => ?_)
      refine yT.kI (pc' := 23) rfl rfl (by decide) (fun x183 e184 => ?_)
      refine yT.if2 (t := 59) (pc' := 26) rfl rfl rfl (c2_ne E181 e184) (fun c185 => ?_) (fun c185 => ?_)
      · refine yT.aan (pc' := 60) g0 rfl rfl rfl ?_
        refine kRI (yT.cc (G2 := 0) (pc' := 63) rfl rfl rfl hT180 (K.up rfl : xnth ks 60 = some (19, 0)) xM_202 (r202  K hT180 hcm) rfl (by omega) (by decide) rfl) (fun h186 σ190 x189 hT187 E188 => ?_)
        have hF := E188
        have hF1 := S1.frd p0 hF
        have hfr := hF.2.2.2.2.1
        refine yT.p (pc' := 64) (lv' := xst1 _ 2 (.int x189)) rfl rfl (fun _ _ _ _ => rfl) ?_
        refine yT.iln (pc' := 65) xg_eq rfl rfl ?_
        refine yT.if1 (t := 74) (pc' := 68) rfl rfl rfl (c1_lt rfl) (fun c191 => ?_) (fun c191 => ?_)
        · refine yT.aan (pc' := 75) (xg_ne g0 rfl) rfl rfl rfl ?_
          refine yT.iln (pc' := 76) (xg_ne g1 rfl) rfl rfl ?_
          refine kRV (yT.cc (G2 := 0) (pc' := 79) rfl rfl rfl hT187 (K.up rfl : xnth ks 60 = some (19, 0)) xM_203 (r203 (c := (x1.toInt).toNat) K hT187 (by omega) (by omega) (hF.2.2.2.1.trans hm) (by omega)) rfl (by omega) (by decide) rfl) (fun h192 σ196 hT193 E194 => ?_)
          have hN := RX.rfm p0 hF (by omega) hm hm2 (by omega) E194
          obtain ⟨f0, f1, f2, f3, f4, f5, f6⟩ := RX.flu hN.1.1 (by omega) (by omega)
          have hEF : EF 0 σ196 σ196 := EF.rf f0 f6.1 (by decide)
          refine yT.aan (pc' := 80) (xg_ne g0 rfl) rfl rfl rfl ?_
          refine yT.iln (pc' := 81) (xg_ne g1 rfl) rfl rfl ?_
          refine yT.kI (pc' := 82) rfl rfl (by decide) (fun x197 e198 => ?_)
          refine kSI (yT.cc (G2 := 0) (pc' := 85) rfl rfl rfl hT193 (K.up rfl : xnth ks 60 = some (19, 0)) xM_166 (r166 (c := (x1.toInt).toNat) (w := 3) K hT193 (by omega) (by omega) (by omega)) rfl (by omega) (by decide) rfl) (fun h199 x202 hT200 E201 => ?_)
          refine yT.if1 (t := 92) (pc' := 88) rfl rfl rfl (c1_ne E201) (fun c203 => ?_) (fun c203 => ?_)
          · refine yT.kI (pc' := 93) rfl rfl (by decide) (fun x204 e205 => ?_)
            refine yT.p (pc' := 94) (lv' := xst1 _ 3 (.int x204)) rfl rfl (fun _ _ _ _ => rfl) ?_
            refine yT.aan (pc' := 95) (xg_ne (xg_ne g0 rfl) rfl) rfl rfl rfl ?_
            refine yT.iln (pc' := 96) (xg_ne (xg_ne g1 rfl) rfl) rfl rfl ?_
            refine yT.kI (pc' := 97) rfl rfl (by decide) (fun x206 e207 => ?_)
            refine yT.kI (pc' := 98) rfl rfl (by decide) (fun x208 e209 => ?_)
            refine kRV (yT.cc (G2 := 0) (pc' := 101) rfl rfl rfl hT200 (K.up rfl : xnth ks 60 = some (19, 0)) xM_167 (r167 (c := (x1.toInt).toNat) (w := 3) K hT200 (by omega) (by omega) x208 (by omega)) rfl (by omega) (by decide) rfl) (fun h210 σ214 hT211 E212 => ?_)
            have ee := E212
            have hEF := hEF.s3 (c := (x1.toInt).toNat) (w := 3) (v := x208) (by omega) (by decide)
            rw [← ee] at hEF
            refine yT.aan (pc' := 102) (xg_ne (xg_ne g0 rfl) rfl) rfl rfl rfl ?_
            refine yT.iln (pc' := 103) (xg_ne (xg_ne g1 rfl) rfl) rfl rfl ?_
            refine yT.iln (pc' := 104) xg_eq rfl rfl ?_
            refine kRV (yT.cc (G2 := 0) (pc' := 107) rfl rfl rfl hT211 (K.up rfl : xnth ks 60 = some (19, 0)) xM_185 (r185 (c := (x1.toInt).toNat) K hT211 (by omega) (by omega) (by omega) hEF.2.2.2.2.1.2.1) rfl (by omega) (by decide) rfl) (fun h215 σ219 hT216 E217 => ?_)
            have hEF := hEF.qs E217
            refine yT.aan (pc' := 108) (xg_ne (xg_ne g0 rfl) rfl) rfl rfl rfl ?_
            refine yT.iln (pc' := 109) (xg_ne (xg_ne g1 rfl) rfl) rfl rfl ?_
            refine yT.kI (pc' := 110) rfl rfl (by decide) (fun x220 e221 => ?_)
            refine kRV (yT.cc (G2 := 0) (pc' := 113) rfl rfl rfl hT216 (K.up rfl : xnth ks 60 = some (19, 0)) xM_188 (r188  K hT216 x1 x220 hEF.2.2.2.2.1.1 hEF.2.2.2.2.1.2.1 hEF.2.2.2.2.1.rd) rfl (by omega) (by decide) rfl) (fun h222 σ226 hT223 E224 => ?_)
            have hEF := hEF.mk E224
            obtain ⟨f0, f1, f2, f3, f4, f5, f6⟩ := (RX.ef hN.1.1 hEF).flu (by omega) (by omega)
            refine yT.aan (pc' := 114) (xg_ne (xg_ne g0 rfl) rfl) rfl rfl rfl ?_
            refine kRV (yT.cc (G2 := 0) (pc' := 117) rfl rfl rfl hT223 (K.up rfl : xnth ks 60 = some (19, 0)) xM_191 (r191  K hT223 f0 f1 f2 f3 f4 f5 f6) rfl (by omega) (by decide) rfl) (fun h227 σ231 hT228 E229 => ?_)
            have hEF := hEF.tr E229
            refine yT.kI (pc' := 118) rfl rfl (by decide) (fun x232 e233 => ?_)
            exact yT.retI rfl rfl ⟨_, hT228, _, rfl, (S1.fin hN hEF (by omega))⟩
          · refine yT.kI (pc' := 89) rfl rfl (by decide) (fun x234 e235 => ?_)
            refine yT.p (pc' := 93) rfl rfl (fun _ _ _ _ => rfl) ?_
            refine yT.p (pc' := 94) (lv' := xst1 _ 3 (.int x234)) rfl rfl (fun _ _ _ _ => rfl) ?_
            refine yT.aan (pc' := 95) (xg_ne (xg_ne g0 rfl) rfl) rfl rfl rfl ?_
            refine yT.iln (pc' := 96) (xg_ne (xg_ne g1 rfl) rfl) rfl rfl ?_
            refine yT.kI (pc' := 97) rfl rfl (by decide) (fun x236 e237 => ?_)
            refine yT.kI (pc' := 98) rfl rfl (by decide) (fun x238 e239 => ?_)
            refine kRV (yT.cc (G2 := 0) (pc' := 101) rfl rfl rfl hT200 (K.up rfl : xnth ks 60 = some (19, 0)) xM_167 (r167 (c := (x1.toInt).toNat) (w := 3) K hT200 (by omega) (by omega) x238 (by omega)) rfl (by omega) (by decide) rfl) (fun h240 σ244 hT241 E242 => ?_)
            have ee := E242
            have hEF := hEF.s3 (c := (x1.toInt).toNat) (w := 3) (v := x238) (by omega) (by decide)
            rw [← ee] at hEF
            refine yT.aan (pc' := 102) (xg_ne (xg_ne g0 rfl) rfl) rfl rfl rfl ?_
            refine yT.iln (pc' := 103) (xg_ne (xg_ne g1 rfl) rfl) rfl rfl ?_
            refine yT.iln (pc' := 104) xg_eq rfl rfl ?_
            refine kRV (yT.cc (G2 := 0) (pc' := 107) rfl rfl rfl hT241 (K.up rfl : xnth ks 60 = some (19, 0)) xM_185 (r185 (c := (x1.toInt).toNat) K hT241 (by omega) (by omega) (by omega) hEF.2.2.2.2.1.2.1) rfl (by omega) (by decide) rfl) (fun h245 σ249 hT246 E247 => ?_)
            have hEF := hEF.qs E247
            refine yT.aan (pc' := 108) (xg_ne (xg_ne g0 rfl) rfl) rfl rfl rfl ?_
            refine yT.iln (pc' := 109) (xg_ne (xg_ne g1 rfl) rfl) rfl rfl ?_
            refine yT.kI (pc' := 110) rfl rfl (by decide) (fun x250 e251 => ?_)
            refine kRV (yT.cc (G2 := 0) (pc' := 113) rfl rfl rfl hT246 (K.up rfl : xnth ks 60 = some (19, 0)) xM_188 (r188  K hT246 x1 x250 hEF.2.2.2.2.1.1 hEF.2.2.2.2.1.2.1 hEF.2.2.2.2.1.rd) rfl (by omega) (by decide) rfl) (fun h252 σ256 hT253 E254 => ?_)
            have hEF := hEF.mk E254
            obtain ⟨f0, f1, f2, f3, f4, f5, f6⟩ := (RX.ef hN.1.1 hEF).flu (by omega) (by omega)
            refine yT.aan (pc' := 114) (xg_ne (xg_ne g0 rfl) rfl) rfl rfl rfl ?_
            refine kRV (yT.cc (G2 := 0) (pc' := 117) rfl rfl rfl hT253 (K.up rfl : xnth ks 60 = some (19, 0)) xM_191 (r191  K hT253 f0 f1 f2 f3 f4 f5 f6) rfl (by omega) (by decide) rfl) (fun h257 σ261 hT258 E259 => ?_)
            have hEF := hEF.tr E259
            refine yT.kI (pc' := 118) rfl rfl (by decide) (fun x262 e263 => ?_)
            exact yT.retI rfl rfl ⟨_, hT258, _, rfl, (S1.fin hN hEF (by omega))⟩
        · refine yT.aan (pc' := 69) (xg_ne g0 rfl) rfl rfl rfl ?_
          refine yT.iln (pc' := 70) xg_eq rfl rfl ?_
          refine kSI (yT.cc (G2 := 0) (pc' := 73) rfl rfl rfl hT187 (K.up rfl : xnth ks 60 = some (19, 0)) xM_229 (r229  K hT187 x189) rfl (by omega) (by decide) rfl) (fun h264 x267 hT265 E266 => ?_)
          exact yT.retI rfl rfl ⟨_, hT265, _, rfl, hF1⟩
      · refine yT.aan (pc' := 27) g0 rfl rfl rfl ?_
        refine yT.kI (pc' := 28) rfl rfl (by decide) (fun x268 e269 => ?_)
        refine yT.cpX (c := x268) (pc' := 31) rfl rfl hT180 (K.up rfl) rfl rfl rfl e269 (by omega) rfl (fun h270 hT271 _ _ => ?_)
        have f272 : fl (us σ 60 12 x268) 12 = 0 := fl_at.trans e269
        have hcm2 : nw (us σ 60 12 x268) 6768 = nw σ 6768 := nw_o (by decide)
        refine yT.aan (pc' := 32) g0 rfl rfl rfl ?_
        refine yT.aan (pc' := 33) g0 rfl rfl rfl ?_
        refine yT.iln (pc' := 34) g1 rfl rfl ?_
        refine kSI (yT.cc (G2 := 0) (pc' := 37) rfl rfl rfl hT271 (K.up rfl : xnth ks 60 = some (19, 0)) xM_168 (r168  K hT271 x1 (by rw [nw_o (by decide)]; exact hcm)) rfl (by omega) (by decide) rfl) (fun h273 x276 hT274 E275 => ?_)
        refine yT.if1 (t := 53) (pc' := 40) rfl rfl rfl (c1_eq rfl) (fun c277 => ?_) (fun c277 => ?_)
        · refine yT.kb (pc' := 55) rfl rfl (by decide) (fun x278 e279 => ?_)
          refine kSI (yT.cc (G2 := 0) (pc' := 58) rfl rfl rfl hT274 (K.up rfl : xnth ks 60 = some (19, 0)) xM_164 (r164  K hT274 x278 (by omega)) rfl (by omega) (by decide) rfl) (fun h280 x283 hT281 E282 => ?_)
          exact yT.retI rfl rfl ⟨_, hT281, _, rfl, (S1.wipe p0 (by omega))⟩
        · refine yT.aan (pc' := 41) g0 rfl rfl rfl ?_
          refine yT.iln (pc' := 42) g1 rfl rfl ?_
          refine kSI (yT.cc (G2 := 0) (pc' := 45) rfl rfl rfl hT274 (K.up rfl : xnth ks 60 = some (19, 0)) xM_169 (r169 (c := (x1.toInt).toNat) K hT274 (by omega) (by omega)) rfl (by omega) (by decide) rfl) (fun h284 x287 hT285 E286 => ?_)
          refine yT.if1 (t := 53) (pc' := 48) rfl rfl rfl (c1_eq rfl) (fun c288 => ?_) (fun c288 => ?_)
          · refine yT.kb (pc' := 55) rfl rfl (by decide) (fun x289 e290 => ?_)
            refine kSI (yT.cc (G2 := 0) (pc' := 58) rfl rfl rfl hT285 (K.up rfl : xnth ks 60 = some (19, 0)) xM_164 (r164  K hT285 x289 (by omega)) rfl (by omega) (by decide) rfl) (fun h291 x294 hT292 E293 => ?_)
            exact yT.retI rfl rfl ⟨_, hT292, _, rfl, (S1.wipe p0 (by omega))⟩
          · refine yT.kb (pc' := 50) rfl rfl (by decide) (fun x295 e296 => ?_)
            refine yT.p (pc' := 55) rfl rfl (fun _ _ _ _ => rfl) ?_
            refine kSI (yT.cc (G2 := 0) (pc' := 58) rfl rfl rfl hT285 (K.up rfl : xnth ks 60 = some (19, 0)) xM_164 (r164  K hT285 x295 (by omega)) rfl (by omega) (by decide) rfl) (fun h297 x300 hT298 E299 => ?_)
            exact yT.retI rfl rfl ⟨_, hT298, _, rfl, (S1.wipe p0 (by omega))⟩
