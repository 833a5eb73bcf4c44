-- rX9_write
set_option maxRecDepth 100000 in
set_option maxHeartbeats 4000000 in
theorem r236 {ks : List cT} {B0 : Nat} (K : KE KS0 ks B0) {σ : sg} {ρ : Nat → xE} {h : List xE} (hT : HT ks σ ρ h) (x1 : Int32) (x2 : Int32) {k : Nat} (p0 : RI k σ) (p1 : k ≤ 512) : yM 236 (1572) 0 [.ref (60 + 1), .int x1, .int x2] h (RQI ks ρ (fun σ' r => S0 k σ σ')) := by
  refine yM.st xM_236 rfl rfl (fun lv g => ?_)
  have g0 := g 0 _ rfl
  have g1 := g 1 _ rfl
  have g2 := g 2 _ rfl
  have hRO := p0.1.1.1
  have hcm := hRO.1
  have hG := p0.1.2.2.1
  have hL := p0.1.2.1
  have hB := p0.1.2.2.2.1
  have hEF : EF 0 σ σ := EF.rf hRO hG.1 (by decide)
  refine yT.aan (pc' := 1) g0 rfl rfl rfl ?_
  refine yT.iln (pc' := 2) g1 rfl rfl ?_
  refine kSI (yT.cc (G2 := 0) (pc' := 5) rfl rfl rfl hT (K.up rfl : xnth ks 60 = some (19, 0)) xM_235 (r235  K hT x1 hRO) rfl (by omega) (by decide) rfl) (fun h101 x104 hT102 E103 => ?_)
  refine yT.if1 (t := 15) (pc' := 8) rfl rfl rfl (c1_ne rfl) (fun c105 => ?_) (fun c105 => ?_)
  · refine yT.aan (pc' := 16) g0 rfl rfl rfl ?_
    refine yT.iln (pc' := 17) g1 rfl rfl ?_
    refine yT.kI (pc' := 18) rfl rfl (by decide) (fun x106 e107 => ?_)
    refine kSI (yT.cc (G2 := 0) (pc' := 21) rfl rfl rfl hT102 (K.up rfl : xnth ks 60 = some (19, 0)) xM_166 (r166 (c := (x1.toInt).toNat) (w := 2) K hT102 (by omega) (by omega) (by omega)) rfl (by omega) (by decide) rfl) (fun h108 x111 hT109 E110 => ?_)
    refine yT.kI (pc' := 22) rfl rfl (by decide) (fun x112 e113 => ?_)
    refine yT.if2 (t := 32) (pc' := 25) rfl rfl rfl (c2_ne E110 e113) (fun c114 => ?_) (fun c114 => ?_)
    · refine yT.aan (pc' := 33) g0 rfl rfl rfl ?_
      refine yT.iln (pc' := 34) g1 rfl rfl ?_
      refine yT.iln (pc' := 35) g2 rfl rfl ?_
      refine kRI (yT.cc (G2 := 0) (pc' := 38) rfl rfl rfl hT109 (K.up rfl : xnth ks 60 = some (19, 0)) xM_234 (r234 (c := (x1.toInt).toNat) K hT109 (by omega) x2 (by omega) hRO) rfl (by omega) (by decide) rfl) (fun h115 σ119 x118 hT116 E117 => ?_)
      have hEF := hEF.pf E117
      refine yT.p (pc' := 39) (lv' := xst1 _ 3 (.int x118)) rfl rfl (fun _ _ _ _ => rfl) ?_
      refine yT.aan (pc' := 40) (xg_ne g0 rfl) rfl rfl rfl ?_
      refine yT.iln (pc' := 41) (xg_ne g1 rfl) rfl rfl ?_
      refine yT.kI (pc' := 42) rfl rfl (by decide) (fun x120 e121 => ?_)
      refine kSI (yT.cc (G2 := 0) (pc' := 45) rfl rfl rfl hT116 (K.up rfl : xnth ks 60 = some (19, 0)) xM_166 (r166 (c := (x1.toInt).toNat) (w := 4) K hT116 (by omega) (by omega) (by omega)) rfl (by omega) (by decide) rfl) (fun h122 x125 hT123 E124 => ?_)
      refine yT.p (pc' := 47) (lv' := xst1 _ 4 (.int x125)) rfl rfl (fun _ _ _ _ => rfl) ?_
      obtain ⟨f0, f1, f2, f3, f4, f5, f6⟩ := (RX.ef p0 hEF).flu (by omega) (by omega)
      refine yT.aan (pc' := 48) (xg_ne (xg_ne g0 rfl) rfl) rfl rfl rfl ?_
      refine kRV (yT.cc (G2 := 0) (pc' := 51) rfl rfl rfl hT123 (K.up rfl : xnth ks 60 = some (19, 0)) xM_191 (r191  K hT123 f0 f1 f2 f3 f4 f5 f6) rfl (by omega) (by decide) rfl) (fun h126 σ130 hT127 E128 => ?_)
      have hEF := hEF.tr E128
      refine yT.il (pc' := 53) xg_eq rfl rfl ?_
      exact yT.retI rfl rfl ⟨_, hT127, _, rfl, (S0.ef p0 hEF (by decide))⟩
    · refine yT.aan (pc' := 26) g0 rfl rfl rfl ?_
      refine yT.kb (pc' := 28) rfl rfl (by decide) (fun x131 e132 => ?_)
      refine kSI (yT.cc (G2 := 0) (pc' := 31) rfl rfl rfl hT109 (K.up rfl : xnth ks 60 = some (19, 0)) xM_164 (r164  K hT109 x131 (by omega)) rfl (by omega) (by decide) rfl) (fun h133 x136 hT134 E135 => ?_)
      exact yT.retI rfl rfl ⟨_, hT134, _, rfl, (S0.rf p0)⟩
  · refine yT.aan (pc' := 9) g0 rfl rfl rfl ?_
    refine yT.kb (pc' := 11) rfl rfl (by decide) (fun x137 e138 => ?_)
    refine kSI (yT.cc (G2 := 0) (pc' := 14) rfl rfl rfl hT102 (K.up rfl : xnth ks 60 = some (19, 0)) xM_164 (r164  K hT102 x137 (by omega)) rfl (by omega) (by decide) rfl) (fun h139 x142 hT140 E141 => ?_)
    exact yT.retI rfl rfl ⟨_, hT140, _, rfl, (S0.rf p0)⟩
-- rX9_dispose
set_option maxRecDepth 100000 in
set_option maxHeartbeats 4000000 in
theorem r239 {ks : List cT} {B0 : Nat} (K : KE KS0 ks B0) {σ : sg} {ρ : Nat → xE} {h : List xE} (hT : HT ks σ ρ h) (x1 : Int32) {k : Nat} (p0 : RI k σ) (p1 : k ≤ 512) : yM 239 (1572) 0 [.ref (60 + 1), .int x1] h (RQI ks ρ (fun σ' r => S0 k σ σ')) := by
  refine yM.st xM_239 rfl rfl (fun lv g => ?_)
  have g0 := g 0 _ rfl
  have g1 := g 1 _ rfl
  have hRO := p0.1.1.1
  have hcm := hRO.1
  have hG := p0.1.2.2.1
  have hL := p0.1.2.1
  have hB := p0.1.2.2.2.1
  have hEF : EF 0 σ σ := EF.rf hRO hG.1 (by decide)
  refine yT.aan (pc' := 1) g0 rfl rfl rfl ?_
  refine yT.iln (pc' := 2) g1 rfl rfl ?_
  refine kSI (yT.cc (G2 := 0) (pc' := 5) rfl rfl rfl hT (K.up rfl : xnth ks 60 = some (19, 0)) xM_168 (r168  K hT x1 (by omega)) rfl (by omega) (by decide) rfl) (fun h101 x104 hT102 E103 => ?_)
  refine yT.if1 (t := 15) (pc' := 8) rfl rfl rfl (c1_ne rfl) (fun c105 => ?_) (fun c105 => ?_)
  · refine yT.aan (pc' := 16) g0 rfl rfl rfl ?_
    refine yT.iln (pc' := 17) g1 rfl rfl ?_
    refine yT.kI (pc' := 18) rfl rfl (by decide) (fun x106 e107 => ?_)
    refine kSI (yT.cc (G2 := 0) (pc' := 21) rfl rfl rfl hT102 (K.up rfl : xnth ks 60 = some (19, 0)) xM_166 (r166 (c := (x1.toInt).toNat) (w := 2) K hT102 (by omega) (by omega) (by omega)) rfl (by omega) (by decide) rfl) (fun h108 x111 hT109 E110 => ?_)
    refine yT.kI (pc' := 22) rfl rfl (by decide) (fun x112 e113 => ?_)
    refine yT.if2 (t := 32) (pc' := 25) rfl rfl rfl (c2_ne E110 e113) (fun c114 => ?_) (fun c114 => ?_)
    · refine yT.aan (pc' := 33) g0 rfl rfl rfl ?_
      refine yT.kI (pc' := 34) rfl rfl (by decide) (fun x115 e116 => ?_)
      refine yT.cpI (pc' := 37) rfl rfl hT109 (K.up rfl) rfl rfl rfl (fun h117 hT118 _ _ => ?_)
      refine yT.aan (pc' := 38) g0 rfl rfl rfl ?_
      refine yT.iln (pc' := 39) g1 rfl rfl ?_
      refine kRV (yT.cc (G2 := 0) (pc' := 42) rfl rfl rfl hT118 (K.up rfl : xnth ks 60 = some (19, 0)) xM_190 (r190 (c := (x1.toInt).toNat) K hT118 (by omega) (by omega) hRO (by omega) (by omega)) rfl (by omega) (by decide) rfl) (fun h119 σ123 hT120 E121 => ?_)
      have hEF := hEF.df E121
      obtain ⟨f0, f1, f2, f3, f4, f5, f6⟩ := (RX.ef p0 hEF).flu (by omega) (by omega)
      refine yT.aan (pc' := 43) g0 rfl rfl rfl ?_
      refine kRV (yT.cc (G2 := 0) (pc' := 46) rfl rfl rfl hT120 (K.up rfl : xnth ks 60 = some (19, 0)) xM_191 (r191  K hT120 f0 f1 f2 f3 f4 f5 f6) rfl (by omega) (by decide) rfl) (fun h124 σ128 hT125 E126 => ?_)
      have hEF := hEF.tr E126
      refine yT.aan (pc' := 47) g0 rfl rfl rfl ?_
      refine yT.cgI (pc' := 50) rfl rfl hT125 (K.up rfl) rfl rfl (fun x129 _ => ?_)
      exact yT.retI rfl rfl ⟨_, hT125, _, rfl, (S0.ef p0 hEF (by decide))⟩
    · refine yT.aan (pc' := 26) g0 rfl rfl rfl ?_
      refine yT.kb (pc' := 28) rfl rfl (by decide) (fun x130 e131 => ?_)
      refine kSI (yT.cc (G2 := 0) (pc' := 31) rfl rfl rfl hT109 (K.up rfl : xnth ks 60 = some (19, 0)) xM_164 (r164  K hT109 x130 (by omega)) rfl (by omega) (by decide) rfl) (fun h132 x135 hT133 E134 => ?_)
      exact yT.retI rfl rfl ⟨_, hT133, _, rfl, (S0.rf p0)⟩
  · refine yT.aan (pc' := 9) g0 rfl rfl rfl ?_
    refine yT.kb (pc' := 11) rfl rfl (by decide) (fun x136 e137 => ?_)
    refine kSI (yT.cc (G2 := 0) (pc' := 14) rfl rfl rfl hT102 (K.up rfl : xnth ks 60 = some (19, 0)) xM_164 (r164  K hT102 x136 (by omega)) rfl (by omega) (by decide) rfl) (fun h138 x141 hT139 E140 => ?_)
    exact yT.retI rfl rfl ⟨_, hT139, _, rfl, (S0.rf p0)⟩
-- rX9_read
set_option maxRecDepth 100000 in
set_option maxHeartbeats 4000000 in
theorem r241 {ks : List cT} {B0 : Nat} (K : KE KS0 ks B0) {σ : sg} {ρ : Nat → xE} {h : List xE} (hT : HT ks σ ρ h) (x1 : Int32) {k : Nat} (p0 : RI k σ) (p1 : k ≤ 512) : yM 241 (1572) 0 [.ref (60 + 1), .int x1] h (RQL ks ρ (fun σ' r => S0 k σ σ')) := by
  refine yM.st xM_241 rfl rfl (fun lv g => ?_)
  have g0 := g 0 _ rfl
  have g1 := g 1 _ rfl
  have hRO := p0.1.1.1
  have hcm := hRO.1
  have hG := p0.1.2.2.1
  have hL := p0.1.2.1
  have hB := p0.1.2.2.2.1
  have hEF : EF 0 σ σ := EF.rf hRO hG.1 (by decide)
  refine yT.aan (pc' := 1) g0 rfl rfl rfl ?_
  refine yT.iln (pc' := 2) g1 rfl rfl ?_
  refine kSI (yT.cc (G2 := 0) (pc' := 5) rfl rfl rfl hT (K.up rfl : xnth ks 60 = some (19, 0)) xM_240 (r240  K hT x1 hRO) rfl (by omega) (by decide) rfl) (fun h101 x104 hT102 E103 => ?_)
  refine yT.if1 (t := 15) (pc' := 8) rfl rfl rfl (c1_ne rfl) (fun c105 => ?_) (fun c105 => ?_)
  · refine yT.aan (pc' := 16) g0 rfl rfl rfl ?_
    refine yT.iln (pc' := 17) g1 rfl rfl ?_
    refine yT.kI (pc' := 18) rfl rfl (by decide) (fun x106 e107 => ?_)
    refine kSI (yT.cc (G2 := 0) (pc' := 21) rfl rfl rfl hT102 (K.up rfl : xnth ks 60 = some (19, 0)) xM_166 (r166 (c := (x1.toInt).toNat) (w := 2) K hT102 (by omega) (by omega) (by omega)) rfl (by omega) (by decide) rfl) (fun h108 x111 hT109 E110 => ?_)
    refine yT.kI (pc' := 22) rfl rfl (by decide) (fun x112 e113 => ?_)
    refine yT.if2 (t := 32) (pc' := 25) rfl rfl rfl (c2_ne E110 e113) (fun c114 => ?_) (fun c114 => ?_)
    · refine yT.aan (pc' := 33) g0 rfl rfl rfl ?_
      refine yT.iln (pc' := 34) g1 rfl rfl ?_
      refine yT.kI (pc' := 35) rfl rfl (by decide) (fun x115 e116 => ?_)
      refine kSI (yT.cc (G2 := 0) (pc' := 38) rfl rfl rfl hT109 (K.up rfl : xnth ks 60 = some (19, 0)) xM_166 (r166 (c := (x1.toInt).toNat) (w := 0) K hT109 (by omega) (by omega) (by omega)) rfl (by omega) (by decide) rfl) (fun h117 x120 hT118 E119 => ?_)
      refine yT.kI (pc' := 39) rfl rfl (by decide) (fun x121 e122 => ?_)
      refine yT.if2 (t := 47) (pc' := 42) rfl rfl rfl (c2_ne E119 e122) (fun c123 => ?_) (fun c123 => ?_)
      · refine yT.aan (pc' := 48) g0 rfl rfl rfl ?_
        refine yT.cg8 (pc' := 51) rfl rfl hT118 (K.up rfl) rfl rfl (fun _ => ?_)
        refine yT.iln (pc' := 52) g1 rfl rfl ?_
        refine yT.cla (pc' := 53) rfl rfl hT118 (K.up rfl) rfl (by omega) (fun y124 => ?_)
        refine yT.p (pc' := 54) (lv' := xst2 _ 2 (.long y124)) rfl rfl (fun _ _ _ _ => rfl) ?_
        obtain ⟨f0, f1, f2, f3, f4, f5, f6⟩ := (RX.ef p0 hEF).flu (by omega) (by omega)
        refine yT.aan (pc' := 55) (xg2_ne g0 rfl) rfl rfl rfl ?_
        refine kRV (yT.cc (G2 := 0) (pc' := 58) rfl rfl rfl hT118 (K.up rfl : xnth ks 60 = some (19, 0)) xM_191 (r191  K hT118 f0 f1 f2 f3 f4 f5 f6) rfl (by omega) (by decide) rfl) (fun h125 σ129 hT126 E127 => ?_)
        have hEF := hEF.tr E127
        refine yT.lln (pc' := 59) xg2_eq rfl rfl ?_
        exact yT.retL rfl rfl ⟨_, hT126, _, rfl, (S0.ef p0 hEF (by decide))⟩
      · obtain ⟨f0, f1, f2, f3, f4, f5, f6⟩ := RX.flu p0 (by omega) (by omega)
        refine yT.aan (pc' := 43) g0 rfl rfl rfl ?_
        refine yT.iln (pc' := 44) g1 rfl rfl ?_
        refine kRV (yT.cc (G2 := 0) (pc' := 47) rfl rfl rfl hT118 (K.up rfl : xnth ks 60 = some (19, 0)) xM_182 (r182 (c := (x1.toInt).toNat) K hT118 (by omega) (by omega) f0 f1 f2 (by omega) (f3 _ (by omega)) f4) rfl (by omega) (by decide) rfl) (fun h130 σ134 hT131 E132 => ?_)
        have hEF := hEF.pf E132
        refine yT.aan (pc' := 48) g0 rfl rfl rfl ?_
        refine yT.cg8 (pc' := 51) rfl rfl hT131 (K.up rfl) rfl rfl (fun _ => ?_)
        refine yT.iln (pc' := 52) g1 rfl rfl ?_
        refine yT.cla (pc' := 53) rfl rfl hT131 (K.up rfl) rfl (by omega) (fun y135 => ?_)
        refine yT.p (pc' := 54) (lv' := xst2 _ 2 (.long y135)) rfl rfl (fun _ _ _ _ => rfl) ?_
        obtain ⟨f0, f1, f2, f3, f4, f5, f6⟩ := (RX.ef p0 hEF).flu (by omega) (by omega)
        refine yT.aan (pc' := 55) (xg2_ne g0 rfl) rfl rfl rfl ?_
        refine kRV (yT.cc (G2 := 0) (pc' := 58) rfl rfl rfl hT131 (K.up rfl : xnth ks 60 = some (19, 0)) xM_191 (r191  K hT131 f0 f1 f2 f3 f4 f5 f6) rfl (by omega) (by decide) rfl) (fun h136 σ140 hT137 E138 => ?_)
        have hEF := hEF.tr E138
        refine yT.lln (pc' := 59) xg2_eq rfl rfl ?_
        exact yT.retL rfl rfl ⟨_, hT137, _, rfl, (S0.ef p0 hEF (by decide))⟩
    · refine yT.aan (pc' := 26) g0 rfl rfl rfl ?_
      refine yT.kb (pc' := 28) rfl rfl (by decide) (fun x141 e142 => ?_)
      refine kSL (yT.cc (G2 := 0) (pc' := 31) rfl rfl rfl hT109 (K.up rfl : xnth ks 60 = some (19, 0)) xM_165 (r165  K hT109 x141 (by omega)) rfl (by omega) (by decide) rfl) (fun h143 x146 hT144 E145 => ?_)
      exact yT.retL rfl rfl ⟨_, hT144, _, rfl, (S0.rf p0)⟩
  · refine yT.aan (pc' := 9) g0 rfl rfl rfl ?_
    refine yT.kb (pc' := 11) rfl rfl (by decide) (fun x147 e148 => ?_)
    refine kSL (yT.cc (G2 := 0) (pc' := 14) rfl rfl rfl hT102 (K.up rfl : xnth ks 60 = some (19, 0)) xM_165 (r165  K hT102 x147 (by omega)) rfl (by omega) (by decide) rfl) (fun h149 x152 hT150 E151 => ?_)
    exact yT.retL rfl rfl ⟨_, hT150, _, rfl, (S0.rf p0)⟩
-- rX9_days
set_option maxRecDepth 100000 in
set_option maxHeartbeats 4000000 in
theorem r262 {ks : List cT} {B0 : Nat} (K : KE KS0 ks B0) {σ : sg} {ρ : Nat → xE} {h : List xE} (hT : HT ks σ ρ h) (x1 : Int32) {k : Nat} (p0 : RI k σ) (p1 : k ≤ 512) : yM 262 (1572) 0 [.ref (60 + 1), .int x1] h (RQI ks ρ (fun σ' r => S0 k σ σ')) := by
  refine yM.st xM_262 rfl rfl (fun lv g => ?_)
  have g0 := g 0 _ rfl
  have g1 := g 1 _ rfl
  have hRO := p0.1.1.1
  have hcm := hRO.1
  have hG := p0.1.2.2.1
  have hL := p0.1.2.1
  have hB := p0.1.2.2.2.1
  have hEF : EF 0 σ σ := EF.rf hRO hG.1 (by decide)
  refine yT.iln (pc' := 1) g1 rfl rfl ?_
  refine yT.i2l2 (pc' := 2) (X := x1.toInt) rfl rfl rfl (fun y101 e102 => ?_)
  refine yT.lc2 (pc' := 3) (X := 1) rfl rfl rfl (fun y103 e104 => ?_)
  refine yT.ld2 (pc' := 6) (X := 60) rfl rfl rfl (by decide) (fun y105 e106 => ?_)
  refine kSI (yT.cst (G2 := 0) (pc' := 9) rfl rfl xM_163 (r163 (v := x1.toInt) (lo := 1) (hi := 60) K hT e102 e104 e106) rfl (by omega) (by decide) rfl) (fun h107 x110 hT108 E109 => ?_)
  refine yT.if1 (t := 19) (pc' := 12) rfl rfl rfl (c1_ne rfl) (fun c111 => ?_) (fun c111 => ?_)
  · refine yT.aan (pc' := 20) g0 rfl rfl rfl ?_
    refine yT.cg8 (pc' := 23) rfl rfl hT108 (K.up rfl) rfl rfl (fun _ => ?_)
    refine yT.ks (pc' := 26) rfl rfl (by decide) (fun x112 e113 => ?_)
    refine yT.tia (6768) (pc' := 27) rfl rfl hT108 (K.up rfl) e113 (by omega) (fun x114 z116 => ?_)
    have e115 : x114.toInt = nw σ (6768) := congrArg Int32.toInt z116
    refine yT.if1 (t := 37) (pc' := 30) rfl rfl rfl (c1_ne e115) (fun c117 => ?_) (fun c117 => ?_)
    · refine yT.kI (pc' := 38) rfl rfl (by decide) (fun x118 e119 => ?_)
      refine yT.p (pc' := 39) (lv' := xst1 _ 2 (.int x118)) rfl rfl (fun _ _ _ _ => rfl) ?_
      refine yT.kI (pc' := 40) rfl rfl (by decide) (fun x120 e121 => ?_)
      refine yT.p (pc' := 41) (lv' := xst1 _ 3 (.int x120)) rfl rfl (fun _ _ _ _ => rfl) ?_
      have L122 : ∀ (n137 : Nat) (lv123 : xLv) (σ124 : sg) (h125 : List xE) (x127 : Int32) (j129 : Nat) (x128 : Int32), HT ks σ124 ρ h125 → x128.toInt = (j129 : Int) → xget lv123 0 = some (.ref (60 + 1)) → xget lv123 1 = some (.int x1) → xget lv123 2 = some (.int x127) → xget lv123 3 = some (.int x128) → EF (100 * ((j129) : Nat)) σ σ124 → (j129) ≤ 60 → 60 - (j129) < n137 → yT 0 [] rX9_days (1572) 0 41 lv123 [] h125 (RQI ks ρ (fun σ' r => S0 k σ σ')) := by
        intro n137
        induction n137 with
        | zero => intro lv123 σ124 h125 x127 j129 x128 hT126 e130 g131 g132 g133 g134 i135 i136 m138; exact absurd m138 (Nat.not_lt_zero _)
        | succ n137 ih139 =>
          intro lv123 σ124 h125 x127 j129 x128 hT126 e130 g131 g132 g133 g134 i135 i136 m138
          have hEF := i135
          have hcm1 := hEF.2.2.2.2.1.1
          have hcm2 := hEF.2.2.2.1 6768 (by unfold me; omega)
          refine yT.iln (pc' := 42) g134 rfl rfl ?_
          refine yT.iln (pc' := 43) g132 rfl rfl ?_
          refine yT.if2 (t := 117) (pc' := 46) rfl rfl rfl (c2_ge e130 rfl) (fun c140 => ?_) (fun c140 => ?_)
          · refine yT.iln (pc' := 118) g133 rfl rfl ?_
            exact yT.retI rfl rfl ⟨_, hT126, _, rfl, (S0.ef p0 i135 (by omega))⟩
          · refine yT.aan (pc' := 47) g131 rfl rfl rfl ?_
            refine yT.aan (pc' := 48) g131 rfl rfl rfl ?_
            refine yT.cg8 (pc' := 51) rfl rfl hT126 (K.up rfl) rfl rfl (fun _ => ?_)
            refine yT.ks (pc' := 54) rfl rfl (by decide) (fun x141 e142 => ?_)
            refine yT.tia (6768) (pc' := 55) rfl rfl hT126 (K.up rfl) e142 (by omega) (fun x143 z145 => ?_)
            have e144 : x143.toInt = nw σ124 (6768) := congrArg Int32.toInt z145
            refine kRI (yT.cc (G2 := 0) (pc' := 58) rfl rfl rfl hT126 (K.up rfl : xnth ks 60 = some (19, 0)) xM_261 (r261  K hT126 x143 (by omega)) rfl (by omega) (by decide) rfl) (fun h146 σ150 x149 hT147 E148 => ?_)
            have hd := E148
            have hd1 := hd.1
            have hEF := hEF.drw hd1
            refine yT.p (pc' := 60) (lv' := xst1 _ 4 (.int x149)) rfl rfl (fun _ _ _ _ => rfl) ?_
            refine yT.aan (pc' := 61) (xg_ne g131 rfl) rfl rfl rfl ?_
            refine yT.il (pc' := 63) xg_eq rfl rfl ?_
            refine yT.kI (pc' := 64) rfl rfl (by decide) (fun x151 e152 => ?_)
            refine kSI (yT.cc (G2 := 0) (pc' := 67) rfl rfl rfl hT147 (K.up rfl : xnth ks 60 = some (19, 0)) xM_166 (r166 (c := (x149.toInt).toNat) (w := 0) K hT147 (by omega) (by omega) (by omega)) rfl (by omega) (by decide) rfl) (fun h153 x156 hT154 E155 => ?_)
            refine yT.kI (pc' := 68) rfl rfl (by decide) (fun x157 e158 => ?_)
            refine yT.if2 (t := 107) (pc' := 71) rfl rfl rfl (c2_ne E155 e158) (fun c159 => ?_) (fun c159 => ?_)
            · obtain ⟨f0, f1, f2, f3, f4, f5, f6⟩ := (RX.ef p0 hEF).flu (by omega) (by omega)
              refine yT.aan (pc' := 108) (xg_ne g131 rfl) rfl rfl rfl ?_
              refine kRV (yT.cc (G2 := 0) (pc' := 111) rfl rfl rfl hT154 (K.up rfl : xnth ks 60 = some (19, 0)) xM_191 (r191  K hT154 f0 f1 f2 f3 f4 f5 f6) rfl (by omega) (by decide) rfl) (fun h160 σ164 hT161 E162 => ?_)
              have hEF := hEF.tr E162
              refine yT.inc2 (pc' := 114) (Z := (j129 : Int) + 1) (xg_ne g134 rfl) e130 rfl rfl rfl ⟨by decide, by omega⟩ (fun x165 e166 => ?_)
              refine yT.p (pc' := 41) rfl rfl (fun _ _ _ _ => rfl) ?_
              exact ih139 _ σ164 _ x127 (j129 + 1) x165 hT161 (by omega) (xg_ne (xg_ne g131 rfl) rfl) (xg_ne (xg_ne g132 rfl) rfl) (xg_ne (xg_ne g133 rfl) rfl) xg_eq (hEF.mono (by omega)) (by omega) (by omega)
            · refine yT.aan (pc' := 72) (xg_ne g131 rfl) rfl rfl rfl ?_
              refine yT.il (pc' := 74) xg_eq rfl rfl ?_
              refine yT.kI (pc' := 75) rfl rfl (by decide) (fun x167 e168 => ?_)
              refine kSI (yT.cc (G2 := 0) (pc' := 78) rfl rfl rfl hT154 (K.up rfl : xnth ks 60 = some (19, 0)) xM_166 (r166 (c := (x149.toInt).toNat) (w := 2) K hT154 (by omega) (by omega) (by omega)) rfl (by omega) (by decide) rfl) (fun h169 x172 hT170 E171 => ?_)
              refine yT.if1 (t := 107) (pc' := 81) rfl rfl rfl (c1_ne E171) (fun c173 => ?_) (fun c173 => ?_)
              · obtain ⟨f0, f1, f2, f3, f4, f5, f6⟩ := (RX.ef p0 hEF).flu (by omega) (by omega)
                refine yT.aan (pc' := 108) (xg_ne g131 rfl) rfl rfl rfl ?_
                refine kRV (yT.cc (G2 := 0) (pc' := 111) rfl rfl rfl hT170 (K.up rfl : xnth ks 60 = some (19, 0)) xM_191 (r191  K hT170 f0 f1 f2 f3 f4 f5 f6) rfl (by omega) (by decide) rfl) (fun h174 σ178 hT175 E176 => ?_)
                have hEF := hEF.tr E176
                refine yT.inc2 (pc' := 114) (Z := (j129 : Int) + 1) (xg_ne g134 rfl) e130 rfl rfl rfl ⟨by decide, by omega⟩ (fun x179 e180 => ?_)
                refine yT.p (pc' := 41) rfl rfl (fun _ _ _ _ => rfl) ?_
                exact ih139 _ σ178 _ x127 (j129 + 1) x179 hT175 (by omega) (xg_ne (xg_ne g131 rfl) rfl) (xg_ne (xg_ne g132 rfl) rfl) (xg_ne (xg_ne g133 rfl) rfl) xg_eq (hEF.mono (by omega)) (by omega) (by omega)
              · refine yT.iln (pc' := 82) (xg_ne g133 rfl) rfl rfl ?_
                refine yT.aan (pc' := 83) (xg_ne g131 rfl) rfl rfl rfl ?_
                refine yT.il (pc' := 85) xg_eq rfl rfl ?_
                refine yT.aan (pc' := 86) (xg_ne g131 rfl) rfl rfl rfl ?_
                refine yT.kb (pc' := 88) rfl rfl (by decide) (fun x181 e182 => ?_)
                refine kRI (yT.cc (G2 := 0) (pc' := 91) rfl rfl rfl hT170 (K.up rfl : xnth ks 60 = some (19, 0)) xM_261 (r261  K hT170 x181 (by omega)) rfl (by omega) (by decide) rfl) (fun h183 σ187 x186 hT184 E185 => ?_)
                have hd2 := E185
                have hEF := hEF.drw hd2.1
                refine yT.kb (pc' := 93) rfl rfl (by decide) (fun x188 e189 => ?_)
                refine yT.sb2 (pc' := 94) (Z := x186.toInt - 10) rfl e189 rfl rfl (by omega) (fun x190 e191 => ?_)
                refine kRI (yT.cc (G2 := 0) (pc' := 97) rfl rfl rfl hT184 (K.up rfl : xnth ks 60 = some (19, 0)) xM_234 (r234 (c := (x149.toInt).toNat) K hT184 (by omega) x190 (by omega) hEF.2.2.2.2.1) rfl (by omega) (by decide) rfl) (fun h192 σ196 x195 hT193 E194 => ?_)
                have hEF := hEF.pf E194
                refine yT.if1 (t := 104) (pc' := 100) rfl rfl rfl (c1_eq rfl) (fun c197 => ?_) (fun c197 => ?_)
                · refine yT.kI (pc' := 105) rfl rfl (by decide) (fun x198 e199 => ?_)
                  refine yT.fi (pc' := 106) rfl rfl (fun _ _ _ _ => rfl) (fun x200 => ?_)
                  refine yT.p (pc' := 107) (lv' := xst1 _ 2 (.int x200)) rfl rfl (fun _ _ _ _ => rfl) ?_
                  obtain ⟨f0, f1, f2, f3, f4, f5, f6⟩ := (RX.ef p0 hEF).flu (by omega) (by omega)
                  refine yT.aan (pc' := 108) (xg_ne (xg_ne g131 rfl) rfl) rfl rfl rfl ?_
                  refine kRV (yT.cc (G2 := 0) (pc' := 111) rfl rfl rfl hT193 (K.up rfl : xnth ks 60 = some (19, 0)) xM_191 (r191  K hT193 f0 f1 f2 f3 f4 f5 f6) rfl (by omega) (by decide) rfl) (fun h201 σ205 hT202 E203 => ?_)
                  have hEF := hEF.tr E203
                  refine yT.inc2 (pc' := 114) (Z := (j129 : Int) + 1) (xg_ne (xg_ne g134 rfl) rfl) e130 rfl rfl rfl ⟨by decide, by omega⟩ (fun x206 e207 => ?_)
                  refine yT.p (pc' := 41) rfl rfl (fun _ _ _ _ => rfl) ?_
                  exact ih139 _ σ205 _ x200 (j129 + 1) x206 hT202 (by omega) (xg_ne (xg_ne (xg_ne g131 rfl) rfl) rfl) (xg_ne (xg_ne (xg_ne g132 rfl) rfl) rfl) (xg_ne xg_eq rfl) xg_eq (hEF.mono (by omega)) (by omega) (by omega)
                · refine yT.kI (pc' := 101) rfl rfl (by decide) (fun x208 e209 => ?_)
                  refine yT.p (pc' := 105) rfl rfl (fun _ _ _ _ => rfl) ?_
                  refine yT.fi (pc' := 106) rfl rfl (fun _ _ _ _ => rfl) (fun x210 => ?_)
                  refine yT.p (pc' := 107) (lv' := xst1 _ 2 (.int x210)) rfl rfl (fun _ _ _ _ => rfl) ?_
                  obtain ⟨f0, f1, f2, f3, f4, f5, f6⟩ := (RX.ef p0 hEF).flu (by omega) (by omega)
                  refine yT.aan (pc' := 108) (xg_ne (xg_ne g131 rfl) rfl) rfl rfl rfl ?_
                  refine kRV (yT.cc (G2 := 0) (pc' := 111) rfl rfl rfl hT193 (K.up rfl : xnth ks 60 = some (19, 0)) xM_191 (r191  K hT193 f0 f1 f2 f3 f4 f5 f6) rfl (by omega) (by decide) rfl) (fun h211 σ215 hT212 E213 => ?_)
                  have hEF := hEF.tr E213
                  refine yT.inc2 (pc' := 114) (Z := (j129 : Int) + 1) (xg_ne (xg_ne g134 rfl) rfl) e130 rfl rfl rfl ⟨by decide, by omega⟩ (fun x216 e217 => ?_)
                  refine yT.p (pc' := 41) rfl rfl (fun _ _ _ _ => rfl) ?_
                  exact ih139 _ σ215 _ x210 (j129 + 1) x216 hT212 (by omega) (xg_ne (xg_ne (xg_ne g131 rfl) rfl) rfl) (xg_ne (xg_ne (xg_ne g132 rfl) rfl) rfl) (xg_ne xg_eq rfl) xg_eq (hEF.mono (by omega)) (by omega) (by omega)
      exact L122 _ _ σ _ x118 (0) x120 hT108 (by omega) (xg_ne (xg_ne g0 rfl) rfl) (xg_ne (xg_ne g1 rfl) rfl) (xg_ne xg_eq rfl) xg_eq (EF.rf hRO hG.1 (by decide)) (by omega) (Nat.lt_succ_self _)
    · refine yT.aan (pc' := 31) g0 rfl rfl rfl ?_
      refine yT.kb (pc' := 33) rfl rfl (by decide) (fun x218 e219 => ?_)
      refine kSI (yT.cc (G2 := 0) (pc' := 36) rfl rfl rfl hT108 (K.up rfl : xnth ks 60 = some (19, 0)) xM_164 (r164  K hT108 x218 (by omega)) rfl (by omega) (by decide) rfl) (fun h220 x223 hT221 E222 => ?_)
      exact yT.retI rfl rfl ⟨_, hT221, _, rfl, (S0.rf p0)⟩
  · refine yT.aan (pc' := 13) g0 rfl rfl rfl ?_
    refine yT.kb (pc' := 15) rfl rfl (by decide) (fun x224 e225 => ?_)
    refine kSI (yT.cc (G2 := 0) (pc' := 18) rfl rfl rfl hT108 (K.up rfl : xnth ks 60 = some (19, 0)) xM_164 (r164  K hT108 x224 (by omega)) rfl (by omega) (by decide) rfl) (fun h226 x229 hT227 E228 => ?_)
    exact yT.retI rfl rfl ⟨_, hT227, _, rfl, (S0.rf p0)⟩
