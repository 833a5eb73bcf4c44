-- rX9_plain
set_option maxRecDepth 100000 in
set_option maxHeartbeats 4000000 in
theorem r248 {ks : List cT} {B0 : Nat} (K : KE KS0 ks B0) {σ : sg} {ρ : Nat → xE} {h : List xE} (hT : HT ks σ ρ h) (x1 : Int32) {k : Nat} (p0 : RI k σ) (p1 : k ≤ 512) : yM 248 (1522) 0 [.ref (60 + 1), .int x1] h (RQL ks ρ (fun σ' r => S0 k σ σ')) := by
  refine yM.st xM_248 rfl rfl (fun lv g => ?_)
  have g0 := g 0 _ rfl
  have g1 := g 1 _ rfl
  have hRO := p0.1.1.1
  have hcm := hRO.1
  have hG := p0.1.2.2.1
  have hL := p0.1.2.1
  have hB := p0.1.2.2.2.1
  obtain ⟨f0, f1, f2, f3, f4, f5, f6⟩ := RX.flu p0 (by omega) (by omega)
  have hKO := p0.1.1.2.2.1
  refine yT.aan (pc' := 1) g0 rfl rfl rfl ?_
  refine yT.iln (pc' := 2) g1 rfl rfl ?_
  refine kSI (yT.cc (G2 := 0) (pc' := 5) rfl rfl rfl hT (K.up rfl : xnth ks 60 = some (19, 0)) xM_240 (r240  K hT x1 hRO) rfl (by omega) (by decide) rfl) (fun h101 x104 hT102 E103 => ?_)
  refine yT.if1 (t := 18) (pc' := 8) rfl rfl rfl (c1_eq rfl) (fun c105 => ?_) (fun c105 => ?_)
  · refine yT.aan (pc' := 19) g0 rfl rfl rfl ?_
    refine yT.kb (pc' := 21) rfl rfl (by decide) (fun x106 e107 => ?_)
    refine kSL (yT.cc (G2 := 0) (pc' := 24) rfl rfl rfl hT102 (K.up rfl : xnth ks 60 = some (19, 0)) xM_165 (r165  K hT102 x106 (by omega)) rfl (by omega) (by decide) rfl) (fun h108 x111 hT109 E110 => ?_)
    have hS := S0.rf p0
    exact yT.retL rfl rfl ⟨_, hT109, _, rfl, hS⟩
  · have hk3 : nw σ (282 * (x1.toInt).toNat + 0) = 1 ∨ nw σ (282 * (x1.toInt).toNat + 0) = 3 ∨ nw σ (282 * (x1.toInt).toNat + 0) = 4 := by have := hKO (x1.toInt).toNat (by omega); omega
    refine yT.aan (pc' := 9) g0 rfl rfl rfl ?_
    refine yT.iln (pc' := 10) g1 rfl rfl ?_
    refine yT.kI (pc' := 11) rfl rfl (by decide) (fun x112 e113 => ?_)
    refine yT.kI (pc' := 12) rfl rfl (by decide) (fun x114 e115 => ?_)
    refine kRL (yT.cc (G2 := 0) (pc' := 15) rfl rfl rfl hT102 (K.up rfl : xnth ks 60 = some (19, 0)) xM_194 (r194 (c := (x1.toInt).toNat) K hT102 (by omega) x112 x114 (by omega) hk3 f1 hKO f2 f3 f4) rfl (by omega) (by decide) rfl) (fun h116 σ120 x119 hT117 E118 => ?_)
    have hS := S0.py p0 E118
    refine yT.p (pc' := 24) rfl rfl (fun _ _ _ _ => rfl) ?_
    exact yT.retL rfl rfl ⟨_, hT117, _, rfl, hS⟩
-- rX9_whatIf
set_option maxRecDepth 100000 in
set_option maxHeartbeats 4000000 in
theorem r249 {ks : List cT} {B0 : Nat} (K : KE KS0 ks B0) {σ : sg} {ρ : Nat → xE} {h : List xE} (hT : HT ks σ ρ h) (x1 : Int32) (x2 : Int32) (x3 : Int32) {k : Nat} (p0 : RI k σ) (p1 : k ≤ 512) : yM 249 (1522) 0 [.ref (60 + 1), .int x1, .int x2, .int x3] h (RQL ks ρ (fun σ' r => S0 k σ σ')) := by
  refine yM.st xM_249 rfl rfl (fun lv g => ?_)
  have g0 := g 0 _ rfl
  have g1 := g 1 _ rfl
  have g2 := g 2 _ rfl
  have g3 := g 3 _ rfl
  have hRO := p0.1.1.1
  have hcm := hRO.1
  have hG := p0.1.2.2.1
  have hL := p0.1.2.1
  have hB := p0.1.2.2.2.1
  obtain ⟨f0, f1, f2, f3, f4, f5, f6⟩ := RX.flu p0 (by omega) (by omega)
  have hKO := p0.1.1.2.2.1
  refine yT.aan (pc' := 1) g0 rfl rfl rfl ?_
  refine yT.iln (pc' := 2) g1 rfl rfl ?_
  refine kSI (yT.cc (G2 := 0) (pc' := 5) rfl rfl rfl hT (K.up rfl : xnth ks 60 = some (19, 0)) xM_235 (r235  K hT x1 hRO) rfl (by omega) (by decide) rfl) (fun h101 x104 hT102 E103 => ?_)
  refine yT.if1 (t := 26) (pc' := 8) rfl rfl rfl (c1_eq rfl) (fun c105 => ?_) (fun c105 => ?_)
  · refine yT.aan (pc' := 27) g0 rfl rfl rfl ?_
    refine yT.kb (pc' := 29) rfl rfl (by decide) (fun x106 e107 => ?_)
    refine kSL (yT.cc (G2 := 0) (pc' := 32) rfl rfl rfl hT102 (K.up rfl : xnth ks 60 = some (19, 0)) xM_165 (r165  K hT102 x106 (by omega)) rfl (by omega) (by decide) rfl) (fun h108 x111 hT109 E110 => ?_)
    have hS := S0.rf p0
    exact yT.retL rfl rfl ⟨_, hT109, _, rfl, hS⟩
  · refine yT.aan (pc' := 9) g0 rfl rfl rfl ?_
    refine yT.iln (pc' := 10) g3 rfl rfl ?_
    refine kSI (yT.cc (G2 := 0) (pc' := 13) rfl rfl rfl hT102 (K.up rfl : xnth ks 60 = some (19, 0)) xM_240 (r240  K hT102 x3 hRO) rfl (by omega) (by decide) rfl) (fun h112 x115 hT113 E114 => ?_)
    refine yT.if1 (t := 26) (pc' := 16) rfl rfl rfl (c1_eq rfl) (fun c116 => ?_) (fun c116 => ?_)
    · refine yT.aan (pc' := 27) g0 rfl rfl rfl ?_
      refine yT.kb (pc' := 29) rfl rfl (by decide) (fun x117 e118 => ?_)
      refine kSL (yT.cc (G2 := 0) (pc' := 32) rfl rfl rfl hT113 (K.up rfl : xnth ks 60 = some (19, 0)) xM_165 (r165  K hT113 x117 (by omega)) rfl (by omega) (by decide) rfl) (fun h119 x122 hT120 E121 => ?_)
      have hS := S0.rf p0
      exact yT.retL rfl rfl ⟨_, hT120, _, rfl, hS⟩
    · have hk3 : nw σ (282 * (x3.toInt).toNat + 0) = 1 ∨ nw σ (282 * (x3.toInt).toNat + 0) = 3 ∨ nw σ (282 * (x3.toInt).toNat + 0) = 4 := by have := hKO (x3.toInt).toNat (by omega); omega
      refine yT.aan (pc' := 17) g0 rfl rfl rfl ?_
      refine yT.iln (pc' := 18) g3 rfl rfl ?_
      refine yT.iln (pc' := 19) g1 rfl rfl ?_
      refine yT.iln (pc' := 20) g2 rfl rfl ?_
      refine kRL (yT.cc (G2 := 0) (pc' := 23) rfl rfl rfl hT113 (K.up rfl : xnth ks 60 = some (19, 0)) xM_194 (r194 (c := (x3.toInt).toNat) K hT113 (by omega) x1 x2 (by omega) hk3 f1 hKO f2 f3 f4) rfl (by omega) (by decide) rfl) (fun h123 σ127 x126 hT124 E125 => ?_)
      have hS := S0.py p0 E125
      refine yT.p (pc' := 32) rfl rfl (fun _ _ _ _ => rfl) ?_
      exact yT.retL rfl rfl ⟨_, hT124, _, rfl, hS⟩
-- rX9_aim
set_option maxRecDepth 100000 in
set_option maxHeartbeats 4000000 in
theorem r250 {ks : List cT} {B0 : Nat} (K : KE KS0 ks B0) {σ : sg} {ρ : Nat → xE} {h : List xE} (hT : HT ks σ ρ h) (x1 : Int32) (x2 : Int32) (x3 : Int32) {k : Nat} (p0 : RI k σ) (p1 : k ≤ 512) : yM 250 (1522) 0 [.ref (60 + 1), .int x1, .int x2, .int x3] h (RQI ks ρ (fun σ' r => S0 k σ σ')) := by
  refine yM.st xM_250 rfl rfl (fun lv g => ?_)
  have g0 := g 0 _ rfl
  have g1 := g 1 _ rfl
  have g2 := g 2 _ rfl
  have g3 := g 3 _ rfl
  have hRO := p0.1.1.1
  have hcm := hRO.1
  have hG := p0.1.2.2.1
  have hL := p0.1.2.1
  have hB := p0.1.2.2.2.1
  have hKO := p0.1.1.2.2.1
  refine yT.aan (pc' := 1) g0 rfl rfl rfl ?_
  refine yT.iln (pc' := 2) g1 rfl rfl ?_
  refine kSI (yT.cc (G2 := 0) (pc' := 5) rfl rfl rfl hT (K.up rfl : xnth ks 60 = some (19, 0)) xM_235 (r235  K hT x1 hRO) rfl (by omega) (by decide) rfl) (fun h101 x104 hT102 E103 => ?_)
  refine yT.if1 (t := 16) (pc' := 8) rfl rfl rfl (c1_eq rfl) (fun c105 => ?_) (fun c105 => ?_)
  · refine yT.aan (pc' := 17) g0 rfl rfl rfl ?_
    refine yT.kb (pc' := 19) rfl rfl (by decide) (fun x106 e107 => ?_)
    refine kSI (yT.cc (G2 := 0) (pc' := 22) rfl rfl rfl hT102 (K.up rfl : xnth ks 60 = some (19, 0)) xM_164 (r164  K hT102 x106 (by omega)) rfl (by omega) (by decide) rfl) (fun h108 x111 hT109 E110 => ?_)
    exact yT.retI rfl rfl ⟨_, hT109, _, rfl, (S0.rf p0)⟩
  · refine yT.aan (pc' := 9) g0 rfl rfl rfl ?_
    refine yT.iln (pc' := 10) g2 rfl rfl ?_
    refine kSI (yT.cc (G2 := 0) (pc' := 13) rfl rfl rfl hT102 (K.up rfl : xnth ks 60 = some (19, 0)) xM_240 (r240  K hT102 x2 hRO) rfl (by omega) (by decide) rfl) (fun h112 x115 hT113 E114 => ?_)
    refine yT.if1 (t := 23) (pc' := 16) rfl rfl rfl (c1_ne rfl) (fun c116 => ?_) (fun c116 => ?_)
    · have hk3 : nw σ (282 * (x2.toInt).toNat + 0) = 1 ∨ nw σ (282 * (x2.toInt).toNat + 0) = 3 ∨ nw σ (282 * (x2.toInt).toNat + 0) = 4 := by have := hKO (x2.toInt).toNat (by omega); omega
      refine yT.kb (pc' := 25) rfl rfl (by decide) (fun x117 e118 => ?_)
      refine yT.p (pc' := 27) (lv' := xst1 _ 4 (.int x117)) rfl rfl (fun _ _ _ _ => rfl) ?_
      have L119 : ∀ (n132 : Nat) (lv120 : xLv) (σ121 : sg) (h122 : List xE) (x124 : Int32), HT ks σ121 ρ h122 → xget lv120 0 = some (.ref (60 + 1)) → xget lv120 1 = some (.int x1) → xget lv120 2 = some (.int x2) → xget lv120 3 = some (.int x3) → xget lv120 4 = some (.int x124) → PY σ σ121 → -20 ≤ (x124.toInt) → (21 - (x124.toInt)).toNat < n132 → yT 0 [] rX9_aim (1522) 0 27 lv120 [] h122 (RQI ks ρ (fun σ' r => S0 k σ σ')) := by
        intro n132
        induction n132 with
        | zero => intro lv120 σ121 h122 x124 hT123 g125 g126 g127 g128 g129 i130 i131 m133; exact absurd m133 (Nat.not_lt_zero _)
        | succ n132 ih134 =>
          intro lv120 σ121 h122 x124 hT123 g125 g126 g127 g128 g129 i130 i131 m133
          have hPY := i130
          have h61 : σ121 61 = σ 61 := hPY.1 61 (by decide) (by decide)
          have hR := (S0.py p0 hPY).1
          obtain ⟨f0, f1, f2, f3, f4, f5, f6⟩ := RX.flu hR (by omega) (by omega)
          have hKO := hR.1.1.2.2.1
          have hcm1 := hR.1.1.1.1
          have hRO1 := hR.1.1.1
          refine yT.il (pc' := 29) g129 rfl rfl ?_
          refine yT.kb (pc' := 31) rfl rfl (by decide) (fun x135 e136 => ?_)
          refine yT.if2 (t := 69) (pc' := 34) rfl rfl rfl (c2_gt rfl e136) (fun c137 => ?_) (fun c137 => ?_)
          · refine yT.kb (pc' := 71) rfl rfl (by decide) (fun x138 e139 => ?_)
            exact yT.retI rfl rfl ⟨_, hT123, _, rfl, (S0.py p0 hPY)⟩
          · refine yT.aan (pc' := 35) g125 rfl rfl rfl ?_
            refine yT.iln (pc' := 36) g127 rfl rfl ?_
            refine yT.iln (pc' := 37) g126 rfl rfl ?_
            refine yT.il (pc' := 39) g129 rfl rfl ?_
            refine kRL (yT.cc (G2 := 0) (pc' := 42) rfl rfl rfl hT123 (K.up rfl : xnth ks 60 = some (19, 0)) xM_194 (r194 (c := (x2.toInt).toNat) K hT123 (by omega) x1 x124 (by omega) (by rw [nw_e h61]; exact hk3) f1 hKO f2 f3 f4) rfl (by omega) (by decide) rfl) (fun h140 σ144 x143 hT141 E142 => ?_)
            have hPY := hPY.tr E142
            refine yT.p (pc' := 44) (lv' := xst2 _ 5 (.long x143)) rfl rfl (fun _ _ _ _ => rfl) ?_
            refine yT.ll (pc' := 46) xg2_eq rfl rfl ?_
            refine kSI (yT.cst (G2 := 0) (pc' := 49) rfl rfl xM_171 (r171  K hT141 x143) rfl (by omega) (by decide) rfl) (fun h145 x148 hT146 E147 => ?_)
            refine yT.if1 (t := 63) (pc' := 52) rfl rfl rfl (c1_ne rfl) (fun c149 => ?_) (fun c149 => ?_)
            · refine yT.inc2 (pc' := 66) (Z := x124.toInt + 1) (xg2_ne g129 rfl) rfl rfl rfl rfl ⟨by decide, by omega⟩ (fun x150 e151 => ?_)
              refine yT.p (pc' := 27) rfl rfl (fun _ _ _ _ => rfl) ?_
              exact ih134 _ σ144 _ x150 hT146 (xg_ne (xg2_ne g125 rfl) rfl) (xg_ne (xg2_ne g126 rfl) rfl) (xg_ne (xg2_ne g127 rfl) rfl) (xg_ne (xg2_ne g128 rfl) rfl) xg_eq hPY (by omega) (by omega)
            · refine yT.ll (pc' := 54) xg2_eq rfl rfl ?_
              refine yT.iln (pc' := 55) (xg2_ne g128 rfl) rfl rfl ?_
              refine yT.i2l2 (pc' := 56) (X := x3.toInt) rfl rfl rfl (fun y152 e153 => ?_)
              refine yT.cmp2 (pc' := 57) (U := x143.toInt) (V := x3.toInt) rfl e153 rfl rfl (fun x154 c155 => ?_)
              refine yT.if1 (t := 63) (pc' := 60) rfl rfl rfl (c1_lt rfl) (fun c156 => ?_) (fun c156 => ?_)
              · refine yT.inc2 (pc' := 66) (Z := x124.toInt + 1) (xg2_ne g129 rfl) rfl rfl rfl rfl ⟨by decide, by omega⟩ (fun x157 e158 => ?_)
                refine yT.p (pc' := 27) rfl rfl (fun _ _ _ _ => rfl) ?_
                exact ih134 _ σ144 _ x157 hT146 (xg_ne (xg2_ne g125 rfl) rfl) (xg_ne (xg2_ne g126 rfl) rfl) (xg_ne (xg2_ne g127 rfl) rfl) (xg_ne (xg2_ne g128 rfl) rfl) xg_eq hPY (by omega) (by omega)
              · refine yT.il (pc' := 62) (xg2_ne g129 rfl) rfl rfl ?_
                exact yT.retI rfl rfl ⟨_, hT146, _, rfl, (S0.py p0 hPY)⟩
      exact L119 _ _ σ _ x117 hT113 (xg_ne g0 rfl) (xg_ne g1 rfl) (xg_ne g2 rfl) (xg_ne g3 rfl) xg_eq PY.rf (by omega) (Nat.lt_succ_self _)
    · refine yT.aan (pc' := 17) g0 rfl rfl rfl ?_
      refine yT.kb (pc' := 19) rfl rfl (by decide) (fun x159 e160 => ?_)
      refine kSI (yT.cc (G2 := 0) (pc' := 22) rfl rfl rfl hT113 (K.up rfl : xnth ks 60 = some (19, 0)) xM_164 (r164  K hT113 x159 (by omega)) rfl (by omega) (by decide) rfl) (fun h161 x164 hT162 E163 => ?_)
      exact yT.retI rfl rfl ⟨_, hT162, _, rfl, (S0.rf p0)⟩
-- rX9_news
set_option maxRecDepth 100000 in
set_option maxHeartbeats 4000000 in
theorem r251 {ks : List cT} {B0 : Nat} (K : KE KS0 ks B0) {σ : sg} {ρ : Nat → xE} {h : List xE} (hT : HT ks σ ρ h) (x1 : Int32) (x2 : Int32) {k : Nat} (p0 : RI k σ) (p1 : k ≤ 512) : yM 251 (1522) 0 [.ref (60 + 1), .int x1, .int x2] h (RQI ks ρ (fun σ' r => S0 k σ σ')) := by
  refine yM.st xM_251 rfl rfl (fun lv g => ?_)
  have g0 := g 0 _ rfl
  have g1 := g 1 _ rfl
  have g2 := g 2 _ rfl
  have hRO := p0.1.1.1
  have hcm := hRO.1
  have hG := p0.1.2.2.1
  have hL := p0.1.2.1
  have hB := p0.1.2.2.2.1
  refine yT.aan (pc' := 1) g0 rfl rfl rfl ?_
  refine yT.iln (pc' := 2) g1 rfl rfl ?_
  refine kSI (yT.cc (G2 := 0) (pc' := 5) rfl rfl rfl hT (K.up rfl : xnth ks 60 = some (19, 0)) xM_235 (r235  K hT x1 hRO) rfl (by omega) (by decide) rfl) (fun h101 x104 hT102 E103 => ?_)
  refine yT.if1 (t := 15) (pc' := 8) rfl rfl rfl (c1_ne rfl) (fun c105 => ?_) (fun c105 => ?_)
  · refine yT.kI (pc' := 16) rfl rfl (by decide) (fun x106 e107 => ?_)
    refine yT.p (pc' := 17) (lv' := xst1 _ 3 (.int x106)) rfl rfl (fun _ _ _ _ => rfl) ?_
    refine yT.kI (pc' := 18) rfl rfl (by decide) (fun x108 e109 => ?_)
    refine yT.p (pc' := 20) (lv' := xst1 _ 4 (.int x108)) rfl rfl (fun _ _ _ _ => rfl) ?_
    have L110 : ∀ (n125 : Nat) (lv111 : xLv) (σ112 : sg) (h113 : List xE) (x115 : Int32) (c117 : Nat) (x116 : Int32), HT ks σ112 ρ h113 → x116.toInt = (c117 : Int) → xget lv111 0 = some (.ref (60 + 1)) → xget lv111 1 = some (.int x1) → xget lv111 2 = some (.int x2) → xget lv111 3 = some (.int x115) → xget lv111 4 = some (.int x116) → PY σ σ112 → 24 - (c117) < n125 → yT 0 [] rX9_news (1522) 0 20 lv111 [] h113 (RQI ks ρ (fun σ' r => S0 k σ σ')) := by
      intro n125
      induction n125 with
      | zero => intro lv111 σ112 h113 x115 c117 x116 hT114 e118 g119 g120 g121 g122 g123 i124 m126; exact absurd m126 (Nat.not_lt_zero _)
      | succ n125 ih127 =>
        intro lv111 σ112 h113 x115 c117 x116 hT114 e118 g119 g120 g121 g122 g123 i124 m126
        have hPY := i124
        have h61 : σ112 61 = σ 61 := hPY.1 61 (by decide) (by decide)
        have hR := (S0.py p0 hPY).1
        obtain ⟨f0, f1, f2, f3, f4, f5, f6⟩ := RX.flu hR (by omega) (by omega)
        have hKO := hR.1.1.2.2.1
        have hcm1 := hR.1.1.1.1
        have hRO1 := hR.1.1.1
        refine yT.il (pc' := 22) g123 rfl rfl ?_
        refine yT.aan (pc' := 23) g119 rfl rfl rfl ?_
        refine yT.cg8 (pc' := 26) rfl rfl hT114 (K.up rfl) rfl rfl (fun _ => ?_)
        refine yT.ks (pc' := 29) rfl rfl (by decide) (fun x128 e129 => ?_)
        refine yT.tia (6768) (pc' := 30) rfl rfl hT114 (K.up rfl) e129 (by omega) (fun x130 z132 => ?_)
        have e131 : x130.toInt = nw σ112 (6768) := congrArg Int32.toInt z132
        refine yT.if2 (t := 101) (pc' := 33) rfl rfl rfl (c2_ge e118 e131) (fun c133 => ?_) (fun c133 => ?_)
        · refine yT.iln (pc' := 102) g122 rfl rfl ?_
          exact yT.retI rfl rfl ⟨_, hT114, _, rfl, (S0.py p0 hPY)⟩
        · refine yT.aan (pc' := 34) g119 rfl rfl rfl ?_
          refine yT.il (pc' := 36) g123 rfl rfl ?_
          refine kSI (yT.cc (G2 := 0) (pc' := 39) rfl rfl rfl hT114 (K.up rfl : xnth ks 60 = some (19, 0)) xM_169 (r169 (c := c117) K hT114 e118 (by omega)) rfl (by omega) (by decide) rfl) (fun h134 x137 hT135 E136 => ?_)
          refine yT.if1 (t := 76) (pc' := 42) rfl rfl rfl (c1_eq rfl) (fun c138 => ?_) (fun c138 => ?_)
          · refine yT.kI (pc' := 77) rfl rfl (by decide) (fun x139 e140 => ?_)
            refine yT.p (pc' := 79) (lv' := xst1 _ 5 (.int x139)) rfl rfl (fun _ _ _ _ => rfl) ?_
            refine yT.iln (pc' := 80) (xg_ne g122 rfl) rfl rfl ?_
            refine yT.il (pc' := 82) xg_eq rfl rfl ?_
            refine yT.if1 (t := 92) (pc' := 85) rfl rfl rfl (c1_eq e140) (fun c141 => ?_) (fun c141 => by omega)
            refine yT.kI (pc' := 93) rfl rfl (by decide) (fun x142 e143 => ?_)
            refine yT.or2 (pc' := 94) rfl rfl (fun x144 u145 => ?_)
            refine yT.p (pc' := 95) (lv' := xst1 _ 3 (.int x144)) rfl rfl (fun _ _ _ _ => rfl) ?_
            refine yT.inc2 (pc' := 98) (Z := (c117 : Int) + 1) (xg_ne (xg_ne g123 rfl) rfl) e118 rfl rfl rfl ⟨by decide, by omega⟩ (fun x146 e147 => ?_)
            refine yT.p (pc' := 20) rfl rfl (fun _ _ _ _ => rfl) ?_
            exact ih127 _ σ112 _ x144 (c117 + 1) x146 hT135 (by omega) (xg_ne (xg_ne (xg_ne g119 rfl) rfl) rfl) (xg_ne (xg_ne (xg_ne g120 rfl) rfl) rfl) (xg_ne (xg_ne (xg_ne g121 rfl) rfl) rfl) (xg_ne xg_eq rfl) xg_eq hPY (by omega)
          · refine yT.aan (pc' := 43) g119 rfl rfl rfl ?_
            refine yT.il (pc' := 45) g123 rfl rfl ?_
            refine yT.kI (pc' := 46) rfl rfl (by decide) (fun x148 e149 => ?_)
            refine kSI (yT.cc (G2 := 0) (pc' := 49) rfl rfl rfl hT135 (K.up rfl : xnth ks 60 = some (19, 0)) xM_166 (r166 (c := c117) (w := 2) K hT135 e118 (by omega) (by omega)) rfl (by omega) (by decide) rfl) (fun h150 x153 hT151 E152 => ?_)
            refine yT.if1 (t := 76) (pc' := 52) rfl rfl rfl (c1_ne E152) (fun c154 => ?_) (fun c154 => ?_)
            · refine yT.kI (pc' := 77) rfl rfl (by decide) (fun x155 e156 => ?_)
              refine yT.p (pc' := 79) (lv' := xst1 _ 5 (.int x155)) rfl rfl (fun _ _ _ _ => rfl) ?_
              refine yT.iln (pc' := 80) (xg_ne g122 rfl) rfl rfl ?_
              refine yT.il (pc' := 82) xg_eq rfl rfl ?_
              refine yT.if1 (t := 92) (pc' := 85) rfl rfl rfl (c1_eq e156) (fun c157 => ?_) (fun c157 => by omega)
              refine yT.kI (pc' := 93) rfl rfl (by decide) (fun x158 e159 => ?_)
              refine yT.or2 (pc' := 94) rfl rfl (fun x160 u161 => ?_)
              refine yT.p (pc' := 95) (lv' := xst1 _ 3 (.int x160)) rfl rfl (fun _ _ _ _ => rfl) ?_
              refine yT.inc2 (pc' := 98) (Z := (c117 : Int) + 1) (xg_ne (xg_ne g123 rfl) rfl) e118 rfl rfl rfl ⟨by decide, by omega⟩ (fun x162 e163 => ?_)
              refine yT.p (pc' := 20) rfl rfl (fun _ _ _ _ => rfl) ?_
              exact ih127 _ σ112 _ x160 (c117 + 1) x162 hT151 (by omega) (xg_ne (xg_ne (xg_ne g119 rfl) rfl) rfl) (xg_ne (xg_ne (xg_ne g120 rfl) rfl) rfl) (xg_ne (xg_ne (xg_ne g121 rfl) rfl) rfl) (xg_ne xg_eq rfl) xg_eq hPY (by omega)
            · have hk3 : nw σ112 (282 * (c117) + 0) = 1 ∨ nw σ112 (282 * (c117) + 0) = 3 ∨ nw σ112 (282 * (c117) + 0) = 4 := by omega
              refine yT.aan (pc' := 53) g119 rfl rfl rfl ?_
              refine yT.il (pc' := 55) g123 rfl rfl ?_
              refine yT.kI (pc' := 56) rfl rfl (by decide) (fun x164 e165 => ?_)
              refine yT.kI (pc' := 57) rfl rfl (by decide) (fun x166 e167 => ?_)
              refine kRL (yT.cc (G2 := 0) (pc' := 60) rfl rfl rfl hT151 (K.up rfl : xnth ks 60 = some (19, 0)) xM_194 (r194 (c := c117) K hT151 e118 x164 x166 (by omega) hk3 f1 hKO f2 f3 f4) rfl (by omega) (by decide) rfl) (fun h168 σ172 x171 hT169 E170 => ?_)
              have hE := E170
              have h61b := hE.1 61 (by decide) (by decide)
              have hPY := hPY.tr hE
              have hR2 := (S0.py p0 hPY).1
              obtain ⟨g0, g1, g2, g3, g4, g5, g6⟩ := RX.flu hR2 (by omega) (by omega)
              have hKO2 := hR2.1.1.2.2.1
              refine yT.aan (pc' := 61) g119 rfl rfl rfl ?_
              refine yT.il (pc' := 63) g123 rfl rfl ?_
              refine yT.iln (pc' := 64) g120 rfl rfl ?_
              refine yT.iln (pc' := 65) g121 rfl rfl ?_
              refine kRL (yT.cc (G2 := 0) (pc' := 68) rfl rfl rfl hT169 (K.up rfl : xnth ks 60 = some (19, 0)) xM_194 (r194 (c := c117) K hT169 e118 x1 x2 (by omega) (by rw [nw_e h61b]; exact hk3) g1 hKO2 g2 g3 g4) rfl (by omega) (by decide) rfl) (fun h173 σ177 x176 hT174 E175 => ?_)
              have hPY := hPY.tr E175
              refine yT.cmp2 (pc' := 69) (U := x171.toInt) (V := x176.toInt) rfl rfl rfl rfl (fun x178 c179 => ?_)
              refine yT.if1 (t := 76) (pc' := 72) rfl rfl rfl (c1_eq rfl) (fun c180 => ?_) (fun c180 => ?_)
              · refine yT.kI (pc' := 77) rfl rfl (by decide) (fun x181 e182 => ?_)
                refine yT.p (pc' := 79) (lv' := xst1 _ 5 (.int x181)) rfl rfl (fun _ _ _ _ => rfl) ?_
                refine yT.iln (pc' := 80) (xg_ne g122 rfl) rfl rfl ?_
                refine yT.il (pc' := 82) xg_eq rfl rfl ?_
                refine yT.if1 (t := 92) (pc' := 85) rfl rfl rfl (c1_eq e182) (fun c183 => ?_) (fun c183 => by omega)
                refine yT.kI (pc' := 93) rfl rfl (by decide) (fun x184 e185 => ?_)
                refine yT.or2 (pc' := 94) rfl rfl (fun x186 u187 => ?_)
                refine yT.p (pc' := 95) (lv' := xst1 _ 3 (.int x186)) rfl rfl (fun _ _ _ _ => rfl) ?_
                refine yT.inc2 (pc' := 98) (Z := (c117 : Int) + 1) (xg_ne (xg_ne g123 rfl) rfl) e118 rfl rfl rfl ⟨by decide, by omega⟩ (fun x188 e189 => ?_)
                refine yT.p (pc' := 20) rfl rfl (fun _ _ _ _ => rfl) ?_
                exact ih127 _ σ177 _ x186 (c117 + 1) x188 hT174 (by omega) (xg_ne (xg_ne (xg_ne g119 rfl) rfl) rfl) (xg_ne (xg_ne (xg_ne g120 rfl) rfl) rfl) (xg_ne (xg_ne (xg_ne g121 rfl) rfl) rfl) (xg_ne xg_eq rfl) xg_eq hPY (by omega)
              · refine yT.kI (pc' := 73) rfl rfl (by decide) (fun x190 e191 => ?_)
                refine yT.p (pc' := 77) rfl rfl (fun _ _ _ _ => rfl) ?_
                refine yT.p (pc' := 79) (lv' := xst1 _ 5 (.int x190)) rfl rfl (fun _ _ _ _ => rfl) ?_
                refine yT.iln (pc' := 80) (xg_ne g122 rfl) rfl rfl ?_
                refine yT.il (pc' := 82) xg_eq rfl rfl ?_
                refine yT.if1 (t := 92) (pc' := 85) rfl rfl rfl (c1_eq e191) (fun c192 => by omega) (fun c192 => ?_)
                refine yT.kI (pc' := 86) rfl rfl (by decide) (fun x193 e194 => ?_)
                refine yT.il (pc' := 88) (xg_ne g123 rfl) rfl rfl ?_
                refine yT.fi (pc' := 89) rfl rfl (fun _ _ _ _ => rfl) (fun x195 => ?_)
                refine yT.p (pc' := 93) rfl rfl (fun _ _ _ _ => rfl) ?_
                refine yT.or2 (pc' := 94) rfl rfl (fun x196 u197 => ?_)
                refine yT.p (pc' := 95) (lv' := xst1 _ 3 (.int x196)) rfl rfl (fun _ _ _ _ => rfl) ?_
                refine yT.inc2 (pc' := 98) (Z := (c117 : Int) + 1) (xg_ne (xg_ne g123 rfl) rfl) e118 rfl rfl rfl ⟨by decide, by omega⟩ (fun x198 e199 => ?_)
                refine yT.p (pc' := 20) rfl rfl (fun _ _ _ _ => rfl) ?_
                exact ih127 _ σ177 _ x196 (c117 + 1) x198 hT174 (by omega) (xg_ne (xg_ne (xg_ne g119 rfl) rfl) rfl) (xg_ne (xg_ne (xg_ne g120 rfl) rfl) rfl) (xg_ne (xg_ne (xg_ne g121 rfl) rfl) rfl) (xg_ne xg_eq rfl) xg_eq hPY (by omega)
    exact L110 _ _ σ _ x106 (0) x108 hT102 (by omega) (xg_ne (xg_ne g0 rfl) rfl) (xg_ne (xg_ne g1 rfl) rfl) (xg_ne (xg_ne g2 rfl) rfl) (xg_ne xg_eq rfl) xg_eq PY.rf (Nat.lt_succ_self _)
  · refine yT.aan (pc' := 9) g0 rfl rfl rfl ?_
    refine yT.kb (pc' := 11) rfl rfl (by decide) (fun x200 e201 => ?_)
    refine kSI (yT.cc (G2 := 0) (pc' := 14) rfl rfl rfl hT102 (K.up rfl : xnth ks 60 = some (19, 0)) xM_164 (r164  K hT102 x200 (by omega)) rfl (by omega) (by decide) rfl) (fun h202 x205 hT203 E204 => ?_)
    exact yT.retI rfl rfl ⟨_, hT203, _, rfl, (S0.rf p0)⟩
