-- rX9_isOwner
set_option maxRecDepth 100000 in
set_option maxHeartbeats 4000000 in
theorem r224 {ks : List cT} {B0 : Nat} (K : KE KS0 ks B0) {σ : sg} {ρ : Nat → xE} {h : List xE} (hT : HT ks σ ρ h) (x1 : Int32) (p0 : RO σ) : yM 224 (2) 0 [.ref (60 + 1), .int x1] h (SQI ks σ ρ (fun r => (r.toInt = 0 ∨ r.toInt = 1) ∧ (r.toInt = 1 → -1 ≤ x1.toInt ∧ x1.toInt < nw σ 6768))) := by
  refine yM.st xM_224 rfl rfl (fun lv g => ?_)
  have g0 := g 0 _ rfl
  have g1 := g 1 _ rfl
  have hcm := p0.1
  refine yT.iln (pc' := 1) g1 rfl rfl ?_
  refine yT.kI (pc' := 2) rfl rfl (by decide) (fun x101 e102 => ?_)
  refine yT.if2 (t := 42) (pc' := 5) rfl rfl rfl (c2_eq rfl e102) (fun c103 => ?_) (fun c103 => ?_)
  · refine yT.kI (pc' := 43) rfl rfl (by decide) (fun x104 e105 => ?_)
    refine yT.p (pc' := 47) rfl rfl (fun _ _ _ _ => rfl) ?_
    exact yT.retZ rfl rfl (b01 (by omega) (by omega)) ⟨hT, _, rfl, ⟨by omega, fun _ => by omega⟩⟩
  · refine yT.aan (pc' := 6) g0 rfl rfl rfl ?_
    refine yT.iln (pc' := 7) g1 rfl rfl ?_
    refine kSI (yT.cc (G2 := 0) (pc' := 10) rfl rfl rfl hT (K.up rfl : xnth ks 60 = some (19, 0)) xM_168 (r168  K hT x1 (by omega)) rfl (by omega) (by decide) rfl) (fun h106 x109 hT107 E108 => ?_)
    refine yT.if1 (t := 46) (pc' := 13) rfl rfl rfl (c1_eq rfl) (fun c110 => ?_) (fun c110 => ?_)
    · refine yT.kI (pc' := 47) rfl rfl (by decide) (fun x111 e112 => ?_)
      exact yT.retZ rfl rfl (b01 (by omega) (by omega)) ⟨hT107, _, rfl, ⟨by omega, fun _ => by omega⟩⟩
    · refine yT.aan (pc' := 14) g0 rfl rfl rfl ?_
      refine yT.iln (pc' := 15) g1 rfl rfl ?_
      refine yT.kI (pc' := 16) rfl rfl (by decide) (fun x113 e114 => ?_)
      refine kSI (yT.cc (G2 := 0) (pc' := 19) rfl rfl rfl hT107 (K.up rfl : xnth ks 60 = some (19, 0)) xM_166 (r166 (c := (x1.toInt).toNat) (w := 2) K hT107 (by omega) (by omega) (by omega)) rfl (by omega) (by decide) rfl) (fun h115 x118 hT116 E117 => ?_)
      refine yT.if1 (t := 46) (pc' := 22) rfl rfl rfl (c1_ne E117) (fun c119 => ?_) (fun c119 => ?_)
      · refine yT.kI (pc' := 47) rfl rfl (by decide) (fun x120 e121 => ?_)
        exact yT.retZ rfl rfl (b01 (by omega) (by omega)) ⟨hT116, _, rfl, ⟨by omega, fun _ => by omega⟩⟩
      · refine yT.aan (pc' := 23) g0 rfl rfl rfl ?_
        refine yT.iln (pc' := 24) g1 rfl rfl ?_
        refine yT.kI (pc' := 25) rfl rfl (by decide) (fun x122 e123 => ?_)
        refine kSI (yT.cc (G2 := 0) (pc' := 28) rfl rfl rfl hT116 (K.up rfl : xnth ks 60 = some (19, 0)) xM_166 (r166 (c := (x1.toInt).toNat) (w := 0) K hT116 (by omega) (by omega) (by omega)) rfl (by omega) (by decide) rfl) (fun h124 x127 hT125 E126 => ?_)
        refine yT.kI (pc' := 29) rfl rfl (by decide) (fun x128 e129 => ?_)
        refine yT.if2 (t := 42) (pc' := 32) rfl rfl rfl (c2_eq E126 e129) (fun c130 => ?_) (fun c130 => ?_)
        · refine yT.kI (pc' := 43) rfl rfl (by decide) (fun x131 e132 => ?_)
          refine yT.p (pc' := 47) rfl rfl (fun _ _ _ _ => rfl) ?_
          exact yT.retZ rfl rfl (b01 (by omega) (by omega)) ⟨hT125, _, rfl, ⟨by omega, fun _ => by omega⟩⟩
        · refine yT.aan (pc' := 33) g0 rfl rfl rfl ?_
          refine yT.iln (pc' := 34) g1 rfl rfl ?_
          refine yT.kI (pc' := 35) rfl rfl (by decide) (fun x133 e134 => ?_)
          refine kSI (yT.cc (G2 := 0) (pc' := 38) rfl rfl rfl hT125 (K.up rfl : xnth ks 60 = some (19, 0)) xM_166 (r166 (c := (x1.toInt).toNat) (w := 0) K hT125 (by omega) (by omega) (by omega)) rfl (by omega) (by decide) rfl) (fun h135 x138 hT136 E137 => ?_)
          refine yT.kI (pc' := 39) rfl rfl (by decide) (fun x139 e140 => ?_)
          refine yT.if2 (t := 46) (pc' := 42) rfl rfl rfl (c2_ne E137 e140) (fun c141 => ?_) (fun c141 => ?_)
          · refine yT.kI (pc' := 47) rfl rfl (by decide) (fun x142 e143 => ?_)
            exact yT.retZ rfl rfl (b01 (by omega) (by omega)) ⟨hT136, _, rfl, ⟨by omega, fun _ => by omega⟩⟩
          · refine yT.kI (pc' := 43) rfl rfl (by decide) (fun x144 e145 => ?_)
            refine yT.p (pc' := 47) rfl rfl (fun _ _ _ _ => rfl) ?_
            exact yT.retZ rfl rfl (b01 (by omega) (by omega)) ⟨hT136, _, rfl, ⟨by omega, fun _ => by omega⟩⟩
-- rX9_made
set_option maxRecDepth 100000 in
set_option maxHeartbeats 4000000 in
theorem r225 {ks : List cT} {B0 : Nat} (K : KE KS0 ks B0) {σ : sg} {ρ : Nat → xE} {h : List xE} (hT : HT ks σ ρ h) (x1 : Int32) (x2 : Int32) (p0 : RO σ) (p1 : nw σ 6768 < 24) : yM 225 (1) 0 [.ref (60 + 1), .int x1, .int x2] h (RQI ks ρ (fun σ' r => r.toInt = nw σ 6768 ∧ MD (nw σ 6768).toNat x1.toInt x2.toInt σ σ')) := by
  refine yM.st xM_225 rfl rfl (fun lv g => ?_)
  have g0 := g 0 _ rfl
  have g1 := g 1 _ rfl
  have g2 := g 2 _ rfl
  have hcm := p0.1
  refine yT.aan (pc' := 1) g0 rfl rfl rfl ?_
  refine yT.cg8 (pc' := 4) rfl rfl hT (K.up rfl) rfl rfl (fun _ => ?_)
  refine yT.ks (pc' := 7) rfl rfl (by decide) (fun x101 e102 => ?_)
  refine yT.tia (6768) (pc' := 8) rfl rfl hT (K.up rfl) e102 (by omega) (fun x103 z105 => ?_)
  have e104 : x103.toInt = nw σ (6768) := congrArg Int32.toInt z105
  refine yT.p (pc' := 9) (lv' := xst1 _ 3 (.int x103)) rfl rfl (fun _ _ _ _ => rfl) ?_
  refine yT.kI (pc' := 10) rfl rfl (by decide) (fun x106 e107 => ?_)
  refine yT.p (pc' := 12) (lv' := xst1 _ 4 (.int x106)) rfl rfl (fun _ _ _ _ => rfl) ?_
  have L108 : ∀ (n123 : Nat) (lv109 : xLv) (σ110 : sg) (h111 : List xE) (k114 : Nat) (x113 : Int32), HT ks σ110 ρ h111 → x113.toInt = (k114 : Int) → xget lv109 0 = some (.ref (60 + 1)) → xget lv109 1 = some (.int x1) → xget lv109 2 = some (.int x2) → xget lv109 3 = some (.int x103) → xget lv109 4 = some (.int x113) → MZ (nw σ 6768).toNat σ σ110 (k114) → (k114) ≤ 282 → 282 - (k114) < n123 → yT 0 [] rX9_made (1) 0 12 lv109 [] h111 (RQI ks ρ (fun σ' r => r.toInt = nw σ 6768 ∧ MD (nw σ 6768).toNat x1.toInt x2.toInt σ σ')) := by
    intro n123
    induction n123 with
    | zero => intro lv109 σ110 h111 k114 x113 hT112 e115 g116 g117 g118 g119 g120 i121 i122 m124; exact absurd m124 (Nat.not_lt_zero _)
    | succ n123 ih125 =>
      intro lv109 σ110 h111 k114 x113 hT112 e115 g116 g117 g118 g119 g120 i121 i122 m124
      refine yT.il (pc' := 14) g120 rfl rfl ?_
      refine yT.ks (pc' := 17) rfl rfl (by decide) (fun x126 e127 => ?_)
      refine yT.if2 (t := 34) (pc' := 20) rfl rfl rfl (c2_ge e115 e127) (fun c128 => ?_) (fun c128 => ?_)
      · have hk : (k114) = 282 := by omega
        have hMZ := i121
        rw [hk] at hMZ
        refine yT.aan (pc' := 35) g116 rfl rfl rfl ?_
        refine yT.iln (pc' := 36) g119 rfl rfl ?_
        refine yT.kI (pc' := 37) rfl rfl (by decide) (fun x129 e130 => ?_)
        refine yT.iln (pc' := 38) g117 rfl rfl ?_
        refine kRV (yT.cc (G2 := 0) (pc' := 41) rfl rfl rfl hT112 (K.up rfl : xnth ks 60 = some (19, 0)) xM_167 (r167 (c := (nw σ (6768)).toNat) (w := 0) K hT112 (by omega) (by omega) x1 (by omega)) rfl (by omega) (by decide) rfl) (fun h131 σ135 hT132 E133 => ?_)
        have ee1 := E133
        refine yT.aan (pc' := 42) g116 rfl rfl rfl ?_
        refine yT.iln (pc' := 43) g119 rfl rfl ?_
        refine yT.kI (pc' := 44) rfl rfl (by decide) (fun x136 e137 => ?_)
        refine yT.iln (pc' := 45) g118 rfl rfl ?_
        refine kRV (yT.cc (G2 := 0) (pc' := 48) rfl rfl rfl hT132 (K.up rfl : xnth ks 60 = some (19, 0)) xM_167 (r167 (c := (nw σ (6768)).toNat) (w := 1) K hT132 (by omega) (by omega) x2 (by omega)) rfl (by omega) (by decide) rfl) (fun h138 σ142 hT139 E140 => ?_)
        have ee2 := E140
        refine yT.aan (pc' := 49) g116 rfl rfl rfl ?_
        refine yT.iln (pc' := 50) g119 rfl rfl ?_
        refine yT.kI (pc' := 51) rfl rfl (by decide) (fun x143 e144 => ?_)
        refine yT.iln (pc' := 52) g117 rfl rfl ?_
        refine yT.kI (pc' := 53) rfl rfl (by decide) (fun x145 e146 => ?_)
        refine yT.if2 (t := 61) (pc' := 56) rfl rfl rfl (c2_eq rfl e146) (fun c147 => ?_) (fun c147 => ?_)
        · refine yT.kI (pc' := 62) rfl rfl (by decide) (fun x148 e149 => ?_)
          refine yT.p (pc' := 66) rfl rfl (fun _ _ _ _ => rfl) ?_
          refine kRV (yT.cc (G2 := 0) (pc' := 69) rfl rfl rfl hT139 (K.up rfl : xnth ks 60 = some (19, 0)) xM_167 (r167 (c := (nw σ (6768)).toNat) (w := 3) K hT139 (by omega) (by omega) x148 (by omega)) rfl (by omega) (by decide) rfl) (fun h150 σ154 hT151 E152 => ?_)
          have ee3 := E152
          refine yT.aan (pc' := 70) g116 rfl rfl rfl ?_
          refine yT.cg8 (pc' := 73) rfl rfl hT151 (K.up rfl) rfl rfl (fun _ => ?_)
          refine yT.iln (pc' := 74) g119 rfl rfl ?_
          refine yT.lc2 (pc' := 75) (X := 0) rfl rfl rfl (fun y155 e156 => ?_)
          refine yT.cls (pc' := 76) rfl rfl hT151 (K.up rfl) e104 (by omega) (fun h157 hT158 _ => ?_)
          refine yT.aan (pc' := 77) g116 rfl rfl rfl ?_
          refine yT.cg8 (pc' := 80) rfl rfl hT158 (K.up rfl) rfl rfl (fun _ => ?_)
          refine yT.iln (pc' := 81) g119 rfl rfl ?_
          refine yT.kI (pc' := 82) rfl rfl (by decide) (fun x159 e160 => ?_)
          refine yT.cis (pc' := 83) rfl rfl hT158 (K.up rfl) e104 (by omega) (fun h161 hT162 _ => ?_)
          refine yT.aan (pc' := 84) g116 rfl rfl rfl ?_
          refine yT.cg8 (pc' := 87) rfl rfl hT162 (K.up rfl) rfl rfl (fun _ => ?_)
          refine yT.ks (pc' := 90) rfl rfl (by decide) (fun x163 e164 => ?_)
          refine yT.iln (pc' := 91) g119 rfl rfl ?_
          refine yT.kI (pc' := 92) rfl rfl (by decide) (fun x165 e166 => ?_)
          refine yT.ad2 (pc' := 93) (Z := (nw σ (6768)) + 1) e104 e166 rfl rfl (by omega) (fun x167 e168 => ?_)
          refine yT.tis (6768) (pc' := 94) rfl rfl hT162 (K.up rfl) e164 (by omega) (fun h169 hT170 => ?_)
          refine yT.iln (pc' := 95) g119 rfl rfl ?_
          exact yT.retI rfl rfl ⟨_, hT170, _, rfl, ⟨e104, MZ.md hMZ (by omega) ee1 ee2 ee3 rfl rfl (by omega)⟩⟩
        · refine yT.iln (pc' := 57) g117 rfl rfl ?_
          refine yT.kI (pc' := 58) rfl rfl (by decide) (fun x171 e172 => ?_)
          refine yT.if2 (t := 65) (pc' := 61) rfl rfl rfl (c2_ne rfl e172) (fun c173 => ?_) (fun c173 => ?_)
          · refine yT.kI (pc' := 66) rfl rfl (by decide) (fun x174 e175 => ?_)
            refine kRV (yT.cc (G2 := 0) (pc' := 69) rfl rfl rfl hT139 (K.up rfl : xnth ks 60 = some (19, 0)) xM_167 (r167 (c := (nw σ (6768)).toNat) (w := 3) K hT139 (by omega) (by omega) x174 (by omega)) rfl (by omega) (by decide) rfl) (fun h176 σ180 hT177 E178 => ?_)
            have ee3 := E178
            refine yT.aan (pc' := 70) g116 rfl rfl rfl ?_
            refine yT.cg8 (pc' := 73) rfl rfl hT177 (K.up rfl) rfl rfl (fun _ => ?_)
            refine yT.iln (pc' := 74) g119 rfl rfl ?_
            refine yT.lc2 (pc' := 75) (X := 0) rfl rfl rfl (fun y181 e182 => ?_)
            refine yT.cls (pc' := 76) rfl rfl hT177 (K.up rfl) e104 (by omega) (fun h183 hT184 _ => ?_)
            refine yT.aan (pc' := 77) g116 rfl rfl rfl ?_
            refine yT.cg8 (pc' := 80) rfl rfl hT184 (K.up rfl) rfl rfl (fun _ => ?_)
            refine yT.iln (pc' := 81) g119 rfl rfl ?_
            refine yT.kI (pc' := 82) rfl rfl (by decide) (fun x185 e186 => ?_)
            refine yT.cis (pc' := 83) rfl rfl hT184 (K.up rfl) e104 (by omega) (fun h187 hT188 _ => ?_)
            refine yT.aan (pc' := 84) g116 rfl rfl rfl ?_
            refine yT.cg8 (pc' := 87) rfl rfl hT188 (K.up rfl) rfl rfl (fun _ => ?_)
            refine yT.ks (pc' := 90) rfl rfl (by decide) (fun x189 e190 => ?_)
            refine yT.iln (pc' := 91) g119 rfl rfl ?_
            refine yT.kI (pc' := 92) rfl rfl (by decide) (fun x191 e192 => ?_)
            refine yT.ad2 (pc' := 93) (Z := (nw σ (6768)) + 1) e104 e192 rfl rfl (by omega) (fun x193 e194 => ?_)
            refine yT.tis (6768) (pc' := 94) rfl rfl hT188 (K.up rfl) e190 (by omega) (fun h195 hT196 => ?_)
            refine yT.iln (pc' := 95) g119 rfl rfl ?_
            exact yT.retI rfl rfl ⟨_, hT196, _, rfl, ⟨e104, MZ.md hMZ (by omega) ee1 ee2 ee3 rfl rfl (by omega)⟩⟩
          · refine yT.kI (pc' := 62) rfl rfl (by decide) (fun x197 e198 => ?_)
            refine yT.p (pc' := 66) rfl rfl (fun _ _ _ _ => rfl) ?_
            refine kRV (yT.cc (G2 := 0) (pc' := 69) rfl rfl rfl hT139 (K.up rfl : xnth ks 60 = some (19, 0)) xM_167 (r167 (c := (nw σ (6768)).toNat) (w := 3) K hT139 (by omega) (by omega) x197 (by omega)) rfl (by omega) (by decide) rfl) (fun h199 σ203 hT200 E201 => ?_)
            have ee3 := E201
            refine yT.aan (pc' := 70) g116 rfl rfl rfl ?_
            refine yT.cg8 (pc' := 73) rfl rfl hT200 (K.up rfl) rfl rfl (fun _ => ?_)
            refine yT.iln (pc' := 74) g119 rfl rfl ?_
            refine yT.lc2 (pc' := 75) (X := 0) rfl rfl rfl (fun y204 e205 => ?_)
            refine yT.cls (pc' := 76) rfl rfl hT200 (K.up rfl) e104 (by omega) (fun h206 hT207 _ => ?_)
            refine yT.aan (pc' := 77) g116 rfl rfl rfl ?_
            refine yT.cg8 (pc' := 80) rfl rfl hT207 (K.up rfl) rfl rfl (fun _ => ?_)
            refine yT.iln (pc' := 81) g119 rfl rfl ?_
            refine yT.kI (pc' := 82) rfl rfl (by decide) (fun x208 e209 => ?_)
            refine yT.cis (pc' := 83) rfl rfl hT207 (K.up rfl) e104 (by omega) (fun h210 hT211 _ => ?_)
            refine yT.aan (pc' := 84) g116 rfl rfl rfl ?_
            refine yT.cg8 (pc' := 87) rfl rfl hT211 (K.up rfl) rfl rfl (fun _ => ?_)
            refine yT.ks (pc' := 90) rfl rfl (by decide) (fun x212 e213 => ?_)
            refine yT.iln (pc' := 91) g119 rfl rfl ?_
            refine yT.kI (pc' := 92) rfl rfl (by decide) (fun x214 e215 => ?_)
            refine yT.ad2 (pc' := 93) (Z := (nw σ (6768)) + 1) e104 e215 rfl rfl (by omega) (fun x216 e217 => ?_)
            refine yT.tis (6768) (pc' := 94) rfl rfl hT211 (K.up rfl) e213 (by omega) (fun h218 hT219 => ?_)
            refine yT.iln (pc' := 95) g119 rfl rfl ?_
            exact yT.retI rfl rfl ⟨_, hT219, _, rfl, ⟨e104, MZ.md hMZ (by omega) ee1 ee2 ee3 rfl rfl (by omega)⟩⟩
      · refine yT.aan (pc' := 21) g116 rfl rfl rfl ?_
        refine yT.iln (pc' := 22) g119 rfl rfl ?_
        refine yT.il (pc' := 24) g120 rfl rfl ?_
        refine yT.kI (pc' := 25) rfl rfl (by decide) (fun x220 e221 => ?_)
        refine kRV (yT.cc (G2 := 0) (pc' := 28) rfl rfl rfl hT112 (K.up rfl : xnth ks 60 = some (19, 0)) xM_167 (r167 (c := (nw σ (6768)).toNat) (w := k114) K hT112 (by omega) e115 x220 (by omega)) rfl (by omega) (by decide) rfl) (fun h222 σ226 hT223 E224 => ?_)
        refine yT.inc2 (pc' := 31) (Z := (k114 : Int) + 1) g120 e115 rfl rfl rfl ⟨by decide, by omega⟩ (fun x227 e228 => ?_)
        refine yT.p (pc' := 12) rfl rfl (fun _ _ _ _ => rfl) ?_
        exact ih125 _ σ226 _ (k114 + 1) x227 hT223 (by omega) (xg_ne g116 rfl) (xg_ne g117 rfl) (xg_ne g118 rfl) (xg_ne g119 rfl) xg_eq (MZ.s i121 (by omega) E224 (by omega)) (by omega) (by omega)
  exact L108 _ _ σ _ (0) x106 hT (by omega) (xg_ne (xg_ne g0 rfl) rfl) (xg_ne (xg_ne g1 rfl) rfl) (xg_ne (xg_ne g2 rfl) rfl) (xg_ne xg_eq rfl) xg_eq MZ.z (by omega) (Nat.lt_succ_self _)
-- rX9_plainMade
set_option maxRecDepth 100000 in
set_option maxHeartbeats 4000000 in
theorem r226 {ks : List cT} {B0 : Nat} (K : KE KS0 ks B0) {σ : sg} {ρ : Nat → xE} {h : List xE} (hT : HT ks σ ρ h) (x1 : Int32) (x2 : Int32) (x3 : Int32) {k : Nat} (p0 : RI k σ) (p1 : x1.toInt = 1 ∨ x1.toInt = 5) : yM 226 (3) 0 [.ref (60 + 1), .int x1, .int x2, .int x3] h (RQI ks ρ (fun σ' r => S0 k σ σ')) := by
  refine yM.st xM_226 rfl rfl (fun lv g => ?_)
  have g0 := g 0 _ rfl
  have g1 := g 1 _ rfl
  have g2 := g 2 _ rfl
  have g3 := g 3 _ rfl
  have hRO := p0.1.1.1
  have hcm := hRO.1
  have hG := p0.1.2.2.1
  have hL := p0.1.2.1
  have hB := p0.1.2.2.2.1
  refine yT.aan (pc' := 1) g0 rfl rfl rfl ?_
  refine yT.iln (pc' := 2) g2 rfl rfl ?_
  refine kSI (yT.cc (G2 := 0) (pc' := 5) rfl rfl rfl hT (K.up rfl : xnth ks 60 = some (19, 0)) xM_224 (r224  K hT x2 hRO) rfl (by omega) (by decide) rfl) (fun h101 x104 hT102 E103 => ?_)
  have ho := E103.2
  refine yT.if1 (t := 15) (pc' := 8) rfl rfl rfl (c1_ne rfl) (fun c105 => ?_) (fun c105 => ?_)
  · refine yT.aan (pc' := 16) g0 rfl rfl rfl ?_
    refine yT.cg8 (pc' := 19) rfl rfl hT102 (K.up rfl) rfl rfl (fun _ => ?_)
    refine yT.ks (pc' := 22) rfl rfl (by decide) (fun x106 e107 => ?_)
    refine yT.tia (6768) (pc' := 23) rfl rfl hT102 (K.up rfl) e107 (by omega) (fun x108 z110 => ?_)
    have e109 : x108.toInt = nw σ (6768) := congrArg Int32.toInt z110
    refine yT.kb (pc' := 25) rfl rfl (by decide) (fun x111 e112 => ?_)
    refine yT.if2 (t := 35) (pc' := 28) rfl rfl rfl (c2_ne e109 e112) (fun c113 => ?_) (fun c113 => ?_)
    · have ho := ho (by omega)
      refine yT.aan (pc' := 36) g0 rfl rfl rfl ?_
      refine yT.iln (pc' := 37) g1 rfl rfl ?_
      refine yT.iln (pc' := 38) g2 rfl rfl ?_
      refine kRI (yT.cc (G2 := 0) (pc' := 41) rfl rfl rfl hT102 (K.up rfl : xnth ks 60 = some (19, 0)) xM_225 (r225  K hT102 x1 x2 hRO (by omega)) rfl (by omega) (by decide) rfl) (fun h114 σ118 x117 hT115 E116 => ?_)
      have hMD := E116
      have hr := hMD.1
      refine yT.p (pc' := 43) (lv' := xst1 _ 4 (.int x117)) rfl rfl (fun _ _ _ _ => rfl) ?_
      refine yT.aan (pc' := 44) (xg_ne g0 rfl) rfl rfl rfl ?_
      refine yT.cg8 (pc' := 47) rfl rfl hT115 (K.up rfl) rfl rfl (fun _ => ?_)
      refine yT.il (pc' := 49) xg_eq rfl rfl ?_
      refine yT.iln (pc' := 50) (xg_ne g3 rfl) rfl rfl ?_
      refine yT.i2l2 (pc' := 51) (X := x3.toInt) rfl rfl rfl (fun y119 e120 => ?_)
      refine yT.cls (pc' := 52) rfl rfl hT115 (K.up rfl) rfl (by omega) (fun h121 hT122 _ => ?_)
      refine yT.il (pc' := 54) xg_eq rfl rfl ?_
      exact yT.retI rfl rfl ⟨_, hT122, _, rfl, (S0.md p0 (by omega) hMD.2 (by omega) (by omega))⟩
    · refine yT.aan (pc' := 29) g0 rfl rfl rfl ?_
      refine yT.kb (pc' := 31) rfl rfl (by decide) (fun x123 e124 => ?_)
      refine kSI (yT.cc (G2 := 0) (pc' := 34) rfl rfl rfl hT102 (K.up rfl : xnth ks 60 = some (19, 0)) xM_164 (r164  K hT102 x123 (by omega)) rfl (by omega) (by decide) rfl) (fun h125 x128 hT126 E127 => ?_)
      exact yT.retI rfl rfl ⟨_, hT126, _, rfl, (S0.rf p0)⟩
  · refine yT.aan (pc' := 9) g0 rfl rfl rfl ?_
    refine yT.kb (pc' := 11) rfl rfl (by decide) (fun x129 e130 => ?_)
    refine kSI (yT.cc (G2 := 0) (pc' := 14) rfl rfl rfl hT102 (K.up rfl : xnth ks 60 = some (19, 0)) xM_164 (r164  K hT102 x129 (by omega)) rfl (by omega) (by decide) rfl) (fun h131 x134 hT132 E133 => ?_)
    exact yT.retI rfl rfl ⟨_, hT132, _, rfl, (S0.rf p0)⟩
-- rX9_source
set_option maxRecDepth 100000 in
set_option maxHeartbeats 4000000 in
theorem r227 {ks : List cT} {B0 : Nat} (K : KE KS0 ks B0) {σ : sg} {ρ : Nat → xE} {h : List xE} (hT : HT ks σ ρ h) (x1 : Int32) (x2 : Int32) {k : Nat} (p0 : RI k σ) : yM 227 (4) 0 [.ref (60 + 1), .int x1, .int x2] h (RQI ks ρ (fun σ' r => S0 k σ σ')) := by
  refine yM.st xM_227 rfl rfl (fun lv g => ?_)
  have g0 := g 0 _ rfl
  have g1 := g 1 _ rfl
  have g2 := g 2 _ rfl
  refine yT.aan (pc' := 1) g0 rfl rfl rfl ?_
  refine yT.kI (pc' := 2) rfl rfl (by decide) (fun x101 e102 => ?_)
  refine yT.iln (pc' := 3) g2 rfl rfl ?_
  refine yT.iln (pc' := 4) g1 rfl rfl ?_
  refine kRI (yT.cc (G2 := 0) (pc' := 7) rfl rfl rfl hT (K.up rfl : xnth ks 60 = some (19, 0)) xM_226 (r226  K hT x101 x2 x1 p0 (by omega)) rfl (by omega) (by decide) rfl) (fun h103 σ107 x106 hT104 E105 => ?_)
  exact yT.retI rfl rfl ⟨_, hT104, _, rfl, E105⟩
-- rX9_scope
set_option maxRecDepth 100000 in
set_option maxHeartbeats 4000000 in
theorem r228 {ks : List cT} {B0 : Nat} (K : KE KS0 ks B0) {σ : sg} {ρ : Nat → xE} {h : List xE} (hT : HT ks σ ρ h) (x1 : Int32) {k : Nat} (p0 : RI k σ) : yM 228 (4) 0 [.ref (60 + 1), .int x1] h (RQI ks ρ (fun σ' r => S0 k σ σ')) := by
  refine yM.st xM_228 rfl rfl (fun lv g => ?_)
  have g0 := g 0 _ rfl
  have g1 := g 1 _ rfl
  refine yT.aan (pc' := 1) g0 rfl rfl rfl ?_
  refine yT.kI (pc' := 2) rfl rfl (by decide) (fun x101 e102 => ?_)
  refine yT.iln (pc' := 3) g1 rfl rfl ?_
  refine yT.kI (pc' := 4) rfl rfl (by decide) (fun x103 e104 => ?_)
  refine kRI (yT.cc (G2 := 0) (pc' := 7) rfl rfl rfl hT (K.up rfl : xnth ks 60 = some (19, 0)) xM_226 (r226  K hT x101 x1 x103 p0 (by omega)) rfl (by omega) (by decide) rfl) (fun h105 σ109 x108 hT106 E107 => ?_)
  exact yT.retI rfl rfl ⟨_, hT106, _, rfl, E107⟩
-- rX9_faulty
set_option maxRecDepth 100000 in
set_option maxHeartbeats 4000000 in
theorem r229 {ks : List cT} {B0 : Nat} (K : KE KS0 ks B0) {σ : sg} {ρ : Nat → xE} {h : List xE} (hT : HT ks σ ρ h) (x1 : Int32) : yM 229 (0) 0 [.ref (60 + 1), .int x1] h (SQI ks σ ρ (fun r => True)) := by
  refine yM.st xM_229 rfl rfl (fun lv g => ?_)
  have g0 := g 0 _ rfl
  have g1 := g 1 _ rfl
  refine yT.aan (pc' := 1) g0 rfl rfl rfl ?_
  refine yT.cg8 (pc' := 4) rfl rfl hT (K.up rfl) rfl rfl (fun _ => ?_)
  refine yT.kI (pc' := 5) rfl rfl (by decide) (fun x101 e102 => ?_)
  refine yT.p (pc' := 6) rfl rfl (fun _ _ _ _ => rfl) ?_
  refine yT.cia (pc' := 7) rfl rfl hT (K.up rfl) e102 (by omega) (fun x103 => ?_)
  refine yT.kI (pc' := 8) rfl rfl (by decide) (fun x106 e107 => ?_)
  refine yT.fi (pc' := 9) rfl rfl (fun _ _ _ _ => rfl) (fun x108 => ?_)
  refine yT.cis (pc' := 10) rfl rfl hT (K.up rfl) e102 (by omega) (fun h109 hT110 _ => ?_)
  refine yT.ks (pc' := 13) rfl rfl (by decide) (fun x111 e112 => ?_)
  refine yT.iln (pc' := 14) g1 rfl rfl ?_
  refine yT.fi (pc' := 15) rfl rfl (fun _ _ _ _ => rfl) (fun x113 => ?_)
  exact yT.retI rfl rfl ⟨hT110, _, rfl, trivial⟩
