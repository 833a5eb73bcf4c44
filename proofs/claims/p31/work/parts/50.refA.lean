-- rX9_readByr
set_option maxRecDepth 100000 in
set_option maxHeartbeats 4000000 in
theorem r181r {ks : List cT} {B0 : Nat} (K : KE KS0 ks B0) {σ : sg} {ρ : Nat → xE} {h : List xE} (hT : HT ks σ ρ h) {x : Nat} {x1 : Int32} (e1 : x1.toInt = (x : Int)) {y : Nat} {x2 : Int32} (e2 : x2.toInt = (y : Int)) {x3 : Int32} (e3 : x3.toInt = 0 ∨ x3.toInt = 1) {Fr : Nat} (Rf : ∀ {σ1 : sg} {h1 : List xE} {y2 : Nat} {z : Int32}, KE KS0 ks B0 → HT ks σ1 ρ h1 → z.toInt = (y2 : Int) → y2 = y → PF σ σ1 → nw σ1 (282 * y + 0) = 3 → bz σ1 y = 0 → yM 182 Fr 0 [.ref (60 + 1), .int z] h1 (RQV ks ρ (PF σ1))) (p0 : x < 24) (p1 : y < 24) (p2 : RO σ) : yM 181 (Fr + 5) 0 [.ref (60 + 1), .int x1, .int x2, .int x3] h (RQL ks ρ (fun σ' r => PF σ σ')) := by
  refine yM.st xM_181 rfl rfl (fun lv g => ?_)
  have g0 := g 0 _ rfl
  have g1 := g 1 _ rfl
  have g2 := g 2 _ rfl
  have g3 := g 3 _ rfl
  have hPF := PF.rf p2
  have hrx := p2.rd x p0
  have hrx0 := (p2.2.2.1 x p0).1.1
  refine yT.aan (pc' := 1) g0 rfl rfl rfl ?_
  refine yT.iln (pc' := 2) g2 rfl rfl ?_
  refine yT.kI (pc' := 3) rfl rfl (by decide) (fun x101 e102 => ?_)
  refine kSI (yT.cc (G2 := 0) (pc' := 6) rfl rfl rfl hT (K.up rfl : xnth ks 60 = some (19, 0)) xM_166 (r166 (c := y) (w := 2) K hT e2 (by omega) (by omega)) rfl (by omega) (by decide) rfl) (fun h103 x106 hT104 E105 => ?_)
  refine yT.kI (pc' := 7) rfl rfl (by decide) (fun x107 e108 => ?_)
  refine yT.if2 (t := 30) (pc' := 10) rfl rfl rfl (c2_eq E105 e108) (fun c109 => ?_) (fun c109 => ?_)
  · refine yT.fl (pc' := 33) rfl rfl (fun _ _ _ _ => rfl) (fun y110 => ?_)
    exact yT.retL rfl rfl ⟨_, hT104, _, rfl, hPF⟩
  · refine yT.aan (pc' := 11) g0 rfl rfl rfl ?_
    refine yT.iln (pc' := 12) g2 rfl rfl ?_
    refine yT.kI (pc' := 13) rfl rfl (by decide) (fun x111 e112 => ?_)
    refine kSI (yT.cc (G2 := 0) (pc' := 16) rfl rfl rfl hT104 (K.up rfl : xnth ks 60 = some (19, 0)) xM_166 (r166 (c := y) (w := 0) K hT104 e2 (by omega) (by omega)) rfl (by omega) (by decide) rfl) (fun h113 x116 hT114 E115 => ?_)
    refine yT.kI (pc' := 17) rfl rfl (by decide) (fun x117 e118 => ?_)
    refine yT.if2 (t := 30) (pc' := 20) rfl rfl rfl (c2_eq E115 e118) (fun c119 => ?_) (fun c119 => ?_)
    · refine yT.fl (pc' := 33) rfl rfl (fun _ _ _ _ => rfl) (fun y120 => ?_)
      exact yT.retL rfl rfl ⟨_, hT114, _, rfl, hPF⟩
    · refine yT.aan (pc' := 21) g0 rfl rfl rfl ?_
      refine yT.iln (pc' := 22) g2 rfl rfl ?_
      refine yT.kI (pc' := 23) rfl rfl (by decide) (fun x121 e122 => ?_)
      refine kSI (yT.cc (G2 := 0) (pc' := 26) rfl rfl rfl hT114 (K.up rfl : xnth ks 60 = some (19, 0)) xM_166 (r166 (c := y) (w := 0) K hT114 e2 (by omega) (by omega)) rfl (by omega) (by decide) rfl) (fun h123 x126 hT124 E125 => ?_)
      refine yT.kI (pc' := 27) rfl rfl (by decide) (fun x127 e128 => ?_)
      refine yT.if2 (t := 34) (pc' := 30) rfl rfl rfl (c2_ne E125 e128) (fun c129 => ?_) (fun c129 => ?_)
      · refine yT.iln (pc' := 35) g3 rfl rfl ?_
        refine yT.if1 (t := 84) (pc' := 38) rfl rfl rfl (c1_ne rfl) (fun c130 => ?_) (fun c130 => ?_)
        · refine yT.aan (pc' := 85) g0 rfl rfl rfl ?_
          refine yT.cg8 (pc' := 88) rfl rfl hT124 (K.up rfl) rfl rfl (fun _ => ?_)
          refine yT.iln (pc' := 89) g2 rfl rfl ?_
          refine yT.tba (y) (pc' := 90) rfl rfl hT124 (K.up rfl) e2 (by omega) (fun x131 z133 => ?_)
          have e132 : x131.toInt = (σ 67 (y)).toInt := congrArg Int32.toInt z133
          refine yT.if1 (t := 97) (pc' := 93) rfl rfl rfl (c1_eq e132) (fun c134 => ?_) (fun c134 => ?_)
          · refine yT.aan (pc' := 98) g0 rfl rfl rfl ?_
            refine yT.iln (pc' := 99) g2 rfl rfl ?_
            refine yT.kI (pc' := 100) rfl rfl (by decide) (fun x135 e136 => ?_)
            refine kSI (yT.cc (G2 := 0) (pc' := 103) rfl rfl rfl hT124 (K.up rfl : xnth ks 60 = some (19, 0)) xM_166 (r166 (c := y) (w := 0) K hT124 e2 (by omega) (by omega)) rfl (by omega) (by decide) rfl) (fun h137 x140 hT138 E139 => ?_)
            refine yT.kI (pc' := 104) rfl rfl (by decide) (fun x141 e142 => ?_)
            refine yT.if2 (t := 112) (pc' := 107) rfl rfl rfl (c2_ne E139 e142) (fun c143 => ?_) (fun c143 => ?_)
            · refine yT.aan (pc' := 113) g0 rfl rfl rfl ?_
              refine yT.cg8 (pc' := 116) rfl rfl hT138 (K.up rfl) rfl rfl (fun _ => ?_)
              refine yT.iln (pc' := 117) g2 rfl rfl ?_
              refine yT.cla (pc' := 118) rfl rfl hT138 (K.up rfl) e2 (by omega) (fun y144 => ?_)
              exact yT.retL rfl rfl ⟨_, hT138, _, rfl, hPF⟩
            · refine yT.aan (pc' := 108) g0 rfl rfl rfl ?_
              refine yT.iln (pc' := 109) g2 rfl rfl ?_
              refine kRV (yT.cc (G2 := 0) (pc' := 112) rfl rfl rfl hT138 (K.up rfl : xnth ks 60 = some (19, 0)) xM_182 (Rf (y2 := y) K hT138 e2 (by omega) hPF (by omega) (show (σ 67 y).toInt = 0 by omega)) rfl (by omega) (by decide) rfl) (fun h145 σ149 hT146 E147 => ?_)
              have hPF := PF.tr hPF E147
              refine yT.aan (pc' := 113) g0 rfl rfl rfl ?_
              refine yT.cg8 (pc' := 116) rfl rfl hT146 (K.up rfl) rfl rfl (fun _ => ?_)
              refine yT.iln (pc' := 117) g2 rfl rfl ?_
              refine yT.cla (pc' := 118) rfl rfl hT146 (K.up rfl) e2 (by omega) (fun y150 => ?_)
              exact yT.retL rfl rfl ⟨_, hT146, _, rfl, hPF⟩
          · refine yT.fl (pc' := 96) rfl rfl (fun _ _ _ _ => rfl) (fun y151 => ?_)
            exact yT.retL rfl rfl ⟨_, hT124, _, rfl, hPF⟩
        · refine yT.iln (pc' := 39) g2 rfl rfl ?_
          refine yT.iln (pc' := 40) g1 rfl rfl ?_
          refine yT.if2 (t := 84) (pc' := 43) rfl rfl rfl (c2_eq e2 e1) (fun c152 => ?_) (fun c152 => ?_)
          · refine yT.aan (pc' := 85) g0 rfl rfl rfl ?_
            refine yT.cg8 (pc' := 88) rfl rfl hT124 (K.up rfl) rfl rfl (fun _ => ?_)
            refine yT.iln (pc' := 89) g2 rfl rfl ?_
            refine yT.tba (y) (pc' := 90) rfl rfl hT124 (K.up rfl) e2 (by omega) (fun x153 z155 => ?_)
            have e154 : x153.toInt = (σ 67 (y)).toInt := congrArg Int32.toInt z155
            refine yT.if1 (t := 97) (pc' := 93) rfl rfl rfl (c1_eq e154) (fun c156 => ?_) (fun c156 => ?_)
            · refine yT.aan (pc' := 98) g0 rfl rfl rfl ?_
              refine yT.iln (pc' := 99) g2 rfl rfl ?_
              refine yT.kI (pc' := 100) rfl rfl (by decide) (fun x157 e158 => ?_)
              refine kSI (yT.cc (G2 := 0) (pc' := 103) rfl rfl rfl hT124 (K.up rfl : xnth ks 60 = some (19, 0)) xM_166 (r166 (c := y) (w := 0) K hT124 e2 (by omega) (by omega)) rfl (by omega) (by decide) rfl) (fun h159 x162 hT160 E161 => ?_)
              refine yT.kI (pc' := 104) rfl rfl (by decide) (fun x163 e164 => ?_)
              refine yT.if2 (t := 112) (pc' := 107) rfl rfl rfl (c2_ne E161 e164) (fun c165 => ?_) (fun c165 => ?_)
              · refine yT.aan (pc' := 113) g0 rfl rfl rfl ?_
                refine yT.cg8 (pc' := 116) rfl rfl hT160 (K.up rfl) rfl rfl (fun _ => ?_)
                refine yT.iln (pc' := 117) g2 rfl rfl ?_
                refine yT.cla (pc' := 118) rfl rfl hT160 (K.up rfl) e2 (by omega) (fun y166 => ?_)
                exact yT.retL rfl rfl ⟨_, hT160, _, rfl, hPF⟩
              · refine yT.aan (pc' := 108) g0 rfl rfl rfl ?_
                refine yT.iln (pc' := 109) g2 rfl rfl ?_
                refine kRV (yT.cc (G2 := 0) (pc' := 112) rfl rfl rfl hT160 (K.up rfl : xnth ks 60 = some (19, 0)) xM_182 (Rf (y2 := y) K hT160 e2 (by omega) hPF (by omega) (show (σ 67 y).toInt = 0 by omega)) rfl (by omega) (by decide) rfl) (fun h167 σ171 hT168 E169 => ?_)
                have hPF := PF.tr hPF E169
                refine yT.aan (pc' := 113) g0 rfl rfl rfl ?_
                refine yT.cg8 (pc' := 116) rfl rfl hT168 (K.up rfl) rfl rfl (fun _ => ?_)
                refine yT.iln (pc' := 117) g2 rfl rfl ?_
                refine yT.cla (pc' := 118) rfl rfl hT168 (K.up rfl) e2 (by omega) (fun y172 => ?_)
                exact yT.retL rfl rfl ⟨_, hT168, _, rfl, hPF⟩
            · refine yT.fl (pc' := 96) rfl rfl (fun _ _ _ _ => rfl) (fun y173 => ?_)
              exact yT.retL rfl rfl ⟨_, hT124, _, rfl, hPF⟩
          · refine yT.aan (pc' := 44) g0 rfl rfl rfl ?_
            refine yT.iln (pc' := 45) g1 rfl rfl ?_
            refine yT.iln (pc' := 46) g2 rfl rfl ?_
            refine kSI (yT.cc (G2 := 0) (pc' := 49) rfl rfl rfl hT124 (K.up rfl : xnth ks 60 = some (19, 0)) xM_180 (r180 (x := x) K hT124 e1 x2 (by omega) (p2.rd x p0)) rfl (by omega) (by decide) rfl) (fun h174 x177 hT175 E176 => ?_)
            have hnr := E176.2
            refine yT.if1 (t := 84) (pc' := 52) rfl rfl rfl (c1_ne rfl) (fun c178 => ?_) (fun c178 => ?_)
            · refine yT.aan (pc' := 85) g0 rfl rfl rfl ?_
              refine yT.cg8 (pc' := 88) rfl rfl hT175 (K.up rfl) rfl rfl (fun _ => ?_)
              refine yT.iln (pc' := 89) g2 rfl rfl ?_
              refine yT.tba (y) (pc' := 90) rfl rfl hT175 (K.up rfl) e2 (by omega) (fun x179 z181 => ?_)
              have e180 : x179.toInt = (σ 67 (y)).toInt := congrArg Int32.toInt z181
              refine yT.if1 (t := 97) (pc' := 93) rfl rfl rfl (c1_eq e180) (fun c182 => ?_) (fun c182 => ?_)
              · refine yT.aan (pc' := 98) g0 rfl rfl rfl ?_
                refine yT.iln (pc' := 99) g2 rfl rfl ?_
                refine yT.kI (pc' := 100) rfl rfl (by decide) (fun x183 e184 => ?_)
                refine kSI (yT.cc (G2 := 0) (pc' := 103) rfl rfl rfl hT175 (K.up rfl : xnth ks 60 = some (19, 0)) xM_166 (r166 (c := y) (w := 0) K hT175 e2 (by omega) (by omega)) rfl (by omega) (by decide) rfl) (fun h185 x188 hT186 E187 => ?_)
                refine yT.kI (pc' := 104) rfl rfl (by decide) (fun x189 e190 => ?_)
                refine yT.if2 (t := 112) (pc' := 107) rfl rfl rfl (c2_ne E187 e190) (fun c191 => ?_) (fun c191 => ?_)
                · refine yT.aan (pc' := 113) g0 rfl rfl rfl ?_
                  refine yT.cg8 (pc' := 116) rfl rfl hT186 (K.up rfl) rfl rfl (fun _ => ?_)
                  refine yT.iln (pc' := 117) g2 rfl rfl ?_
                  refine yT.cla (pc' := 118) rfl rfl hT186 (K.up rfl) e2 (by omega) (fun y192 => ?_)
                  exact yT.retL rfl rfl ⟨_, hT186, _, rfl, hPF⟩
                · refine yT.aan (pc' := 108) g0 rfl rfl rfl ?_
                  refine yT.iln (pc' := 109) g2 rfl rfl ?_
                  refine kRV (yT.cc (G2 := 0) (pc' := 112) rfl rfl rfl hT186 (K.up rfl : xnth ks 60 = some (19, 0)) xM_182 (Rf (y2 := y) K hT186 e2 (by omega) hPF (by omega) (show (σ 67 y).toInt = 0 by omega)) rfl (by omega) (by decide) rfl) (fun h193 σ197 hT194 E195 => ?_)
                  have hPF := PF.tr hPF E195
                  refine yT.aan (pc' := 113) g0 rfl rfl rfl ?_
                  refine yT.cg8 (pc' := 116) rfl rfl hT194 (K.up rfl) rfl rfl (fun _ => ?_)
                  refine yT.iln (pc' := 117) g2 rfl rfl ?_
                  refine yT.cla (pc' := 118) rfl rfl hT194 (K.up rfl) e2 (by omega) (fun y198 => ?_)
                  exact yT.retL rfl rfl ⟨_, hT194, _, rfl, hPF⟩
              · refine yT.fl (pc' := 96) rfl rfl (fun _ _ _ _ => rfl) (fun y199 => ?_)
                exact yT.retL rfl rfl ⟨_, hT175, _, rfl, hPF⟩
            · refine yT.aan (pc' := 53) g0 rfl rfl rfl ?_
              refine yT.iln (pc' := 54) g1 rfl rfl ?_
              refine yT.kb (pc' := 56) rfl rfl (by decide) (fun x200 e201 => ?_)
              refine yT.aan (pc' := 57) g0 rfl rfl rfl ?_
              refine yT.iln (pc' := 58) g1 rfl rfl ?_
              refine yT.kb (pc' := 60) rfl rfl (by decide) (fun x202 e203 => ?_)
              refine kSI (yT.cc (G2 := 0) (pc' := 63) rfl rfl rfl hT175 (K.up rfl : xnth ks 60 = some (19, 0)) xM_166 (r166 (c := x) (w := 6) K hT175 e1 (by omega) (by omega)) rfl (by omega) (by decide) rfl) (fun h204 x207 hT205 E206 => ?_)
              refine yT.ad2 (pc' := 64) (Z := (nw σ (282 * x + (6))) + 7) e201 E206 rfl rfl (by omega) (fun x208 e209 => ?_)
              refine yT.iln (pc' := 65) g2 rfl rfl ?_
              refine kRV (yT.cc (G2 := 0) (pc' := 68) rfl rfl rfl hT205 (K.up rfl : xnth ks 60 = some (19, 0)) xM_167 (r167 (c := x) (w := (nw σ (282 * x + (6))).toNat + 7) K hT205 e1 (by omega) x2 (by omega)) rfl (by omega) (by decide) rfl) (fun h210 σ214 hT211 E212 => ?_)
              have ee1 := E212
              have h6 : nw σ214 (282 * x + 6) = nw σ (282 * x + 6) := by rw [ee1, nw_us (by omega)]
              refine yT.aan (pc' := 69) g0 rfl rfl rfl ?_
              refine yT.iln (pc' := 70) g1 rfl rfl ?_
              refine yT.kb (pc' := 72) rfl rfl (by decide) (fun x215 e216 => ?_)
              refine yT.aan (pc' := 73) g0 rfl rfl rfl ?_
              refine yT.iln (pc' := 74) g1 rfl rfl ?_
              refine yT.kb (pc' := 76) rfl rfl (by decide) (fun x217 e218 => ?_)
              refine kSI (yT.cc (G2 := 0) (pc' := 79) rfl rfl rfl hT211 (K.up rfl : xnth ks 60 = some (19, 0)) xM_166 (r166 (c := x) (w := 6) K hT211 e1 (by omega) (by omega)) rfl (by omega) (by decide) rfl) (fun h219 x222 hT220 E221 => ?_)
              refine yT.kI (pc' := 80) rfl rfl (by decide) (fun x223 e224 => ?_)
              refine yT.ad2 (pc' := 81) (Z := (nw σ214 (282 * x + (6))) + 1) E221 e224 rfl rfl (by omega) (fun x225 e226 => ?_)
              refine kRV (yT.cc (G2 := 0) (pc' := 84) rfl rfl rfl hT220 (K.up rfl : xnth ks 60 = some (19, 0)) xM_167 (r167 (c := x) (w := 6) K hT220 e1 (by omega) x225 (by omega)) rfl (by omega) (by decide) rfl) (fun h227 σ231 hT228 E229 => ?_)
              have ee2 := E229
              have hPF : PF σ σ231 := by rw [ee2, ee1]; exact PF.read p2 p0 p1 (fun k hk => by have := hnr (by omega) k hk; omega) (by omega) (by omega) (by omega)
              refine yT.aan (pc' := 85) g0 rfl rfl rfl ?_
              refine yT.cg8 (pc' := 88) rfl rfl hT228 (K.up rfl) rfl rfl (fun _ => ?_)
              refine yT.iln (pc' := 89) g2 rfl rfl ?_
              refine yT.tba (y) (pc' := 90) rfl rfl hT228 (K.up rfl) e2 (by omega) (fun x232 z234 => ?_)
              have e233 : x232.toInt = (σ231 67 (y)).toInt := congrArg Int32.toInt z234
              refine yT.if1 (t := 97) (pc' := 93) rfl rfl rfl (c1_eq e233) (fun c235 => ?_) (fun c235 => ?_)
              · refine yT.aan (pc' := 98) g0 rfl rfl rfl ?_
                refine yT.iln (pc' := 99) g2 rfl rfl ?_
                refine yT.kI (pc' := 100) rfl rfl (by decide) (fun x236 e237 => ?_)
                refine kSI (yT.cc (G2 := 0) (pc' := 103) rfl rfl rfl hT228 (K.up rfl : xnth ks 60 = some (19, 0)) xM_166 (r166 (c := y) (w := 0) K hT228 e2 (by omega) (by omega)) rfl (by omega) (by decide) rfl) (fun h238 x241 hT239 E240 => ?_)
                refine yT.kI (pc' := 104) rfl rfl (by decide) (fun x242 e243 => ?_)
                refine yT.if2 (t := 112) (pc' := 107) rfl rfl rfl (c2_ne E240 e243) (fun c244 => ?_) (fun c244 => ?_)
                · refine yT.aan (pc' := 113) g0 rfl rfl rfl ?_
                  refine yT.cg8 (pc' := 116) rfl rfl hT239 (K.up rfl) rfl rfl (fun _ => ?_)
                  refine yT.iln (pc' := 117) g2 rfl rfl ?_
                  refine yT.cla (pc' := 118) rfl rfl hT239 (K.up rfl) e2 (by omega) (fun y245 => ?_)
                  exact yT.retL rfl rfl ⟨_, hT239, _, rfl, hPF⟩
                · refine yT.aan (pc' := 108) g0 rfl rfl rfl ?_
                  refine yT.iln (pc' := 109) g2 rfl rfl ?_
                  refine kRV (yT.cc (G2 := 0) (pc' := 112) rfl rfl rfl hT239 (K.up rfl : xnth ks 60 = some (19, 0)) xM_182 (Rf (y2 := y) K hT239 e2 (by omega) hPF (by omega) (show (σ231 67 y).toInt = 0 by omega)) rfl (by omega) (by decide) rfl) (fun h246 σ250 hT247 E248 => ?_)
                  have hPF := PF.tr hPF E248
                  refine yT.aan (pc' := 113) g0 rfl rfl rfl ?_
                  refine yT.cg8 (pc' := 116) rfl rfl hT247 (K.up rfl) rfl rfl (fun _ => ?_)
                  refine yT.iln (pc' := 117) g2 rfl rfl ?_
                  refine yT.cla (pc' := 118) rfl rfl hT247 (K.up rfl) e2 (by omega) (fun y251 => ?_)
                  exact yT.retL rfl rfl ⟨_, hT247, _, rfl, hPF⟩
              · refine yT.fl (pc' := 96) rfl rfl (fun _ _ _ _ => rfl) (fun y252 => ?_)
                exact yT.retL rfl rfl ⟨_, hT228, _, rfl, hPF⟩
      · refine yT.fl (pc' := 33) rfl rfl (fun _ _ _ _ => rfl) (fun y253 => ?_)
        exact yT.retL rfl rfl ⟨_, hT124, _, rfl, hPF⟩
-- rX9_askedr
set_option maxRecDepth 100000 in
set_option maxHeartbeats 4000000 in
theorem r178r {ks : List cT} {B0 : Nat} (K : KE KS0 ks B0) {σ : sg} {ρ : Nat → xE} {h : List xE} (hT : HT ks σ ρ h) {x : Nat} {x1 : Int32} (e1 : x1.toInt = (x : Int)) {y : Nat} {x2 : Int32} (e2 : x2.toInt = (y : Int)) {x3 : Int32} (e3 : x3.toInt = 0 ∨ x3.toInt = 1) {Fr : Nat} (Rf : ∀ {σ1 : sg} {h1 : List xE} {y2 : Nat} {z : Int32}, KE KS0 ks B0 → HT ks σ1 ρ h1 → z.toInt = (y2 : Int) → y2 = y → PF σ σ1 → nw σ1 (282 * y + 0) = 3 → bz σ1 y = 0 → yM 182 Fr 0 [.ref (60 + 1), .int z] h1 (RQV ks ρ (PF σ1))) (p0 : x < 24) (p1 : y < 24) (p2 : RO σ) (p3 : fl σ 13 = 0) : yM 178 (Fr + 6) 0 [.ref (60 + 1), .int x1, .int x2, .int x3] h (RQL ks ρ (fun σ' r => PF σ σ' ∧ fl σ' 16 = fl σ 16)) := by
  refine yM.st xM_178 rfl rfl (fun lv g => ?_)
  have g0 := g 0 _ rfl
  have g1 := g 1 _ rfl
  have g2 := g 2 _ rfl
  have g3 := g 3 _ rfl
  refine yT.aan (pc' := 1) g0 rfl rfl rfl ?_
  refine yT.cgX (pc' := 4) rfl rfl hT (K.up rfl) rfl rfl (fun x101 _ i102 j103 z104 => ?_)
  have e105 : x101.toInt = fl σ 16 := congrArg Int32.toInt z104
  refine yT.p (pc' := 6) (lv' := xst1 _ 4 (.int x101)) rfl rfl (fun _ _ _ _ => rfl) ?_
  refine yT.aan (pc' := 7) (xg_ne g0 rfl) rfl rfl rfl ?_
  refine yT.cgX (pc' := 10) rfl rfl hT (K.up rfl) rfl rfl (fun x106 _ i107 j108 z109 => ?_)
  have e110 : x106.toInt = fl σ 13 := congrArg Int32.toInt z109
  refine yT.if1 (t := 23) (pc' := 13) rfl rfl rfl (c1_ne e110) (fun c111 => by omega) (fun c111 => ?_)
  refine yT.aan (pc' := 14) (xg_ne g0 rfl) rfl rfl rfl ?_
  refine yT.iln (pc' := 15) (xg_ne g1 rfl) rfl rfl ?_
  refine yT.iln (pc' := 16) (xg_ne g2 rfl) rfl rfl ?_
  refine yT.iln (pc' := 17) (xg_ne g3 rfl) rfl rfl ?_
  refine kRL (yT.cc (G2 := 0) (pc' := 20) rfl rfl rfl hT (K.up rfl : xnth ks 60 = some (19, 0)) xM_181 (r181r (x := x) (y := y) K hT e1 e2 (by omega) Rf (by omega) (by omega) p2) rfl (by omega) (by decide) rfl) (fun h112 σ116 x115 hT113 E114 => ?_)
  have hPF := E114
  refine yT.p (pc' := 28) rfl rfl (fun _ _ _ _ => rfl) ?_
  refine yT.p (pc' := 30) (lv' := xst2 _ 5 (.long x115)) rfl rfl (fun _ _ _ _ => rfl) ?_
  refine yT.aan (pc' := 31) (xg2_ne (xg_ne g0 rfl) rfl) rfl rfl rfl ?_
  refine yT.il (pc' := 33) (xg2_ne xg_eq rfl) rfl rfl ?_
  refine yT.cpX (c := x101) (pc' := 36) rfl rfl hT113 (K.up rfl) rfl rfl rfl e105 (by omega) rfl (fun h117 hT118 _ _ => ?_)
  have f119 : fl (us σ116 60 16 x101) 16 = (fl σ 16) := fl_at.trans e105
  refine yT.ll (pc' := 38) xg2_eq rfl rfl ?_
  exact yT.retL rfl rfl ⟨_, hT118, _, rfl, ⟨hPF.at, by omega⟩⟩
