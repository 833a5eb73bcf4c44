-- rX9_runsr
set_option maxRecDepth 100000 in
set_option maxHeartbeats 4000000 in
theorem r183r {ks : List cT} {B0 : Nat} (K : KE KS0 ks B0) {σ : sg} {ρ : Nat → xE} {h : List xE} (hT : HT ks σ ρ h) {c : Nat} {x1 : Int32} (e1 : x1.toInt = (c : Int)) {Fr s : Nat} {σb : sg} (Rf : WR ks ρ B0 (PW c σb) Fr) (p0 : c < 24) (p1 : RO σ) (p2 : fl σ 13 = 0) (p3 : nw σ (282 * c + 0) = 3) (p4 : nw σ (282 * c + 31) = (s : Int)) (p5 : s ≤ 250) (p6 : PK (lt σ c) 0 0 s) (p7 : PW c σb σ) : yM 183 (Fr + (2 * s + 15)) 0 [.ref (60 + 1), .int x1] h (RQV ks ρ (fun σ' => PF σ σ')) := by
  refine yM.st xM_183 rfl rfl (fun lv g => ?_)
  have g0 := g 0 _ rfl
  have g1 := g 1 _ rfl
  refine yT.aan (pc' := 1) g0 rfl rfl rfl ?_
  refine yT.iln (pc' := 2) g1 rfl rfl ?_
  refine yT.kb (pc' := 4) rfl rfl (by decide) (fun x101 e102 => ?_)
  refine yT.kI (pc' := 5) rfl rfl (by decide) (fun x103 e104 => ?_)
  refine kRV (yT.cc (G2 := 0) (pc' := 8) rfl rfl rfl hT (K.up rfl : xnth ks 60 = some (19, 0)) xM_167 (r167 (c := c) (w := 6) K hT e1 (by omega) x103 (by omega)) rfl (by omega) (by decide) rfl) (fun h105 σ109 hT106 E107 => ?_)
  have ee := E107
  have hPF : PF σ σ109 := by rw [ee]; exact (PF.rf p1).rm p0 (by omega)
  have hk := (hPF.2.2.2.1 (282 * c + 0) (by unfold mf; omega)).trans p3
  refine yT.aan (pc' := 9) g0 rfl rfl rfl ?_
  refine yT.iln (pc' := 10) g1 rfl rfl ?_
  refine yT.kI (pc' := 11) rfl rfl (by decide) (fun x110 e111 => ?_)
  refine kSI (yT.cc (G2 := 0) (pc' := 14) rfl rfl rfl hT106 (K.up rfl : xnth ks 60 = some (19, 0)) xM_166 (r166 (c := c) (w := 0) K hT106 e1 (by omega) (by omega)) rfl (by omega) (by decide) rfl) (fun h112 x115 hT113 E114 => ?_)
  refine yT.kI (pc' := 15) rfl rfl (by decide) (fun x116 e117 => ?_)
  refine yT.if2 (t := 23) (pc' := 18) rfl rfl rfl (c2_ne E114 e117) (fun c118 => ?_) (fun c118 => by omega)
  have h13 := (hPF.2.1 13 (by decide)).trans p2
  refine yT.aan (pc' := 24) g0 rfl rfl rfl ?_
  refine yT.cgX (pc' := 27) rfl rfl hT113 (K.up rfl) rfl rfl (fun x119 _ i120 j121 z122 => ?_)
  have e123 : x119.toInt = fl σ109 13 := congrArg Int32.toInt z122
  refine yT.p (pc' := 28) (lv' := xst1 _ 2 (.int x119)) rfl rfl (fun _ _ _ _ => rfl) ?_
  refine yT.aan (pc' := 29) (xg_ne g0 rfl) rfl rfl rfl ?_
  refine yT.kI (pc' := 30) rfl rfl (by decide) (fun x124 e125 => ?_)
  refine yT.cpX (c := x124) (pc' := 33) rfl rfl hT113 (K.up rfl) rfl rfl rfl e125 (by omega) rfl (fun h126 hT127 _ _ => ?_)
  have f128 : fl (us σ109 60 13 x124) 13 = 0 := fl_at.trans e125
  have hPF : PF σ (us σ109 60 13 x124) := hPF.how p2 (by omega)
  refine yT.aan (pc' := 34) (xg_ne g0 rfl) rfl rfl rfl ?_
  refine yT.iln (pc' := 35) (xg_ne g1 rfl) rfl rfl ?_
  refine kRL (yT.cc (G2 := 0) (pc' := 38) rfl rfl rfl hT127 (K.up rfl : xnth ks 60 = some (19, 0)) xM_179 (r179w (c := c) K hT127 e1 Rf (by omega) p2 p4 p5 p6 hPF p7) rfl (by omega) (by decide) rfl) (fun h129 σ133 x132 hT130 E131 => ?_)
  have hPF := E131
  refine yT.p (pc' := 39) (lv' := xst2 _ 3 (.long x132)) rfl rfl (fun _ _ _ _ => rfl) ?_
  refine yT.aan (pc' := 40) (xg2_ne (xg_ne g0 rfl) rfl) rfl rfl rfl ?_
  refine yT.iln (pc' := 41) (xg2_ne xg_eq rfl) rfl rfl ?_
  refine yT.cpX (c := x119) (pc' := 44) rfl rfl hT130 (K.up rfl) rfl rfl rfl e123 (by omega) rfl (fun h134 hT135 _ _ => ?_)
  have f136 : fl (us σ133 60 13 x119) 13 = (fl σ109 13) := fl_at.trans e123
  have hPF : PF σ (us σ133 60 13 x119) := hPF.how p2 (by omega)
  refine yT.aan (pc' := 45) (xg2_ne (xg_ne g0 rfl) rfl) rfl rfl rfl ?_
  refine yT.iln (pc' := 46) (xg2_ne (xg_ne g1 rfl) rfl) rfl rfl ?_
  refine yT.kI (pc' := 47) rfl rfl (by decide) (fun x137 e138 => ?_)
  refine yT.kI (pc' := 48) rfl rfl (by decide) (fun x139 e140 => ?_)
  refine kRV (yT.cc (G2 := 0) (pc' := 51) rfl rfl rfl hT135 (K.up rfl : xnth ks 60 = some (19, 0)) xM_167 (r167 (c := c) (w := 3) K hT135 e1 (by omega) x139 (by omega)) rfl (by omega) (by decide) rfl) (fun h141 σ145 hT142 E143 => ?_)
  have ee := E143
  have hPF : PF σ σ145 := by rw [ee]; exact hPF.s3 p0 (by decide)
  refine yT.aan (pc' := 52) (xg2_ne (xg_ne g0 rfl) rfl) rfl rfl rfl ?_
  refine yT.iln (pc' := 53) (xg2_ne (xg_ne g1 rfl) rfl) rfl rfl ?_
  refine yT.kI (pc' := 54) rfl rfl (by decide) (fun x146 e147 => ?_)
  refine yT.aan (pc' := 55) (xg2_ne (xg_ne g0 rfl) rfl) rfl rfl rfl ?_
  refine yT.iln (pc' := 56) (xg2_ne (xg_ne g1 rfl) rfl) rfl rfl ?_
  refine yT.kI (pc' := 57) rfl rfl (by decide) (fun x148 e149 => ?_)
  refine kSI (yT.cc (G2 := 0) (pc' := 60) rfl rfl rfl hT142 (K.up rfl : xnth ks 60 = some (19, 0)) xM_166 (r166 (c := c) (w := 5) K hT142 e1 (by omega) (by omega)) rfl (by omega) (by decide) rfl) (fun h150 x153 hT151 E152 => ?_)
  refine yT.kI (pc' := 61) rfl rfl (by decide) (fun x154 e155 => ?_)
  refine yT.fi (pc' := 62) rfl rfl (fun _ _ _ _ => rfl) (fun x156 => ?_)
  refine kRV (yT.cc (G2 := 0) (pc' := 65) rfl rfl rfl hT151 (K.up rfl : xnth ks 60 = some (19, 0)) xM_167 (r167 (c := c) (w := 5) K hT151 e1 (by omega) x156 (by omega)) rfl (by omega) (by decide) rfl) (fun h157 σ161 hT158 E159 => ?_)
  have ee := E159
  have hPF : PF σ σ161 := by rw [ee]; exact hPF.s3 p0 (by decide)
  have hk := (hPF.2.2.2.1 (282 * c + 0) (by unfold mf; omega)).trans p3
  refine yT.aan (pc' := 66) (xg2_ne (xg_ne g0 rfl) rfl) rfl rfl rfl ?_
  refine yT.iln (pc' := 67) (xg2_ne (xg_ne g1 rfl) rfl) rfl rfl ?_
  refine yT.kI (pc' := 68) rfl rfl (by decide) (fun x162 e163 => ?_)
  refine kSI (yT.cc (G2 := 0) (pc' := 71) rfl rfl rfl hT158 (K.up rfl : xnth ks 60 = some (19, 0)) xM_166 (r166 (c := c) (w := 0) K hT158 e1 (by omega) (by omega)) rfl (by omega) (by decide) rfl) (fun h164 x167 hT165 E166 => ?_)
  refine yT.kI (pc' := 72) rfl rfl (by decide) (fun x168 e169 => ?_)
  refine yT.if2 (t := 81) (pc' := 75) rfl rfl rfl (c2_ne E166 e169) (fun c170 => ?_) (fun c170 => by omega)
  refine yT.lln (pc' := 82) xg2_eq rfl rfl ?_
  refine yT.aan (pc' := 83) (xg2_ne (xg_ne g0 rfl) rfl) rfl rfl rfl ?_
  refine yT.cg8 (pc' := 86) rfl rfl hT165 (K.up rfl) rfl rfl (fun _ => ?_)
  refine yT.iln (pc' := 87) (xg2_ne (xg_ne g1 rfl) rfl) rfl rfl ?_
  refine yT.cla (pc' := 88) rfl rfl hT165 (K.up rfl) e1 (by omega) (fun y171 => ?_)
  refine yT.cmp2 (pc' := 89) (U := x132.toInt) (V := y171.toInt) rfl rfl rfl rfl (fun x172 c173 => ?_)
  refine yT.if1 (t := 101) (pc' := 92) rfl rfl rfl (c1_ne rfl) (fun c174 => ?_) (fun c174 => ?_)
  · refine yT.aan (pc' := 102) (xg2_ne (xg_ne g0 rfl) rfl) rfl rfl rfl ?_
    refine yT.cg8 (pc' := 105) rfl rfl hT165 (K.up rfl) rfl rfl (fun _ => ?_)
    refine yT.iln (pc' := 106) (xg2_ne (xg_ne g1 rfl) rfl) rfl rfl ?_
    refine yT.lln (pc' := 107) xg2_eq rfl rfl ?_
    refine yT.cls (pc' := 108) rfl rfl hT165 (K.up rfl) e1 (by omega) (fun h175 hT176 _ => ?_)
    refine yT.aan (pc' := 109) (xg2_ne (xg_ne g0 rfl) rfl) rfl rfl rfl ?_
    refine yT.iln (pc' := 110) (xg2_ne (xg_ne g1 rfl) rfl) rfl rfl ?_
    refine yT.kI (pc' := 111) rfl rfl (by decide) (fun x177 e178 => ?_)
    refine yT.aan (pc' := 112) (xg2_ne (xg_ne g0 rfl) rfl) rfl rfl rfl ?_
    refine yT.iln (pc' := 113) (xg2_ne (xg_ne g1 rfl) rfl) rfl rfl ?_
    refine yT.kI (pc' := 114) rfl rfl (by decide) (fun x179 e180 => ?_)
    refine kSI (yT.cc (G2 := 0) (pc' := 117) rfl rfl rfl hT176 (K.up rfl : xnth ks 60 = some (19, 0)) xM_166 (r166 (c := c) (w := 4) K hT176 e1 (by omega) (by omega)) rfl (by omega) (by decide) rfl) (fun h181 x184 hT182 E183 => ?_)
    refine yT.kI (pc' := 118) rfl rfl (by decide) (fun x185 e186 => ?_)
    refine yT.fi (pc' := 119) rfl rfl (fun _ _ _ _ => rfl) (fun x187 => ?_)
    refine kRV (yT.cc (G2 := 0) (pc' := 122) rfl rfl rfl hT182 (K.up rfl : xnth ks 60 = some (19, 0)) xM_167 (r167 (c := c) (w := 4) K hT182 e1 (by omega) x187 (by omega)) rfl (by omega) (by decide) rfl) (fun h188 σ192 hT189 E190 => ?_)
    have ee := E190
    have hPF : PF σ σ192 := by rw [ee]; exact hPF.s3 p0 (by decide)
    refine yT.kI (pc' := 123) rfl rfl (by decide) (fun x193 e194 => ?_)
    refine yT.p (pc' := 125) (lv' := xst1 _ 5 (.int x193)) rfl rfl (fun _ _ _ _ => rfl) ?_
    have L195 : ∀ (n207 : Nat) (lv196 : xLv) (σ197 : sg) (h198 : List xE) (r201 : Nat) (x200 : Int32), HT ks σ197 ρ h198 → x200.toInt = (r201 : Int) → xget lv196 0 = some (.ref (60 + 1)) → xget lv196 1 = some (.int x1) → xget lv196 5 = some (.int x200) → PF σ σ197 → 24 - (r201) < n207 → yT 0 [] rX9_runs (Fr + (2 * s + 15)) 0 125 lv196 [] h198 (RQV ks ρ (fun σ' => PF σ σ')) := by
      intro n207
      induction n207 with
      | zero => intro lv196 σ197 h198 r201 x200 hT199 e202 g203 g204 g205 i206 m208; exact absurd m208 (Nat.not_lt_zero _)
      | succ n207 ih209 =>
        intro lv196 σ197 h198 r201 x200 hT199 e202 g203 g204 g205 i206 m208
        have hPF := i206
        have hcm := hPF.2.2.2.2.1
        refine yT.il (pc' := 127) g205 rfl rfl ?_
        refine yT.aan (pc' := 128) g203 rfl rfl rfl ?_
        refine yT.cg8 (pc' := 131) rfl rfl hT199 (K.up rfl) rfl rfl (fun _ => ?_)
        refine yT.ks (pc' := 134) rfl rfl (by decide) (fun x210 e211 => ?_)
        refine yT.tia (6768) (pc' := 135) rfl rfl hT199 (K.up rfl) e211 (by omega) (fun x212 z214 => ?_)
        have e213 : x212.toInt = nw σ197 (6768) := congrArg Int32.toInt z214
        refine yT.if2 (t := 197) (pc' := 138) rfl rfl rfl (c2_ge e202 e213) (fun c215 => ?_) (fun c215 => ?_)
        · exact yT.retV rfl rfl ⟨_, hT199, rfl, hPF⟩
        · refine yT.aan (pc' := 139) g203 rfl rfl rfl ?_
          refine yT.il (pc' := 141) g205 rfl rfl ?_
          refine yT.kI (pc' := 142) rfl rfl (by decide) (fun x216 e217 => ?_)
          refine kSI (yT.cc (G2 := 0) (pc' := 145) rfl rfl rfl hT199 (K.up rfl : xnth ks 60 = some (19, 0)) xM_166 (r166 (c := r201) (w := 2) K hT199 e202 (by omega) (by omega)) rfl (by omega) (by decide) rfl) (fun h218 x221 hT219 E220 => ?_)
          refine yT.if1 (t := 191) (pc' := 148) rfl rfl rfl (c1_ne E220) (fun c222 => ?_) (fun c222 => ?_)
          · refine yT.inc2 (pc' := 194) (Z := (r201 : Int) + 1) g205 e202 rfl rfl rfl ⟨by decide, by omega⟩ (fun x223 e224 => ?_)
            refine yT.p (pc' := 125) rfl rfl (fun _ _ _ _ => rfl) ?_
            exact ih209 _ σ197 _ (r201 + 1) x223 hT219 (by omega) (xg_ne g203 rfl) (xg_ne g204 rfl) xg_eq hPF (by omega)
          · refine yT.aan (pc' := 149) g203 rfl rfl rfl ?_
            refine yT.il (pc' := 151) g205 rfl rfl ?_
            refine yT.iln (pc' := 152) g204 rfl rfl ?_
            refine kSI (yT.cc (G2 := 0) (pc' := 155) rfl rfl rfl hT219 (K.up rfl : xnth ks 60 = some (19, 0)) xM_180 (r180 (x := r201) K hT219 e202 x1 (by omega) (hPF.2.2.2.2.rd _ (by omega))) rfl (by omega) (by decide) rfl) (fun h225 x228 hT226 E227 => ?_)
            refine yT.if1 (t := 191) (pc' := 158) rfl rfl rfl (c1_eq rfl) (fun c229 => ?_) (fun c229 => ?_)
            · refine yT.inc2 (pc' := 194) (Z := (r201 : Int) + 1) g205 e202 rfl rfl rfl ⟨by decide, by omega⟩ (fun x230 e231 => ?_)
              refine yT.p (pc' := 125) rfl rfl (fun _ _ _ _ => rfl) ?_
              exact ih209 _ σ197 _ (r201 + 1) x230 hT226 (by omega) (xg_ne g203 rfl) (xg_ne g204 rfl) xg_eq hPF (by omega)
            · refine yT.aan (pc' := 159) g203 rfl rfl rfl ?_
              refine yT.il (pc' := 161) g205 rfl rfl ?_
              refine yT.kI (pc' := 162) rfl rfl (by decide) (fun x232 e233 => ?_)
              refine kSI (yT.cc (G2 := 0) (pc' := 165) rfl rfl rfl hT226 (K.up rfl : xnth ks 60 = some (19, 0)) xM_166 (r166 (c := r201) (w := 3) K hT226 e202 (by omega) (by omega)) rfl (by omega) (by decide) rfl) (fun h234 x237 hT235 E236 => ?_)
              refine yT.if1 (t := 172) (pc' := 168) rfl rfl rfl (c1_ne E236) (fun c238 => ?_) (fun c238 => ?_)
              · refine yT.kI (pc' := 173) rfl rfl (by decide) (fun x239 e240 => ?_)
                refine yT.p (pc' := 175) (lv' := xst1 _ 6 (.int x239)) rfl rfl (fun _ _ _ _ => rfl) ?_
                refine yT.aan (pc' := 176) (xg_ne g203 rfl) rfl rfl rfl ?_
                refine yT.il (pc' := 178) (xg_ne g205 rfl) rfl rfl ?_
                refine yT.kI (pc' := 179) rfl rfl (by decide) (fun x241 e242 => ?_)
                refine yT.kI (pc' := 180) rfl rfl (by decide) (fun x243 e244 => ?_)
                refine kRV (yT.cc (G2 := 0) (pc' := 183) rfl rfl rfl hT235 (K.up rfl : xnth ks 60 = some (19, 0)) xM_167 (r167 (c := r201) (w := 3) K hT235 e202 (by omega) x243 (by omega)) rfl (by omega) (by decide) rfl) (fun h245 σ249 hT246 E247 => ?_)
                have ee := E247
                have hPF : PF σ σ249 := by rw [ee]; exact hPF.s3 (by omega) (by decide)
                refine yT.aan (pc' := 184) (xg_ne g203 rfl) rfl rfl rfl ?_
                refine yT.il (pc' := 186) (xg_ne g205 rfl) rfl rfl ?_
                refine yT.il (pc' := 188) xg_eq rfl rfl ?_
                refine kRV (yT.cc (G2 := 0) (pc' := 191) rfl rfl rfl hT246 (K.up rfl : xnth ks 60 = some (19, 0)) xM_185 (r185 (c := r201) K hT246 e202 (by omega) (by omega) hPF.2.2.2.2.2.1) rfl (by omega) (by decide) rfl) (fun h250 σ254 hT251 E252 => ?_)
                have hPF := hPF.qs E252
                refine yT.inc2 (pc' := 194) (Z := (r201 : Int) + 1) (xg_ne g205 rfl) e202 rfl rfl rfl ⟨by decide, by omega⟩ (fun x255 e256 => ?_)
                refine yT.p (pc' := 125) rfl rfl (fun _ _ _ _ => rfl) ?_
                exact ih209 _ σ254 _ (r201 + 1) x255 hT251 (by omega) (xg_ne (xg_ne g203 rfl) rfl) (xg_ne (xg_ne g204 rfl) rfl) xg_eq hPF (by omega)
              · refine yT.kI (pc' := 169) rfl rfl (by decide) (fun x257 e258 => ?_)
                refine yT.p (pc' := 173) rfl rfl (fun _ _ _ _ => rfl) ?_
                refine yT.p (pc' := 175) (lv' := xst1 _ 6 (.int x257)) rfl rfl (fun _ _ _ _ => rfl) ?_
                refine yT.aan (pc' := 176) (xg_ne g203 rfl) rfl rfl rfl ?_
                refine yT.il (pc' := 178) (xg_ne g205 rfl) rfl rfl ?_
                refine yT.kI (pc' := 179) rfl rfl (by decide) (fun x259 e260 => ?_)
                refine yT.kI (pc' := 180) rfl rfl (by decide) (fun x261 e262 => ?_)
                refine kRV (yT.cc (G2 := 0) (pc' := 183) rfl rfl rfl hT235 (K.up rfl : xnth ks 60 = some (19, 0)) xM_167 (r167 (c := r201) (w := 3) K hT235 e202 (by omega) x261 (by omega)) rfl (by omega) (by decide) rfl) (fun h263 σ267 hT264 E265 => ?_)
                have ee := E265
                have hPF : PF σ σ267 := by rw [ee]; exact hPF.s3 (by omega) (by decide)
                refine yT.aan (pc' := 184) (xg_ne g203 rfl) rfl rfl rfl ?_
                refine yT.il (pc' := 186) (xg_ne g205 rfl) rfl rfl ?_
                refine yT.il (pc' := 188) xg_eq rfl rfl ?_
                refine kRV (yT.cc (G2 := 0) (pc' := 191) rfl rfl rfl hT264 (K.up rfl : xnth ks 60 = some (19, 0)) xM_185 (r185 (c := r201) K hT264 e202 (by omega) (by omega) hPF.2.2.2.2.2.1) rfl (by omega) (by decide) rfl) (fun h268 σ272 hT269 E270 => ?_)
                have hPF := hPF.qs E270
                refine yT.inc2 (pc' := 194) (Z := (r201 : Int) + 1) (xg_ne g205 rfl) e202 rfl rfl rfl ⟨by decide, by omega⟩ (fun x273 e274 => ?_)
                refine yT.p (pc' := 125) rfl rfl (fun _ _ _ _ => rfl) ?_
                exact ih209 _ σ272 _ (r201 + 1) x273 hT269 (by omega) (xg_ne (xg_ne g203 rfl) rfl) (xg_ne (xg_ne g204 rfl) rfl) xg_eq hPF (by omega)
    exact L195 _ _ σ192 _ (0) x193 hT189 (by omega) (xg_ne (xg2_ne (xg_ne g0 rfl) rfl) rfl) (xg_ne (xg2_ne (xg_ne g1 rfl) rfl) rfl) xg_eq hPF (Nat.lt_succ_self _)
  · refine yT.aan (pc' := 93) (xg2_ne (xg_ne g0 rfl) rfl) rfl rfl rfl ?_
    refine yT.iln (pc' := 94) (xg2_ne (xg_ne g1 rfl) rfl) rfl rfl ?_
    refine yT.kI (pc' := 95) rfl rfl (by decide) (fun x275 e276 => ?_)
    refine kSI (yT.cc (G2 := 0) (pc' := 98) rfl rfl rfl hT165 (K.up rfl : xnth ks 60 = some (19, 0)) xM_166 (r166 (c := c) (w := 4) K hT165 e1 (by omega) (by omega)) rfl (by omega) (by decide) rfl) (fun h277 x280 hT278 E279 => ?_)
    refine yT.if1 (t := 197) (pc' := 101) rfl rfl rfl (c1_ne E279) (fun c281 => ?_) (fun c281 => ?_)
    · exact yT.retV rfl rfl ⟨_, hT278, rfl, hPF⟩
    · refine yT.aan (pc' := 102) (xg2_ne (xg_ne g0 rfl) rfl) rfl rfl rfl ?_
      refine yT.cg8 (pc' := 105) rfl rfl hT278 (K.up rfl) rfl rfl (fun _ => ?_)
      refine yT.iln (pc' := 106) (xg2_ne (xg_ne g1 rfl) rfl) rfl rfl ?_
      refine yT.lln (pc' := 107) xg2_eq rfl rfl ?_
      refine yT.cls (pc' := 108) rfl rfl hT278 (K.up rfl) e1 (by omega) (fun h282 hT283 _ => ?_)
      refine yT.aan (pc' := 109) (xg2_ne (xg_ne g0 rfl) rfl) rfl rfl rfl ?_
      refine yT.iln (pc' := 110) (xg2_ne (xg_ne g1 rfl) rfl) rfl rfl ?_
      refine yT.kI (pc' := 111) rfl rfl (by decide) (fun x284 e285 => ?_)
      refine yT.aan (pc' := 112) (xg2_ne (xg_ne g0 rfl) rfl) rfl rfl rfl ?_
      refine yT.iln (pc' := 113) (xg2_ne (xg_ne g1 rfl) rfl) rfl rfl ?_
      refine yT.kI (pc' := 114) rfl rfl (by decide) (fun x286 e287 => ?_)
      refine kSI (yT.cc (G2 := 0) (pc' := 117) rfl rfl rfl hT283 (K.up rfl : xnth ks 60 = some (19, 0)) xM_166 (r166 (c := c) (w := 4) K hT283 e1 (by omega) (by omega)) rfl (by omega) (by decide) rfl) (fun h288 x291 hT289 E290 => ?_)
      refine yT.kI (pc' := 118) rfl rfl (by decide) (fun x292 e293 => ?_)
      refine yT.fi (pc' := 119) rfl rfl (fun _ _ _ _ => rfl) (fun x294 => ?_)
      refine kRV (yT.cc (G2 := 0) (pc' := 122) rfl rfl rfl hT289 (K.up rfl : xnth ks 60 = some (19, 0)) xM_167 (r167 (c := c) (w := 4) K hT289 e1 (by omega) x294 (by omega)) rfl (by omega) (by decide) rfl) (fun h295 σ299 hT296 E297 => ?_)
      have ee := E297
      have hPF : PF σ σ299 := by rw [ee]; exact hPF.s3 p0 (by decide)
      refine yT.kI (pc' := 123) rfl rfl (by decide) (fun x300 e301 => ?_)
      refine yT.p (pc' := 125) (lv' := xst1 _ 5 (.int x300)) rfl rfl (fun _ _ _ _ => rfl) ?_
      have L302 : ∀ (n314 : Nat) (lv303 : xLv) (σ304 : sg) (h305 : List xE) (r308 : Nat) (x307 : Int32), HT ks σ304 ρ h305 → x307.toInt = (r308 : Int) → xget lv303 0 = some (.ref (60 + 1)) → xget lv303 1 = some (.int x1) → xget lv303 5 = some (.int x307) → PF σ σ304 → 24 - (r308) < n314 → yT 0 [] rX9_runs (Fr + (2 * s + 15)) 0 125 lv303 [] h305 (RQV ks ρ (fun σ' => PF σ σ')) := by
        intro n314
        induction n314 with
        | zero => intro lv303 σ304 h305 r308 x307 hT306 e309 g310 g311 g312 i313 m315; exact absurd m315 (Nat.not_lt_zero _)
        | succ n314 ih316 =>
          intro lv303 σ304 h305 r308 x307 hT306 e309 g310 g311 g312 i313 m315
          have hPF := i313
          have hcm := hPF.2.2.2.2.1
          refine yT.il (pc' := 127) g312 rfl rfl ?_
          refine yT.aan (pc' := 128) g310 rfl rfl rfl ?_
          refine yT.cg8 (pc' := 131) rfl rfl hT306 (K.up rfl) rfl rfl (fun _ => ?_)
          refine yT.ks (pc' := 134) rfl rfl (by decide) (fun x317 e318 => ?_)
          refine yT.tia (6768) (pc' := 135) rfl rfl hT306 (K.up rfl) e318 (by omega) (fun x319 z321 => ?_)
          have e320 : x319.toInt = nw σ304 (6768) := congrArg Int32.toInt z321
          refine yT.if2 (t := 197) (pc' := 138) rfl rfl rfl (c2_ge e309 e320) (fun c322 => ?_) (fun c322 => ?_)
          · exact yT.retV rfl rfl ⟨_, hT306, rfl, hPF⟩
          · refine yT.aan (pc' := 139) g310 rfl rfl rfl ?_
            refine yT.il (pc' := 141) g312 rfl rfl ?_
            refine yT.kI (pc' := 142) rfl rfl (by decide) (fun x323 e324 => ?_)
            refine kSI (yT.cc (G2 := 0) (pc' := 145) rfl rfl rfl hT306 (K.up rfl : xnth ks 60 = some (19, 0)) xM_166 (r166 (c := r308) (w := 2) K hT306 e309 (by omega) (by omega)) rfl (by omega) (by decide) rfl) (fun h325 x328 hT326 E327 => ?_)
            refine yT.if1 (t := 191) (pc' := 148) rfl rfl rfl (c1_ne E327) (fun c329 => ?_) (fun c329 => ?_)
            · refine yT.inc2 (pc' := 194) (Z := (r308 : Int) + 1) g312 e309 rfl rfl rfl ⟨by decide, by omega⟩ (fun x330 e331 => ?_)
              refine yT.p (pc' := 125) rfl rfl (fun _ _ _ _ => rfl) ?_
              exact ih316 _ σ304 _ (r308 + 1) x330 hT326 (by omega) (xg_ne g310 rfl) (xg_ne g311 rfl) xg_eq hPF (by omega)
            · refine yT.aan (pc' := 149) g310 rfl rfl rfl ?_
              refine yT.il (pc' := 151) g312 rfl rfl ?_
              refine yT.iln (pc' := 152) g311 rfl rfl ?_
              refine kSI (yT.cc (G2 := 0) (pc' := 155) rfl rfl rfl hT326 (K.up rfl : xnth ks 60 = some (19, 0)) xM_180 (r180 (x := r308) K hT326 e309 x1 (by omega) (hPF.2.2.2.2.rd _ (by omega))) rfl (by omega) (by decide) rfl) (fun h332 x335 hT333 E334 => ?_)
              refine yT.if1 (t := 191) (pc' := 158) rfl rfl rfl (c1_eq rfl) (fun c336 => ?_) (fun c336 => ?_)
              · refine yT.inc2 (pc' := 194) (Z := (r308 : Int) + 1) g312 e309 rfl rfl rfl ⟨by decide, by omega⟩ (fun x337 e338 => ?_)
                refine yT.p (pc' := 125) rfl rfl (fun _ _ _ _ => rfl) ?_
                exact ih316 _ σ304 _ (r308 + 1) x337 hT333 (by omega) (xg_ne g310 rfl) (xg_ne g311 rfl) xg_eq hPF (by omega)
              · refine yT.aan (pc' := 159) g310 rfl rfl rfl ?_
                refine yT.il (pc' := 161) g312 rfl rfl ?_
                refine yT.kI (pc' := 162) rfl rfl (by decide) (fun x339 e340 => ?_)
                refine kSI (yT.cc (G2 := 0) (pc' := 165) rfl rfl rfl hT333 (K.up rfl : xnth ks 60 = some (19, 0)) xM_166 (r166 (c := r308) (w := 3) K hT333 e309 (by omega) (by omega)) rfl (by omega) (by decide) rfl) (fun h341 x344 hT342 E343 => ?_)
                refine yT.if1 (t := 172) (pc' := 168) rfl rfl rfl (c1_ne E343) (fun c345 => ?_) (fun c345 => ?_)
                · refine yT.kI (pc' := 173) rfl rfl (by decide) (fun x346 e347 => ?_)
                  refine yT.p (pc' := 175) (lv' := xst1 _ 6 (.int x346)) rfl rfl (fun _ _ _ _ => rfl) ?_
                  refine yT.aan (pc' := 176) (xg_ne g310 rfl) rfl rfl rfl ?_
                  refine yT.il (pc' := 178) (xg_ne g312 rfl) rfl rfl ?_
                  refine yT.kI (pc' := 179) rfl rfl (by decide) (fun x348 e349 => ?_)
                  refine yT.kI (pc' := 180) rfl rfl (by decide) (fun x350 e351 => ?_)
                  refine kRV (yT.cc (G2 := 0) (pc' := 183) rfl rfl rfl hT342 (K.up rfl : xnth ks 60 = some (19, 0)) xM_167 (r167 (c := r308) (w := 3) K hT342 e309 (by omega) x350 (by omega)) rfl (by omega) (by decide) rfl) (fun h352 σ356 hT353 E354 => ?_)
                  have ee := E354
                  have hPF : PF σ σ356 := by rw [ee]; exact hPF.s3 (by omega) (by decide)
                  refine yT.aan (pc' := 184) (xg_ne g310 rfl) rfl rfl rfl ?_
                  refine yT.il (pc' := 186) (xg_ne g312 rfl) rfl rfl ?_
                  refine yT.il (pc' := 188) xg_eq rfl rfl ?_
                  refine kRV (yT.cc (G2 := 0) (pc' := 191) rfl rfl rfl hT353 (K.up rfl : xnth ks 60 = some (19, 0)) xM_185 (r185 (c := r308) K hT353 e309 (by omega) (by omega) hPF.2.2.2.2.2.1) rfl (by omega) (by decide) rfl) (fun h357 σ361 hT358 E359 => ?_)
                  have hPF := hPF.qs E359
                  refine yT.inc2 (pc' := 194) (Z := (r308 : Int) + 1) (xg_ne g312 rfl) e309 rfl rfl rfl ⟨by decide, by omega⟩ (fun x362 e363 => ?_)
                  refine yT.p (pc' := 125) rfl rfl (fun _ _ _ _ => rfl) ?_
                  exact ih316 _ σ361 _ (r308 + 1) x362 hT358 (by omega) (xg_ne (xg_ne g310 rfl) rfl) (xg_ne (xg_ne g311 rfl) rfl) xg_eq hPF (by omega)
                · refine yT.kI (pc' := 169) rfl rfl (by decide) (fun x364 e365 => ?_)
                  refine yT.p (pc' := 173) rfl rfl (fun _ _ _ _ => rfl) ?_
                  refine yT.p (pc' := 175) (lv' := xst1 _ 6 (.int x364)) rfl rfl (fun _ _ _ _ => rfl) ?_
                  refine yT.aan (pc' := 176) (xg_ne g310 rfl) rfl rfl rfl ?_
                  refine yT.il (pc' := 178) (xg_ne g312 rfl) rfl rfl ?_
                  refine yT.kI (pc' := 179) rfl rfl (by decide) (fun x366 e367 => ?_)
                  refine yT.kI (pc' := 180) rfl rfl (by decide) (fun x368 e369 => ?_)
                  refine kRV (yT.cc (G2 := 0) (pc' := 183) rfl rfl rfl hT342 (K.up rfl : xnth ks 60 = some (19, 0)) xM_167 (r167 (c := r308) (w := 3) K hT342 e309 (by omega) x368 (by omega)) rfl (by omega) (by decide) rfl) (fun h370 σ374 hT371 E372 => ?_)
                  have ee := E372
                  have hPF : PF σ σ374 := by rw [ee]; exact hPF.s3 (by omega) (by decide)
                  refine yT.aan (pc' := 184) (xg_ne g310 rfl) rfl rfl rfl ?_
                  refine yT.il (pc' := 186) (xg_ne g312 rfl) rfl rfl ?_
                  refine yT.il (pc' := 188) xg_eq rfl rfl ?_
                  refine kRV (yT.cc (G2 := 0) (pc' := 191) rfl rfl rfl hT371 (K.up rfl : xnth ks 60 = some (19, 0)) xM_185 (r185 (c := r308) K hT371 e309 (by omega) (by omega) hPF.2.2.2.2.2.1) rfl (by omega) (by decide) rfl) (fun h375 σ379 hT376 E377 => ?_)
                  have hPF := hPF.qs E377
                  refine yT.inc2 (pc' := 194) (Z := (r308 : Int) + 1) (xg_ne g312 rfl) e309 rfl rfl rfl ⟨by decide, by omega⟩ (fun x380 e381 => ?_)
                  refine yT.p (pc' := 125) rfl rfl (fun _ _ _ _ => rfl) ?_
                  exact ih316 _ σ379 _ (r308 + 1) x380 hT376 (by omega) (xg_ne (xg_ne g310 rfl) rfl) (xg_ne (xg_ne g311 rfl) rfl) xg_eq hPF (by omega)
      exact L302 _ _ σ299 _ (0) x300 hT296 (by omega) (xg_ne (xg2_ne (xg_ne g0 rfl) rfl) rfl) (xg_ne (xg2_ne (xg_ne g1 rfl) rfl) rfl) xg_eq hPF (Nat.lt_succ_self _)
-- rX9_refreshesr
set_option maxRecDepth 100000 in
set_option maxHeartbeats 4000000 in
theorem r182r {ks : List cT} {B0 : Nat} (K : KE KS0 ks B0) {σ : sg} {ρ : Nat → xE} {h : List xE} (hT : HT ks σ ρ h) {c : Nat} {x1 : Int32} (e1 : x1.toInt = (c : Int)) {Fr s : Nat} (Rf : WR ks ρ B0 (PW c σ) Fr) (p0 : c < 24) (p1 : RO σ) (p2 : fl σ 13 = 0) (p3 : nw σ (282 * c + 0) = 3) (p4 : nw σ (282 * c + 31) = (s : Int)) (p5 : s ≤ 250) (p6 : PK (lt σ c) 0 0 s) (p7 : bz σ c = 0) : yM 182 (Fr + (2 * s + 16)) 0 [.ref (60 + 1), .int x1] h (RQV ks ρ (fun σ' => PF σ σ')) := by
  refine yM.st xM_182 rfl rfl (fun lv g => ?_)
  have g0 := g 0 _ rfl
  have g1 := g 1 _ rfl
  refine yT.aan (pc' := 1) g0 rfl rfl rfl ?_
  refine yT.iln (pc' := 2) g1 rfl rfl ?_
  refine yT.kI (pc' := 3) rfl rfl (by decide) (fun x101 e102 => ?_)
  refine kSI (yT.cc (G2 := 0) (pc' := 6) rfl rfl rfl hT (K.up rfl : xnth ks 60 = some (19, 0)) xM_166 (r166 (c := c) (w := 3) K hT e1 (by omega) (by omega)) rfl (by omega) (by decide) rfl) (fun h103 x106 hT104 E105 => ?_)
  refine yT.if1 (t := 10) (pc' := 9) rfl rfl rfl (c1_ne E105) (fun c107 => ?_) (fun c107 => ?_)
  · refine yT.aan (pc' := 11) g0 rfl rfl rfl ?_
    refine yT.cg8 (pc' := 14) rfl rfl hT104 (K.up rfl) rfl rfl (fun _ => ?_)
    refine yT.iln (pc' := 15) g1 rfl rfl ?_
    refine yT.kI (pc' := 16) rfl rfl (by decide) (fun x108 e109 => ?_)
    refine yT.tbs (c) (pc' := 17) rfl rfl hT104 (K.up rfl) e1 (by omega) (b01 (by omega) (by omega)) (fun h110 hT111 => ?_)
    have hPB : BF c σ (us σ 67 (c) x108) := BF.in p1 (by omega)
    refine yT.kI (pc' := 18) rfl rfl (by decide) (fun x112 e113 => ?_)
    refine yT.p (pc' := 19) (lv' := xst1 _ 2 (.int x112)) rfl rfl (fun _ _ _ _ => rfl) ?_
    have L114 : ∀ (n126 : Nat) (lv115 : xLv) (σ116 : sg) (h117 : List xE) (k120 : Nat) (x119 : Int32), HT ks σ116 ρ h117 → x119.toInt = (k120 : Int) → xget lv115 0 = some (.ref (60 + 1)) → xget lv115 1 = some (.int x1) → xget lv115 2 = some (.int x119) → BF c σ σ116 → 24 - (k120) < n126 → yT 0 [] rX9_refreshes (Fr + (2 * s + 16)) 0 19 lv115 [] h117 (RQV ks ρ (fun σ' => PF σ σ')) := by
      intro n126
      induction n126 with
      | zero => intro lv115 σ116 h117 k120 x119 hT118 e121 g122 g123 g124 i125 m127; exact absurd m127 (Nat.not_lt_zero _)
      | succ n126 ih128 =>
        intro lv115 σ116 h117 k120 x119 hT118 e121 g122 g123 g124 i125 m127
        have hPB := i125
        have hrd := hPB.2.2.2.2.rd c p0
        refine yT.aan (pc' := 20) g122 rfl rfl rfl ?_
        refine yT.iln (pc' := 21) g123 rfl rfl ?_
        refine yT.kI (pc' := 22) rfl rfl (by decide) (fun x129 e130 => ?_)
        refine kSI (yT.cc (G2 := 0) (pc' := 25) rfl rfl rfl hT118 (K.up rfl : xnth ks 60 = some (19, 0)) xM_166 (r166 (c := c) (w := 3) K hT118 e1 (by omega) (by omega)) rfl (by omega) (by decide) rfl) (fun h131 x134 hT132 E133 => ?_)
        refine yT.kI (pc' := 26) rfl rfl (by decide) (fun x135 e136 => ?_)
        refine yT.if2 (t := 80) (pc' := 29) rfl rfl rfl (c2_ne E133 e136) (fun c137 => ?_) (fun c137 => ?_)
        · refine yT.aan (pc' := 81) g122 rfl rfl rfl ?_
          refine yT.iln (pc' := 82) g123 rfl rfl ?_
          refine yT.kI (pc' := 83) rfl rfl (by decide) (fun x138 e139 => ?_)
          refine kSI (yT.cc (G2 := 0) (pc' := 86) rfl rfl rfl hT132 (K.up rfl : xnth ks 60 = some (19, 0)) xM_166 (r166 (c := c) (w := 3) K hT132 e1 (by omega) (by omega)) rfl (by omega) (by decide) rfl) (fun h140 x143 hT141 E142 => ?_)
          refine yT.kI (pc' := 87) rfl rfl (by decide) (fun x144 e145 => ?_)
          refine yT.if2 (t := 97) (pc' := 90) rfl rfl rfl (c2_ne E142 e145) (fun c146 => ?_) (fun c146 => ?_)
          · refine yT.aan (pc' := 98) g122 rfl rfl rfl ?_
            refine yT.iln (pc' := 99) g123 rfl rfl ?_
            refine yT.kI (pc' := 100) rfl rfl (by decide) (fun x147 e148 => ?_)
            refine kSI (yT.cc (G2 := 0) (pc' := 103) rfl rfl rfl hT141 (K.up rfl : xnth ks 60 = some (19, 0)) xM_166 (r166 (c := c) (w := 3) K hT141 e1 (by omega) (by omega)) rfl (by omega) (by decide) rfl) (fun h149 x152 hT150 E151 => ?_)
            refine yT.kI (pc' := 104) rfl rfl (by decide) (fun x153 e154 => ?_)
            refine yT.if2 (t := 112) (pc' := 107) rfl rfl rfl (c2_ne E151 e154) (fun c155 => ?_) (fun c155 => ?_)
            · refine yT.aan (pc' := 113) g122 rfl rfl rfl ?_
              refine yT.cg8 (pc' := 116) rfl rfl hT150 (K.up rfl) rfl rfl (fun _ => ?_)
              refine yT.iln (pc' := 117) g123 rfl rfl ?_
              refine yT.kI (pc' := 118) rfl rfl (by decide) (fun x156 e157 => ?_)
              refine yT.tbs (c) (pc' := 119) rfl rfl hT150 (K.up rfl) e1 (by omega) (b01 (by omega) (by omega)) (fun h158 hT159 => ?_)
              have hPF : PF σ (us σ116 67 (c) x156) := hPB.out p7 (by omega)
              exact yT.retV rfl rfl ⟨_, hT159, rfl, hPF⟩
            · have hn := hPB.2.2.2.1 (282 * c + 0) (by unfold mf; omega)
              have hs := hPB.2.2.2.1 (282 * c + 31) (by unfold mf; omega)
              have hl : lt σ116 c = lt σ c := lt_cg (fun i h1 h2 => hPB.2.2.2.1 i (by unfold mf; omega)) (by omega) (hPB.2.2.2.1 6768 (by unfold mf; omega))
              have h13 := (hPB.2.1 13 (by decide)).trans p2
              refine yT.aan (pc' := 108) g122 rfl rfl rfl ?_
              refine yT.iln (pc' := 109) g123 rfl rfl ?_
              refine kRV (yT.cc (G2 := 0) (pc' := 112) rfl rfl rfl hT150 (K.up rfl : xnth ks 60 = some (19, 0)) xM_183 (r183r (c := c) K hT150 e1 Rf (by omega) hPB.2.2.2.2 h13 (by omega) (hs.trans p4) p5 (by rw [hl]; exact p6) (hPB.pw p2)) rfl (by omega) (by decide) rfl) (fun h160 σ164 hT161 E162 => ?_)
              have hPB := hPB.tr E162
              refine yT.aan (pc' := 113) g122 rfl rfl rfl ?_
              refine yT.cg8 (pc' := 116) rfl rfl hT161 (K.up rfl) rfl rfl (fun _ => ?_)
              refine yT.iln (pc' := 117) g123 rfl rfl ?_
              refine yT.kI (pc' := 118) rfl rfl (by decide) (fun x165 e166 => ?_)
              refine yT.tbs (c) (pc' := 119) rfl rfl hT161 (K.up rfl) e1 (by omega) (b01 (by omega) (by omega)) (fun h167 hT168 => ?_)
              have hPF : PF σ (us σ164 67 (c) x165) := hPB.out p7 (by omega)
              exact yT.retV rfl rfl ⟨_, hT168, rfl, hPF⟩
          · refine yT.aan (pc' := 91) g122 rfl rfl rfl ?_
            refine yT.iln (pc' := 92) g123 rfl rfl ?_
            refine yT.kI (pc' := 93) rfl rfl (by decide) (fun x169 e170 => ?_)
            refine yT.kI (pc' := 94) rfl rfl (by decide) (fun x171 e172 => ?_)
            refine kRV (yT.cc (G2 := 0) (pc' := 97) rfl rfl rfl hT141 (K.up rfl : xnth ks 60 = some (19, 0)) xM_167 (r167 (c := c) (w := 3) K hT141 e1 (by omega) x171 (by omega)) rfl (by omega) (by decide) rfl) (fun h173 σ177 hT174 E175 => ?_)
            have ee := E175
            have hPB : BF c σ σ177 := by rw [ee]; exact hPB.tr ((PF.rf hPB.2.2.2.2).s3 p0 (by decide))
            refine yT.aan (pc' := 98) g122 rfl rfl rfl ?_
            refine yT.iln (pc' := 99) g123 rfl rfl ?_
            refine yT.kI (pc' := 100) rfl rfl (by decide) (fun x178 e179 => ?_)
            refine kSI (yT.cc (G2 := 0) (pc' := 103) rfl rfl rfl hT174 (K.up rfl : xnth ks 60 = some (19, 0)) xM_166 (r166 (c := c) (w := 3) K hT174 e1 (by omega) (by omega)) rfl (by omega) (by decide) rfl) (fun h180 x183 hT181 E182 => ?_)
            refine yT.kI (pc' := 104) rfl rfl (by decide) (fun x184 e185 => ?_)
            refine yT.if2 (t := 112) (pc' := 107) rfl rfl rfl (c2_ne E182 e185) (fun c186 => ?_) (fun c186 => ?_)
            · refine yT.aan (pc' := 113) g122 rfl rfl rfl ?_
              refine yT.cg8 (pc' := 116) rfl rfl hT181 (K.up rfl) rfl rfl (fun _ => ?_)
              refine yT.iln (pc' := 117) g123 rfl rfl ?_
              refine yT.kI (pc' := 118) rfl rfl (by decide) (fun x187 e188 => ?_)
              refine yT.tbs (c) (pc' := 119) rfl rfl hT181 (K.up rfl) e1 (by omega) (b01 (by omega) (by omega)) (fun h189 hT190 => ?_)
              have hPF : PF σ (us σ177 67 (c) x187) := hPB.out p7 (by omega)
              exact yT.retV rfl rfl ⟨_, hT190, rfl, hPF⟩
            · have hn := hPB.2.2.2.1 (282 * c + 0) (by unfold mf; omega)
              have hs := hPB.2.2.2.1 (282 * c + 31) (by unfold mf; omega)
              have hl : lt σ177 c = lt σ c := lt_cg (fun i h1 h2 => hPB.2.2.2.1 i (by unfold mf; omega)) (by omega) (hPB.2.2.2.1 6768 (by unfold mf; omega))
              have h13 := (hPB.2.1 13 (by decide)).trans p2
              refine yT.aan (pc' := 108) g122 rfl rfl rfl ?_
              refine yT.iln (pc' := 109) g123 rfl rfl ?_
              refine kRV (yT.cc (G2 := 0) (pc' := 112) rfl rfl rfl hT181 (K.up rfl : xnth ks 60 = some (19, 0)) xM_183 (r183r (c := c) K hT181 e1 Rf (by omega) hPB.2.2.2.2 h13 (by omega) (hs.trans p4) p5 (by rw [hl]; exact p6) (hPB.pw p2)) rfl (by omega) (by decide) rfl) (fun h191 σ195 hT192 E193 => ?_)
              have hPB := hPB.tr E193
              refine yT.aan (pc' := 113) g122 rfl rfl rfl ?_
              refine yT.cg8 (pc' := 116) rfl rfl hT192 (K.up rfl) rfl rfl (fun _ => ?_)
              refine yT.iln (pc' := 117) g123 rfl rfl ?_
              refine yT.kI (pc' := 118) rfl rfl (by decide) (fun x196 e197 => ?_)
              refine yT.tbs (c) (pc' := 119) rfl rfl hT192 (K.up rfl) e1 (by omega) (b01 (by omega) (by omega)) (fun h198 hT199 => ?_)
              have hPF : PF σ (us σ195 67 (c) x196) := hPB.out p7 (by omega)
              exact yT.retV rfl rfl ⟨_, hT199, rfl, hPF⟩
        · refine yT.iln (pc' := 30) g124 rfl rfl ?_
          refine yT.aan (pc' := 31) g122 rfl rfl rfl ?_
          refine yT.iln (pc' := 32) g123 rfl rfl ?_
          refine yT.kb (pc' := 34) rfl rfl (by decide) (fun x200 e201 => ?_)
          refine kSI (yT.cc (G2 := 0) (pc' := 37) rfl rfl rfl hT132 (K.up rfl : xnth ks 60 = some (19, 0)) xM_166 (r166 (c := c) (w := 6) K hT132 e1 (by omega) (by omega)) rfl (by omega) (by decide) rfl) (fun h202 x205 hT203 E204 => ?_)
          refine yT.if2 (t := 80) (pc' := 40) rfl rfl rfl (c2_ge e121 E204) (fun c206 => ?_) (fun c206 => ?_)
          · refine yT.aan (pc' := 81) g122 rfl rfl rfl ?_
            refine yT.iln (pc' := 82) g123 rfl rfl ?_
            refine yT.kI (pc' := 83) rfl rfl (by decide) (fun x207 e208 => ?_)
            refine kSI (yT.cc (G2 := 0) (pc' := 86) rfl rfl rfl hT203 (K.up rfl : xnth ks 60 = some (19, 0)) xM_166 (r166 (c := c) (w := 3) K hT203 e1 (by omega) (by omega)) rfl (by omega) (by decide) rfl) (fun h209 x212 hT210 E211 => ?_)
            refine yT.kI (pc' := 87) rfl rfl (by decide) (fun x213 e214 => ?_)
            refine yT.if2 (t := 97) (pc' := 90) rfl rfl rfl (c2_ne E211 e214) (fun c215 => ?_) (fun c215 => ?_)
            · refine yT.aan (pc' := 98) g122 rfl rfl rfl ?_
              refine yT.iln (pc' := 99) g123 rfl rfl ?_
              refine yT.kI (pc' := 100) rfl rfl (by decide) (fun x216 e217 => ?_)
              refine kSI (yT.cc (G2 := 0) (pc' := 103) rfl rfl rfl hT210 (K.up rfl : xnth ks 60 = some (19, 0)) xM_166 (r166 (c := c) (w := 3) K hT210 e1 (by omega) (by omega)) rfl (by omega) (by decide) rfl) (fun h218 x221 hT219 E220 => ?_)
              refine yT.kI (pc' := 104) rfl rfl (by decide) (fun x222 e223 => ?_)
              refine yT.if2 (t := 112) (pc' := 107) rfl rfl rfl (c2_ne E220 e223) (fun c224 => ?_) (fun c224 => ?_)
              · refine yT.aan (pc' := 113) g122 rfl rfl rfl ?_
                refine yT.cg8 (pc' := 116) rfl rfl hT219 (K.up rfl) rfl rfl (fun _ => ?_)
                refine yT.iln (pc' := 117) g123 rfl rfl ?_
                refine yT.kI (pc' := 118) rfl rfl (by decide) (fun x225 e226 => ?_)
                refine yT.tbs (c) (pc' := 119) rfl rfl hT219 (K.up rfl) e1 (by omega) (b01 (by omega) (by omega)) (fun h227 hT228 => ?_)
                have hPF : PF σ (us σ116 67 (c) x225) := hPB.out p7 (by omega)
                exact yT.retV rfl rfl ⟨_, hT228, rfl, hPF⟩
              · have hn := hPB.2.2.2.1 (282 * c + 0) (by unfold mf; omega)
                have hs := hPB.2.2.2.1 (282 * c + 31) (by unfold mf; omega)
                have hl : lt σ116 c = lt σ c := lt_cg (fun i h1 h2 => hPB.2.2.2.1 i (by unfold mf; omega)) (by omega) (hPB.2.2.2.1 6768 (by unfold mf; omega))
                have h13 := (hPB.2.1 13 (by decide)).trans p2
                refine yT.aan (pc' := 108) g122 rfl rfl rfl ?_
                refine yT.iln (pc' := 109) g123 rfl rfl ?_
                refine kRV (yT.cc (G2 := 0) (pc' := 112) rfl rfl rfl hT219 (K.up rfl : xnth ks 60 = some (19, 0)) xM_183 (r183r (c := c) K hT219 e1 Rf (by omega) hPB.2.2.2.2 h13 (by omega) (hs.trans p4) p5 (by rw [hl]; exact p6) (hPB.pw p2)) rfl (by omega) (by decide) rfl) (fun h229 σ233 hT230 E231 => ?_)
                have hPB := hPB.tr E231
                refine yT.aan (pc' := 113) g122 rfl rfl rfl ?_
                refine yT.cg8 (pc' := 116) rfl rfl hT230 (K.up rfl) rfl rfl (fun _ => ?_)
                refine yT.iln (pc' := 117) g123 rfl rfl ?_
                refine yT.kI (pc' := 118) rfl rfl (by decide) (fun x234 e235 => ?_)
                refine yT.tbs (c) (pc' := 119) rfl rfl hT230 (K.up rfl) e1 (by omega) (b01 (by omega) (by omega)) (fun h236 hT237 => ?_)
                have hPF : PF σ (us σ233 67 (c) x234) := hPB.out p7 (by omega)
                exact yT.retV rfl rfl ⟨_, hT237, rfl, hPF⟩
            · refine yT.aan (pc' := 91) g122 rfl rfl rfl ?_
              refine yT.iln (pc' := 92) g123 rfl rfl ?_
              refine yT.kI (pc' := 93) rfl rfl (by decide) (fun x238 e239 => ?_)
              refine yT.kI (pc' := 94) rfl rfl (by decide) (fun x240 e241 => ?_)
              refine kRV (yT.cc (G2 := 0) (pc' := 97) rfl rfl rfl hT210 (K.up rfl : xnth ks 60 = some (19, 0)) xM_167 (r167 (c := c) (w := 3) K hT210 e1 (by omega) x240 (by omega)) rfl (by omega) (by decide) rfl) (fun h242 σ246 hT243 E244 => ?_)
              have ee := E244
              have hPB : BF c σ σ246 := by rw [ee]; exact hPB.tr ((PF.rf hPB.2.2.2.2).s3 p0 (by decide))
              refine yT.aan (pc' := 98) g122 rfl rfl rfl ?_
              refine yT.iln (pc' := 99) g123 rfl rfl ?_
              refine yT.kI (pc' := 100) rfl rfl (by decide) (fun x247 e248 => ?_)
              refine kSI (yT.cc (G2 := 0) (pc' := 103) rfl rfl rfl hT243 (K.up rfl : xnth ks 60 = some (19, 0)) xM_166 (r166 (c := c) (w := 3) K hT243 e1 (by omega) (by omega)) rfl (by omega) (by decide) rfl) (fun h249 x252 hT250 E251 => ?_)
              refine yT.kI (pc' := 104) rfl rfl (by decide) (fun x253 e254 => ?_)
              refine yT.if2 (t := 112) (pc' := 107) rfl rfl rfl (c2_ne E251 e254) (fun c255 => ?_) (fun c255 => ?_)
              · refine yT.aan (pc' := 113) g122 rfl rfl rfl ?_
                refine yT.cg8 (pc' := 116) rfl rfl hT250 (K.up rfl) rfl rfl (fun _ => ?_)
                refine yT.iln (pc' := 117) g123 rfl rfl ?_
                refine yT.kI (pc' := 118) rfl rfl (by decide) (fun x256 e257 => ?_)
                refine yT.tbs (c) (pc' := 119) rfl rfl hT250 (K.up rfl) e1 (by omega) (b01 (by omega) (by omega)) (fun h258 hT259 => ?_)
                have hPF : PF σ (us σ246 67 (c) x256) := hPB.out p7 (by omega)
                exact yT.retV rfl rfl ⟨_, hT259, rfl, hPF⟩
              · have hn := hPB.2.2.2.1 (282 * c + 0) (by unfold mf; omega)
                have hs := hPB.2.2.2.1 (282 * c + 31) (by unfold mf; omega)
                have hl : lt σ246 c = lt σ c := lt_cg (fun i h1 h2 => hPB.2.2.2.1 i (by unfold mf; omega)) (by omega) (hPB.2.2.2.1 6768 (by unfold mf; omega))
                have h13 := (hPB.2.1 13 (by decide)).trans p2
                refine yT.aan (pc' := 108) g122 rfl rfl rfl ?_
                refine yT.iln (pc' := 109) g123 rfl rfl ?_
                refine kRV (yT.cc (G2 := 0) (pc' := 112) rfl rfl rfl hT250 (K.up rfl : xnth ks 60 = some (19, 0)) xM_183 (r183r (c := c) K hT250 e1 Rf (by omega) hPB.2.2.2.2 h13 (by omega) (hs.trans p4) p5 (by rw [hl]; exact p6) (hPB.pw p2)) rfl (by omega) (by decide) rfl) (fun h260 σ264 hT261 E262 => ?_)
                have hPB := hPB.tr E262
                refine yT.aan (pc' := 113) g122 rfl rfl rfl ?_
                refine yT.cg8 (pc' := 116) rfl rfl hT261 (K.up rfl) rfl rfl (fun _ => ?_)
                refine yT.iln (pc' := 117) g123 rfl rfl ?_
                refine yT.kI (pc' := 118) rfl rfl (by decide) (fun x265 e266 => ?_)
                refine yT.tbs (c) (pc' := 119) rfl rfl hT261 (K.up rfl) e1 (by omega) (b01 (by omega) (by omega)) (fun h267 hT268 => ?_)
                have hPF : PF σ (us σ264 67 (c) x265) := hPB.out p7 (by omega)
                exact yT.retV rfl rfl ⟨_, hT268, rfl, hPF⟩
          · refine yT.aan (pc' := 41) g122 rfl rfl rfl ?_
            refine yT.iln (pc' := 42) g123 rfl rfl ?_
            refine yT.kb (pc' := 44) rfl rfl (by decide) (fun x269 e270 => ?_)
            refine yT.iln (pc' := 45) g124 rfl rfl ?_
            refine yT.ad2 (pc' := 46) (Z := (k120 : Int) + 7) e270 e121 rfl rfl (by omega) (fun x271 e272 => ?_)
            refine kSI (yT.cc (G2 := 0) (pc' := 49) rfl rfl rfl hT203 (K.up rfl : xnth ks 60 = some (19, 0)) xM_166 (r166 (c := c) (w := k120 + 7) K hT203 e1 (by omega) (by omega)) rfl (by omega) (by decide) rfl) (fun h273 x276 hT274 E275 => ?_)
            obtain ⟨y278, hn279⟩ := (hPB.2.2.2.2.2.2.1 c p0).2.1 (k120) (by omega)
            have e277 : x276.toInt = (y278 : Int) := E275.trans hn279.1
            refine yT.p (pc' := 50) (lv' := xst1 _ 3 (.int x276)) rfl rfl (fun _ _ _ _ => rfl) ?_
            refine yT.aan (pc' := 51) (xg_ne g122 rfl) rfl rfl rfl ?_
            refine yT.iln (pc' := 52) xg_eq rfl rfl ?_
            refine yT.kI (pc' := 53) rfl rfl (by decide) (fun x280 e281 => ?_)
            refine kSI (yT.cc (G2 := 0) (pc' := 56) rfl rfl rfl hT274 (K.up rfl : xnth ks 60 = some (19, 0)) xM_166 (r166 (c := y278) (w := 0) K hT274 e277 (by omega) (by omega)) rfl (by omega) (by decide) rfl) (fun h282 x285 hT283 E284 => ?_)
            refine yT.kI (pc' := 57) rfl rfl (by decide) (fun x286 e287 => ?_)
            refine yT.if2 (t := 74) (pc' := 60) rfl rfl rfl (c2_ne E284 e287) (fun c288 => ?_) (fun c288 => ?_)
            · refine yT.inc2 (pc' := 77) (Z := (k120 : Int) + 1) (xg_ne g124 rfl) e121 rfl rfl rfl ⟨by decide, by omega⟩ (fun x289 e290 => ?_)
              refine yT.p (pc' := 19) rfl rfl (fun _ _ _ _ => rfl) ?_
              exact ih128 _ σ116 _ (k120 + 1) x289 hT283 (by omega) (xg_ne (xg_ne g122 rfl) rfl) (xg_ne (xg_ne g123 rfl) rfl) xg_eq hPB (by omega)
            · refine yT.aan (pc' := 61) (xg_ne g122 rfl) rfl rfl rfl ?_
              refine yT.cg8 (pc' := 64) rfl rfl hT283 (K.up rfl) rfl rfl (fun _ => ?_)
              refine yT.iln (pc' := 65) xg_eq rfl rfl ?_
              refine yT.tba (y278) (pc' := 66) rfl rfl hT283 (K.up rfl) e277 (by omega) (fun x291 z293 => ?_)
              have e292 : x291.toInt = (σ116 67 (y278)).toInt := congrArg Int32.toInt z293
              refine yT.if1 (t := 74) (pc' := 69) rfl rfl rfl (c1_ne e292) (fun c294 => ?_) (fun c294 => ?_)
              · refine yT.inc2 (pc' := 77) (Z := (k120 : Int) + 1) (xg_ne g124 rfl) e121 rfl rfl rfl ⟨by decide, by omega⟩ (fun x295 e296 => ?_)
                refine yT.p (pc' := 19) rfl rfl (fun _ _ _ _ => rfl) ?_
                exact ih128 _ σ116 _ (k120 + 1) x295 hT283 (by omega) (xg_ne (xg_ne g122 rfl) rfl) (xg_ne (xg_ne g123 rfl) rfl) xg_eq hPB (by omega)
              · refine yT.aan (pc' := 70) (xg_ne g122 rfl) rfl rfl rfl ?_
                refine yT.iln (pc' := 71) xg_eq rfl rfl ?_
                refine kRV (yT.cc (G2 := 0) (pc' := 74) rfl rfl rfl hT283 (K.up rfl : xnth ks 60 = some (19, 0)) xM_182 (Rf (y := y278) K hT283 e277 (by omega) (hPB.pw p2) (by omega) (show (σ116 67 _).toInt = 0 by omega)) rfl (by omega) (by decide) rfl) (fun h297 σ301 hT298 E299 => ?_)
                have hPB := hPB.tr E299
                refine yT.inc2 (pc' := 77) (Z := (k120 : Int) + 1) (xg_ne g124 rfl) e121 rfl rfl rfl ⟨by decide, by omega⟩ (fun x302 e303 => ?_)
                refine yT.p (pc' := 19) rfl rfl (fun _ _ _ _ => rfl) ?_
                exact ih128 _ σ301 _ (k120 + 1) x302 hT298 (by omega) (xg_ne (xg_ne g122 rfl) rfl) (xg_ne (xg_ne g123 rfl) rfl) xg_eq hPB (by omega)
    exact L114 _ _ (us σ 67 (c) x108) _ (0) x112 hT111 (by omega) (xg_ne g0 rfl) (xg_ne g1 rfl) xg_eq hPB (Nat.lt_succ_self _)
  · exact yT.retV rfl rfl ⟨_, hT104, rfl, (PF.rf p1)⟩
