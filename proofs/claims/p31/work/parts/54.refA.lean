-- rX9_runse
set_option maxRecDepth 100000 in
set_option maxHeartbeats 4000000 in
theorem r183e {ks : List cT} {B0 : Nat} (K : KE KS0 ks B0) {σ : sg} {ρ : Nat → xE} {h : List xE} (hT : HT ks σ ρ h) {c : Nat} {x1 : Int32} (e1 : x1.toInt = (c : Int)) {Fr s : Nat} {σb : sg} (Rf : WR ks ρ B0 (PW c σb) Fr) (hFr : 50 ≤ Fr) (p0 : c < 24) (p1 : RO σ) (p2 : fl σ 13 = 0) (p3 : nw σ (282 * c + 0) = 4) (p4 : nw σ (282 * c + 31) = (s : Int)) (p5 : s ≤ 250) (p6 : PK (lt σ c) 0 0 s) (p7 : PW c σb σ) (p8 : 0 ≤ nw σ 6795 ∧ nw σ 6795 ≤ 1000000000) (p9 : 0 ≤ nw σ 6856 ∧ gm σ ≤ 1000000) : yM 183 (Fr + (2 * s + 15)) 0 [.ref (60 + 1), .int x1] h (RQV ks ρ (fun σ' => EF 1 σ σ')) := by
  refine yM.st xM_183 rfl rfl (fun lv g => ?_)
  have g0 := g 0 _ rfl
  have g1 := g 1 _ rfl
  refine yT.aan (pc' := 1) g0 rfl rfl rfl ?_
  refine yT.iln (pc' := 2) g1 rfl rfl ?_
  refine yT.kb (pc' := 4) rfl rfl (by decide) (fun x101 e102 => ?_)
  refine yT.kI (pc' := 5) rfl rfl (by decide) (fun x103 e104 => ?_)
  refine kRV (yT.cc (G2 := 0) (pc' := 8) rfl rfl rfl hT (K.up rfl : xnth ks 60 = some (19, 0)) xM_167 (r167 (c := c) (w := 6) K hT e1 (by omega) x103 (by omega)) rfl (by omega) (by decide) rfl) (fun h105 σ109 hT106 E107 => ?_)
  have ee := E107
  have hEF : EF 0 σ σ109 := by rw [ee]; exact (EF.rf p1 p9.1 (by decide)).pf ((PF.rf p1).rm p0 (by omega))
  have hk := (hEF.2.2.2.1 (282 * c + 0) (by unfold me; omega)).trans p3
  have hgm := hEF.2.2.2.2.2.2
  refine yT.aan (pc' := 9) g0 rfl rfl rfl ?_
  refine yT.iln (pc' := 10) g1 rfl rfl ?_
  refine yT.kI (pc' := 11) rfl rfl (by decide) (fun x110 e111 => ?_)
  refine kSI (yT.cc (G2 := 0) (pc' := 14) rfl rfl rfl hT106 (K.up rfl : xnth ks 60 = some (19, 0)) xM_166 (r166 (c := c) (w := 0) K hT106 e1 (by omega) (by omega)) rfl (by omega) (by decide) rfl) (fun h112 x115 hT113 E114 => ?_)
  refine yT.kI (pc' := 15) rfl rfl (by decide) (fun x116 e117 => ?_)
  refine yT.if2 (t := 23) (pc' := 18) rfl rfl rfl (c2_ne E114 e117) (fun c118 => by omega) (fun c118 => ?_)
  refine yT.aan (pc' := 19) g0 rfl rfl rfl ?_
  refine yT.iln (pc' := 20) g1 rfl rfl ?_
  refine kRV (yT.cc (G2 := 0) (pc' := 23) rfl rfl rfl hT113 (K.up rfl : xnth ks 60 = some (19, 0)) xM_189 (r189 (c := c) K hT113 e1 (by omega) hEF.2.2.2.2.1 ⟨hgm.1, Int.le_trans hgm.2 p9.2⟩) rfl (by omega) (by decide) rfl) (fun h119 σ123 hT120 E121 => ?_)
  have hEF := hEF.df E121
  have h13 := (hEF.2.1 13 (by decide)).trans p2
  refine yT.aan (pc' := 24) g0 rfl rfl rfl ?_
  refine yT.cgX (pc' := 27) rfl rfl hT120 (K.up rfl) rfl rfl (fun x124 _ i125 j126 z127 => ?_)
  have e128 : x124.toInt = fl σ123 13 := congrArg Int32.toInt z127
  refine yT.p (pc' := 28) (lv' := xst1 _ 2 (.int x124)) rfl rfl (fun _ _ _ _ => rfl) ?_
  refine yT.aan (pc' := 29) (xg_ne g0 rfl) rfl rfl rfl ?_
  refine yT.kI (pc' := 30) rfl rfl (by decide) (fun x129 e130 => ?_)
  refine yT.cpX (c := x129) (pc' := 33) rfl rfl hT120 (K.up rfl) rfl rfl rfl e130 (by omega) rfl (fun h131 hT132 _ _ => ?_)
  have f133 : fl (us σ123 60 13 x129) 13 = 0 := fl_at.trans e130
  have hEF : EF 0 σ (us σ123 60 13 x129) := hEF.how h13 (by omega)
  have hJ0 := PF.rf hEF.2.2.2.2.1
  have hs := (hEF.2.2.2.1 (282 * c + 31) (by unfold me; omega)).trans p4
  have hl : lt (us σ123 60 13 x129) c = lt σ c := lt_cg (fun i h1 h2 => hEF.2.2.2.1 i (by unfold me; omega)) (by omega) (hEF.2.2.2.1 6768 (by unfold me; omega))
  have h13b := (hEF.2.1 13 (by decide)).trans p2
  refine yT.aan (pc' := 34) (xg_ne g0 rfl) rfl rfl rfl ?_
  refine yT.iln (pc' := 35) (xg_ne g1 rfl) rfl rfl ?_
  refine kRL (yT.cc (G2 := 0) (pc' := 38) rfl rfl rfl hT132 (K.up rfl : xnth ks 60 = some (19, 0)) xM_179 (r179w (c := c) K hT132 e1 Rf (by omega) h13b hs p5 (by rw [hl]; exact p6) hJ0 (p7.ef hEF)) rfl (by omega) (by decide) rfl) (fun h134 σ138 x137 hT135 E136 => ?_)
  have hEF := hEF.pf E136
  have h13 := (hEF.2.1 13 (by decide)).trans p2
  refine yT.p (pc' := 39) (lv' := xst2 _ 3 (.long x137)) rfl rfl (fun _ _ _ _ => rfl) ?_
  refine yT.aan (pc' := 40) (xg2_ne (xg_ne g0 rfl) rfl) rfl rfl rfl ?_
  refine yT.iln (pc' := 41) (xg2_ne xg_eq rfl) rfl rfl ?_
  refine yT.cpX (c := x124) (pc' := 44) rfl rfl hT135 (K.up rfl) rfl rfl rfl e128 (by omega) rfl (fun h139 hT140 _ _ => ?_)
  have f141 : fl (us σ138 60 13 x124) 13 = (fl σ123 13) := fl_at.trans e128
  have hEF : EF 0 σ (us σ138 60 13 x124) := hEF.how h13 (by omega)
  refine yT.aan (pc' := 45) (xg2_ne (xg_ne g0 rfl) rfl) rfl rfl rfl ?_
  refine yT.iln (pc' := 46) (xg2_ne (xg_ne g1 rfl) rfl) rfl rfl ?_
  refine yT.kI (pc' := 47) rfl rfl (by decide) (fun x142 e143 => ?_)
  refine yT.kI (pc' := 48) rfl rfl (by decide) (fun x144 e145 => ?_)
  refine kRV (yT.cc (G2 := 0) (pc' := 51) rfl rfl rfl hT140 (K.up rfl : xnth ks 60 = some (19, 0)) xM_167 (r167 (c := c) (w := 3) K hT140 e1 (by omega) x144 (by omega)) rfl (by omega) (by decide) rfl) (fun h146 σ150 hT147 E148 => ?_)
  have ee := E148
  have hEF : EF 0 σ σ150 := by rw [ee]; exact hEF.s3 p0 (by decide)
  refine yT.aan (pc' := 52) (xg2_ne (xg_ne g0 rfl) rfl) rfl rfl rfl ?_
  refine yT.iln (pc' := 53) (xg2_ne (xg_ne g1 rfl) rfl) rfl rfl ?_
  refine yT.kI (pc' := 54) rfl rfl (by decide) (fun x151 e152 => ?_)
  refine yT.aan (pc' := 55) (xg2_ne (xg_ne g0 rfl) rfl) rfl rfl rfl ?_
  refine yT.iln (pc' := 56) (xg2_ne (xg_ne g1 rfl) rfl) rfl rfl ?_
  refine yT.kI (pc' := 57) rfl rfl (by decide) (fun x153 e154 => ?_)
  refine kSI (yT.cc (G2 := 0) (pc' := 60) rfl rfl rfl hT147 (K.up rfl : xnth ks 60 = some (19, 0)) xM_166 (r166 (c := c) (w := 5) K hT147 e1 (by omega) (by omega)) rfl (by omega) (by decide) rfl) (fun h155 x158 hT156 E157 => ?_)
  refine yT.kI (pc' := 61) rfl rfl (by decide) (fun x159 e160 => ?_)
  refine yT.fi (pc' := 62) rfl rfl (fun _ _ _ _ => rfl) (fun x161 => ?_)
  refine kRV (yT.cc (G2 := 0) (pc' := 65) rfl rfl rfl hT156 (K.up rfl : xnth ks 60 = some (19, 0)) xM_167 (r167 (c := c) (w := 5) K hT156 e1 (by omega) x161 (by omega)) rfl (by omega) (by decide) rfl) (fun h162 σ166 hT163 E164 => ?_)
  have ee := E164
  have hEF : EF 0 σ σ166 := by rw [ee]; exact hEF.s3 p0 (by decide)
  have hk := (hEF.2.2.2.1 (282 * c + 0) (by unfold me; omega)).trans p3
  refine yT.aan (pc' := 66) (xg2_ne (xg_ne g0 rfl) rfl) rfl rfl rfl ?_
  refine yT.iln (pc' := 67) (xg2_ne (xg_ne g1 rfl) rfl) rfl rfl ?_
  refine yT.kI (pc' := 68) rfl rfl (by decide) (fun x167 e168 => ?_)
  refine kSI (yT.cc (G2 := 0) (pc' := 71) rfl rfl rfl hT163 (K.up rfl : xnth ks 60 = some (19, 0)) xM_166 (r166 (c := c) (w := 0) K hT163 e1 (by omega) (by omega)) rfl (by omega) (by decide) rfl) (fun h169 x172 hT170 E171 => ?_)
  refine yT.kI (pc' := 72) rfl rfl (by decide) (fun x173 e174 => ?_)
  refine yT.if2 (t := 81) (pc' := 75) rfl rfl rfl (c2_ne E171 e174) (fun c175 => by omega) (fun c175 => ?_)
  have hlg := hEF.2.2.2.2.2.1
  refine yT.aan (pc' := 76) (xg2_ne (xg_ne g0 rfl) rfl) rfl rfl rfl ?_
  refine yT.iln (pc' := 77) (xg2_ne (xg_ne g1 rfl) rfl) rfl rfl ?_
  refine yT.lln (pc' := 78) xg2_eq rfl rfl ?_
  refine kRV (yT.cc (G2 := 0) (pc' := 81) rfl rfl rfl hT170 (K.up rfl : xnth ks 60 = some (19, 0)) xM_184 (r184 (c := c) K hT170 e1 x137 (by omega) (by omega)) rfl (by omega) (by decide) rfl) (fun h176 σ180 hT177 E178 => ?_)
  have hEF : EF 1 σ σ180 := hEF.lg E178
  refine yT.lln (pc' := 82) xg2_eq rfl rfl ?_
  refine yT.aan (pc' := 83) (xg2_ne (xg_ne g0 rfl) rfl) rfl rfl rfl ?_
  refine yT.cg8 (pc' := 86) rfl rfl hT177 (K.up rfl) rfl rfl (fun _ => ?_)
  refine yT.iln (pc' := 87) (xg2_ne (xg_ne g1 rfl) rfl) rfl rfl ?_
  refine yT.cla (pc' := 88) rfl rfl hT177 (K.up rfl) e1 (by omega) (fun y181 => ?_)
  refine yT.cmp2 (pc' := 89) (U := x137.toInt) (V := y181.toInt) rfl rfl rfl rfl (fun x182 c183 => ?_)
  refine yT.if1 (t := 101) (pc' := 92) rfl rfl rfl (c1_ne rfl) (fun c184 => ?_) (fun c184 => ?_)
  · refine yT.aan (pc' := 102) (xg2_ne (xg_ne g0 rfl) rfl) rfl rfl rfl ?_
    refine yT.cg8 (pc' := 105) rfl rfl hT177 (K.up rfl) rfl rfl (fun _ => ?_)
    refine yT.iln (pc' := 106) (xg2_ne (xg_ne g1 rfl) rfl) rfl rfl ?_
    refine yT.lln (pc' := 107) xg2_eq rfl rfl ?_
    refine yT.cls (pc' := 108) rfl rfl hT177 (K.up rfl) e1 (by omega) (fun h185 hT186 _ => ?_)
    refine yT.aan (pc' := 109) (xg2_ne (xg_ne g0 rfl) rfl) rfl rfl rfl ?_
    refine yT.iln (pc' := 110) (xg2_ne (xg_ne g1 rfl) rfl) rfl rfl ?_
    refine yT.kI (pc' := 111) rfl rfl (by decide) (fun x187 e188 => ?_)
    refine yT.aan (pc' := 112) (xg2_ne (xg_ne g0 rfl) rfl) rfl rfl rfl ?_
    refine yT.iln (pc' := 113) (xg2_ne (xg_ne g1 rfl) rfl) rfl rfl ?_
    refine yT.kI (pc' := 114) rfl rfl (by decide) (fun x189 e190 => ?_)
    refine kSI (yT.cc (G2 := 0) (pc' := 117) rfl rfl rfl hT186 (K.up rfl : xnth ks 60 = some (19, 0)) xM_166 (r166 (c := c) (w := 4) K hT186 e1 (by omega) (by omega)) rfl (by omega) (by decide) rfl) (fun h191 x194 hT192 E193 => ?_)
    refine yT.kI (pc' := 118) rfl rfl (by decide) (fun x195 e196 => ?_)
    refine yT.fi (pc' := 119) rfl rfl (fun _ _ _ _ => rfl) (fun x197 => ?_)
    refine kRV (yT.cc (G2 := 0) (pc' := 122) rfl rfl rfl hT192 (K.up rfl : xnth ks 60 = some (19, 0)) xM_167 (r167 (c := c) (w := 4) K hT192 e1 (by omega) x197 (by omega)) rfl (by omega) (by decide) rfl) (fun h198 σ202 hT199 E200 => ?_)
    have ee := E200
    have hEF : EF 1 σ σ202 := by rw [ee]; exact hEF.s3 p0 (by decide)
    refine yT.kI (pc' := 123) rfl rfl (by decide) (fun x203 e204 => ?_)
    refine yT.p (pc' := 125) (lv' := xst1 _ 5 (.int x203)) rfl rfl (fun _ _ _ _ => rfl) ?_
    have L205 : ∀ (n217 : Nat) (lv206 : xLv) (σ207 : sg) (h208 : List xE) (r211 : Nat) (x210 : Int32), HT ks σ207 ρ h208 → x210.toInt = (r211 : Int) → xget lv206 0 = some (.ref (60 + 1)) → xget lv206 1 = some (.int x1) → xget lv206 5 = some (.int x210) → EF 1 σ σ207 → 24 - (r211) < n217 → yT 0 [] rX9_runs (Fr + (2 * s + 15)) 0 125 lv206 [] h208 (RQV ks ρ (fun σ' => EF 1 σ σ')) := by
      intro n217
      induction n217 with
      | zero => intro lv206 σ207 h208 r211 x210 hT209 e212 g213 g214 g215 i216 m218; exact absurd m218 (Nat.not_lt_zero _)
      | succ n217 ih219 =>
        intro lv206 σ207 h208 r211 x210 hT209 e212 g213 g214 g215 i216 m218
        have hEF := i216
        have hcm := hEF.2.2.2.2.1.1
        refine yT.il (pc' := 127) g215 rfl rfl ?_
        refine yT.aan (pc' := 128) g213 rfl rfl rfl ?_
        refine yT.cg8 (pc' := 131) rfl rfl hT209 (K.up rfl) rfl rfl (fun _ => ?_)
        refine yT.ks (pc' := 134) rfl rfl (by decide) (fun x220 e221 => ?_)
        refine yT.tia (6768) (pc' := 135) rfl rfl hT209 (K.up rfl) e221 (by omega) (fun x222 z224 => ?_)
        have e223 : x222.toInt = nw σ207 (6768) := congrArg Int32.toInt z224
        refine yT.if2 (t := 197) (pc' := 138) rfl rfl rfl (c2_ge e212 e223) (fun c225 => ?_) (fun c225 => ?_)
        · exact yT.retV rfl rfl ⟨_, hT209, rfl, hEF⟩
        · refine yT.aan (pc' := 139) g213 rfl rfl rfl ?_
          refine yT.il (pc' := 141) g215 rfl rfl ?_
          refine yT.kI (pc' := 142) rfl rfl (by decide) (fun x226 e227 => ?_)
          refine kSI (yT.cc (G2 := 0) (pc' := 145) rfl rfl rfl hT209 (K.up rfl : xnth ks 60 = some (19, 0)) xM_166 (r166 (c := r211) (w := 2) K hT209 e212 (by omega) (by omega)) rfl (by omega) (by decide) rfl) (fun h228 x231 hT229 E230 => ?_)
          refine yT.if1 (t := 191) (pc' := 148) rfl rfl rfl (c1_ne E230) (fun c232 => ?_) (fun c232 => ?_)
          · refine yT.inc2 (pc' := 194) (Z := (r211 : Int) + 1) g215 e212 rfl rfl rfl ⟨by decide, by omega⟩ (fun x233 e234 => ?_)
            refine yT.p (pc' := 125) rfl rfl (fun _ _ _ _ => rfl) ?_
            exact ih219 _ σ207 _ (r211 + 1) x233 hT229 (by omega) (xg_ne g213 rfl) (xg_ne g214 rfl) xg_eq hEF (by omega)
          · refine yT.aan (pc' := 149) g213 rfl rfl rfl ?_
            refine yT.il (pc' := 151) g215 rfl rfl ?_
            refine yT.iln (pc' := 152) g214 rfl rfl ?_
            refine kSI (yT.cc (G2 := 0) (pc' := 155) rfl rfl rfl hT229 (K.up rfl : xnth ks 60 = some (19, 0)) xM_180 (r180 (x := r211) K hT229 e212 x1 (by omega) (hEF.2.2.2.2.1.rd _ (by omega))) rfl (by omega) (by decide) rfl) (fun h235 x238 hT236 E237 => ?_)
            refine yT.if1 (t := 191) (pc' := 158) rfl rfl rfl (c1_eq rfl) (fun c239 => ?_) (fun c239 => ?_)
            · refine yT.inc2 (pc' := 194) (Z := (r211 : Int) + 1) g215 e212 rfl rfl rfl ⟨by decide, by omega⟩ (fun x240 e241 => ?_)
              refine yT.p (pc' := 125) rfl rfl (fun _ _ _ _ => rfl) ?_
              exact ih219 _ σ207 _ (r211 + 1) x240 hT236 (by omega) (xg_ne g213 rfl) (xg_ne g214 rfl) xg_eq hEF (by omega)
            · refine yT.aan (pc' := 159) g213 rfl rfl rfl ?_
              refine yT.il (pc' := 161) g215 rfl rfl ?_
              refine yT.kI (pc' := 162) rfl rfl (by decide) (fun x242 e243 => ?_)
              refine kSI (yT.cc (G2 := 0) (pc' := 165) rfl rfl rfl hT236 (K.up rfl : xnth ks 60 = some (19, 0)) xM_166 (r166 (c := r211) (w := 3) K hT236 e212 (by omega) (by omega)) rfl (by omega) (by decide) rfl) (fun h244 x247 hT245 E246 => ?_)
              refine yT.if1 (t := 172) (pc' := 168) rfl rfl rfl (c1_ne E246) (fun c248 => ?_) (fun c248 => ?_)
              · refine yT.kI (pc' := 173) rfl rfl (by decide) (fun x249 e250 => ?_)
                refine yT.p (pc' := 175) (lv' := xst1 _ 6 (.int x249)) rfl rfl (fun _ _ _ _ => rfl) ?_
                refine yT.aan (pc' := 176) (xg_ne g213 rfl) rfl rfl rfl ?_
                refine yT.il (pc' := 178) (xg_ne g215 rfl) rfl rfl ?_
                refine yT.kI (pc' := 179) rfl rfl (by decide) (fun x251 e252 => ?_)
                refine yT.kI (pc' := 180) rfl rfl (by decide) (fun x253 e254 => ?_)
                refine kRV (yT.cc (G2 := 0) (pc' := 183) rfl rfl rfl hT245 (K.up rfl : xnth ks 60 = some (19, 0)) xM_167 (r167 (c := r211) (w := 3) K hT245 e212 (by omega) x253 (by omega)) rfl (by omega) (by decide) rfl) (fun h255 σ259 hT256 E257 => ?_)
                have ee := E257
                have hEF : EF 1 σ σ259 := by rw [ee]; exact hEF.s3 (by omega) (by decide)
                refine yT.aan (pc' := 184) (xg_ne g213 rfl) rfl rfl rfl ?_
                refine yT.il (pc' := 186) (xg_ne g215 rfl) rfl rfl ?_
                refine yT.il (pc' := 188) xg_eq rfl rfl ?_
                refine kRV (yT.cc (G2 := 0) (pc' := 191) rfl rfl rfl hT256 (K.up rfl : xnth ks 60 = some (19, 0)) xM_185 (r185 (c := r211) K hT256 e212 (by omega) (by omega) hEF.2.2.2.2.1.2.1) rfl (by omega) (by decide) rfl) (fun h260 σ264 hT261 E262 => ?_)
                have hEF := hEF.qs E262
                refine yT.inc2 (pc' := 194) (Z := (r211 : Int) + 1) (xg_ne g215 rfl) e212 rfl rfl rfl ⟨by decide, by omega⟩ (fun x265 e266 => ?_)
                refine yT.p (pc' := 125) rfl rfl (fun _ _ _ _ => rfl) ?_
                exact ih219 _ σ264 _ (r211 + 1) x265 hT261 (by omega) (xg_ne (xg_ne g213 rfl) rfl) (xg_ne (xg_ne g214 rfl) rfl) xg_eq hEF (by omega)
              · refine yT.kI (pc' := 169) rfl rfl (by decide) (fun x267 e268 => ?_)
                refine yT.p (pc' := 173) rfl rfl (fun _ _ _ _ => rfl) ?_
                refine yT.p (pc' := 175) (lv' := xst1 _ 6 (.int x267)) rfl rfl (fun _ _ _ _ => rfl) ?_
                refine yT.aan (pc' := 176) (xg_ne g213 rfl) rfl rfl rfl ?_
                refine yT.il (pc' := 178) (xg_ne g215 rfl) rfl rfl ?_
                refine yT.kI (pc' := 179) rfl rfl (by decide) (fun x269 e270 => ?_)
                refine yT.kI (pc' := 180) rfl rfl (by decide) (fun x271 e272 => ?_)
                refine kRV (yT.cc (G2 := 0) (pc' := 183) rfl rfl rfl hT245 (K.up rfl : xnth ks 60 = some (19, 0)) xM_167 (r167 (c := r211) (w := 3) K hT245 e212 (by omega) x271 (by omega)) rfl (by omega) (by decide) rfl) (fun h273 σ277 hT274 E275 => ?_)
                have ee := E275
                have hEF : EF 1 σ σ277 := by rw [ee]; exact hEF.s3 (by omega) (by decide)
                refine yT.aan (pc' := 184) (xg_ne g213 rfl) rfl rfl rfl ?_
                refine yT.il (pc' := 186) (xg_ne g215 rfl) rfl rfl ?_
                refine yT.il (pc' := 188) xg_eq rfl rfl ?_
                refine kRV (yT.cc (G2 := 0) (pc' := 191) rfl rfl rfl hT274 (K.up rfl : xnth ks 60 = some (19, 0)) xM_185 (r185 (c := r211) K hT274 e212 (by omega) (by omega) hEF.2.2.2.2.1.2.1) rfl (by omega) (by decide) rfl) (fun h278 σ282 hT279 E280 => ?_)
                have hEF := hEF.qs E280
                refine yT.inc2 (pc' := 194) (Z := (r211 : Int) + 1) (xg_ne g215 rfl) e212 rfl rfl rfl ⟨by decide, by omega⟩ (fun x283 e284 => ?_)
                refine yT.p (pc' := 125) rfl rfl (fun _ _ _ _ => rfl) ?_
                exact ih219 _ σ282 _ (r211 + 1) x283 hT279 (by omega) (xg_ne (xg_ne g213 rfl) rfl) (xg_ne (xg_ne g214 rfl) rfl) xg_eq hEF (by omega)
    exact L205 _ _ σ202 _ (0) x203 hT199 (by omega) (xg_ne (xg2_ne (xg_ne g0 rfl) rfl) rfl) (xg_ne (xg2_ne (xg_ne g1 rfl) rfl) rfl) xg_eq hEF (Nat.lt_succ_self _)
  · refine yT.aan (pc' := 93) (xg2_ne (xg_ne g0 rfl) rfl) rfl rfl rfl ?_
    refine yT.iln (pc' := 94) (xg2_ne (xg_ne g1 rfl) rfl) rfl rfl ?_
    refine yT.kI (pc' := 95) rfl rfl (by decide) (fun x285 e286 => ?_)
    refine kSI (yT.cc (G2 := 0) (pc' := 98) rfl rfl rfl hT177 (K.up rfl : xnth ks 60 = some (19, 0)) xM_166 (r166 (c := c) (w := 4) K hT177 e1 (by omega) (by omega)) rfl (by omega) (by decide) rfl) (fun h287 x290 hT288 E289 => ?_)
    refine yT.if1 (t := 197) (pc' := 101) rfl rfl rfl (c1_ne E289) (fun c291 => ?_) (fun c291 => ?_)
    · exact yT.retV rfl rfl ⟨_, hT288, rfl, hEF⟩
    · refine yT.aan (pc' := 102) (xg2_ne (xg_ne g0 rfl) rfl) rfl rfl rfl ?_
      refine yT.cg8 (pc' := 105) rfl rfl hT288 (K.up rfl) rfl rfl (fun _ => ?_)
      refine yT.iln (pc' := 106) (xg2_ne (xg_ne g1 rfl) rfl) rfl rfl ?_
      refine yT.lln (pc' := 107) xg2_eq rfl rfl ?_
      refine yT.cls (pc' := 108) rfl rfl hT288 (K.up rfl) e1 (by omega) (fun h292 hT293 _ => ?_)
      refine yT.aan (pc' := 109) (xg2_ne (xg_ne g0 rfl) rfl) rfl rfl rfl ?_
      refine yT.iln (pc' := 110) (xg2_ne (xg_ne g1 rfl) rfl) rfl rfl ?_
      refine yT.kI (pc' := 111) rfl rfl (by decide) (fun x294 e295 => ?_)
      refine yT.aan (pc' := 112) (xg2_ne (xg_ne g0 rfl) rfl) rfl rfl rfl ?_
      refine yT.iln (pc' := 113) (xg2_ne (xg_ne g1 rfl) rfl) rfl rfl ?_
      refine yT.kI (pc' := 114) rfl rfl (by decide) (fun x296 e297 => ?_)
      refine kSI (yT.cc (G2 := 0) (pc' := 117) rfl rfl rfl hT293 (K.up rfl : xnth ks 60 = some (19, 0)) xM_166 (r166 (c := c) (w := 4) K hT293 e1 (by omega) (by omega)) rfl (by omega) (by decide) rfl) (fun h298 x301 hT299 E300 => ?_)
      refine yT.kI (pc' := 118) rfl rfl (by decide) (fun x302 e303 => ?_)
      refine yT.fi (pc' := 119) rfl rfl (fun _ _ _ _ => rfl) (fun x304 => ?_)
      refine kRV (yT.cc (G2 := 0) (pc' := 122) rfl rfl rfl hT299 (K.up rfl : xnth ks 60 = some (19, 0)) xM_167 (r167 (c := c) (w := 4) K hT299 e1 (by omega) x304 (by omega)) rfl (by omega) (by decide) rfl) (fun h305 σ309 hT306 E307 => ?_)
      have ee := E307
      have hEF : EF 1 σ σ309 := by rw [ee]; exact hEF.s3 p0 (by decide)
      refine yT.kI (pc' := 123) rfl rfl (by decide) (fun x310 e311 => ?_)
      refine yT.p (pc' := 125) (lv' := xst1 _ 5 (.int x310)) rfl rfl (fun _ _ _ _ => rfl) ?_
      have L312 : ∀ (n324 : Nat) (lv313 : xLv) (σ314 : sg) (h315 : List xE) (r318 : Nat) (x317 : Int32), HT ks σ314 ρ h315 → x317.toInt = (r318 : Int) → xget lv313 0 = some (.ref (60 + 1)) → xget lv313 1 = some (.int x1) → xget lv313 5 = some (.int x317) → EF 1 σ σ314 → 24 - (r318) < n324 → yT 0 [] rX9_runs (Fr + (2 * s + 15)) 0 125 lv313 [] h315 (RQV ks ρ (fun σ' => EF 1 σ σ')) := by
        intro n324
        induction n324 with
        | zero => intro lv313 σ314 h315 r318 x317 hT316 e319 g320 g321 g322 i323 m325; exact absurd m325 (Nat.not_lt_zero _)
        | succ n324 ih326 =>
          intro lv313 σ314 h315 r318 x317 hT316 e319 g320 g321 g322 i323 m325
          have hEF := i323
          have hcm := hEF.2.2.2.2.1.1
          refine yT.il (pc' := 127) g322 rfl rfl ?_
          refine yT.aan (pc' := 128) g320 rfl rfl rfl ?_
          refine yT.cg8 (pc' := 131) rfl rfl hT316 (K.up rfl) rfl rfl (fun _ => ?_)
          refine yT.ks (pc' := 134) rfl rfl (by decide) (fun x327 e328 => ?_)
          refine yT.tia (6768) (pc' := 135) rfl rfl hT316 (K.up rfl) e328 (by omega) (fun x329 z331 => ?_)
          have e330 : x329.toInt = nw σ314 (6768) := congrArg Int32.toInt z331
          refine yT.if2 (t := 197) (pc' := 138) rfl rfl rfl (c2_ge e319 e330) (fun c332 => ?_) (fun c332 => ?_)
          · exact yT.retV rfl rfl ⟨_, hT316, rfl, hEF⟩
          · refine yT.aan (pc' := 139) g320 rfl rfl rfl ?_
            refine yT.il (pc' := 141) g322 rfl rfl ?_
            refine yT.kI (pc' := 142) rfl rfl (by decide) (fun x333 e334 => ?_)
            refine kSI (yT.cc (G2 := 0) (pc' := 145) rfl rfl rfl hT316 (K.up rfl : xnth ks 60 = some (19, 0)) xM_166 (r166 (c := r318) (w := 2) K hT316 e319 (by omega) (by omega)) rfl (by omega) (by decide) rfl) (fun h335 x338 hT336 E337 => ?_)
            refine yT.if1 (t := 191) (pc' := 148) rfl rfl rfl (c1_ne E337) (fun c339 => ?_) (fun c339 => ?_)
            · refine yT.inc2 (pc' := 194) (Z := (r318 : Int) + 1) g322 e319 rfl rfl rfl ⟨by decide, by omega⟩ (fun x340 e341 => ?_)
              refine yT.p (pc' := 125) rfl rfl (fun _ _ _ _ => rfl) ?_
              exact ih326 _ σ314 _ (r318 + 1) x340 hT336 (by omega) (xg_ne g320 rfl) (xg_ne g321 rfl) xg_eq hEF (by omega)
            · refine yT.aan (pc' := 149) g320 rfl rfl rfl ?_
              refine yT.il (pc' := 151) g322 rfl rfl ?_
              refine yT.iln (pc' := 152) g321 rfl rfl ?_
              refine kSI (yT.cc (G2 := 0) (pc' := 155) rfl rfl rfl hT336 (K.up rfl : xnth ks 60 = some (19, 0)) xM_180 (r180 (x := r318) K hT336 e319 x1 (by omega) (hEF.2.2.2.2.1.rd _ (by omega))) rfl (by omega) (by decide) rfl) (fun h342 x345 hT343 E344 => ?_)
              refine yT.if1 (t := 191) (pc' := 158) rfl rfl rfl (c1_eq rfl) (fun c346 => ?_) (fun c346 => ?_)
              · refine yT.inc2 (pc' := 194) (Z := (r318 : Int) + 1) g322 e319 rfl rfl rfl ⟨by decide, by omega⟩ (fun x347 e348 => ?_)
                refine yT.p (pc' := 125) rfl rfl (fun _ _ _ _ => rfl) ?_
                exact ih326 _ σ314 _ (r318 + 1) x347 hT343 (by omega) (xg_ne g320 rfl) (xg_ne g321 rfl) xg_eq hEF (by omega)
              · refine yT.aan (pc' := 159) g320 rfl rfl rfl ?_
                refine yT.il (pc' := 161) g322 rfl rfl ?_
                refine yT.kI (pc' := 162) rfl rfl (by decide) (fun x349 e350 => ?_)
                refine kSI (yT.cc (G2 := 0) (pc' := 165) rfl rfl rfl hT343 (K.up rfl : xnth ks 60 = some (19, 0)) xM_166 (r166 (c := r318) (w := 3) K hT343 e319 (by omega) (by omega)) rfl (by omega) (by decide) rfl) (fun h351 x354 hT352 E353 => ?_)
                refine yT.if1 (t := 172) (pc' := 168) rfl rfl rfl (c1_ne E353) (fun c355 => ?_) (fun c355 => ?_)
                · refine yT.kI (pc' := 173) rfl rfl (by decide) (fun x356 e357 => ?_)
                  refine yT.p (pc' := 175) (lv' := xst1 _ 6 (.int x356)) rfl rfl (fun _ _ _ _ => rfl) ?_
                  refine yT.aan (pc' := 176) (xg_ne g320 rfl) rfl rfl rfl ?_
                  refine yT.il (pc' := 178) (xg_ne g322 rfl) rfl rfl ?_
                  refine yT.kI (pc' := 179) rfl rfl (by decide) (fun x358 e359 => ?_)
                  refine yT.kI (pc' := 180) rfl rfl (by decide) (fun x360 e361 => ?_)
                  refine kRV (yT.cc (G2 := 0) (pc' := 183) rfl rfl rfl hT352 (K.up rfl : xnth ks 60 = some (19, 0)) xM_167 (r167 (c := r318) (w := 3) K hT352 e319 (by omega) x360 (by omega)) rfl (by omega) (by decide) rfl) (fun h362 σ366 hT363 E364 => ?_)
                  have ee := E364
                  have hEF : EF 1 σ σ366 := by rw [ee]; exact hEF.s3 (by omega) (by decide)
                  refine yT.aan (pc' := 184) (xg_ne g320 rfl) rfl rfl rfl ?_
                  refine yT.il (pc' := 186) (xg_ne g322 rfl) rfl rfl ?_
                  refine yT.il (pc' := 188) xg_eq rfl rfl ?_
                  refine kRV (yT.cc (G2 := 0) (pc' := 191) rfl rfl rfl hT363 (K.up rfl : xnth ks 60 = some (19, 0)) xM_185 (r185 (c := r318) K hT363 e319 (by omega) (by omega) hEF.2.2.2.2.1.2.1) rfl (by omega) (by decide) rfl) (fun h367 σ371 hT368 E369 => ?_)
                  have hEF := hEF.qs E369
                  refine yT.inc2 (pc' := 194) (Z := (r318 : Int) + 1) (xg_ne g322 rfl) e319 rfl rfl rfl ⟨by decide, by omega⟩ (fun x372 e373 => ?_)
                  refine yT.p (pc' := 125) rfl rfl (fun _ _ _ _ => rfl) ?_
                  exact ih326 _ σ371 _ (r318 + 1) x372 hT368 (by omega) (xg_ne (xg_ne g320 rfl) rfl) (xg_ne (xg_ne g321 rfl) rfl) xg_eq hEF (by omega)
                · refine yT.kI (pc' := 169) rfl rfl (by decide) (fun x374 e375 => ?_)
                  refine yT.p (pc' := 173) rfl rfl (fun _ _ _ _ => rfl) ?_
                  refine yT.p (pc' := 175) (lv' := xst1 _ 6 (.int x374)) rfl rfl (fun _ _ _ _ => rfl) ?_
                  refine yT.aan (pc' := 176) (xg_ne g320 rfl) rfl rfl rfl ?_
                  refine yT.il (pc' := 178) (xg_ne g322 rfl) rfl rfl ?_
                  refine yT.kI (pc' := 179) rfl rfl (by decide) (fun x376 e377 => ?_)
                  refine yT.kI (pc' := 180) rfl rfl (by decide) (fun x378 e379 => ?_)
                  refine kRV (yT.cc (G2 := 0) (pc' := 183) rfl rfl rfl hT352 (K.up rfl : xnth ks 60 = some (19, 0)) xM_167 (r167 (c := r318) (w := 3) K hT352 e319 (by omega) x378 (by omega)) rfl (by omega) (by decide) rfl) (fun h380 σ384 hT381 E382 => ?_)
                  have ee := E382
                  have hEF : EF 1 σ σ384 := by rw [ee]; exact hEF.s3 (by omega) (by decide)
                  refine yT.aan (pc' := 184) (xg_ne g320 rfl) rfl rfl rfl ?_
                  refine yT.il (pc' := 186) (xg_ne g322 rfl) rfl rfl ?_
                  refine yT.il (pc' := 188) xg_eq rfl rfl ?_
                  refine kRV (yT.cc (G2 := 0) (pc' := 191) rfl rfl rfl hT381 (K.up rfl : xnth ks 60 = some (19, 0)) xM_185 (r185 (c := r318) K hT381 e319 (by omega) (by omega) hEF.2.2.2.2.1.2.1) rfl (by omega) (by decide) rfl) (fun h385 σ389 hT386 E387 => ?_)
                  have hEF := hEF.qs E387
                  refine yT.inc2 (pc' := 194) (Z := (r318 : Int) + 1) (xg_ne g322 rfl) e319 rfl rfl rfl ⟨by decide, by omega⟩ (fun x390 e391 => ?_)
                  refine yT.p (pc' := 125) rfl rfl (fun _ _ _ _ => rfl) ?_
                  exact ih326 _ σ389 _ (r318 + 1) x390 hT386 (by omega) (xg_ne (xg_ne g320 rfl) rfl) (xg_ne (xg_ne g321 rfl) rfl) xg_eq hEF (by omega)
      exact L312 _ _ σ309 _ (0) x310 hT306 (by omega) (xg_ne (xg2_ne (xg_ne g0 rfl) rfl) rfl) (xg_ne (xg2_ne (xg_ne g1 rfl) rfl) rfl) xg_eq hEF (Nat.lt_succ_self _)
-- rX9_refreshese
set_option maxRecDepth 100000 in
set_option maxHeartbeats 4000000 in
theorem r182e {ks : List cT} {B0 : Nat} (K : KE KS0 ks B0) {σ : sg} {ρ : Nat → xE} {h : List xE} (hT : HT ks σ ρ h) {c : Nat} {x1 : Int32} (e1 : x1.toInt = (c : Int)) {Fr s : Nat} (Rf : WR ks ρ B0 (PW c σ) Fr) (hFr : 50 ≤ Fr) (p0 : c < 24) (p1 : RO σ) (p2 : fl σ 13 = 0) (p3 : nw σ (282 * c + 0) = 4) (p4 : nw σ (282 * c + 31) = (s : Int)) (p5 : s ≤ 250) (p6 : PK (lt σ c) 0 0 s) (p7 : bz σ c = 0) (p8 : 0 ≤ nw σ 6795 ∧ nw σ 6795 ≤ 1000000000) (p9 : 0 ≤ nw σ 6856 ∧ gm σ ≤ 1000000) : yM 182 (Fr + (2 * s + 16)) 0 [.ref (60 + 1), .int x1] h (RQV ks ρ (fun σ' => EF 1 σ σ')) := by
  refine yM.st xM_182 rfl rfl (fun lv g => ?_)
  have g0 := g 0 _ rfl
  have g1 := g 1 _ rfl
  refine yT.aan (pc' := 1) g0 rfl rfl rfl ?_
  refine yT.iln (pc' := 2) g1 rfl rfl ?_
  refine yT.kI (pc' := 3) rfl rfl (by decide) (fun x101 e102 => ?_)
  refine kSI (yT.cc (G2 := 0) (pc' := 6) rfl rfl rfl hT (K.up rfl : xnth ks 60 = some (19, 0)) xM_166 (r166 (c := c) (w := 3) K hT e1 (by omega) (by omega)) rfl (by omega) (by decide) rfl) (fun h103 x106 hT104 E105 => ?_)
  refine yT.if1 (t := 10) (pc' := 9) rfl rfl rfl (c1_ne E105) (fun c107 => ?_) (fun c107 => ?_)
  · refine yT.aan (pc' := 11) g0 rfl rfl rfl ?_
    refine yT.cg8 (pc' := 14) rfl rfl hT104 (K.up rfl) rfl rfl (fun _ => ?_)
    refine yT.iln (pc' := 15) g1 rfl rfl ?_
    refine yT.kI (pc' := 16) rfl rfl (by decide) (fun x108 e109 => ?_)
    refine yT.tbs (c) (pc' := 17) rfl rfl hT104 (K.up rfl) e1 (by omega) (b01 (by omega) (by omega)) (fun h110 hT111 => ?_)
    have hPB : BF c σ (us σ 67 (c) x108) := BF.in p1 (by omega)
    refine yT.kI (pc' := 18) rfl rfl (by decide) (fun x112 e113 => ?_)
    refine yT.p (pc' := 19) (lv' := xst1 _ 2 (.int x112)) rfl rfl (fun _ _ _ _ => rfl) ?_
    have L114 : ∀ (n126 : Nat) (lv115 : xLv) (σ116 : sg) (h117 : List xE) (k120 : Nat) (x119 : Int32), HT ks σ116 ρ h117 → x119.toInt = (k120 : Int) → xget lv115 0 = some (.ref (60 + 1)) → xget lv115 1 = some (.int x1) → xget lv115 2 = some (.int x119) → BF c σ σ116 → 24 - (k120) < n126 → yT 0 [] rX9_refreshes (Fr + (2 * s + 16)) 0 19 lv115 [] h117 (RQV ks ρ (fun σ' => EF 1 σ σ')) := by
      intro n126
      induction n126 with
      | zero => intro lv115 σ116 h117 k120 x119 hT118 e121 g122 g123 g124 i125 m127; exact absurd m127 (Nat.not_lt_zero _)
      | succ n126 ih128 =>
        intro lv115 σ116 h117 k120 x119 hT118 e121 g122 g123 g124 i125 m127
        have hPB := i125
        have hrd := hPB.2.2.2.2.rd c p0
        refine yT.aan (pc' := 20) g122 rfl rfl rfl ?_
        refine yT.iln (pc' := 21) g123 rfl rfl ?_
        refine yT.kI (pc' := 22) rfl rfl (by decide) (fun x129 e130 => ?_)
        refine kSI (yT.cc (G2 := 0) (pc' := 25) rfl rfl rfl hT118 (K.up rfl : xnth ks 60 = some (19, 0)) xM_166 (r166 (c := c) (w := 3) K hT118 e1 (by omega) (by omega)) rfl (by omega) (by decide) rfl) (fun h131 x134 hT132 E133 => ?_)
        refine yT.kI (pc' := 26) rfl rfl (by decide) (fun x135 e136 => ?_)
        refine yT.if2 (t := 80) (pc' := 29) rfl rfl rfl (c2_ne E133 e136) (fun c137 => ?_) (fun c137 => ?_)
        · refine yT.aan (pc' := 81) g122 rfl rfl rfl ?_
          refine yT.iln (pc' := 82) g123 rfl rfl ?_
          refine yT.kI (pc' := 83) rfl rfl (by decide) (fun x138 e139 => ?_)
          refine kSI (yT.cc (G2 := 0) (pc' := 86) rfl rfl rfl hT132 (K.up rfl : xnth ks 60 = some (19, 0)) xM_166 (r166 (c := c) (w := 3) K hT132 e1 (by omega) (by omega)) rfl (by omega) (by decide) rfl) (fun h140 x143 hT141 E142 => ?_)
          refine yT.kI (pc' := 87) rfl rfl (by decide) (fun x144 e145 => ?_)
          refine yT.if2 (t := 97) (pc' := 90) rfl rfl rfl (c2_ne E142 e145) (fun c146 => ?_) (fun c146 => ?_)
          · have hg := hPB.2.2.2.1 6856 (by unfold mf; omega)
            have hlg := hPB.2.2.2.1 6795 (by unfold mf; omega)
            have hgm := hPB.gme
            have hEF : EF 1 σ116 σ116 := EF.rf hPB.2.2.2.2 (by omega) (by decide)
            refine yT.aan (pc' := 98) g122 rfl rfl rfl ?_
            refine yT.iln (pc' := 99) g123 rfl rfl ?_
            refine yT.kI (pc' := 100) rfl rfl (by decide) (fun x147 e148 => ?_)
            refine kSI (yT.cc (G2 := 0) (pc' := 103) rfl rfl rfl hT141 (K.up rfl : xnth ks 60 = some (19, 0)) xM_166 (r166 (c := c) (w := 3) K hT141 e1 (by omega) (by omega)) rfl (by omega) (by decide) rfl) (fun h149 x152 hT150 E151 => ?_)
            refine yT.kI (pc' := 104) rfl rfl (by decide) (fun x153 e154 => ?_)
            refine yT.if2 (t := 112) (pc' := 107) rfl rfl rfl (c2_ne E151 e154) (fun c155 => ?_) (fun c155 => ?_)
            · refine yT.aan (pc' := 113) g122 rfl rfl rfl ?_
              refine yT.cg8 (pc' := 116) rfl rfl hT150 (K.up rfl) rfl rfl (fun _ => ?_)
              refine yT.iln (pc' := 117) g123 rfl rfl ?_
              refine yT.kI (pc' := 118) rfl rfl (by decide) (fun x156 e157 => ?_)
              refine yT.tbs (c) (pc' := 119) rfl rfl hT150 (K.up rfl) e1 (by omega) (b01 (by omega) (by omega)) (fun h158 hT159 => ?_)
              have hEF : EF 1 σ (us σ116 67 (c) x156) := hPB.eout hEF p7 (by omega)
              exact yT.retV rfl rfl ⟨_, hT159, rfl, hEF⟩
            · have hn := hPB.2.2.2.1 (282 * c + 0) (by unfold mf; omega)
              have hs := hPB.2.2.2.1 (282 * c + 31) (by unfold mf; omega)
              have hl : lt σ116 c = lt σ c := lt_cg (fun i h1 h2 => hPB.2.2.2.1 i (by unfold mf; omega)) (by omega) (hPB.2.2.2.1 6768 (by unfold mf; omega))
              have h13 := (hPB.2.1 13 (by decide)).trans p2
              refine yT.aan (pc' := 108) g122 rfl rfl rfl ?_
              refine yT.iln (pc' := 109) g123 rfl rfl ?_
              refine kRV (yT.cc (G2 := 0) (pc' := 112) rfl rfl rfl hT150 (K.up rfl : xnth ks 60 = some (19, 0)) xM_183 (r183e (c := c) K hT150 e1 Rf hFr (by omega) hPB.2.2.2.2 h13 (by omega) (hs.trans p4) p5 (by rw [hl]; exact p6) (hPB.pw p2) (by omega) (by omega)) rfl (by omega) (by decide) rfl) (fun h160 σ164 hT161 E162 => ?_)
              have hEF := E162
              refine yT.aan (pc' := 113) g122 rfl rfl rfl ?_
              refine yT.cg8 (pc' := 116) rfl rfl hT161 (K.up rfl) rfl rfl (fun _ => ?_)
              refine yT.iln (pc' := 117) g123 rfl rfl ?_
              refine yT.kI (pc' := 118) rfl rfl (by decide) (fun x165 e166 => ?_)
              refine yT.tbs (c) (pc' := 119) rfl rfl hT161 (K.up rfl) e1 (by omega) (b01 (by omega) (by omega)) (fun h167 hT168 => ?_)
              have hEF : EF 1 σ (us σ164 67 (c) x165) := hPB.eout hEF p7 (by omega)
              exact yT.retV rfl rfl ⟨_, hT168, rfl, hEF⟩
          · refine yT.aan (pc' := 91) g122 rfl rfl rfl ?_
            refine yT.iln (pc' := 92) g123 rfl rfl ?_
            refine yT.kI (pc' := 93) rfl rfl (by decide) (fun x169 e170 => ?_)
            refine yT.kI (pc' := 94) rfl rfl (by decide) (fun x171 e172 => ?_)
            refine kRV (yT.cc (G2 := 0) (pc' := 97) rfl rfl rfl hT141 (K.up rfl : xnth ks 60 = some (19, 0)) xM_167 (r167 (c := c) (w := 3) K hT141 e1 (by omega) x171 (by omega)) rfl (by omega) (by decide) rfl) (fun h173 σ177 hT174 E175 => ?_)
            have ee := E175
            have hPB : BF c σ σ177 := by rw [ee]; exact hPB.tr ((PF.rf hPB.2.2.2.2).s3 p0 (by decide))
            have hg := hPB.2.2.2.1 6856 (by unfold mf; omega)
            have hlg := hPB.2.2.2.1 6795 (by unfold mf; omega)
            have hgm := hPB.gme
            have hEF : EF 1 σ177 σ177 := EF.rf hPB.2.2.2.2 (by omega) (by decide)
            refine yT.aan (pc' := 98) g122 rfl rfl rfl ?_
            refine yT.iln (pc' := 99) g123 rfl rfl ?_
            refine yT.kI (pc' := 100) rfl rfl (by decide) (fun x178 e179 => ?_)
            refine kSI (yT.cc (G2 := 0) (pc' := 103) rfl rfl rfl hT174 (K.up rfl : xnth ks 60 = some (19, 0)) xM_166 (r166 (c := c) (w := 3) K hT174 e1 (by omega) (by omega)) rfl (by omega) (by decide) rfl) (fun h180 x183 hT181 E182 => ?_)
            refine yT.kI (pc' := 104) rfl rfl (by decide) (fun x184 e185 => ?_)
            refine yT.if2 (t := 112) (pc' := 107) rfl rfl rfl (c2_ne E182 e185) (fun c186 => ?_) (fun c186 => ?_)
            · refine yT.aan (pc' := 113) g122 rfl rfl rfl ?_
              refine yT.cg8 (pc' := 116) rfl rfl hT181 (K.up rfl) rfl rfl (fun _ => ?_)
              refine yT.iln (pc' := 117) g123 rfl rfl ?_
              refine yT.kI (pc' := 118) rfl rfl (by decide) (fun x187 e188 => ?_)
              refine yT.tbs (c) (pc' := 119) rfl rfl hT181 (K.up rfl) e1 (by omega) (b01 (by omega) (by omega)) (fun h189 hT190 => ?_)
              have hEF : EF 1 σ (us σ177 67 (c) x187) := hPB.eout hEF p7 (by omega)
              exact yT.retV rfl rfl ⟨_, hT190, rfl, hEF⟩
            · have hn := hPB.2.2.2.1 (282 * c + 0) (by unfold mf; omega)
              have hs := hPB.2.2.2.1 (282 * c + 31) (by unfold mf; omega)
              have hl : lt σ177 c = lt σ c := lt_cg (fun i h1 h2 => hPB.2.2.2.1 i (by unfold mf; omega)) (by omega) (hPB.2.2.2.1 6768 (by unfold mf; omega))
              have h13 := (hPB.2.1 13 (by decide)).trans p2
              refine yT.aan (pc' := 108) g122 rfl rfl rfl ?_
              refine yT.iln (pc' := 109) g123 rfl rfl ?_
              refine kRV (yT.cc (G2 := 0) (pc' := 112) rfl rfl rfl hT181 (K.up rfl : xnth ks 60 = some (19, 0)) xM_183 (r183e (c := c) K hT181 e1 Rf hFr (by omega) hPB.2.2.2.2 h13 (by omega) (hs.trans p4) p5 (by rw [hl]; exact p6) (hPB.pw p2) (by omega) (by omega)) rfl (by omega) (by decide) rfl) (fun h191 σ195 hT192 E193 => ?_)
              have hEF := E193
              refine yT.aan (pc' := 113) g122 rfl rfl rfl ?_
              refine yT.cg8 (pc' := 116) rfl rfl hT192 (K.up rfl) rfl rfl (fun _ => ?_)
              refine yT.iln (pc' := 117) g123 rfl rfl ?_
              refine yT.kI (pc' := 118) rfl rfl (by decide) (fun x196 e197 => ?_)
              refine yT.tbs (c) (pc' := 119) rfl rfl hT192 (K.up rfl) e1 (by omega) (b01 (by omega) (by omega)) (fun h198 hT199 => ?_)
              have hEF : EF 1 σ (us σ195 67 (c) x196) := hPB.eout hEF p7 (by omega)
              exact yT.retV rfl rfl ⟨_, hT199, rfl, hEF⟩
        · refine yT.iln (pc' := 30) g124 rfl rfl ?_
          refine yT.aan (pc' := 31) g122 rfl rfl rfl ?_
          refine yT.iln (pc' := 32) g123 rfl rfl ?_
          refine yT.kb (pc' := 34) rfl rfl (by decide) (fun x200 e201 => ?_)
          refine kSI (yT.cc (G2 := 0) (pc' := 37) rfl rfl rfl hT132 (K.up rfl : xnth ks 60 = some (19, 0)) xM_166 (r166 (c := c) (w := 6) K hT132 e1 (by omega) (by omega)) rfl (by omega) (by decide) rfl) (fun h202 x205 hT203 E204 => ?_)
          refine yT.if2 (t := 80) (pc' := 40) rfl rfl rfl (c2_ge e121 E204) (fun c206 => ?_) (fun c206 => ?_)
          · refine yT.aan (pc' := 81) g122 rfl rfl rfl ?_
            refine yT.iln (pc' := 82) g123 rfl rfl ?_
            refine yT.kI (pc' := 83) rfl rfl (by decide) (fun x207 e208 => ?_)
            refine kSI (yT.cc (G2 := 0) (pc' := 86) rfl rfl rfl hT203 (K.up rfl : xnth ks 60 = some (19, 0)) xM_166 (r166 (c := c) (w := 3) K hT203 e1 (by omega) (by omega)) rfl (by omega) (by decide) rfl) (fun h209 x212 hT210 E211 => ?_)
            refine yT.kI (pc' := 87) rfl rfl (by decide) (fun x213 e214 => ?_)
            refine yT.if2 (t := 97) (pc' := 90) rfl rfl rfl (c2_ne E211 e214) (fun c215 => ?_) (fun c215 => ?_)
            · have hg := hPB.2.2.2.1 6856 (by unfold mf; omega)
              have hlg := hPB.2.2.2.1 6795 (by unfold mf; omega)
              have hgm := hPB.gme
              have hEF : EF 1 σ116 σ116 := EF.rf hPB.2.2.2.2 (by omega) (by decide)
              refine yT.aan (pc' := 98) g122 rfl rfl rfl ?_
              refine yT.iln (pc' := 99) g123 rfl rfl ?_
              refine yT.kI (pc' := 100) rfl rfl (by decide) (fun x216 e217 => ?_)
              refine kSI (yT.cc (G2 := 0) (pc' := 103) rfl rfl rfl hT210 (K.up rfl : xnth ks 60 = some (19, 0)) xM_166 (r166 (c := c) (w := 3) K hT210 e1 (by omega) (by omega)) rfl (by omega) (by decide) rfl) (fun h218 x221 hT219 E220 => ?_)
              refine yT.kI (pc' := 104) rfl rfl (by decide) (fun x222 e223 => ?_)
              refine yT.if2 (t := 112) (pc' := 107) rfl rfl rfl (c2_ne E220 e223) (fun c224 => ?_) (fun c224 => ?_)
              · refine yT.aan (pc' := 113) g122 rfl rfl rfl ?_
                refine yT.cg8 (pc' := 116) rfl rfl hT219 (K.up rfl) rfl rfl (fun _ => ?_)
                refine yT.iln (pc' := 117) g123 rfl rfl ?_
                refine yT.kI (pc' := 118) rfl rfl (by decide) (fun x225 e226 => ?_)
                refine yT.tbs (c) (pc' := 119) rfl rfl hT219 (K.up rfl) e1 (by omega) (b01 (by omega) (by omega)) (fun h227 hT228 => ?_)
                have hEF : EF 1 σ (us σ116 67 (c) x225) := hPB.eout hEF p7 (by omega)
                exact yT.retV rfl rfl ⟨_, hT228, rfl, hEF⟩
              · have hn := hPB.2.2.2.1 (282 * c + 0) (by unfold mf; omega)
                have hs := hPB.2.2.2.1 (282 * c + 31) (by unfold mf; omega)
                have hl : lt σ116 c = lt σ c := lt_cg (fun i h1 h2 => hPB.2.2.2.1 i (by unfold mf; omega)) (by omega) (hPB.2.2.2.1 6768 (by unfold mf; omega))
                have h13 := (hPB.2.1 13 (by decide)).trans p2
                refine yT.aan (pc' := 108) g122 rfl rfl rfl ?_
                refine yT.iln (pc' := 109) g123 rfl rfl ?_
                refine kRV (yT.cc (G2 := 0) (pc' := 112) rfl rfl rfl hT219 (K.up rfl : xnth ks 60 = some (19, 0)) xM_183 (r183e (c := c) K hT219 e1 Rf hFr (by omega) hPB.2.2.2.2 h13 (by omega) (hs.trans p4) p5 (by rw [hl]; exact p6) (hPB.pw p2) (by omega) (by omega)) rfl (by omega) (by decide) rfl) (fun h229 σ233 hT230 E231 => ?_)
                have hEF := E231
                refine yT.aan (pc' := 113) g122 rfl rfl rfl ?_
                refine yT.cg8 (pc' := 116) rfl rfl hT230 (K.up rfl) rfl rfl (fun _ => ?_)
                refine yT.iln (pc' := 117) g123 rfl rfl ?_
                refine yT.kI (pc' := 118) rfl rfl (by decide) (fun x234 e235 => ?_)
                refine yT.tbs (c) (pc' := 119) rfl rfl hT230 (K.up rfl) e1 (by omega) (b01 (by omega) (by omega)) (fun h236 hT237 => ?_)
                have hEF : EF 1 σ (us σ233 67 (c) x234) := hPB.eout hEF p7 (by omega)
                exact yT.retV rfl rfl ⟨_, hT237, rfl, hEF⟩
            · refine yT.aan (pc' := 91) g122 rfl rfl rfl ?_
              refine yT.iln (pc' := 92) g123 rfl rfl ?_
              refine yT.kI (pc' := 93) rfl rfl (by decide) (fun x238 e239 => ?_)
              refine yT.kI (pc' := 94) rfl rfl (by decide) (fun x240 e241 => ?_)
              refine kRV (yT.cc (G2 := 0) (pc' := 97) rfl rfl rfl hT210 (K.up rfl : xnth ks 60 = some (19, 0)) xM_167 (r167 (c := c) (w := 3) K hT210 e1 (by omega) x240 (by omega)) rfl (by omega) (by decide) rfl) (fun h242 σ246 hT243 E244 => ?_)
              have ee := E244
              have hPB : BF c σ σ246 := by rw [ee]; exact hPB.tr ((PF.rf hPB.2.2.2.2).s3 p0 (by decide))
              have hg := hPB.2.2.2.1 6856 (by unfold mf; omega)
              have hlg := hPB.2.2.2.1 6795 (by unfold mf; omega)
              have hgm := hPB.gme
              have hEF : EF 1 σ246 σ246 := EF.rf hPB.2.2.2.2 (by omega) (by decide)
              refine yT.aan (pc' := 98) g122 rfl rfl rfl ?_
              refine yT.iln (pc' := 99) g123 rfl rfl ?_
              refine yT.kI (pc' := 100) rfl rfl (by decide) (fun x247 e248 => ?_)
              refine kSI (yT.cc (G2 := 0) (pc' := 103) rfl rfl rfl hT243 (K.up rfl : xnth ks 60 = some (19, 0)) xM_166 (r166 (c := c) (w := 3) K hT243 e1 (by omega) (by omega)) rfl (by omega) (by decide) rfl) (fun h249 x252 hT250 E251 => ?_)
              refine yT.kI (pc' := 104) rfl rfl (by decide) (fun x253 e254 => ?_)
              refine yT.if2 (t := 112) (pc' := 107) rfl rfl rfl (c2_ne E251 e254) (fun c255 => ?_) (fun c255 => ?_)
              · refine yT.aan (pc' := 113) g122 rfl rfl rfl ?_
                refine yT.cg8 (pc' := 116) rfl rfl hT250 (K.up rfl) rfl rfl (fun _ => ?_)
                refine yT.iln (pc' := 117) g123 rfl rfl ?_
                refine yT.kI (pc' := 118) rfl rfl (by decide) (fun x256 e257 => ?_)
                refine yT.tbs (c) (pc' := 119) rfl rfl hT250 (K.up rfl) e1 (by omega) (b01 (by omega) (by omega)) (fun h258 hT259 => ?_)
                have hEF : EF 1 σ (us σ246 67 (c) x256) := hPB.eout hEF p7 (by omega)
                exact yT.retV rfl rfl ⟨_, hT259, rfl, hEF⟩
              · have hn := hPB.2.2.2.1 (282 * c + 0) (by unfold mf; omega)
                have hs := hPB.2.2.2.1 (282 * c + 31) (by unfold mf; omega)
                have hl : lt σ246 c = lt σ c := lt_cg (fun i h1 h2 => hPB.2.2.2.1 i (by unfold mf; omega)) (by omega) (hPB.2.2.2.1 6768 (by unfold mf; omega))
                have h13 := (hPB.2.1 13 (by decide)).trans p2
                refine yT.aan (pc' := 108) g122 rfl rfl rfl ?_
                refine yT.iln (pc' := 109) g123 rfl rfl ?_
                refine kRV (yT.cc (G2 := 0) (pc' := 112) rfl rfl rfl hT250 (K.up rfl : xnth ks 60 = some (19, 0)) xM_183 (r183e (c := c) K hT250 e1 Rf hFr (by omega) hPB.2.2.2.2 h13 (by omega) (hs.trans p4) p5 (by rw [hl]; exact p6) (hPB.pw p2) (by omega) (by omega)) rfl (by omega) (by decide) rfl) (fun h260 σ264 hT261 E262 => ?_)
                have hEF := E262
                refine yT.aan (pc' := 113) g122 rfl rfl rfl ?_
                refine yT.cg8 (pc' := 116) rfl rfl hT261 (K.up rfl) rfl rfl (fun _ => ?_)
                refine yT.iln (pc' := 117) g123 rfl rfl ?_
                refine yT.kI (pc' := 118) rfl rfl (by decide) (fun x265 e266 => ?_)
                refine yT.tbs (c) (pc' := 119) rfl rfl hT261 (K.up rfl) e1 (by omega) (b01 (by omega) (by omega)) (fun h267 hT268 => ?_)
                have hEF : EF 1 σ (us σ264 67 (c) x265) := hPB.eout hEF p7 (by omega)
                exact yT.retV rfl rfl ⟨_, hT268, rfl, hEF⟩
          · refine yT.aan (pc' := 41) g122 rfl rfl rfl ?_
            refine yT.iln (pc' := 42) g123 rfl rfl ?_
            refine yT.kb (pc' := 44) rfl rfl (by decide) (fun x269 e270 => ?_)
            refine yT.iln (pc' := 45) g124 rfl rfl ?_
            refine yT.ad2 (pc' := 46) (Z := (k120 : Int) + 7) e270 e121 rfl rfl (by omega) (fun x271 e272 => ?_)
            refine kSI (yT.cc (G2 := 0) (pc' := 49) rfl rfl rfl hT203 (K.up rfl : xnth ks 60 = some (19, 0)) xM_166 (r166 (c := c) (w := k120 + 7) K hT203 e1 (by omega) (by omega)) rfl (by omega) (by decide) rfl) (fun h273 x276 hT274 E275 => ?_)
            obtain ⟨y278, hn279⟩ := (hPB.2.2.2.2.2.2.1 c p0).2.1 (k120) (by omega)
            have e277 : x276.toInt = (y278 : Int) := E275.trans hn279.1
            refine yT.p (pc' := 50) (lv' := xst1 _ 3 (.int x276)) rfl rfl (fun _ _ _ _ => rfl) ?_
            refine yT.aan (pc' := 51) (xg_ne g122 rfl) rfl rfl rfl ?_
            refine yT.iln (pc' := 52) xg_eq rfl rfl ?_
            refine yT.kI (pc' := 53) rfl rfl (by decide) (fun x280 e281 => ?_)
            refine kSI (yT.cc (G2 := 0) (pc' := 56) rfl rfl rfl hT274 (K.up rfl : xnth ks 60 = some (19, 0)) xM_166 (r166 (c := y278) (w := 0) K hT274 e277 (by omega) (by omega)) rfl (by omega) (by decide) rfl) (fun h282 x285 hT283 E284 => ?_)
            refine yT.kI (pc' := 57) rfl rfl (by decide) (fun x286 e287 => ?_)
            refine yT.if2 (t := 74) (pc' := 60) rfl rfl rfl (c2_ne E284 e287) (fun c288 => ?_) (fun c288 => ?_)
            · refine yT.inc2 (pc' := 77) (Z := (k120 : Int) + 1) (xg_ne g124 rfl) e121 rfl rfl rfl ⟨by decide, by omega⟩ (fun x289 e290 => ?_)
              refine yT.p (pc' := 19) rfl rfl (fun _ _ _ _ => rfl) ?_
              exact ih128 _ σ116 _ (k120 + 1) x289 hT283 (by omega) (xg_ne (xg_ne g122 rfl) rfl) (xg_ne (xg_ne g123 rfl) rfl) xg_eq hPB (by omega)
            · refine yT.aan (pc' := 61) (xg_ne g122 rfl) rfl rfl rfl ?_
              refine yT.cg8 (pc' := 64) rfl rfl hT283 (K.up rfl) rfl rfl (fun _ => ?_)
              refine yT.iln (pc' := 65) xg_eq rfl rfl ?_
              refine yT.tba (y278) (pc' := 66) rfl rfl hT283 (K.up rfl) e277 (by omega) (fun x291 z293 => ?_)
              have e292 : x291.toInt = (σ116 67 (y278)).toInt := congrArg Int32.toInt z293
              refine yT.if1 (t := 74) (pc' := 69) rfl rfl rfl (c1_ne e292) (fun c294 => ?_) (fun c294 => ?_)
              · refine yT.inc2 (pc' := 77) (Z := (k120 : Int) + 1) (xg_ne g124 rfl) e121 rfl rfl rfl ⟨by decide, by omega⟩ (fun x295 e296 => ?_)
                refine yT.p (pc' := 19) rfl rfl (fun _ _ _ _ => rfl) ?_
                exact ih128 _ σ116 _ (k120 + 1) x295 hT283 (by omega) (xg_ne (xg_ne g122 rfl) rfl) (xg_ne (xg_ne g123 rfl) rfl) xg_eq hPB (by omega)
              · refine yT.aan (pc' := 70) (xg_ne g122 rfl) rfl rfl rfl ?_
                refine yT.iln (pc' := 71) xg_eq rfl rfl ?_
                refine kRV (yT.cc (G2 := 0) (pc' := 74) rfl rfl rfl hT283 (K.up rfl : xnth ks 60 = some (19, 0)) xM_182 (Rf (y := y278) K hT283 e277 (by omega) (hPB.pw p2) (by omega) (show (σ116 67 _).toInt = 0 by omega)) rfl (by omega) (by decide) rfl) (fun h297 σ301 hT298 E299 => ?_)
                have hPB := hPB.tr E299
                refine yT.inc2 (pc' := 77) (Z := (k120 : Int) + 1) (xg_ne g124 rfl) e121 rfl rfl rfl ⟨by decide, by omega⟩ (fun x302 e303 => ?_)
                refine yT.p (pc' := 19) rfl rfl (fun _ _ _ _ => rfl) ?_
                exact ih128 _ σ301 _ (k120 + 1) x302 hT298 (by omega) (xg_ne (xg_ne g122 rfl) rfl) (xg_ne (xg_ne g123 rfl) rfl) xg_eq hPB (by omega)
    exact L114 _ _ (us σ 67 (c) x108) _ (0) x112 hT111 (by omega) (xg_ne g0 rfl) (xg_ne g1 rfl) xg_eq hPB (Nat.lt_succ_self _)
  · exact yT.retV rfl rfl ⟨_, hT104, rfl, (EF.rf p1 p9.1 (by decide))⟩
