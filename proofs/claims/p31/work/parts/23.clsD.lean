-- rX8_copy
set_option maxRecDepth 100000 in
set_option maxHeartbeats 4000000 in
theorem c109 {ks : List cT} {σ : Nat → Nat → Int32} {ρ : Nat → xE} {h : List xE} (hT : HT ks σ ρ h) {B0 : Nat} (K : KE KS0 ks B0) {q0 : Nat} (o0 : xnth ks q0 = some (18, 0)) (x1 : Int32) (x2 : Int32) (x3 : Int32) (x4 : Int32) (x5 : Int32) : yM 109 (3) 0 [.ref (q0 + 1), .int x1, .int x2, .int x3, .int x4, .int x5] h (CQ ks σ ρ (0, 0, 0) yT0) := by
  refine yM.st xM_109 rfl rfl (fun lv g => ?_)
  have g0 := g 0 _ rfl
  have g1 := g 1 _ rfl
  have g2 := g 2 _ rfl
  have g3 := g 3 _ rfl
  have g4 := g 4 _ rfl
  have g5 := g 5 _ rfl
  refine yT.aan (pc' := 1) g0 rfl rfl rfl ?_
  refine yT.iln (pc' := 2) g1 rfl rfl ?_
  refine kN (yT.cc (G2 := 0) (pc' := 5) rfl rfl rfl hT o0 xM_156 (c156 hT K o0 x1) rfl (by decide) (by decide) rfl) (fun h101 hT102 E103 => ?_) (fun h101 q104 hT102 E103 o105 => ?_)
  · have i106 : ¬ (0 ≤ x1.toInt ∧ x1.toInt < 8) := (show _ ∨ _ from E103).elim (fun e => e.2) (fun e => absurd rfl e.1)
    refine yT.p (pc' := 7) (lv' := xst1 _ 6 (.null)) rfl rfl (fun _ _ _ _ => rfl) ?_
    refine yT.aan (pc' := 8) (xg_ne g0 rfl) rfl rfl rfl ?_
    refine yT.iln (pc' := 9) (xg_ne g2 rfl) rfl rfl ?_
    refine kN (yT.cc (G2 := 0) (pc' := 12) rfl rfl rfl hT102 o0 xM_156 (c156 hT102 K o0 x2) rfl (by decide) (by decide) rfl) (fun h107 hT108 E109 => ?_) (fun h107 q110 hT108 E109 o111 => ?_)
    · have i112 : ¬ (0 ≤ x2.toInt ∧ x2.toInt < 8) := (show _ ∨ _ from E109).elim (fun e => e.2) (fun e => absurd rfl e.1)
      refine yT.p (pc' := 14) (lv' := xst1 _ 7 (.null)) rfl rfl (fun _ _ _ _ => rfl) ?_
      refine yT.aa_ (pc' := 16) (xg_ne xg_eq rfl) rfl rfl rfl ?_
      refine yT.p (pc' := 24) rfl rfl (fun _ _ _ _ => rfl) ?_
      refine yT.aan (pc' := 25) (xg_ne (xg_ne g0 rfl) rfl) rfl rfl rfl ?_
      refine yT.kb (pc' := 27) rfl rfl (by decide) (fun x113 e114 => ?_)
      refine kI (yT.cc (G2 := 0) (pc' := 30) rfl rfl rfl hT108 o0 xM_153 (c153 hT108 K o0 x113) rfl (by decide) (by decide) rfl) (fun h115 x118 hT116 E117 => ?_)
      have e119 : x118 = x113 := by have e : some (Value.int x118) = some (.int x113) := E117; injection e with e; injection e
      have e120 : x118.toInt = (-2) := by first | (rw [e119]; done) | (rw [e119]; exact e114)
      exact yT.retI rfl rfl (qI hT116 trivial)
    · have i121 : 0 ≤ x2.toInt ∧ x2.toInt < 8 := (show _ ∨ _ from E109).elim (fun e => by cases e.1) (fun e => e.2)
      refine yT.p (pc' := 14) (lv' := xst1 _ 7 (.ref (q110 + 1))) rfl rfl (fun _ _ _ _ => rfl) ?_
      refine yT.aa_ (pc' := 16) (xg_ne xg_eq rfl) rfl rfl rfl ?_
      refine yT.p (pc' := 24) rfl rfl (fun _ _ _ _ => rfl) ?_
      refine yT.aan (pc' := 25) (xg_ne (xg_ne g0 rfl) rfl) rfl rfl rfl ?_
      refine yT.kb (pc' := 27) rfl rfl (by decide) (fun x122 e123 => ?_)
      refine kI (yT.cc (G2 := 0) (pc' := 30) rfl rfl rfl hT108 o0 xM_153 (c153 hT108 K o0 x122) rfl (by decide) (by decide) rfl) (fun h124 x127 hT125 E126 => ?_)
      have e128 : x127 = x122 := by have e : some (Value.int x127) = some (.int x122) := E126; injection e with e; injection e
      have e129 : x127.toInt = (-2) := by first | (rw [e128]; done) | (rw [e128]; exact e123)
      exact yT.retI rfl rfl (qI hT125 trivial)
  · have i130 : 0 ≤ x1.toInt ∧ x1.toInt < 8 := (show _ ∨ _ from E103).elim (fun e => by cases e.1) (fun e => e.2)
    refine yT.p (pc' := 7) (lv' := xst1 _ 6 (.ref (q104 + 1))) rfl rfl (fun _ _ _ _ => rfl) ?_
    refine yT.aan (pc' := 8) (xg_ne g0 rfl) rfl rfl rfl ?_
    refine yT.iln (pc' := 9) (xg_ne g2 rfl) rfl rfl ?_
    refine kN (yT.cc (G2 := 0) (pc' := 12) rfl rfl rfl hT102 o0 xM_156 (c156 hT102 K o0 x2) rfl (by decide) (by decide) rfl) (fun h131 hT132 E133 => ?_) (fun h131 q134 hT132 E133 o135 => ?_)
    · have i136 : ¬ (0 ≤ x2.toInt ∧ x2.toInt < 8) := (show _ ∨ _ from E133).elim (fun e => e.2) (fun e => absurd rfl e.1)
      refine yT.p (pc' := 14) (lv' := xst1 _ 7 (.null)) rfl rfl (fun _ _ _ _ => rfl) ?_
      refine yT.aa_ (pc' := 16) (xg_ne xg_eq rfl) rfl rfl rfl ?_
      refine yT.p (pc' := 19) rfl rfl (fun _ _ _ _ => rfl) ?_
      refine yT.aa_ (pc' := 21) xg_eq rfl rfl rfl ?_
      refine yT.p (pc' := 24) rfl rfl (fun _ _ _ _ => rfl) ?_
      refine yT.aan (pc' := 25) (xg_ne (xg_ne g0 rfl) rfl) rfl rfl rfl ?_
      refine yT.kb (pc' := 27) rfl rfl (by decide) (fun x137 e138 => ?_)
      refine kI (yT.cc (G2 := 0) (pc' := 30) rfl rfl rfl hT132 o0 xM_153 (c153 hT132 K o0 x137) rfl (by decide) (by decide) rfl) (fun h139 x142 hT140 E141 => ?_)
      have e143 : x142 = x137 := by have e : some (Value.int x142) = some (.int x137) := E141; injection e with e; injection e
      have e144 : x142.toInt = (-2) := by first | (rw [e143]; done) | (rw [e143]; exact e138)
      exact yT.retI rfl rfl (qI hT140 trivial)
    · have i145 : 0 ≤ x2.toInt ∧ x2.toInt < 8 := (show _ ∨ _ from E133).elim (fun e => by cases e.1) (fun e => e.2)
      refine yT.p (pc' := 14) (lv' := xst1 _ 7 (.ref (q134 + 1))) rfl rfl (fun _ _ _ _ => rfl) ?_
      refine yT.aa_ (pc' := 16) (xg_ne xg_eq rfl) rfl rfl rfl ?_
      refine yT.p (pc' := 19) rfl rfl (fun _ _ _ _ => rfl) ?_
      refine yT.aa_ (pc' := 21) xg_eq rfl rfl rfl ?_
      refine yT.p (pc' := 31) rfl rfl (fun _ _ _ _ => rfl) ?_
      refine yT.aa_ (pc' := 33) (xg_ne xg_eq rfl) rfl rfl rfl ?_
      refine kZ (yT.cc (G2 := 0) (pc' := 36) rfl rfl rfl hT132 o105 xM_73 (c73 hT132 o105) rfl (by decide) (by decide) rfl) (fun h146 x149 hT147 E148 b150 => ?_)
      have i151 := b01i b150
      have J152 : ∀ (lv153 : xLv) (h154 : List xE), HT ks σ ρ h154 → xget lv153 0 = some (.ref (q0 + 1)) → xget lv153 3 = some (.int x3) → xget lv153 4 = some (.int x4) → xget lv153 5 = some (.int x5) → xget lv153 6 = some (.ref (q104 + 1)) → xget lv153 7 = some (.ref (q134 + 1)) → yT 0 [] rX8_copy (3) 0 64 lv153 [] h154 (CQ ks σ ρ (0, 0, 0) yT0) := by
        intro lv153 h154 hT155 g156 g157 g158 g159 g160 g161
        refine yT.kI (pc' := 65) rfl rfl (by decide) (fun x162 e163 => ?_)
        refine yT.p (pc' := 67) (lv' := xst1 _ 8 (.int x162)) rfl rfl (fun _ _ _ _ => rfl) ?_
        refine yT.aa_ (pc' := 69) (xg_ne g160 rfl) rfl rfl rfl ?_
        refine kZ (yT.cc (G2 := 0) (pc' := 72) rfl rfl rfl hT155 o105 xM_74 (c74 hT155 o105) rfl (by decide) (by decide) rfl) (fun h164 x167 hT165 E166 b168 => ?_)
        have i169 := b01i b168
        refine yT.if1 (t := 88) (pc' := 75) rfl rfl rfl (c1_ne rfl) (fun c170 => ?_) (fun c170 => ?_)
        · refine yT.aan (pc' := 89) (xg_ne g156 rfl) rfl rfl rfl ?_
          refine yT.kb (pc' := 91) rfl rfl (by decide) (fun x171 e172 => ?_)
          refine kI (yT.cc (G2 := 0) (pc' := 94) rfl rfl rfl hT165 o0 xM_153 (c153 hT165 K o0 x171) rfl (by decide) (by decide) rfl) (fun h173 x176 hT174 E175 => ?_)
          have e177 : x176 = x171 := by have e : some (Value.int x176) = some (.int x171) := E175; injection e with e; injection e
          have e178 : x176.toInt = (-3) := by first | (rw [e177]; done) | (rw [e177]; exact e172)
          exact yT.retI rfl rfl (qI hT174 trivial)
        · refine yT.aa_ (pc' := 77) (xg_ne g161 rfl) rfl rfl rfl ?_
          refine kZ (yT.cc (G2 := 0) (pc' := 80) rfl rfl rfl hT165 o135 xM_74 (c74 hT165 o135) rfl (by decide) (by decide) rfl) (fun h179 x182 hT180 E181 b183 => ?_)
          have i184 := b01i b183
          refine yT.if1 (t := 88) (pc' := 83) rfl rfl rfl (c1_ne rfl) (fun c185 => ?_) (fun c185 => ?_)
          · refine yT.aan (pc' := 89) (xg_ne g156 rfl) rfl rfl rfl ?_
            refine yT.kb (pc' := 91) rfl rfl (by decide) (fun x186 e187 => ?_)
            refine kI (yT.cc (G2 := 0) (pc' := 94) rfl rfl rfl hT180 o0 xM_153 (c153 hT180 K o0 x186) rfl (by decide) (by decide) rfl) (fun h188 x191 hT189 E190 => ?_)
            have e192 : x191 = x186 := by have e : some (Value.int x191) = some (.int x186) := E190; injection e with e; injection e
            have e193 : x191.toInt = (-3) := by first | (rw [e192]; done) | (rw [e192]; exact e187)
            exact yT.retI rfl rfl (qI hT189 trivial)
          · refine yT.il (pc' := 85) xg_eq rfl rfl ?_
            refine yT.if1 (t := 95) (pc' := 88) rfl rfl rfl (c1_eq e163) (fun c194 => ?_) (fun c194 => by omega)
            refine yT.aa_ (pc' := 97) (xg_ne g160 rfl) rfl rfl rfl ?_
            refine kZ (yT.cc (G2 := 0) (pc' := 100) rfl rfl rfl hT180 o105 xM_73 (c73 hT180 o105) rfl (by decide) (by decide) rfl) (fun h195 x198 hT196 E197 b199 => ?_)
            have i200 := b01i b199
            refine yT.if1 (t := 111) (pc' := 103) rfl rfl rfl (c1_eq rfl) (fun c201 => ?_) (fun c201 => ?_)
            · refine yT.aan (pc' := 112) (xg_ne g156 rfl) rfl rfl rfl ?_
              refine yT.kb (pc' := 114) rfl rfl (by decide) (fun x202 e203 => ?_)
              refine kI (yT.cc (G2 := 0) (pc' := 117) rfl rfl rfl hT196 o0 xM_153 (c153 hT196 K o0 x202) rfl (by decide) (by decide) rfl) (fun h204 x207 hT205 E206 => ?_)
              have e208 : x207 = x202 := by have e : some (Value.int x207) = some (.int x202) := E206; injection e with e; injection e
              have e209 : x207.toInt = (-4) := by first | (rw [e208]; done) | (rw [e208]; exact e203)
              exact yT.retI rfl rfl (qI hT205 trivial)
            · refine yT.aa_ (pc' := 105) (xg_ne g161 rfl) rfl rfl rfl ?_
              refine kZ (yT.cc (G2 := 0) (pc' := 108) rfl rfl rfl hT196 o135 xM_73 (c73 hT196 o135) rfl (by decide) (by decide) rfl) (fun h210 x213 hT211 E212 b214 => ?_)
              have i215 := b01i b214
              refine yT.if1 (t := 118) (pc' := 111) rfl rfl rfl (c1_ne rfl) (fun c216 => ?_) (fun c216 => ?_)
              · refine yT.aa_ (pc' := 120) (xg_ne g160 rfl) rfl rfl rfl ?_
                refine yT.iln (pc' := 121) (xg_ne g157 rfl) rfl rfl ?_
                refine yT.il (pc' := 123) (xg_ne g159 rfl) rfl rfl ?_
                refine kZ (yT.cc (G2 := 0) (pc' := 126) rfl rfl rfl hT211 o105 xM_79 (c79 hT211 o105 x3 x5) rfl (by decide) (by decide) rfl) (fun h217 x220 hT218 E219 b221 => ?_)
                have i222 := b01i b221
                refine yT.if1 (t := 141) (pc' := 129) rfl rfl rfl (c1_eq rfl) (fun c223 => ?_) (fun c223 => ?_)
                · refine yT.aan (pc' := 142) (xg_ne g156 rfl) rfl rfl rfl ?_
                  refine yT.kb (pc' := 144) rfl rfl (by decide) (fun x224 e225 => ?_)
                  refine kI (yT.cc (G2 := 0) (pc' := 147) rfl rfl rfl hT218 o0 xM_153 (c153 hT218 K o0 x224) rfl (by decide) (by decide) rfl) (fun h226 x229 hT227 E228 => ?_)
                  have e230 : x229 = x224 := by have e : some (Value.int x229) = some (.int x224) := E228; injection e with e; injection e
                  have e231 : x229.toInt = (-2) := by first | (rw [e230]; done) | (rw [e230]; exact e225)
                  exact yT.retI rfl rfl (qI hT227 trivial)
                · refine yT.aa_ (pc' := 131) (xg_ne g161 rfl) rfl rfl rfl ?_
                  refine yT.il (pc' := 133) (xg_ne g158 rfl) rfl rfl ?_
                  refine yT.il (pc' := 135) (xg_ne g159 rfl) rfl rfl ?_
                  refine kZ (yT.cc (G2 := 0) (pc' := 138) rfl rfl rfl hT218 o135 xM_79 (c79 hT218 o135 x4 x5) rfl (by decide) (by decide) rfl) (fun h232 x235 hT233 E234 b236 => ?_)
                  have i237 := b01i b236
                  refine yT.if1 (t := 148) (pc' := 141) rfl rfl rfl (c1_ne rfl) (fun c238 => ?_) (fun c238 => ?_)
                  · refine yT.aa_ (pc' := 150) (xg_ne g161 rfl) rfl rfl rfl ?_
                    refine yT.il (pc' := 152) (xg_ne g158 rfl) rfl rfl ?_
                    refine yT.aa_ (pc' := 154) (xg_ne g160 rfl) rfl rfl rfl ?_
                    refine yT.iln (pc' := 155) (xg_ne g157 rfl) rfl rfl ?_
                    refine yT.il (pc' := 157) (xg_ne g159 rfl) rfl rfl ?_
                    refine kV (yT.cc (G2 := 0) (pc' := 160) rfl rfl rfl hT233 o135 xM_83 (c83 hT233 o135 x4 o105 x3 x5) rfl (by decide) (by decide) rfl) (fun h239 hT240 E241 => ?_)
                    refine yT.il (pc' := 162) (xg_ne g159 rfl) rfl rfl ?_
                    exact yT.retI rfl rfl (qI hT240 trivial)
                  · refine yT.aan (pc' := 142) (xg_ne g156 rfl) rfl rfl rfl ?_
                    refine yT.kb (pc' := 144) rfl rfl (by decide) (fun x242 e243 => ?_)
                    refine kI (yT.cc (G2 := 0) (pc' := 147) rfl rfl rfl hT233 o0 xM_153 (c153 hT233 K o0 x242) rfl (by decide) (by decide) rfl) (fun h244 x247 hT245 E246 => ?_)
                    have e248 : x247 = x242 := by have e : some (Value.int x247) = some (.int x242) := E246; injection e with e; injection e
                    have e249 : x247.toInt = (-2) := by first | (rw [e248]; done) | (rw [e248]; exact e243)
                    exact yT.retI rfl rfl (qI hT245 trivial)
              · refine yT.aan (pc' := 112) (xg_ne g156 rfl) rfl rfl rfl ?_
                refine yT.kb (pc' := 114) rfl rfl (by decide) (fun x250 e251 => ?_)
                refine kI (yT.cc (G2 := 0) (pc' := 117) rfl rfl rfl hT211 o0 xM_153 (c153 hT211 K o0 x250) rfl (by decide) (by decide) rfl) (fun h252 x255 hT253 E254 => ?_)
                have e256 : x255 = x250 := by have e : some (Value.int x255) = some (.int x250) := E254; injection e with e; injection e
                have e257 : x255.toInt = (-4) := by first | (rw [e256]; done) | (rw [e256]; exact e251)
                exact yT.retI rfl rfl (qI hT253 trivial)
      refine yT.if1 (t := 64) (pc' := 39) rfl rfl rfl (c1_eq rfl) (fun c258 => ?_) (fun c258 => ?_)
      · exact J152 _ _ hT147 (xg_ne (xg_ne g0 rfl) rfl) (xg_ne (xg_ne g3 rfl) rfl) (xg_ne (xg_ne g4 rfl) rfl) (xg_ne (xg_ne g5 rfl) rfl) (xg_ne xg_eq rfl) xg_eq
      · refine yT.aa_ (pc' := 41) xg_eq rfl rfl rfl ?_
        refine kZ (yT.cc (G2 := 0) (pc' := 44) rfl rfl rfl hT147 o135 xM_73 (c73 hT147 o135) rfl (by decide) (by decide) rfl) (fun h259 x262 hT260 E261 b263 => ?_)
        have i264 := b01i b263
        refine yT.if1 (t := 64) (pc' := 47) rfl rfl rfl (c1_eq rfl) (fun c265 => ?_) (fun c265 => ?_)
        · exact J152 _ _ hT260 (xg_ne (xg_ne g0 rfl) rfl) (xg_ne (xg_ne g3 rfl) rfl) (xg_ne (xg_ne g4 rfl) rfl) (xg_ne (xg_ne g5 rfl) rfl) (xg_ne xg_eq rfl) xg_eq
        · refine yT.aa_ (pc' := 49) (xg_ne xg_eq rfl) rfl rfl rfl ?_
          refine kI (yT.cc (G2 := 0) (pc' := 52) rfl rfl rfl hT260 o105 xM_72 (c72 hT260 o105) rfl (by decide) (by decide) rfl) (fun h266 x269 hT267 E268 => ?_)
          refine yT.aa_ (pc' := 54) xg_eq rfl rfl rfl ?_
          refine kI (yT.cc (G2 := 0) (pc' := 57) rfl rfl rfl hT267 o135 xM_72 (c72 hT267 o135) rfl (by decide) (by decide) rfl) (fun h270 x273 hT271 E272 => ?_)
          refine yT.if2 (t := 64) (pc' := 60) rfl rfl rfl (c2_eq rfl rfl) (fun c274 => ?_) (fun c274 => ?_)
          · exact J152 _ _ hT271 (xg_ne (xg_ne g0 rfl) rfl) (xg_ne (xg_ne g3 rfl) rfl) (xg_ne (xg_ne g4 rfl) rfl) (xg_ne (xg_ne g5 rfl) rfl) (xg_ne xg_eq rfl) xg_eq
          · refine yT.kI (pc' := 61) rfl rfl (by decide) (fun x275 e276 => ?_)
            refine yT.p (pc' := 65) rfl rfl (fun _ _ _ _ => rfl) ?_
            refine yT.p (pc' := 67) (lv' := xst1 _ 8 (.int x275)) rfl rfl (fun _ _ _ _ => rfl) ?_
            refine yT.aa_ (pc' := 69) (xg_ne (xg_ne xg_eq rfl) rfl) rfl rfl rfl ?_
            refine kZ (yT.cc (G2 := 0) (pc' := 72) rfl rfl rfl hT271 o105 xM_74 (c74 hT271 o105) rfl (by decide) (by decide) rfl) (fun h277 x280 hT278 E279 b281 => ?_)
            have i282 := b01i b281
            refine yT.if1 (t := 88) (pc' := 75) rfl rfl rfl (c1_ne rfl) (fun c283 => ?_) (fun c283 => ?_)
            · refine yT.aan (pc' := 89) (xg_ne (xg_ne (xg_ne g0 rfl) rfl) rfl) rfl rfl rfl ?_
              refine yT.kb (pc' := 91) rfl rfl (by decide) (fun x284 e285 => ?_)
              refine kI (yT.cc (G2 := 0) (pc' := 94) rfl rfl rfl hT278 o0 xM_153 (c153 hT278 K o0 x284) rfl (by decide) (by decide) rfl) (fun h286 x289 hT287 E288 => ?_)
              have e290 : x289 = x284 := by have e : some (Value.int x289) = some (.int x284) := E288; injection e with e; injection e
              have e291 : x289.toInt = (-3) := by first | (rw [e290]; done) | (rw [e290]; exact e285)
              exact yT.retI rfl rfl (qI hT287 trivial)
            · refine yT.aa_ (pc' := 77) (xg_ne xg_eq rfl) rfl rfl rfl ?_
              refine kZ (yT.cc (G2 := 0) (pc' := 80) rfl rfl rfl hT278 o135 xM_74 (c74 hT278 o135) rfl (by decide) (by decide) rfl) (fun h292 x295 hT293 E294 b296 => ?_)
              have i297 := b01i b296
              refine yT.if1 (t := 88) (pc' := 83) rfl rfl rfl (c1_ne rfl) (fun c298 => ?_) (fun c298 => ?_)
              · refine yT.aan (pc' := 89) (xg_ne (xg_ne (xg_ne g0 rfl) rfl) rfl) rfl rfl rfl ?_
                refine yT.kb (pc' := 91) rfl rfl (by decide) (fun x299 e300 => ?_)
                refine kI (yT.cc (G2 := 0) (pc' := 94) rfl rfl rfl hT293 o0 xM_153 (c153 hT293 K o0 x299) rfl (by decide) (by decide) rfl) (fun h301 x304 hT302 E303 => ?_)
                have e305 : x304 = x299 := by have e : some (Value.int x304) = some (.int x299) := E303; injection e with e; injection e
                have e306 : x304.toInt = (-3) := by first | (rw [e305]; done) | (rw [e305]; exact e300)
                exact yT.retI rfl rfl (qI hT302 trivial)
              · refine yT.il (pc' := 85) xg_eq rfl rfl ?_
                refine yT.if1 (t := 95) (pc' := 88) rfl rfl rfl (c1_eq e276) (fun c307 => by omega) (fun c307 => ?_)
                refine yT.aan (pc' := 89) (xg_ne (xg_ne (xg_ne g0 rfl) rfl) rfl) rfl rfl rfl ?_
                refine yT.kb (pc' := 91) rfl rfl (by decide) (fun x308 e309 => ?_)
                refine kI (yT.cc (G2 := 0) (pc' := 94) rfl rfl rfl hT293 o0 xM_153 (c153 hT293 K o0 x308) rfl (by decide) (by decide) rfl) (fun h310 x313 hT311 E312 => ?_)
                have e314 : x313 = x308 := by have e : some (Value.int x313) = some (.int x308) := E312; injection e with e; injection e
                have e315 : x313.toInt = (-3) := by first | (rw [e314]; done) | (rw [e314]; exact e309)
                exact yT.retI rfl rfl (qI hT311 trivial)
-- rX8_element
set_option maxRecDepth 100000 in
set_option maxHeartbeats 4000000 in
theorem c110 {ks : List cT} {σ : Nat → Nat → Int32} {ρ : Nat → xE} {h : List xE} (hT : HT ks σ ρ h) {B0 : Nat} (K : KE KS0 ks B0) {q0 : Nat} (o0 : xnth ks q0 = some (18, 0)) (x1 : Int32) (x2 : Int32) : yM 110 (1) 0 [.ref (q0 + 1), .int x1, .int x2] h (CQ ks σ ρ (2, 0, 0) yT0) := by
  refine yM.st xM_110 rfl rfl (fun lv g => ?_)
  have g0 := g 0 _ rfl
  have g1 := g 1 _ rfl
  have g2 := g 2 _ rfl
  refine yT.aan (pc' := 1) g0 rfl rfl rfl ?_
  refine yT.iln (pc' := 2) g1 rfl rfl ?_
  refine kN (yT.cc (G2 := 0) (pc' := 5) rfl rfl rfl hT o0 xM_156 (c156 hT K o0 x1) rfl (by decide) (by decide) rfl) (fun h101 hT102 E103 => ?_) (fun h101 q104 hT102 E103 o105 => ?_)
  · have i106 : ¬ (0 ≤ x1.toInt ∧ x1.toInt < 8) := (show _ ∨ _ from E103).elim (fun e => e.2) (fun e => absurd rfl e.1)
    refine yT.p (pc' := 6) (lv' := xst1 _ 3 (.null)) rfl rfl (fun _ _ _ _ => rfl) ?_
    refine yT.aan (pc' := 7) xg_eq rfl rfl rfl ?_
    refine yT.p (pc' := 10) rfl rfl (fun _ _ _ _ => rfl) ?_
    refine yT.fl (pc' := 11) rfl rfl (fun _ _ _ _ => rfl) (fun x107 => ?_)
    refine yT.p (pc' := 19) rfl rfl (fun _ _ _ _ => rfl) ?_
    exact yT.retL rfl rfl (qL hT102 trivial)
  · have i108 : 0 ≤ x1.toInt ∧ x1.toInt < 8 := (show _ ∨ _ from E103).elim (fun e => by cases e.1) (fun e => e.2)
    refine yT.p (pc' := 6) (lv' := xst1 _ 3 (.ref (q104 + 1))) rfl rfl (fun _ _ _ _ => rfl) ?_
    refine yT.aan (pc' := 7) xg_eq rfl rfl rfl ?_
    refine yT.p (pc' := 14) rfl rfl (fun _ _ _ _ => rfl) ?_
    refine yT.aan (pc' := 15) xg_eq rfl rfl rfl ?_
    refine yT.iln (pc' := 16) (xg_ne g2 rfl) rfl rfl ?_
    refine kL (yT.cc (G2 := 0) (pc' := 19) rfl rfl rfl hT102 o105 xM_80 (c80 hT102 o105 x2) rfl (by decide) (by decide) rfl) (fun h109 x112 hT110 E111 => ?_)
    exact yT.retL rfl rfl (qL hT110 trivial)
-- rX8_holds
set_option maxRecDepth 100000 in
set_option maxHeartbeats 4000000 in
theorem c111 {ks : List cT} {σ : Nat → Nat → Int32} {ρ : Nat → xE} {h : List xE} (hT : HT ks σ ρ h) {B0 : Nat} (K : KE KS0 ks B0) {q0 : Nat} (o0 : xnth ks q0 = some (18, 0)) (x1 : Int32) : yM 111 (1) 0 [.ref (q0 + 1), .int x1] h (CQ ks σ ρ (0, 0, 0) yT0) := by
  refine yM.st xM_111 rfl rfl (fun lv g => ?_)
  have g0 := g 0 _ rfl
  have g1 := g 1 _ rfl
  refine yT.aan (pc' := 1) g0 rfl rfl rfl ?_
  refine yT.iln (pc' := 2) g1 rfl rfl ?_
  refine kN (yT.cc (G2 := 0) (pc' := 5) rfl rfl rfl hT o0 xM_156 (c156 hT K o0 x1) rfl (by decide) (by decide) rfl) (fun h101 hT102 E103 => ?_) (fun h101 q104 hT102 E103 o105 => ?_)
  · have i106 : ¬ (0 ≤ x1.toInt ∧ x1.toInt < 8) := (show _ ∨ _ from E103).elim (fun e => e.2) (fun e => absurd rfl e.1)
    refine yT.p (pc' := 6) (lv' := xst1 _ 2 (.null)) rfl rfl (fun _ _ _ _ => rfl) ?_
    refine yT.aan (pc' := 7) xg_eq rfl rfl rfl ?_
    refine yT.p (pc' := 10) rfl rfl (fun _ _ _ _ => rfl) ?_
    refine yT.kI (pc' := 11) rfl rfl (by decide) (fun x107 e108 => ?_)
    refine yT.p (pc' := 18) rfl rfl (fun _ _ _ _ => rfl) ?_
    exact yT.retI rfl rfl (qI hT102 trivial)
  · have i109 : 0 ≤ x1.toInt ∧ x1.toInt < 8 := (show _ ∨ _ from E103).elim (fun e => by cases e.1) (fun e => e.2)
    refine yT.p (pc' := 6) (lv' := xst1 _ 2 (.ref (q104 + 1))) rfl rfl (fun _ _ _ _ => rfl) ?_
    refine yT.aan (pc' := 7) xg_eq rfl rfl rfl ?_
    refine yT.p (pc' := 14) rfl rfl (fun _ _ _ _ => rfl) ?_
    refine yT.aan (pc' := 15) xg_eq rfl rfl rfl ?_
    refine kI (yT.cc (G2 := 0) (pc' := 18) rfl rfl rfl hT102 o105 xM_72 (c72 hT102 o105) rfl (by decide) (by decide) rfl) (fun h110 x113 hT111 E112 => ?_)
    exact yT.retI rfl rfl (qI hT111 trivial)
-- rX8_show
set_option maxRecDepth 100000 in
set_option maxHeartbeats 4000000 in
theorem c112 {ks : List cT} {σ : Nat → Nat → Int32} {ρ : Nat → xE} {h : List xE} (hT : HT ks σ ρ h) {B0 : Nat} (K : KE KS0 ks B0) {q0 : Nat} (o0 : xnth ks q0 = some (18, 0)) (x1 : Int32) (x2 : Int32) : yM 112 (1) 0 [.ref (q0 + 1), .int x1, .int x2] h (CQ ks σ ρ (0, 0, 0) yT0) := by
  refine yM.st xM_112 rfl rfl (fun lv g => ?_)
  have g0 := g 0 _ rfl
  have g1 := g 1 _ rfl
  have g2 := g 2 _ rfl
  refine yT.aan (pc' := 1) g0 rfl rfl rfl ?_
  refine yT.iln (pc' := 2) g1 rfl rfl ?_
  refine kN (yT.cc (G2 := 0) (pc' := 5) rfl rfl rfl hT o0 xM_156 (c156 hT K o0 x1) rfl (by decide) (by decide) rfl) (fun h101 hT102 E103 => ?_) (fun h101 q104 hT102 E103 o105 => ?_)
  · have i106 : ¬ (0 ≤ x1.toInt ∧ x1.toInt < 8) := (show _ ∨ _ from E103).elim (fun e => e.2) (fun e => absurd rfl e.1)
    refine yT.p (pc' := 6) (lv' := xst1 _ 3 (.null)) rfl rfl (fun _ _ _ _ => rfl) ?_
    refine yT.aan (pc' := 7) xg_eq rfl rfl rfl ?_
    refine yT.p (pc' := 26) rfl rfl (fun _ _ _ _ => rfl) ?_
    refine yT.aan (pc' := 27) (xg_ne g0 rfl) rfl rfl rfl ?_
    refine yT.kb (pc' := 29) rfl rfl (by decide) (fun x107 e108 => ?_)
    refine kI (yT.cc (G2 := 0) (pc' := 32) rfl rfl rfl hT102 o0 xM_153 (c153 hT102 K o0 x107) rfl (by decide) (by decide) rfl) (fun h109 x112 hT110 E111 => ?_)
    have e113 : x112 = x107 := by have e : some (Value.int x112) = some (.int x107) := E111; injection e with e; injection e
    have e114 : x112.toInt = (-2) := by first | (rw [e113]; done) | (rw [e113]; exact e108)
    exact yT.retI rfl rfl (qI hT110 trivial)
  · have i115 : 0 ≤ x1.toInt ∧ x1.toInt < 8 := (show _ ∨ _ from E103).elim (fun e => by cases e.1) (fun e => e.2)
    refine yT.p (pc' := 6) (lv' := xst1 _ 3 (.ref (q104 + 1))) rfl rfl (fun _ _ _ _ => rfl) ?_
    refine yT.aan (pc' := 7) xg_eq rfl rfl rfl ?_
    refine yT.p (pc' := 10) rfl rfl (fun _ _ _ _ => rfl) ?_
    refine yT.iln (pc' := 11) (xg_ne g2 rfl) rfl rfl ?_
    refine yT.kI (pc' := 12) rfl rfl (by decide) (fun x116 e117 => ?_)
    refine yT.if2 (t := 33) (pc' := 15) rfl rfl rfl (c2_eq rfl e117) (fun c118 => ?_) (fun c118 => ?_)
    · refine yT.iln (pc' := 34) (xg_ne g2 rfl) rfl rfl ?_
      refine yT.kI (pc' := 35) rfl rfl (by decide) (fun x119 e120 => ?_)
      refine yT.if2 (t := 45) (pc' := 38) rfl rfl rfl (c2_ne rfl e120) (fun c121 => by omega) (fun c121 => ?_)
      refine yT.aan (pc' := 39) xg_eq rfl rfl rfl ?_
      refine kV (yT.cc (G2 := 0) (pc' := 42) rfl rfl rfl hT102 o105 xM_76 (c76 hT102 o105) rfl (by decide) (by decide) rfl) (fun h122 hT123 E124 => ?_)
      refine yT.p (pc' := 50) rfl rfl (fun _ _ _ _ => rfl) ?_
      refine yT.kI (pc' := 51) rfl rfl (by decide) (fun x125 e126 => ?_)
      exact yT.retI rfl rfl (qI hT123 trivial)
    · refine yT.aan (pc' := 16) (xg_ne g0 rfl) rfl rfl rfl ?_
      refine yT.cg8 (pc' := 19) rfl rfl hT102 o0 rfl rfl (fun w127 => ?_)
      refine yT.iln (pc' := 20) (xg_ne g2 rfl) rfl rfl ?_
      refine kN (yT.cc (G2 := 0) (pc' := 23) rfl rfl rfl hT102 (K.up rfl) xM_87 (c87 hT102 (K.up rfl) x2) rfl (by decide) (by decide) rfl) (fun h128 hT129 E130 => ?_) (fun h128 q131 hT129 E130 o132 => ?_)
      · refine yT.p (pc' := 26) rfl rfl (fun _ _ _ _ => rfl) ?_
        refine yT.aan (pc' := 27) (xg_ne g0 rfl) rfl rfl rfl ?_
        refine yT.kb (pc' := 29) rfl rfl (by decide) (fun x133 e134 => ?_)
        refine kI (yT.cc (G2 := 0) (pc' := 32) rfl rfl rfl hT129 o0 xM_153 (c153 hT129 K o0 x133) rfl (by decide) (by decide) rfl) (fun h135 x138 hT136 E137 => ?_)
        have e139 : x138 = x133 := by have e : some (Value.int x138) = some (.int x133) := E137; injection e with e; injection e
        have e140 : x138.toInt = (-2) := by first | (rw [e139]; done) | (rw [e139]; exact e134)
        exact yT.retI rfl rfl (qI hT136 trivial)
      · have i141 : 0 ≤ x2.toInt ∧ x2.toInt < 24 := (show _ ∨ _ from E130).elim (fun e => by cases e) id
        refine yT.p (pc' := 33) rfl rfl (fun _ _ _ _ => rfl) ?_
        refine yT.iln (pc' := 34) (xg_ne g2 rfl) rfl rfl ?_
        refine yT.kI (pc' := 35) rfl rfl (by decide) (fun x142 e143 => ?_)
        refine yT.if2 (t := 45) (pc' := 38) rfl rfl rfl (c2_ne rfl e143) (fun c144 => ?_) (fun c144 => by omega)
        refine yT.aan (pc' := 46) xg_eq rfl rfl rfl ?_
        refine yT.iln (pc' := 47) (xg_ne g2 rfl) rfl rfl ?_
        refine kV (yT.cc (G2 := 0) (pc' := 50) rfl rfl rfl hT129 o105 xM_77 (c77 hT129 o105 x2) rfl (by decide) (by decide) rfl) (fun h145 hT146 E147 => ?_)
        refine yT.kI (pc' := 51) rfl rfl (by decide) (fun x148 e149 => ?_)
        exact yT.retI rfl rfl (qI hT146 trivial)
-- rJ6_bitCount_0f7a4
set_option maxRecDepth 100000 in
set_option maxHeartbeats 4000000 in
theorem c272 {ks : List cT} {σ : Nat → Nat → Int32} {ρ : Nat → xE} {h : List xE} (hT : HT ks σ ρ h) (x0 : Int32) : yM 272 (0) 0 [.int x0] h (CQ ks σ ρ (0, 0, 0) yT0) := by
  refine yM.st xM_272 rfl rfl (fun lv g => ?_)
  have g0 := g 0 _ rfl
  refine yT.iln (pc' := 1) g0 rfl rfl ?_
  refine yT.iln (pc' := 2) g0 rfl rfl ?_
  refine yT.kI (pc' := 3) rfl rfl (by decide) (fun x101 e102 => ?_)
  refine yT.fi (pc' := 4) rfl rfl (fun _ _ _ _ => rfl) (fun x103 => ?_)
  refine yT.fi (pc' := 7) rfl rfl (fun _ _ _ _ => rfl) (fun x104 => ?_)
  refine yT.fi (pc' := 8) rfl rfl (fun _ _ _ _ => rfl) (fun x105 => ?_)
  refine yT.fi (pc' := 9) rfl rfl (fun _ _ _ _ => rfl) (fun x106 => ?_)
  refine yT.p (pc' := 10) (lv' := xst1 _ 0 (.int x106)) rfl rfl (fun _ _ _ _ => rfl) ?_
  refine yT.iln (pc' := 11) xg_eq rfl rfl ?_
  refine yT.fi (pc' := 14) rfl rfl (fun _ _ _ _ => rfl) (fun x107 => ?_)
  refine yT.fi (pc' := 15) rfl rfl (fun _ _ _ _ => rfl) (fun x108 => ?_)
  refine yT.iln (pc' := 16) xg_eq rfl rfl ?_
  refine yT.kI (pc' := 17) rfl rfl (by decide) (fun x109 e110 => ?_)
  refine yT.fi (pc' := 18) rfl rfl (fun _ _ _ _ => rfl) (fun x111 => ?_)
  refine yT.fi (pc' := 21) rfl rfl (fun _ _ _ _ => rfl) (fun x112 => ?_)
  refine yT.fi (pc' := 22) rfl rfl (fun _ _ _ _ => rfl) (fun x113 => ?_)
  refine yT.fi (pc' := 23) rfl rfl (fun _ _ _ _ => rfl) (fun x114 => ?_)
  refine yT.p (pc' := 24) (lv' := xst1 _ 0 (.int x114)) rfl rfl (fun _ _ _ _ => rfl) ?_
  refine yT.iln (pc' := 25) xg_eq rfl rfl ?_
  refine yT.iln (pc' := 26) xg_eq rfl rfl ?_
  refine yT.kI (pc' := 27) rfl rfl (by decide) (fun x115 e116 => ?_)
  refine yT.fi (pc' := 28) rfl rfl (fun _ _ _ _ => rfl) (fun x117 => ?_)
  refine yT.fi (pc' := 29) rfl rfl (fun _ _ _ _ => rfl) (fun x118 => ?_)
  refine yT.fi (pc' := 32) rfl rfl (fun _ _ _ _ => rfl) (fun x119 => ?_)
  refine yT.fi (pc' := 33) rfl rfl (fun _ _ _ _ => rfl) (fun x120 => ?_)
  refine yT.p (pc' := 34) (lv' := xst1 _ 0 (.int x120)) rfl rfl (fun _ _ _ _ => rfl) ?_
  refine yT.iln (pc' := 35) xg_eq rfl rfl ?_
  refine yT.iln (pc' := 36) xg_eq rfl rfl ?_
  refine yT.kb (pc' := 38) rfl rfl (by decide) (fun x121 e122 => ?_)
  refine yT.fi (pc' := 39) rfl rfl (fun _ _ _ _ => rfl) (fun x123 => ?_)
  refine yT.fi (pc' := 40) rfl rfl (fun _ _ _ _ => rfl) (fun x124 => ?_)
  refine yT.p (pc' := 41) (lv' := xst1 _ 0 (.int x124)) rfl rfl (fun _ _ _ _ => rfl) ?_
  refine yT.iln (pc' := 42) xg_eq rfl rfl ?_
  refine yT.iln (pc' := 43) xg_eq rfl rfl ?_
  refine yT.kb (pc' := 45) rfl rfl (by decide) (fun x125 e126 => ?_)
  refine yT.fi (pc' := 46) rfl rfl (fun _ _ _ _ => rfl) (fun x127 => ?_)
  refine yT.fi (pc' := 47) rfl rfl (fun _ _ _ _ => rfl) (fun x128 => ?_)
  refine yT.p (pc' := 48) (lv' := xst1 _ 0 (.int x128)) rfl rfl (fun _ _ _ _ => rfl) ?_
  refine yT.iln (pc' := 49) xg_eq rfl rfl ?_
  refine yT.kb (pc' := 51) rfl rfl (by decide) (fun x129 e130 => ?_)
  refine yT.fi (pc' := 52) rfl rfl (fun _ _ _ _ => rfl) (fun x131 => ?_)
  exact yT.retI rfl rfl (qI hT trivial)
-- rX8_saidBy
set_option maxRecDepth 100000 in
set_option maxHeartbeats 4000000 in
theorem c114 {ks : List cT} {σ : Nat → Nat → Int32} {ρ : Nat → xE} {h : List xE} (hT : HT ks σ ρ h) {B0 : Nat} (K : KE KS0 ks B0) {q0 : Nat} (o0 : xnth ks q0 = some (18, 0)) {q1 : Nat} (o1 : xnth ks q1 = some (11, 0)) (x2 : Int32) (x3 : Int32) : yM 114 (1) 0 [.ref (q0 + 1), .ref (q1 + 1), .int x2, .int x3] h (CQ ks σ ρ (0, 0, 0) yT0) := by
  refine yM.st xM_114 rfl rfl (fun lv g => ?_)
  have g0 := g 0 _ rfl
  have g1 := g 1 _ rfl
  have g2 := g 2 _ rfl
  have g3 := g 3 _ rfl
  refine yT.iln (pc' := 1) g3 rfl rfl ?_
  by_cases c101 : x3.toInt = 1
  · refine yT.tswK 0 (t := 36) rfl rfl (by omega) rfl rfl ?_
    refine yT.aan (pc' := 37) g1 rfl rfl rfl ?_
    refine yT.cgL (pc' := 40) rfl rfl hT o1 rfl rfl (fun x103 w102 => ?_)
    refine yT.fi (pc' := 41) rfl rfl (fun _ _ _ _ => rfl) (fun x104 => ?_)
    exact yT.retI rfl rfl (qI hT trivial)
  · by_cases c105 : x3.toInt = 2
    · refine yT.tswK 1 (t := 42) rfl rfl (by omega) rfl rfl ?_
      refine yT.aan (pc' := 43) g1 rfl rfl rfl ?_
      refine yT.cgR (pc' := 46) rfl rfl hT o1 rfl rfl (fun q107 w106 o108 => ?_)
      refine kS (yT.cc (G2 := 0) (pc' := 49) rfl rfl rfl hT o108 xM_44 (c44 hT o108 (by decide)) rfl (by decide) (by decide) rfl) (fun h109 x112 hT110 E111 i113 i114 => ?_)
      exact yT.retI rfl rfl (qI hT110 trivial)
    · by_cases c115 : x3.toInt = 3
      · refine yT.tswK 2 (t := 36) rfl rfl (by omega) rfl rfl ?_
        refine yT.aan (pc' := 37) g1 rfl rfl rfl ?_
        refine yT.cgL (pc' := 40) rfl rfl hT o1 rfl rfl (fun x117 w116 => ?_)
        refine yT.fi (pc' := 41) rfl rfl (fun _ _ _ _ => rfl) (fun x118 => ?_)
        exact yT.retI rfl rfl (qI hT trivial)
      · by_cases c119 : x3.toInt = 4
        · refine yT.tswK 3 (t := 50) rfl rfl (by omega) rfl rfl ?_
          refine yT.aan (pc' := 51) g1 rfl rfl rfl ?_
          refine yT.cgI (pc' := 54) rfl rfl hT o1 rfl rfl (fun x121 w120 => ?_)
          exact yT.retI rfl rfl (qI hT trivial)
        · by_cases c122 : x3.toInt = 5
          · refine yT.tswK 4 (t := 55) rfl rfl (by omega) rfl rfl ?_
            refine yT.aan (pc' := 56) g0 rfl rfl rfl ?_
            refine yT.cg8 (pc' := 59) rfl rfl hT o0 rfl rfl (fun w123 => ?_)
            refine yT.iln (pc' := 60) g2 rfl rfl ?_
            refine kI (yT.cc (G2 := 0) (pc' := 63) rfl rfl rfl hT (K.up rfl) xM_92 (c92 hT (K.up rfl) x2) rfl (by decide) (by decide) rfl) (fun h124 x127 hT125 E126 => ?_)
            refine kI (yT.cst (G2 := 0) (pc' := 66) rfl rfl xM_272 (c272 hT125 x127) rfl (by decide) (by decide) rfl) (fun h128 x131 hT129 E130 => ?_)
            exact yT.retI rfl rfl (qI hT129 trivial)
          · refine yT.tswD (t := 67) rfl rfl rfl (by omega) ?_
            refine yT.aan (pc' := 68) g1 rfl rfl rfl ?_
            refine yT.cgI (pc' := 71) rfl rfl hT o1 rfl rfl (fun x133 w132 => ?_)
            exact yT.retI rfl rfl (qI hT trivial)
-- rX8_says
set_option maxRecDepth 100000 in
set_option maxHeartbeats 4000000 in
theorem c113 {ks : List cT} {σ : Nat → Nat → Int32} {ρ : Nat → xE} {h : List xE} (hT : HT ks σ ρ h) {B0 : Nat} (K : KE KS0 ks B0) {q0 : Nat} (o0 : xnth ks q0 = some (18, 0)) (x1 : Int32) (x2 : Int32) : yM 113 (2) 0 [.ref (q0 + 1), .int x1, .int x2] h (CQ ks σ ρ (0, 0, 0) yT0) := by
  refine yM.st xM_113 rfl rfl (fun lv g => ?_)
  have g0 := g 0 _ rfl
  have g1 := g 1 _ rfl
  have g2 := g 2 _ rfl
  refine yT.aan (pc' := 1) g0 rfl rfl rfl ?_
  refine yT.iln (pc' := 2) g1 rfl rfl ?_
  refine kN (yT.cc (G2 := 0) (pc' := 5) rfl rfl rfl hT o0 xM_156 (c156 hT K o0 x1) rfl (by decide) (by decide) rfl) (fun h101 hT102 E103 => ?_) (fun h101 q104 hT102 E103 o105 => ?_)
  · have i106 : ¬ (0 ≤ x1.toInt ∧ x1.toInt < 8) := (show _ ∨ _ from E103).elim (fun e => e.2) (fun e => absurd rfl e.1)
    refine yT.p (pc' := 6) (lv' := xst1 _ 3 (.null)) rfl rfl (fun _ _ _ _ => rfl) ?_
    refine yT.aan (pc' := 7) xg_eq rfl rfl rfl ?_
    refine yT.p (pc' := 19) rfl rfl (fun _ _ _ _ => rfl) ?_
    refine yT.aan (pc' := 20) (xg_ne g0 rfl) rfl rfl rfl ?_
    refine yT.kb (pc' := 22) rfl rfl (by decide) (fun x107 e108 => ?_)
    refine kI (yT.cc (G2 := 0) (pc' := 25) rfl rfl rfl hT102 o0 xM_153 (c153 hT102 K o0 x107) rfl (by decide) (by decide) rfl) (fun h109 x112 hT110 E111 => ?_)
    have e113 : x112 = x107 := by have e : some (Value.int x112) = some (.int x107) := E111; injection e with e; injection e
    have e114 : x112.toInt = (-2) := by first | (rw [e113]; done) | (rw [e113]; exact e108)
    exact yT.retI rfl rfl (qI hT110 trivial)
  · have i115 : 0 ≤ x1.toInt ∧ x1.toInt < 8 := (show _ ∨ _ from E103).elim (fun e => by cases e.1) (fun e => e.2)
    refine yT.p (pc' := 6) (lv' := xst1 _ 3 (.ref (q104 + 1))) rfl rfl (fun _ _ _ _ => rfl) ?_
    refine yT.aan (pc' := 7) xg_eq rfl rfl rfl ?_
    refine yT.p (pc' := 10) rfl rfl (fun _ _ _ _ => rfl) ?_
    refine yT.iln (pc' := 11) (xg_ne g2 rfl) rfl rfl ?_
    refine yT.if1 (t := 19) (pc' := 14) rfl rfl rfl (c1_lt rfl) (fun c116 => ?_) (fun c116 => ?_)
    · refine yT.aan (pc' := 20) (xg_ne g0 rfl) rfl rfl rfl ?_
      refine yT.kb (pc' := 22) rfl rfl (by decide) (fun x117 e118 => ?_)
      refine kI (yT.cc (G2 := 0) (pc' := 25) rfl rfl rfl hT102 o0 xM_153 (c153 hT102 K o0 x117) rfl (by decide) (by decide) rfl) (fun h119 x122 hT120 E121 => ?_)
      have e123 : x122 = x117 := by have e : some (Value.int x122) = some (.int x117) := E121; injection e with e; injection e
      have e124 : x122.toInt = (-2) := by first | (rw [e123]; done) | (rw [e123]; exact e118)
      exact yT.retI rfl rfl (qI hT120 trivial)
    · refine yT.iln (pc' := 15) (xg_ne g2 rfl) rfl rfl ?_
      refine yT.kI (pc' := 16) rfl rfl (by decide) (fun x125 e126 => ?_)
      refine yT.if2 (t := 26) (pc' := 19) rfl rfl rfl (c2_le rfl e126) (fun c127 => ?_) (fun c127 => ?_)
      · refine yT.aan (pc' := 27) xg_eq rfl rfl rfl ?_
        refine kZ (yT.cc (G2 := 0) (pc' := 30) rfl rfl rfl hT102 o105 xM_73 (c73 hT102 o105) rfl (by decide) (by decide) rfl) (fun h128 x131 hT129 E130 b132 => ?_)
        have i133 := b01i b132
        refine yT.if1 (t := 40) (pc' := 33) rfl rfl rfl (c1_eq rfl) (fun c134 => ?_) (fun c134 => ?_)
        · refine yT.aan (pc' := 41) xg_eq rfl rfl rfl ?_
          refine kZ (yT.cc (G2 := 0) (pc' := 44) rfl rfl rfl hT129 o105 xM_74 (c74 hT129 o105) rfl (by decide) (by decide) rfl) (fun h135 x138 hT136 E137 b139 => ?_)
          have i140 := b01i b139
          refine yT.if1 (t := 54) (pc' := 47) rfl rfl rfl (c1_ne rfl) (fun c141 => ?_) (fun c141 => ?_)
          · refine yT.aan (pc' := 55) (xg_ne g0 rfl) rfl rfl rfl ?_
            refine yT.cg8 (pc' := 58) rfl rfl hT136 o0 rfl rfl (fun w142 => ?_)
            refine yT.aan (pc' := 59) xg_eq rfl rfl rfl ?_
            refine kI (yT.cc (G2 := 0) (pc' := 62) rfl rfl rfl hT136 o105 xM_75 (c75 hT136 o105) rfl (by decide) (by decide) rfl) (fun h143 x146 hT144 E145 => ?_)
            refine kN (yT.cc (G2 := 0) (pc' := 65) rfl rfl rfl hT144 (K.up rfl) xM_87 (c87 hT144 (K.up rfl) x146) rfl (by decide) (by decide) rfl) (fun h147 hT148 E149 => ?_) (fun h147 q150 hT148 E149 o151 => ?_)
            · refine yT.p (pc' := 67) (lv' := xst1 _ 4 (.null)) rfl rfl (fun _ _ _ _ => rfl) ?_
              refine yT.aa_ (pc' := 69) xg_eq rfl rfl rfl ?_
              refine yT.p (pc' := 81) rfl rfl (fun _ _ _ _ => rfl) ?_
              refine yT.aan (pc' := 82) (xg_ne (xg_ne g0 rfl) rfl) rfl rfl rfl ?_
              refine yT.kb (pc' := 84) rfl rfl (by decide) (fun x152 e153 => ?_)
              refine kI (yT.cc (G2 := 0) (pc' := 87) rfl rfl rfl hT148 o0 xM_153 (c153 hT148 K o0 x152) rfl (by decide) (by decide) rfl) (fun h154 x157 hT155 E156 => ?_)
              have e158 : x157 = x152 := by have e : some (Value.int x157) = some (.int x152) := E156; injection e with e; injection e
              have e159 : x157.toInt = (-3) := by first | (rw [e158]; done) | (rw [e158]; exact e153)
              exact yT.retI rfl rfl (qI hT155 trivial)
            · have i160 : 0 ≤ x146.toInt ∧ x146.toInt < 24 := (show _ ∨ _ from E149).elim (fun e => by cases e) id
              refine yT.p (pc' := 67) (lv' := xst1 _ 4 (.ref (q150 + 1))) rfl rfl (fun _ _ _ _ => rfl) ?_
              refine yT.aa_ (pc' := 69) xg_eq rfl rfl rfl ?_
              refine yT.p (pc' := 72) rfl rfl (fun _ _ _ _ => rfl) ?_
              refine yT.aa_ (pc' := 74) xg_eq rfl rfl rfl ?_
              refine yT.iln (pc' := 75) (xg_ne (xg_ne g2 rfl) rfl) rfl rfl ?_
              refine kZ (yT.cc (G2 := 0) (pc' := 78) rfl rfl rfl hT148 o151 xM_8 (c8 hT148 o151 x2) rfl (by decide) (by decide) rfl) (fun h161 x164 hT162 E163 b165 => ?_)
              have i166 := b01i b165
              refine yT.if1 (t := 88) (pc' := 81) rfl rfl rfl (c1_ne rfl) (fun c167 => ?_) (fun c167 => ?_)
              · refine yT.aan (pc' := 89) (xg_ne (xg_ne g0 rfl) rfl) rfl rfl rfl ?_
                refine yT.aa_ (pc' := 91) xg_eq rfl rfl rfl ?_
                refine yT.aan (pc' := 92) (xg_ne xg_eq rfl) rfl rfl rfl ?_
                refine kI (yT.cc (G2 := 0) (pc' := 95) rfl rfl rfl hT162 o105 xM_75 (c75 hT162 o105) rfl (by decide) (by decide) rfl) (fun h168 x171 hT169 E170 => ?_)
                refine yT.iln (pc' := 96) (xg_ne (xg_ne g2 rfl) rfl) rfl rfl ?_
                refine kI (yT.cc (G2 := 0) (pc' := 99) rfl rfl rfl hT169 o0 xM_114 (c114 hT169 K o0 o151 x171 x2) rfl (by decide) (by decide) rfl) (fun h172 x175 hT173 E174 => ?_)
                exact yT.retI rfl rfl (qI hT173 trivial)
              · refine yT.aan (pc' := 82) (xg_ne (xg_ne g0 rfl) rfl) rfl rfl rfl ?_
                refine yT.kb (pc' := 84) rfl rfl (by decide) (fun x176 e177 => ?_)
                refine kI (yT.cc (G2 := 0) (pc' := 87) rfl rfl rfl hT162 o0 xM_153 (c153 hT162 K o0 x176) rfl (by decide) (by decide) rfl) (fun h178 x181 hT179 E180 => ?_)
                have e182 : x181 = x176 := by have e : some (Value.int x181) = some (.int x176) := E180; injection e with e; injection e
                have e183 : x181.toInt = (-3) := by first | (rw [e182]; done) | (rw [e182]; exact e177)
                exact yT.retI rfl rfl (qI hT179 trivial)
          · refine yT.aan (pc' := 48) (xg_ne g0 rfl) rfl rfl rfl ?_
            refine yT.kb (pc' := 50) rfl rfl (by decide) (fun x184 e185 => ?_)
            refine kI (yT.cc (G2 := 0) (pc' := 53) rfl rfl rfl hT136 o0 xM_153 (c153 hT136 K o0 x184) rfl (by decide) (by decide) rfl) (fun h186 x189 hT187 E188 => ?_)
            have e190 : x189 = x184 := by have e : some (Value.int x189) = some (.int x184) := E188; injection e with e; injection e
            have e191 : x189.toInt = (-4) := by first | (rw [e190]; done) | (rw [e190]; exact e185)
            exact yT.retI rfl rfl (qI hT187 trivial)
        · refine yT.aan (pc' := 34) (xg_ne g0 rfl) rfl rfl rfl ?_
          refine yT.kb (pc' := 36) rfl rfl (by decide) (fun x192 e193 => ?_)
          refine kI (yT.cc (G2 := 0) (pc' := 39) rfl rfl rfl hT129 o0 xM_153 (c153 hT129 K o0 x192) rfl (by decide) (by decide) rfl) (fun h194 x197 hT195 E196 => ?_)
          have e198 : x197 = x192 := by have e : some (Value.int x197) = some (.int x192) := E196; injection e with e; injection e
          have e199 : x197.toInt = (-3) := by first | (rw [e198]; done) | (rw [e198]; exact e193)
          exact yT.retI rfl rfl (qI hT195 trivial)
      · refine yT.aan (pc' := 20) (xg_ne g0 rfl) rfl rfl rfl ?_
        refine yT.kb (pc' := 22) rfl rfl (by decide) (fun x200 e201 => ?_)
        refine kI (yT.cc (G2 := 0) (pc' := 25) rfl rfl rfl hT102 o0 xM_153 (c153 hT102 K o0 x200) rfl (by decide) (by decide) rfl) (fun h202 x205 hT203 E204 => ?_)
        have e206 : x205 = x200 := by have e : some (Value.int x205) = some (.int x200) := E204; injection e with e; injection e
        have e207 : x205.toInt = (-2) := by first | (rw [e206]; done) | (rw [e206]; exact e201)
        exact yT.retI rfl rfl (qI hT203 trivial)
-- rX8_write
set_option maxRecDepth 100000 in
set_option maxHeartbeats 4000000 in
theorem c125 {ks : List cT} {σ : Nat → Nat → Int32} {ρ : Nat → xE} {h : List xE} (hT : HT ks σ ρ h) {B0 : Nat} (K : KE KS0 ks B0) {q0 : Nat} (o0 : xnth ks q0 = some (18, 0)) (x1 : Int32) (x2 : Int32) : yM 125 (402) 0 [.ref (q0 + 1), .int x1, .int x2] h (CQ ks σ ρ (0, 0, 0) yT0) := by
  refine yM.st xM_125 rfl rfl (fun lv g => ?_)
  have g0 := g 0 _ rfl
  have g1 := g 1 _ rfl
  have g2 := g 2 _ rfl
  refine yT.aan (pc' := 1) g0 rfl rfl rfl ?_
  refine yT.cg8 (pc' := 4) rfl rfl hT o0 rfl rfl (fun w101 => ?_)
  refine yT.iln (pc' := 5) g1 rfl rfl ?_
  refine kN (yT.cc (G2 := 0) (pc' := 8) rfl rfl rfl hT (K.up rfl) xM_87 (c87 hT (K.up rfl) x1) rfl (by decide) (by decide) rfl) (fun h102 hT103 E104 => ?_) (fun h102 q105 hT103 E104 o106 => ?_)
  · refine yT.p (pc' := 9) (lv' := xst1 _ 3 (.null)) rfl rfl (fun _ _ _ _ => rfl) ?_
    refine yT.aan (pc' := 10) xg_eq rfl rfl rfl ?_
    refine yT.p (pc' := 21) rfl rfl (fun _ _ _ _ => rfl) ?_
    refine yT.aan (pc' := 22) (xg_ne g0 rfl) rfl rfl rfl ?_
    refine yT.kb (pc' := 24) rfl rfl (by decide) (fun x107 e108 => ?_)
    refine kI (yT.cc (G2 := 0) (pc' := 27) rfl rfl rfl hT103 o0 xM_153 (c153 hT103 K o0 x107) rfl (by decide) (by decide) rfl) (fun h109 x112 hT110 E111 => ?_)
    have e113 : x112 = x107 := by have e : some (Value.int x112) = some (.int x107) := E111; injection e with e; injection e
    have e114 : x112.toInt = (-2) := by first | (rw [e113]; done) | (rw [e113]; exact e108)
    exact yT.retI rfl rfl (qI hT110 trivial)
  · have i115 : 0 ≤ x1.toInt ∧ x1.toInt < 24 := (show _ ∨ _ from E104).elim (fun e => by cases e) id
    refine yT.p (pc' := 9) (lv' := xst1 _ 3 (.ref (q105 + 1))) rfl rfl (fun _ _ _ _ => rfl) ?_
    refine yT.aan (pc' := 10) xg_eq rfl rfl rfl ?_
    refine yT.p (pc' := 13) rfl rfl (fun _ _ _ _ => rfl) ?_
    refine yT.aan (pc' := 14) xg_eq rfl rfl rfl ?_
    refine yT.cgI (pc' := 17) rfl rfl hT103 o106 rfl rfl (fun x117 w116 => ?_)
    refine yT.kI (pc' := 18) rfl rfl (by decide) (fun x118 e119 => ?_)
    refine yT.if2 (t := 28) (pc' := 21) rfl rfl rfl (c2_eq rfl e119) (fun c120 => ?_) (fun c120 => ?_)
    · refine yT.aan (pc' := 29) xg_eq rfl rfl rfl ?_
      refine yT.cgZ (pc' := 32) rfl rfl hT103 o106 rfl rfl (fun x122 w121 b123 => ?_)
      have i124 := b01i b123
      refine yT.if1 (t := 42) (pc' := 35) rfl rfl rfl (c1_eq rfl) (fun c125 => ?_) (fun c125 => ?_)
      · refine yT.aan (pc' := 43) (xg_ne g0 rfl) rfl rfl rfl ?_
        refine yT.cgR (pc' := 46) rfl rfl hT103 o0 rfl rfl (fun q127 w126 o128 => ?_)
        refine yT.iln (pc' := 47) (xg_ne g1 rfl) rfl rfl ?_
        refine yT.iln (pc' := 48) (xg_ne g2 rfl) rfl rfl ?_
        refine kZ (yT.cc (G2 := 0) (pc' := 51) rfl rfl rfl hT103 o128 xM_61 (c61 hT103 o128 x1 x2) rfl (by decide) (by decide) rfl) (fun h129 x132 hT130 E131 b133 => ?_)
        have i134 := b01i b133
        refine yT.p (pc' := 52) rfl rfl (fun _ _ _ _ => rfl) ?_
        refine yT.aan (pc' := 53) (xg_ne g0 rfl) rfl rfl rfl ?_
        refine yT.cgR (pc' := 56) rfl rfl hT130 o0 rfl rfl (fun q136 w135 o137 => ?_)
        refine kV (yT.cc (G2 := 0) (pc' := 59) rfl rfl rfl hT130 o137 xM_60 (c60 hT130 o137) rfl (by decide) (by decide) rfl) (fun h138 hT139 E140 => ?_)
        refine yT.aan (pc' := 60) xg_eq rfl rfl rfl ?_
        refine yT.cgL (pc' := 63) rfl rfl hT139 o106 rfl rfl (fun x142 w141 => ?_)
        refine yT.fi (pc' := 64) rfl rfl (fun _ _ _ _ => rfl) (fun x143 => ?_)
        exact yT.retI rfl rfl (qI hT139 trivial)
      · refine yT.aan (pc' := 36) (xg_ne g0 rfl) rfl rfl rfl ?_
        refine yT.kb (pc' := 38) rfl rfl (by decide) (fun x144 e145 => ?_)
        refine kI (yT.cc (G2 := 0) (pc' := 41) rfl rfl rfl hT103 o0 xM_153 (c153 hT103 K o0 x144) rfl (by decide) (by decide) rfl) (fun h146 x149 hT147 E148 => ?_)
        have e150 : x149 = x144 := by have e : some (Value.int x149) = some (.int x144) := E148; injection e with e; injection e
        have e151 : x149.toInt = (-5) := by first | (rw [e150]; done) | (rw [e150]; exact e145)
        exact yT.retI rfl rfl (qI hT147 trivial)
    · refine yT.aan (pc' := 22) (xg_ne g0 rfl) rfl rfl rfl ?_
      refine yT.kb (pc' := 24) rfl rfl (by decide) (fun x152 e153 => ?_)
      refine kI (yT.cc (G2 := 0) (pc' := 27) rfl rfl rfl hT103 o0 xM_153 (c153 hT103 K o0 x152) rfl (by decide) (by decide) rfl) (fun h154 x157 hT155 E156 => ?_)
      have e158 : x157 = x152 := by have e : some (Value.int x157) = some (.int x152) := E156; injection e with e; injection e
      have e159 : x157.toInt = (-2) := by first | (rw [e158]; done) | (rw [e158]; exact e153)
      exact yT.retI rfl rfl (qI hT155 trivial)
-- rX8_dispose
set_option maxRecDepth 100000 in
set_option maxHeartbeats 4000000 in
theorem c128 {ks : List cT} {σ : Nat → Nat → Int32} {ρ : Nat → xE} {h : List xE} (hT : HT ks σ ρ h) {B0 : Nat} (K : KE KS0 ks B0) {q0 : Nat} (o0 : xnth ks q0 = some (18, 0)) (x1 : Int32) : yM 128 (402) 0 [.ref (q0 + 1), .int x1] h (CQ ks σ ρ (0, 0, 0) yT0) := by
  refine yM.st xM_128 rfl rfl (fun lv g => ?_)
  have g0 := g 0 _ rfl
  have g1 := g 1 _ rfl
  refine yT.aan (pc' := 1) g0 rfl rfl rfl ?_
  refine yT.cg8 (pc' := 4) rfl rfl hT o0 rfl rfl (fun w101 => ?_)
  refine yT.iln (pc' := 5) g1 rfl rfl ?_
  refine kN (yT.cc (G2 := 0) (pc' := 8) rfl rfl rfl hT (K.up rfl) xM_87 (c87 hT (K.up rfl) x1) rfl (by decide) (by decide) rfl) (fun h102 hT103 E104 => ?_) (fun h102 q105 hT103 E104 o106 => ?_)
  · refine yT.p (pc' := 9) (lv' := xst1 _ 2 (.null)) rfl rfl (fun _ _ _ _ => rfl) ?_
    refine yT.aan (pc' := 10) xg_eq rfl rfl rfl ?_
    refine yT.p (pc' := 13) rfl rfl (fun _ _ _ _ => rfl) ?_
    refine yT.aan (pc' := 14) (xg_ne g0 rfl) rfl rfl rfl ?_
    refine yT.kb (pc' := 16) rfl rfl (by decide) (fun x107 e108 => ?_)
    refine kI (yT.cc (G2 := 0) (pc' := 19) rfl rfl rfl hT103 o0 xM_153 (c153 hT103 K o0 x107) rfl (by decide) (by decide) rfl) (fun h109 x112 hT110 E111 => ?_)
    have e113 : x112 = x107 := by have e : some (Value.int x112) = some (.int x107) := E111; injection e with e; injection e
    have e114 : x112.toInt = (-2) := by first | (rw [e113]; done) | (rw [e113]; exact e108)
    exact yT.retI rfl rfl (qI hT110 trivial)
  · have i115 : 0 ≤ x1.toInt ∧ x1.toInt < 24 := (show _ ∨ _ from E104).elim (fun e => by cases e) id
    refine yT.p (pc' := 9) (lv' := xst1 _ 2 (.ref (q105 + 1))) rfl rfl (fun _ _ _ _ => rfl) ?_
    refine yT.aan (pc' := 10) xg_eq rfl rfl rfl ?_
    refine yT.p (pc' := 20) rfl rfl (fun _ _ _ _ => rfl) ?_
    refine yT.aan (pc' := 21) xg_eq rfl rfl rfl ?_
    refine yT.cgZ (pc' := 24) rfl rfl hT103 o106 rfl rfl (fun x117 w116 b118 => ?_)
    have i119 := b01i b118
    refine yT.if1 (t := 34) (pc' := 27) rfl rfl rfl (c1_eq rfl) (fun c120 => ?_) (fun c120 => ?_)
    · refine yT.aan (pc' := 35) (xg_ne g0 rfl) rfl rfl rfl ?_
      refine yT.cg8 (pc' := 38) rfl rfl hT103 o0 rfl rfl (fun w121 => ?_)
      refine kI (yT.cc (G2 := 0) (pc' := 41) rfl rfl rfl hT103 (K.up rfl) xM_98 (c98 hT103 (K.up rfl)) rfl (by decide) (by decide) rfl) (fun h122 x125 hT123 E124 => ?_)
      refine yT.p (pc' := 42) (lv' := xst1 _ 3 (.int x125)) rfl rfl (fun _ _ _ _ => rfl) ?_
      refine yT.aan (pc' := 43) (xg_ne (xg_ne g0 rfl) rfl) rfl rfl rfl ?_
      refine yT.cgR (pc' := 46) rfl rfl hT123 o0 rfl rfl (fun q127 w126 o128 => ?_)
      refine yT.iln (pc' := 47) (xg_ne (xg_ne g1 rfl) rfl) rfl rfl ?_
      refine kV (yT.cc (G2 := 0) (pc' := 50) rfl rfl rfl hT123 o128 xM_63 (c63 hT123 o128 x1) rfl (by decide) (by decide) rfl) (fun h129 hT130 E131 => ?_)
      refine yT.aan (pc' := 51) (xg_ne (xg_ne g0 rfl) rfl) rfl rfl rfl ?_
      refine yT.cgR (pc' := 54) rfl rfl hT130 o0 rfl rfl (fun q133 w132 o134 => ?_)
      refine kV (yT.cc (G2 := 0) (pc' := 57) rfl rfl rfl hT130 o134 xM_60 (c60 hT130 o134) rfl (by decide) (by decide) rfl) (fun h135 hT136 E137 => ?_)
      refine yT.aan (pc' := 58) (xg_ne (xg_ne g0 rfl) rfl) rfl rfl rfl ?_
      refine yT.cg8 (pc' := 61) rfl rfl hT136 o0 rfl rfl (fun w138 => ?_)
      refine kI (yT.cc (G2 := 0) (pc' := 64) rfl rfl rfl hT136 (K.up rfl) xM_98 (c98 hT136 (K.up rfl)) rfl (by decide) (by decide) rfl) (fun h139 x142 hT140 E141 => ?_)
      refine yT.iln (pc' := 65) xg_eq rfl rfl ?_
      refine yT.fi (pc' := 66) rfl rfl (fun _ _ _ _ => rfl) (fun x143 => ?_)
      exact yT.retI rfl rfl (qI hT140 trivial)
    · refine yT.aan (pc' := 28) (xg_ne g0 rfl) rfl rfl rfl ?_
      refine yT.kb (pc' := 30) rfl rfl (by decide) (fun x144 e145 => ?_)
      refine kI (yT.cc (G2 := 0) (pc' := 33) rfl rfl rfl hT103 o0 xM_153 (c153 hT103 K o0 x144) rfl (by decide) (by decide) rfl) (fun h146 x149 hT147 E148 => ?_)
      have e150 : x149 = x144 := by have e : some (Value.int x149) = some (.int x144) := E148; injection e with e; injection e
      have e151 : x149.toInt = (-5) := by first | (rw [e150]; done) | (rw [e150]; exact e145)
      exact yT.retI rfl rfl (qI hT147 trivial)
-- rX8_refuseLong
set_option maxRecDepth 100000 in
set_option maxHeartbeats 4000000 in
theorem c154 {ks : List cT} {σ : Nat → Nat → Int32} {ρ : Nat → xE} {h : List xE} (hT : HT ks σ ρ h) {B0 : Nat} (K : KE KS0 ks B0) {q0 : Nat} (o0 : xnth ks q0 = some (18, 0)) (x1 : Int32) : yM 154 (1) 0 [.ref (q0 + 1), .int x1] h (CQ ks σ ρ (2, 0, 0) yT0) := by
  refine yM.st xM_154 rfl rfl (fun lv g => ?_)
  have g0 := g 0 _ rfl
  have g1 := g 1 _ rfl
  refine yT.fl (pc' := 3) rfl rfl (fun _ _ _ _ => rfl) (fun x101 => ?_)
  refine yT.aan (pc' := 4) g0 rfl rfl rfl ?_
  refine yT.iln (pc' := 5) g1 rfl rfl ?_
  refine kI (yT.cc (G2 := 0) (pc' := 8) rfl rfl rfl hT o0 xM_153 (c153 hT K o0 x1) rfl (by decide) (by decide) rfl) (fun h102 x105 hT103 E104 => ?_)
  have e106 : x105 = x1 := by have e : some (Value.int x105) = some (.int x1) := E104; injection e with e; injection e
  have e107 : x105.toInt = x1.toInt := by first | (rw [e106]; done) | (rw [e106]; exact rfl)
  refine yT.fl (pc' := 9) rfl rfl (fun _ _ _ _ => rfl) (fun x108 => ?_)
  refine yT.fl (pc' := 10) rfl rfl (fun _ _ _ _ => rfl) (fun x109 => ?_)
  exact yT.retL rfl rfl (qL hT103 trivial)
-- rX8_read
set_option maxRecDepth 100000 in
set_option maxHeartbeats 4000000 in
theorem c129 {ks : List cT} {σ : Nat → Nat → Int32} {ρ : Nat → xE} {h : List xE} (hT : HT ks σ ρ h) {B0 : Nat} (K : KE KS0 ks B0) {q0 : Nat} (o0 : xnth ks q0 = some (18, 0)) (x1 : Int32) : yM 129 (402) 0 [.ref (q0 + 1), .int x1] h (CQ ks σ ρ (2, 0, 0) yT0) := by
  refine yM.st xM_129 rfl rfl (fun lv g => ?_)
  have g0 := g 0 _ rfl
  have g1 := g 1 _ rfl
  refine yT.aan (pc' := 1) g0 rfl rfl rfl ?_
  refine yT.cg8 (pc' := 4) rfl rfl hT o0 rfl rfl (fun w101 => ?_)
  refine yT.iln (pc' := 5) g1 rfl rfl ?_
  refine kN (yT.cc (G2 := 0) (pc' := 8) rfl rfl rfl hT (K.up rfl) xM_87 (c87 hT (K.up rfl) x1) rfl (by decide) (by decide) rfl) (fun h102 hT103 E104 => ?_) (fun h102 q105 hT103 E104 o106 => ?_)
  · refine yT.p (pc' := 9) (lv' := xst1 _ 2 (.null)) rfl rfl (fun _ _ _ _ => rfl) ?_
    refine yT.aan (pc' := 10) xg_eq rfl rfl rfl ?_
    refine yT.p (pc' := 21) rfl rfl (fun _ _ _ _ => rfl) ?_
    refine yT.aan (pc' := 22) (xg_ne g0 rfl) rfl rfl rfl ?_
    refine yT.kb (pc' := 24) rfl rfl (by decide) (fun x107 e108 => ?_)
    refine kL (yT.cc (G2 := 0) (pc' := 27) rfl rfl rfl hT103 o0 xM_154 (c154 hT103 K o0 x107) rfl (by decide) (by decide) rfl) (fun h109 x112 hT110 E111 => ?_)
    exact yT.retL rfl rfl (qL hT110 trivial)
  · have i113 : 0 ≤ x1.toInt ∧ x1.toInt < 24 := (show _ ∨ _ from E104).elim (fun e => by cases e) id
    refine yT.p (pc' := 9) (lv' := xst1 _ 2 (.ref (q105 + 1))) rfl rfl (fun _ _ _ _ => rfl) ?_
    refine yT.aan (pc' := 10) xg_eq rfl rfl rfl ?_
    refine yT.p (pc' := 13) rfl rfl (fun _ _ _ _ => rfl) ?_
    refine yT.aan (pc' := 14) xg_eq rfl rfl rfl ?_
    refine yT.cgI (pc' := 17) rfl rfl hT103 o106 rfl rfl (fun x115 w114 => ?_)
    refine yT.kI (pc' := 18) rfl rfl (by decide) (fun x116 e117 => ?_)
    refine yT.if2 (t := 28) (pc' := 21) rfl rfl rfl (c2_ne rfl e117) (fun c118 => ?_) (fun c118 => ?_)
    · refine yT.aan (pc' := 29) xg_eq rfl rfl rfl ?_
      refine yT.cgZ (pc' := 32) rfl rfl hT103 o106 rfl rfl (fun x120 w119 b121 => ?_)
      have i122 := b01i b121
      refine yT.if1 (t := 42) (pc' := 35) rfl rfl rfl (c1_eq rfl) (fun c123 => ?_) (fun c123 => ?_)
      · refine yT.aan (pc' := 43) xg_eq rfl rfl rfl ?_
        refine yT.cgk (pc' := 46) rfl rfl w114 ?_
        refine yT.kI (pc' := 47) rfl rfl (by decide) (fun x124 e125 => ?_)
        refine yT.if2 (t := 58) (pc' := 50) rfl rfl rfl (c2_ne rfl e125) (fun c126 => ?_) (fun c126 => ?_)
        · refine yT.aan (pc' := 59) xg_eq rfl rfl rfl ?_
          refine yT.cgL (pc' := 62) rfl rfl hT103 o106 rfl rfl (fun x128 w127 => ?_)
          refine yT.p (pc' := 63) (lv' := xst2 _ 3 (.long x128)) rfl rfl (fun _ _ _ _ => rfl) ?_
          refine yT.aan (pc' := 64) (xg2_ne (xg_ne g0 rfl) rfl) rfl rfl rfl ?_
          refine yT.cgR (pc' := 67) rfl rfl hT103 o0 rfl rfl (fun q130 w129 o131 => ?_)
          refine kV (yT.cc (G2 := 0) (pc' := 70) rfl rfl rfl hT103 o131 xM_60 (c60 hT103 o131) rfl (by decide) (by decide) rfl) (fun h132 hT133 E134 => ?_)
          refine yT.lln (pc' := 71) xg2_eq rfl rfl ?_
          exact yT.retL rfl rfl (qL hT133 trivial)
        · refine yT.aan (pc' := 51) (xg_ne g0 rfl) rfl rfl rfl ?_
          refine yT.cgR (pc' := 54) rfl rfl hT103 o0 rfl rfl (fun q136 w135 o137 => ?_)
          refine yT.iln (pc' := 55) (xg_ne g1 rfl) rfl rfl ?_
          refine kV (yT.cc (G2 := 0) (pc' := 58) rfl rfl rfl hT103 o137 xM_59 (c59 hT103 o137 x1) rfl (by decide) (by decide) rfl) (fun h138 hT139 E140 => ?_)
          refine yT.aan (pc' := 59) xg_eq rfl rfl rfl ?_
          refine yT.cgL (pc' := 62) rfl rfl hT139 o106 rfl rfl (fun x142 w141 => ?_)
          refine yT.p (pc' := 63) (lv' := xst2 _ 3 (.long x142)) rfl rfl (fun _ _ _ _ => rfl) ?_
          refine yT.aan (pc' := 64) (xg2_ne (xg_ne g0 rfl) rfl) rfl rfl rfl ?_
          refine yT.cgR (pc' := 67) rfl rfl hT139 o0 rfl rfl (fun q144 w143 o145 => ?_)
          refine kV (yT.cc (G2 := 0) (pc' := 70) rfl rfl rfl hT139 o145 xM_60 (c60 hT139 o145) rfl (by decide) (by decide) rfl) (fun h146 hT147 E148 => ?_)
          refine yT.lln (pc' := 71) xg2_eq rfl rfl ?_
          exact yT.retL rfl rfl (qL hT147 trivial)
      · refine yT.aan (pc' := 36) (xg_ne g0 rfl) rfl rfl rfl ?_
        refine yT.kb (pc' := 38) rfl rfl (by decide) (fun x149 e150 => ?_)
        refine kL (yT.cc (G2 := 0) (pc' := 41) rfl rfl rfl hT103 o0 xM_154 (c154 hT103 K o0 x149) rfl (by decide) (by decide) rfl) (fun h151 x154 hT152 E153 => ?_)
        exact yT.retL rfl rfl (qL hT152 trivial)
    · refine yT.aan (pc' := 22) (xg_ne g0 rfl) rfl rfl rfl ?_
      refine yT.kb (pc' := 24) rfl rfl (by decide) (fun x155 e156 => ?_)
      refine kL (yT.cc (G2 := 0) (pc' := 27) rfl rfl rfl hT103 o0 xM_154 (c154 hT103 K o0 x155) rfl (by decide) (by decide) rfl) (fun h157 x160 hT158 E159 => ?_)
      exact yT.retL rfl rfl (qL hT158 trivial)
-- rX8_kept
set_option maxRecDepth 100000 in
set_option maxHeartbeats 4000000 in
theorem c130 {ks : List cT} {σ : Nat → Nat → Int32} {ρ : Nat → xE} {h : List xE} (hT : HT ks σ ρ h) {B0 : Nat} (K : KE KS0 ks B0) {q0 : Nat} (o0 : xnth ks q0 = some (18, 0)) (x1 : Int32) : yM 130 (2) 0 [.ref (q0 + 1), .int x1] h (CQ ks σ ρ (2, 0, 0) yT0) := by
  refine yM.st xM_130 rfl rfl (fun lv g => ?_)
  have g0 := g 0 _ rfl
  have g1 := g 1 _ rfl
  refine yT.aan (pc' := 1) g0 rfl rfl rfl ?_
  refine yT.cg8 (pc' := 4) rfl rfl hT o0 rfl rfl (fun w101 => ?_)
  refine yT.iln (pc' := 5) g1 rfl rfl ?_
  refine kN (yT.cc (G2 := 0) (pc' := 8) rfl rfl rfl hT (K.up rfl) xM_87 (c87 hT (K.up rfl) x1) rfl (by decide) (by decide) rfl) (fun h102 hT103 E104 => ?_) (fun h102 q105 hT103 E104 o106 => ?_)
  · refine yT.p (pc' := 9) (lv' := xst1 _ 2 (.null)) rfl rfl (fun _ _ _ _ => rfl) ?_
    refine yT.aan (pc' := 10) xg_eq rfl rfl rfl ?_
    refine yT.p (pc' := 21) rfl rfl (fun _ _ _ _ => rfl) ?_
    refine yT.aan (pc' := 22) (xg_ne g0 rfl) rfl rfl rfl ?_
    refine yT.kb (pc' := 24) rfl rfl (by decide) (fun x107 e108 => ?_)
    refine kL (yT.cc (G2 := 0) (pc' := 27) rfl rfl rfl hT103 o0 xM_154 (c154 hT103 K o0 x107) rfl (by decide) (by decide) rfl) (fun h109 x112 hT110 E111 => ?_)
    exact yT.retL rfl rfl (qL hT110 trivial)
  · have i113 : 0 ≤ x1.toInt ∧ x1.toInt < 24 := (show _ ∨ _ from E104).elim (fun e => by cases e) id
    refine yT.p (pc' := 9) (lv' := xst1 _ 2 (.ref (q105 + 1))) rfl rfl (fun _ _ _ _ => rfl) ?_
    refine yT.aan (pc' := 10) xg_eq rfl rfl rfl ?_
    refine yT.p (pc' := 13) rfl rfl (fun _ _ _ _ => rfl) ?_
    refine yT.aan (pc' := 14) xg_eq rfl rfl rfl ?_
    refine yT.cgI (pc' := 17) rfl rfl hT103 o106 rfl rfl (fun x115 w114 => ?_)
    refine yT.kI (pc' := 18) rfl rfl (by decide) (fun x116 e117 => ?_)
    refine yT.if2 (t := 28) (pc' := 21) rfl rfl rfl (c2_ne rfl e117) (fun c118 => ?_) (fun c118 => ?_)
    · refine yT.aan (pc' := 29) xg_eq rfl rfl rfl ?_
      refine yT.cgL (pc' := 32) rfl rfl hT103 o106 rfl rfl (fun x120 w119 => ?_)
      exact yT.retL rfl rfl (qL hT103 trivial)
    · refine yT.aan (pc' := 22) (xg_ne g0 rfl) rfl rfl rfl ?_
      refine yT.kb (pc' := 24) rfl rfl (by decide) (fun x121 e122 => ?_)
      refine kL (yT.cc (G2 := 0) (pc' := 27) rfl rfl rfl hT103 o0 xM_154 (c154 hT103 K o0 x121) rfl (by decide) (by decide) rfl) (fun h123 x126 hT124 E125 => ?_)
      exact yT.retL rfl rfl (qL hT124 trivial)
-- rX8_cellOf
set_option maxRecDepth 100000 in
set_option maxHeartbeats 4000000 in
theorem c131 {ks : List cT} {σ : Nat → Nat → Int32} {ρ : Nat → xE} {h : List xE} (hT : HT ks σ ρ h) {B0 : Nat} (K : KE KS0 ks B0) {q0 : Nat} (o0 : xnth ks q0 = some (18, 0)) (x1 : Int32) (x2 : Int32) : yM 131 (1) 0 [.ref (q0 + 1), .int x1, .int x2] h (CQ ks σ ρ (0, 0, 0) yT0) := by
  refine yM.st xM_131 rfl rfl (fun lv g => ?_)
  have g0 := g 0 _ rfl
  have g1 := g 1 _ rfl
  have g2 := g 2 _ rfl
  refine yT.aan (pc' := 1) g0 rfl rfl rfl ?_
  refine yT.cg8 (pc' := 4) rfl rfl hT o0 rfl rfl (fun w101 => ?_)
  refine yT.iln (pc' := 5) g1 rfl rfl ?_
  refine kN (yT.cc (G2 := 0) (pc' := 8) rfl rfl rfl hT (K.up rfl) xM_87 (c87 hT (K.up rfl) x1) rfl (by decide) (by decide) rfl) (fun h102 hT103 E104 => ?_) (fun h102 q105 hT103 E104 o106 => ?_)
  · refine yT.p (pc' := 9) (lv' := xst1 _ 3 (.null)) rfl rfl (fun _ _ _ _ => rfl) ?_
    refine yT.aan (pc' := 10) xg_eq rfl rfl rfl ?_
    refine yT.p (pc' := 13) rfl rfl (fun _ _ _ _ => rfl) ?_
    refine yT.aan (pc' := 14) (xg_ne g0 rfl) rfl rfl rfl ?_
    refine yT.kb (pc' := 16) rfl rfl (by decide) (fun x107 e108 => ?_)
    refine kI (yT.cc (G2 := 0) (pc' := 19) rfl rfl rfl hT103 o0 xM_153 (c153 hT103 K o0 x107) rfl (by decide) (by decide) rfl) (fun h109 x112 hT110 E111 => ?_)
    have e113 : x112 = x107 := by have e : some (Value.int x112) = some (.int x107) := E111; injection e with e; injection e
    have e114 : x112.toInt = (-2) := by first | (rw [e113]; done) | (rw [e113]; exact e108)
    exact yT.retI rfl rfl (qI hT110 trivial)
  · have i115 : 0 ≤ x1.toInt ∧ x1.toInt < 24 := (show _ ∨ _ from E104).elim (fun e => by cases e) id
    refine yT.p (pc' := 9) (lv' := xst1 _ 3 (.ref (q105 + 1))) rfl rfl (fun _ _ _ _ => rfl) ?_
    refine yT.aan (pc' := 10) xg_eq rfl rfl rfl ?_
    refine yT.p (pc' := 20) rfl rfl (fun _ _ _ _ => rfl) ?_
    refine yT.iln (pc' := 21) (xg_ne g2 rfl) rfl rfl ?_
    by_cases c116 : x2.toInt = 0
    · refine yT.tswK 0 (t := 80) rfl rfl (by omega) rfl rfl ?_
      refine yT.aan (pc' := 81) xg_eq rfl rfl rfl ?_
      refine yT.cgI (pc' := 84) rfl rfl hT103 o106 rfl rfl (fun x118 w117 => ?_)
      exact yT.retI rfl rfl (qI hT103 trivial)
    · by_cases c119 : x2.toInt = 1
      · refine yT.tswK 1 (t := 85) rfl rfl (by omega) rfl rfl ?_
        refine yT.aan (pc' := 86) xg_eq rfl rfl rfl ?_
        refine yT.cgI (pc' := 89) rfl rfl hT103 o106 rfl rfl (fun x121 w120 => ?_)
        exact yT.retI rfl rfl (qI hT103 trivial)
      · by_cases c122 : x2.toInt = 2
        · refine yT.tswK 2 (t := 90) rfl rfl (by omega) rfl rfl ?_
          refine yT.aan (pc' := 91) xg_eq rfl rfl rfl ?_
          refine yT.cgZ (pc' := 94) rfl rfl hT103 o106 rfl rfl (fun x124 w123 b125 => ?_)
          have i126 := b01i b125
          refine yT.if1 (t := 101) (pc' := 97) rfl rfl rfl (c1_eq rfl) (fun c127 => ?_) (fun c127 => ?_)
          · refine yT.kI (pc' := 102) rfl rfl (by decide) (fun x128 e129 => ?_)
            exact yT.retI rfl rfl (qI hT103 trivial)
          · refine yT.kI (pc' := 98) rfl rfl (by decide) (fun x130 e131 => ?_)
            refine yT.p (pc' := 102) rfl rfl (fun _ _ _ _ => rfl) ?_
            exact yT.retI rfl rfl (qI hT103 trivial)
        · by_cases c132 : x2.toInt = 3
          · refine yT.tswK 3 (t := 103) rfl rfl (by omega) rfl rfl ?_
            refine yT.aan (pc' := 104) xg_eq rfl rfl rfl ?_
            refine yT.cgI (pc' := 107) rfl rfl hT103 o106 rfl rfl (fun x134 w133 => ?_)
            exact yT.retI rfl rfl (qI hT103 trivial)
          · by_cases c135 : x2.toInt = 4
            · refine yT.tswK 4 (t := 108) rfl rfl (by omega) rfl rfl ?_
              refine yT.aan (pc' := 109) xg_eq rfl rfl rfl ?_
              refine yT.cgL (pc' := 112) rfl rfl hT103 o106 rfl rfl (fun x137 w136 => ?_)
              refine yT.fi (pc' := 113) rfl rfl (fun _ _ _ _ => rfl) (fun x138 => ?_)
              exact yT.retI rfl rfl (qI hT103 trivial)
            · by_cases c139 : x2.toInt = 5
              · refine yT.tswK 5 (t := 114) rfl rfl (by omega) rfl rfl ?_
                refine yT.aan (pc' := 115) xg_eq rfl rfl rfl ?_
                refine yT.cgI (pc' := 118) rfl rfl hT103 o106 rfl rfl (fun x141 w140 => ?_)
                exact yT.retI rfl rfl (qI hT103 trivial)
              · by_cases c142 : x2.toInt = 6
                · refine yT.tswK 6 (t := 119) rfl rfl (by omega) rfl rfl ?_
                  refine yT.aan (pc' := 120) xg_eq rfl rfl rfl ?_
                  refine yT.cgR (pc' := 123) rfl rfl hT103 o106 rfl rfl (fun q144 w143 o145 => ?_)
                  refine kS (yT.cc (G2 := 0) (pc' := 126) rfl rfl rfl hT103 o145 xM_44 (c44 hT103 o145 (by decide)) rfl (by decide) (by decide) rfl) (fun h146 x149 hT147 E148 i150 i151 => ?_)
                  exact yT.retI rfl rfl (qI hT147 trivial)
                · by_cases c152 : x2.toInt = 7
                  · refine yT.tswK 7 (t := 127) rfl rfl (by omega) rfl rfl ?_
                    refine yT.aan (pc' := 128) (xg_ne g0 rfl) rfl rfl rfl ?_
                    refine yT.cg8 (pc' := 131) rfl rfl hT103 o0 rfl rfl (fun w153 => ?_)
                    refine yT.iln (pc' := 132) (xg_ne g1 rfl) rfl rfl ?_
                    refine kI (yT.cc (G2 := 0) (pc' := 135) rfl rfl rfl hT103 (K.up rfl) xM_95 (c95 hT103 (K.up rfl) x1) rfl (by decide) (by decide) rfl) (fun h154 x157 hT155 E156 => ?_)
                    exact yT.retI rfl rfl (qI hT155 trivial)
                  · by_cases c158 : x2.toInt = 8
                    · refine yT.tswK 8 (t := 136) rfl rfl (by omega) rfl rfl ?_
                      refine yT.aan (pc' := 137) (xg_ne g0 rfl) rfl rfl rfl ?_
                      refine yT.cg8 (pc' := 140) rfl rfl hT103 o0 rfl rfl (fun w159 => ?_)
                      refine yT.iln (pc' := 141) (xg_ne g1 rfl) rfl rfl ?_
                      refine kI (yT.cc (G2 := 0) (pc' := 144) rfl rfl rfl hT103 (K.up rfl) xM_92 (c92 hT103 (K.up rfl) x1) rfl (by decide) (by decide) rfl) (fun h160 x163 hT161 E162 => ?_)
                      exact yT.retI rfl rfl (qI hT161 trivial)
                    · by_cases c164 : x2.toInt = 9
                      · refine yT.tswK 9 (t := 145) rfl rfl (by omega) rfl rfl ?_
                        refine yT.aan (pc' := 146) (xg_ne g0 rfl) rfl rfl rfl ?_
                        refine yT.cg8 (pc' := 149) rfl rfl hT103 o0 rfl rfl (fun w165 => ?_)
                        refine yT.cgR (pc' := 152) rfl rfl hT103 (K.up rfl) rfl rfl (fun q167 w166 o168 => ?_)
                        refine yT.iln (pc' := 153) (xg_ne g1 rfl) rfl rfl ?_
                        refine kZ (yT.cc (G2 := 0) (pc' := 156) rfl rfl rfl hT103 o168 xM_49 (c49 hT103 o168 (by decide) x1) rfl (by decide) (by decide) rfl) (fun h169 x172 hT170 E171 b173 => ?_)
                        have i174 := b01i b173
                        refine yT.if1 (t := 163) (pc' := 159) rfl rfl rfl (c1_eq rfl) (fun c175 => ?_) (fun c175 => ?_)
                        · refine yT.kI (pc' := 164) rfl rfl (by decide) (fun x176 e177 => ?_)
                          exact yT.retI rfl rfl (qI hT170 trivial)
                        · refine yT.kI (pc' := 160) rfl rfl (by decide) (fun x178 e179 => ?_)
                          refine yT.p (pc' := 164) rfl rfl (fun _ _ _ _ => rfl) ?_
                          exact yT.retI rfl rfl (qI hT170 trivial)
                      · by_cases c180 : x2.toInt = 10
                        · refine yT.tswK 10 (t := 165) rfl rfl (by omega) rfl rfl ?_
                          refine yT.aan (pc' := 166) (xg_ne g0 rfl) rfl rfl rfl ?_
                          refine yT.cg8 (pc' := 169) rfl rfl hT103 o0 rfl rfl (fun w181 => ?_)
                          refine yT.iln (pc' := 170) (xg_ne g1 rfl) rfl rfl ?_
                          refine kI (yT.cc (G2 := 0) (pc' := 173) rfl rfl rfl hT103 (K.up rfl) xM_97 (c97 hT103 (K.up rfl) x1) rfl (by decide) (by decide) rfl) (fun h182 x185 hT183 E184 => ?_)
                          refine kI (yT.cst (G2 := 0) (pc' := 176) rfl rfl xM_272 (c272 hT183 x185) rfl (by decide) (by decide) rfl) (fun h186 x189 hT187 E188 => ?_)
                          exact yT.retI rfl rfl (qI hT187 trivial)
                        · refine yT.tswD (t := 177) rfl rfl rfl (by omega) ?_
                          refine yT.aan (pc' := 178) (xg_ne g0 rfl) rfl rfl rfl ?_
                          refine yT.kb (pc' := 180) rfl rfl (by decide) (fun x190 e191 => ?_)
                          refine kI (yT.cc (G2 := 0) (pc' := 183) rfl rfl rfl hT103 o0 xM_153 (c153 hT103 K o0 x190) rfl (by decide) (by decide) rfl) (fun h192 x195 hT193 E194 => ?_)
                          have e196 : x195 = x190 := by have e : some (Value.int x195) = some (.int x190) := E194; injection e with e; injection e
                          have e197 : x195.toInt = (-2) := by first | (rw [e196]; done) | (rw [e196]; exact e191)
                          exact yT.retI rfl rfl (qI hT193 trivial)
-- rX8_reads
set_option maxRecDepth 100000 in
set_option maxHeartbeats 4000000 in
theorem c132 {ks : List cT} {σ : Nat → Nat → Int32} {ρ : Nat → xE} {h : List xE} (hT : HT ks σ ρ h) {B0 : Nat} (K : KE KS0 ks B0) {q0 : Nat} (o0 : xnth ks q0 = some (18, 0)) (x1 : Int32) (x2 : Int32) : yM 132 (1) 0 [.ref (q0 + 1), .int x1, .int x2] h (CQ ks σ ρ (0, 0, 0) yT0) := by
  refine yM.st xM_132 rfl rfl (fun lv g => ?_)
  have g0 := g 0 _ rfl
  have g1 := g 1 _ rfl
  have g2 := g 2 _ rfl
  refine yT.aan (pc' := 1) g0 rfl rfl rfl ?_
  refine yT.cg8 (pc' := 4) rfl rfl hT o0 rfl rfl (fun w101 => ?_)
  refine yT.iln (pc' := 5) g1 rfl rfl ?_
  refine kN (yT.cc (G2 := 0) (pc' := 8) rfl rfl rfl hT (K.up rfl) xM_87 (c87 hT (K.up rfl) x1) rfl (by decide) (by decide) rfl) (fun h102 hT103 E104 => ?_) (fun h102 q105 hT103 E104 o106 => ?_)
  · refine yT.p (pc' := 9) (lv' := xst1 _ 3 (.null)) rfl rfl (fun _ _ _ _ => rfl) ?_
    refine yT.aan (pc' := 10) xg_eq rfl rfl rfl ?_
    refine yT.p (pc' := 28) rfl rfl (fun _ _ _ _ => rfl) ?_
    refine yT.aan (pc' := 29) (xg_ne g0 rfl) rfl rfl rfl ?_
    refine yT.kb (pc' := 31) rfl rfl (by decide) (fun x107 e108 => ?_)
    refine kI (yT.cc (G2 := 0) (pc' := 34) rfl rfl rfl hT103 o0 xM_153 (c153 hT103 K o0 x107) rfl (by decide) (by decide) rfl) (fun h109 x112 hT110 E111 => ?_)
    have e113 : x112 = x107 := by have e : some (Value.int x112) = some (.int x107) := E111; injection e with e; injection e
    have e114 : x112.toInt = (-2) := by first | (rw [e113]; done) | (rw [e113]; exact e108)
    exact yT.retI rfl rfl (qI hT110 trivial)
  · have i115 : 0 ≤ x1.toInt ∧ x1.toInt < 24 := (show _ ∨ _ from E104).elim (fun e => by cases e) id
    refine yT.p (pc' := 9) (lv' := xst1 _ 3 (.ref (q105 + 1))) rfl rfl (fun _ _ _ _ => rfl) ?_
    refine yT.aan (pc' := 10) xg_eq rfl rfl rfl ?_
    refine yT.p (pc' := 13) rfl rfl (fun _ _ _ _ => rfl) ?_
    refine yT.iln (pc' := 14) (xg_ne g2 rfl) rfl rfl ?_
    refine yT.if1 (t := 28) (pc' := 17) rfl rfl rfl (c1_lt rfl) (fun c116 => ?_) (fun c116 => ?_)
    · refine yT.aan (pc' := 29) (xg_ne g0 rfl) rfl rfl rfl ?_
      refine yT.kb (pc' := 31) rfl rfl (by decide) (fun x117 e118 => ?_)
      refine kI (yT.cc (G2 := 0) (pc' := 34) rfl rfl rfl hT103 o0 xM_153 (c153 hT103 K o0 x117) rfl (by decide) (by decide) rfl) (fun h119 x122 hT120 E121 => ?_)
      have e123 : x122 = x117 := by have e : some (Value.int x122) = some (.int x117) := E121; injection e with e; injection e
      have e124 : x122.toInt = (-2) := by first | (rw [e123]; done) | (rw [e123]; exact e118)
      exact yT.retI rfl rfl (qI hT120 trivial)
    · refine yT.iln (pc' := 18) (xg_ne g2 rfl) rfl rfl ?_
      refine yT.aan (pc' := 19) xg_eq rfl rfl rfl ?_
      refine yT.cgR (pc' := 22) rfl rfl hT103 o106 rfl rfl (fun q126 w125 o127 => ?_)
      refine kS (yT.cc (G2 := 0) (pc' := 25) rfl rfl rfl hT103 o127 xM_44 (c44 hT103 o127 (by decide)) rfl (by decide) (by decide) rfl) (fun h128 x131 hT129 E130 i132 i133 => ?_)
      refine yT.if2 (t := 35) (pc' := 28) rfl rfl rfl (c2_lt rfl rfl) (fun c134 => ?_) (fun c134 => ?_)
      · refine yT.aan (pc' := 36) xg_eq rfl rfl rfl ?_
        refine yT.cgR (pc' := 39) rfl rfl hT129 o106 rfl rfl (fun q136 w135 o137 => ?_)
        refine yT.iln (pc' := 40) (xg_ne g2 rfl) rfl rfl ?_
        refine kI (yT.cc (G2 := 0) (pc' := 43) rfl rfl rfl hT129 o137 xM_46 (c46 hT129 o137 (by decide) x2) rfl (by decide) (by decide) rfl) (fun h138 x141 hT139 E140 => ?_)
        exact yT.retI rfl rfl (qI hT139 trivial)
      · refine yT.aan (pc' := 29) (xg_ne g0 rfl) rfl rfl rfl ?_
        refine yT.kb (pc' := 31) rfl rfl (by decide) (fun x142 e143 => ?_)
        refine kI (yT.cc (G2 := 0) (pc' := 34) rfl rfl rfl hT129 o0 xM_153 (c153 hT129 K o0 x142) rfl (by decide) (by decide) rfl) (fun h144 x147 hT145 E146 => ?_)
        have e148 : x147 = x142 := by have e : some (Value.int x147) = some (.int x142) := E146; injection e with e; injection e
        have e149 : x147.toInt = (-2) := by first | (rw [e148]; done) | (rw [e148]; exact e143)
        exact yT.retI rfl rfl (qI hT145 trivial)
-- rX8_spelled
set_option maxRecDepth 100000 in
set_option maxHeartbeats 4000000 in
theorem c133 {ks : List cT} {σ : Nat → Nat → Int32} {ρ : Nat → xE} {h : List xE} (hT : HT ks σ ρ h) {B0 : Nat} (K : KE KS0 ks B0) {q0 : Nat} (o0 : xnth ks q0 = some (18, 0)) (x1 : Int32) (x2 : Int32) : yM 133 (2) 0 [.ref (q0 + 1), .int x1, .int x2] h (CQ ks σ ρ (0, 0, 0) yT0) := by
  refine yM.st xM_133 rfl rfl (fun lv g => ?_)
  have g0 := g 0 _ rfl
  have g1 := g 1 _ rfl
  have g2 := g 2 _ rfl
  refine yT.aan (pc' := 1) g0 rfl rfl rfl ?_
  refine yT.cg8 (pc' := 4) rfl rfl hT o0 rfl rfl (fun w101 => ?_)
  refine yT.iln (pc' := 5) g1 rfl rfl ?_
  refine kN (yT.cc (G2 := 0) (pc' := 8) rfl rfl rfl hT (K.up rfl) xM_87 (c87 hT (K.up rfl) x1) rfl (by decide) (by decide) rfl) (fun h102 hT103 E104 => ?_) (fun h102 q105 hT103 E104 o106 => ?_)
  · refine yT.p (pc' := 9) (lv' := xst1 _ 3 (.null)) rfl rfl (fun _ _ _ _ => rfl) ?_
    refine yT.aan (pc' := 10) xg_eq rfl rfl rfl ?_
    refine yT.p (pc' := 20) rfl rfl (fun _ _ _ _ => rfl) ?_
    refine yT.aan (pc' := 21) (xg_ne g0 rfl) rfl rfl rfl ?_
    refine yT.kb (pc' := 23) rfl rfl (by decide) (fun x107 e108 => ?_)
    refine kI (yT.cc (G2 := 0) (pc' := 26) rfl rfl rfl hT103 o0 xM_153 (c153 hT103 K o0 x107) rfl (by decide) (by decide) rfl) (fun h109 x112 hT110 E111 => ?_)
    have e113 : x112 = x107 := by have e : some (Value.int x112) = some (.int x107) := E111; injection e with e; injection e
    have e114 : x112.toInt = (-2) := by first | (rw [e113]; done) | (rw [e113]; exact e108)
    exact yT.retI rfl rfl (qI hT110 trivial)
  · have i115 : 0 ≤ x1.toInt ∧ x1.toInt < 24 := (show _ ∨ _ from E104).elim (fun e => by cases e) id
    refine yT.p (pc' := 9) (lv' := xst1 _ 3 (.ref (q105 + 1))) rfl rfl (fun _ _ _ _ => rfl) ?_
    refine yT.aan (pc' := 10) xg_eq rfl rfl rfl ?_
    refine yT.p (pc' := 13) rfl rfl (fun _ _ _ _ => rfl) ?_
    refine yT.aan (pc' := 14) xg_eq rfl rfl rfl ?_
    refine yT.cgN (pc' := 17) rfl rfl hT103 o106 rfl rfl (fun w116 => ?_) (fun q117 w116 o118 => ?_)
    · refine yT.p (pc' := 20) rfl rfl (fun _ _ _ _ => rfl) ?_
      refine yT.aan (pc' := 21) (xg_ne g0 rfl) rfl rfl rfl ?_
      refine yT.kb (pc' := 23) rfl rfl (by decide) (fun x119 e120 => ?_)
      refine kI (yT.cc (G2 := 0) (pc' := 26) rfl rfl rfl hT103 o0 xM_153 (c153 hT103 K o0 x119) rfl (by decide) (by decide) rfl) (fun h121 x124 hT122 E123 => ?_)
      have e125 : x124 = x119 := by have e : some (Value.int x124) = some (.int x119) := E123; injection e with e; injection e
      have e126 : x124.toInt = (-2) := by first | (rw [e125]; done) | (rw [e125]; exact e120)
      exact yT.retI rfl rfl (qI hT122 trivial)
    · refine yT.p (pc' := 27) rfl rfl (fun _ _ _ _ => rfl) ?_
      refine yT.aan (pc' := 28) xg_eq rfl rfl rfl ?_
      refine yT.cgk (pc' := 31) rfl rfl w116 ?_
      refine yT.iln (pc' := 32) (xg_ne g2 rfl) rfl rfl ?_
      refine kI (yT.cc (G2 := 0) (pc' := 35) rfl rfl rfl hT103 o118 xM_11 (c11 hT103 o118 x2) rfl (by decide) (by decide) rfl) (fun h127 x130 hT128 E129 => ?_)
      exact yT.retI rfl rfl (qI hT128 trivial)
-- rX8_hasOutcome
set_option maxRecDepth 100000 in
set_option maxHeartbeats 4000000 in
theorem c159 {ks : List cT} {σ : Nat → Nat → Int32} {ρ : Nat → xE} {h : List xE} (hT : HT ks σ ρ h) {B0 : Nat} (K : KE KS0 ks B0) {q0 : Nat} (o0 : xnth ks q0 = some (18, 0)) (x1 : Int32) : yM 159 (1) 0 [.ref (q0 + 1), .int x1] h (CQ ks σ ρ (1, 0, 0) yT0) := by
  refine yM.st xM_159 rfl rfl (fun lv g => ?_)
  have g0 := g 0 _ rfl
  have g1 := g 1 _ rfl
  refine yT.aan (pc' := 1) g0 rfl rfl rfl ?_
  refine yT.cg8 (pc' := 4) rfl rfl hT o0 rfl rfl (fun w101 => ?_)
  refine yT.iln (pc' := 5) g1 rfl rfl ?_
  refine kN (yT.cc (G2 := 0) (pc' := 8) rfl rfl rfl hT (K.up rfl) xM_87 (c87 hT (K.up rfl) x1) rfl (by decide) (by decide) rfl) (fun h102 hT103 E104 => ?_) (fun h102 q105 hT103 E104 o106 => ?_)
  · refine yT.p (pc' := 9) (lv' := xst1 _ 2 (.null)) rfl rfl (fun _ _ _ _ => rfl) ?_
    refine yT.aan (pc' := 10) xg_eq rfl rfl rfl ?_
    refine yT.p (pc' := 25) rfl rfl (fun _ _ _ _ => rfl) ?_
    refine yT.kI (pc' := 26) rfl rfl (by decide) (fun x107 e108 => ?_)
    exact yT.retZ rfl rfl (b01 (by omega) (by omega)) (qZ hT103 trivial (b01 (by omega) (by omega)))
  · have i109 : 0 ≤ x1.toInt ∧ x1.toInt < 24 := (show _ ∨ _ from E104).elim (fun e => by cases e) id
    refine yT.p (pc' := 9) (lv' := xst1 _ 2 (.ref (q105 + 1))) rfl rfl (fun _ _ _ _ => rfl) ?_
    refine yT.aan (pc' := 10) xg_eq rfl rfl rfl ?_
    refine yT.p (pc' := 13) rfl rfl (fun _ _ _ _ => rfl) ?_
    refine yT.aan (pc' := 14) xg_eq rfl rfl rfl ?_
    refine yT.cgI (pc' := 17) rfl rfl hT103 o106 rfl rfl (fun x111 w110 => ?_)
    refine yT.kI (pc' := 18) rfl rfl (by decide) (fun x112 e113 => ?_)
    refine yT.if2 (t := 25) (pc' := 21) rfl rfl rfl (c2_eq rfl e113) (fun c114 => ?_) (fun c114 => ?_)
    · refine yT.kI (pc' := 26) rfl rfl (by decide) (fun x115 e116 => ?_)
      exact yT.retZ rfl rfl (b01 (by omega) (by omega)) (qZ hT103 trivial (b01 (by omega) (by omega)))
    · refine yT.kI (pc' := 22) rfl rfl (by decide) (fun x117 e118 => ?_)
      refine yT.p (pc' := 26) rfl rfl (fun _ _ _ _ => rfl) ?_
      exact yT.retZ rfl rfl (b01 (by omega) (by omega)) (qZ hT103 trivial (b01 (by omega) (by omega)))
-- rX8_plain
set_option maxRecDepth 100000 in
set_option maxHeartbeats 4000000 in
theorem c134 {ks : List cT} {σ : Nat → Nat → Int32} {ρ : Nat → xE} {h : List xE} (hT : HT ks σ ρ h) {B0 : Nat} (K : KE KS0 ks B0) {q0 : Nat} (o0 : xnth ks q0 = some (18, 0)) (x1 : Int32) : yM 134 (123) 0 [.ref (q0 + 1), .int x1] h (CQ ks σ ρ (2, 0, 0) yT0) := by
  refine yM.st xM_134 rfl rfl (fun lv g => ?_)
  have g0 := g 0 _ rfl
  have g1 := g 1 _ rfl
  refine yT.aan (pc' := 1) g0 rfl rfl rfl ?_
  refine yT.iln (pc' := 2) g1 rfl rfl ?_
  refine kZ (yT.cc (G2 := 0) (pc' := 5) rfl rfl rfl hT o0 xM_159 (c159 hT K o0 x1) rfl (by decide) (by decide) rfl) (fun h101 x104 hT102 E103 b105 => ?_)
  have i106 := b01i b105
  refine yT.if1 (t := 15) (pc' := 8) rfl rfl rfl (c1_ne rfl) (fun c107 => ?_) (fun c107 => ?_)
  · refine yT.aan (pc' := 16) g0 rfl rfl rfl ?_
    refine yT.cgR (pc' := 19) rfl rfl hT102 o0 rfl rfl (fun q109 w108 o110 => ?_)
    refine yT.iln (pc' := 20) g1 rfl rfl ?_
    refine kL (yT.cc (G2 := 0) (pc' := 23) rfl rfl rfl hT102 o110 xM_1 (c1 hT102 o110 x1) rfl (by decide) (by decide) rfl) (fun h111 x114 hT112 E113 => ?_)
    exact yT.retL rfl rfl (qL hT112 trivial)
  · refine yT.aan (pc' := 9) g0 rfl rfl rfl ?_
    refine yT.kb (pc' := 11) rfl rfl (by decide) (fun x115 e116 => ?_)
    refine kL (yT.cc (G2 := 0) (pc' := 14) rfl rfl rfl hT102 o0 xM_154 (c154 hT102 K o0 x115) rfl (by decide) (by decide) rfl) (fun h117 x120 hT118 E119 => ?_)
    exact yT.retL rfl rfl (qL hT118 trivial)
-- rX8_isSource
set_option maxRecDepth 100000 in
set_option maxHeartbeats 4000000 in
theorem c158 {ks : List cT} {σ : Nat → Nat → Int32} {ρ : Nat → xE} {h : List xE} (hT : HT ks σ ρ h) {B0 : Nat} (K : KE KS0 ks B0) {q0 : Nat} (o0 : xnth ks q0 = some (18, 0)) (x1 : Int32) : yM 158 (1) 0 [.ref (q0 + 1), .int x1] h (CQ ks σ ρ (1, 0, 0) yT0) := by
  refine yM.st xM_158 rfl rfl (fun lv g => ?_)
  have g0 := g 0 _ rfl
  have g1 := g 1 _ rfl
  refine yT.aan (pc' := 1) g0 rfl rfl rfl ?_
  refine yT.cg8 (pc' := 4) rfl rfl hT o0 rfl rfl (fun w101 => ?_)
  refine yT.iln (pc' := 5) g1 rfl rfl ?_
  refine kN (yT.cc (G2 := 0) (pc' := 8) rfl rfl rfl hT (K.up rfl) xM_87 (c87 hT (K.up rfl) x1) rfl (by decide) (by decide) rfl) (fun h102 hT103 E104 => ?_) (fun h102 q105 hT103 E104 o106 => ?_)
  · refine yT.p (pc' := 9) (lv' := xst1 _ 2 (.null)) rfl rfl (fun _ _ _ _ => rfl) ?_
    refine yT.aan (pc' := 10) xg_eq rfl rfl rfl ?_
    refine yT.p (pc' := 25) rfl rfl (fun _ _ _ _ => rfl) ?_
    refine yT.kI (pc' := 26) rfl rfl (by decide) (fun x107 e108 => ?_)
    exact yT.retZ rfl rfl (b01 (by omega) (by omega)) (qZ hT103 trivial (b01 (by omega) (by omega)))
  · have i109 : 0 ≤ x1.toInt ∧ x1.toInt < 24 := (show _ ∨ _ from E104).elim (fun e => by cases e) id
    refine yT.p (pc' := 9) (lv' := xst1 _ 2 (.ref (q105 + 1))) rfl rfl (fun _ _ _ _ => rfl) ?_
    refine yT.aan (pc' := 10) xg_eq rfl rfl rfl ?_
    refine yT.p (pc' := 13) rfl rfl (fun _ _ _ _ => rfl) ?_
    refine yT.aan (pc' := 14) xg_eq rfl rfl rfl ?_
    refine yT.cgI (pc' := 17) rfl rfl hT103 o106 rfl rfl (fun x111 w110 => ?_)
    refine yT.kI (pc' := 18) rfl rfl (by decide) (fun x112 e113 => ?_)
    refine yT.if2 (t := 25) (pc' := 21) rfl rfl rfl (c2_ne rfl e113) (fun c114 => ?_) (fun c114 => ?_)
    · refine yT.kI (pc' := 26) rfl rfl (by decide) (fun x115 e116 => ?_)
      exact yT.retZ rfl rfl (b01 (by omega) (by omega)) (qZ hT103 trivial (b01 (by omega) (by omega)))
    · refine yT.kI (pc' := 22) rfl rfl (by decide) (fun x117 e118 => ?_)
      refine yT.p (pc' := 26) rfl rfl (fun _ _ _ _ => rfl) ?_
      exact yT.retZ rfl rfl (b01 (by omega) (by omega)) (qZ hT103 trivial (b01 (by omega) (by omega)))
-- rX8_whatIf
set_option maxRecDepth 100000 in
set_option maxHeartbeats 4000000 in
theorem c135 {ks : List cT} {σ : Nat → Nat → Int32} {ρ : Nat → xE} {h : List xE} (hT : HT ks σ ρ h) {B0 : Nat} (K : KE KS0 ks B0) {q0 : Nat} (o0 : xnth ks q0 = some (18, 0)) (x1 : Int32) (x2 : Int32) (x3 : Int32) : yM 135 (122) 0 [.ref (q0 + 1), .int x1, .int x2, .int x3] h (CQ ks σ ρ (2, 0, 0) yT0) := by
  refine yM.st xM_135 rfl rfl (fun lv g => ?_)
  have g0 := g 0 _ rfl
  have g1 := g 1 _ rfl
  have g2 := g 2 _ rfl
  have g3 := g 3 _ rfl
  refine yT.aan (pc' := 1) g0 rfl rfl rfl ?_
  refine yT.iln (pc' := 2) g1 rfl rfl ?_
  refine kZ (yT.cc (G2 := 0) (pc' := 5) rfl rfl rfl hT o0 xM_158 (c158 hT K o0 x1) rfl (by decide) (by decide) rfl) (fun h101 x104 hT102 E103 b105 => ?_)
  have i106 := b01i b105
  refine yT.if1 (t := 16) (pc' := 8) rfl rfl rfl (c1_eq rfl) (fun c107 => ?_) (fun c107 => ?_)
  · refine yT.aan (pc' := 17) g0 rfl rfl rfl ?_
    refine yT.kb (pc' := 19) rfl rfl (by decide) (fun x108 e109 => ?_)
    refine kL (yT.cc (G2 := 0) (pc' := 22) rfl rfl rfl hT102 o0 xM_154 (c154 hT102 K o0 x108) rfl (by decide) (by decide) rfl) (fun h110 x113 hT111 E112 => ?_)
    exact yT.retL rfl rfl (qL hT111 trivial)
  · refine yT.aan (pc' := 9) g0 rfl rfl rfl ?_
    refine yT.iln (pc' := 10) g3 rfl rfl ?_
    refine kZ (yT.cc (G2 := 0) (pc' := 13) rfl rfl rfl hT102 o0 xM_159 (c159 hT102 K o0 x3) rfl (by decide) (by decide) rfl) (fun h114 x117 hT115 E116 b118 => ?_)
    have i119 := b01i b118
    refine yT.if1 (t := 23) (pc' := 16) rfl rfl rfl (c1_ne rfl) (fun c120 => ?_) (fun c120 => ?_)
    · refine yT.aan (pc' := 24) g0 rfl rfl rfl ?_
      refine yT.cgR (pc' := 27) rfl rfl hT115 o0 rfl rfl (fun q122 w121 o123 => ?_)
      refine yT.iln (pc' := 28) g1 rfl rfl ?_
      refine yT.iln (pc' := 29) g2 rfl rfl ?_
      refine yT.iln (pc' := 30) g3 rfl rfl ?_
      refine kL (yT.cc (G2 := 0) (pc' := 33) rfl rfl rfl hT115 o123 xM_2 (c2 hT115 o123 x1 x2 x3) rfl (by decide) (by decide) rfl) (fun h124 x127 hT125 E126 => ?_)
      exact yT.retL rfl rfl (qL hT125 trivial)
    · refine yT.aan (pc' := 17) g0 rfl rfl rfl ?_
      refine yT.kb (pc' := 19) rfl rfl (by decide) (fun x128 e129 => ?_)
      refine kL (yT.cc (G2 := 0) (pc' := 22) rfl rfl rfl hT115 o0 xM_154 (c154 hT115 K o0 x128) rfl (by decide) (by decide) rfl) (fun h130 x133 hT131 E132 => ?_)
      exact yT.retL rfl rfl (qL hT131 trivial)
-- rX8_aim
set_option maxRecDepth 100000 in
set_option maxHeartbeats 4000000 in
theorem c136 {ks : List cT} {σ : Nat → Nat → Int32} {ρ : Nat → xE} {h : List xE} (hT : HT ks σ ρ h) {B0 : Nat} (K : KE KS0 ks B0) {q0 : Nat} (o0 : xnth ks q0 = some (18, 0)) (x1 : Int32) (x2 : Int32) (x3 : Int32) : yM 136 (122) 0 [.ref (q0 + 1), .int x1, .int x2, .int x3] h (CQ ks σ ρ (0, 0, 0) yT0) := by
  refine yM.st xM_136 rfl rfl (fun lv g => ?_)
  have g0 := g 0 _ rfl
  have g1 := g 1 _ rfl
  have g2 := g 2 _ rfl
  have g3 := g 3 _ rfl
  refine yT.aan (pc' := 1) g0 rfl rfl rfl ?_
  refine yT.iln (pc' := 2) g1 rfl rfl ?_
  refine kZ (yT.cc (G2 := 0) (pc' := 5) rfl rfl rfl hT o0 xM_158 (c158 hT K o0 x1) rfl (by decide) (by decide) rfl) (fun h101 x104 hT102 E103 b105 => ?_)
  have i106 := b01i b105
  refine yT.if1 (t := 16) (pc' := 8) rfl rfl rfl (c1_eq rfl) (fun c107 => ?_) (fun c107 => ?_)
  · refine yT.aan (pc' := 17) g0 rfl rfl rfl ?_
    refine yT.kb (pc' := 19) rfl rfl (by decide) (fun x108 e109 => ?_)
    refine kI (yT.cc (G2 := 0) (pc' := 22) rfl rfl rfl hT102 o0 xM_153 (c153 hT102 K o0 x108) rfl (by decide) (by decide) rfl) (fun h110 x113 hT111 E112 => ?_)
    have e114 : x113 = x108 := by have e : some (Value.int x113) = some (.int x108) := E112; injection e with e; injection e
    have e115 : x113.toInt = (-2) := by first | (rw [e114]; done) | (rw [e114]; exact e109)
    exact yT.retI rfl rfl (qI hT111 trivial)
  · refine yT.aan (pc' := 9) g0 rfl rfl rfl ?_
    refine yT.iln (pc' := 10) g2 rfl rfl ?_
    refine kZ (yT.cc (G2 := 0) (pc' := 13) rfl rfl rfl hT102 o0 xM_159 (c159 hT102 K o0 x2) rfl (by decide) (by decide) rfl) (fun h116 x119 hT117 E118 b120 => ?_)
    have i121 := b01i b120
    refine yT.if1 (t := 23) (pc' := 16) rfl rfl rfl (c1_ne rfl) (fun c122 => ?_) (fun c122 => ?_)
    · refine yT.kb (pc' := 25) rfl rfl (by decide) (fun x123 e124 => ?_)
      refine yT.p (pc' := 27) (lv' := xst1 _ 4 (.int x123)) rfl rfl (fun _ _ _ _ => rfl) ?_
      have L125 : ∀ (n136 : Nat) (lv126 : xLv) (h127 : List xE) (x129 : Int32), HT ks σ ρ h127 → xget lv126 0 = some (.ref (q0 + 1)) → xget lv126 1 = some (.int x1) → xget lv126 2 = some (.int x2) → xget lv126 3 = some (.int x3) → xget lv126 4 = some (.int x129) → -20 ≤ x129.toInt → (2147483647 - x129.toInt).toNat < n136 → yT 0 [] rX8_aim (122) 0 27 lv126 [] h127 (CQ ks σ ρ (0, 0, 0) yT0) := by
        intro n136
        induction n136 with
        | zero => intro lv126 h127 x129 hT128 g130 g131 g132 g133 g134 i135 m137; exact absurd m137 (Nat.not_lt_zero _)
        | succ n136 ih138 =>
          intro lv126 h127 x129 hT128 g130 g131 g132 g133 g134 i135 m137
          refine yT.il (pc' := 29) g134 rfl rfl ?_
          refine yT.kb (pc' := 31) rfl rfl (by decide) (fun x139 e140 => ?_)
          refine yT.if2 (t := 72) (pc' := 34) rfl rfl rfl (c2_gt rfl e140) (fun c141 => ?_) (fun c141 => ?_)
          · refine yT.kb (pc' := 74) rfl rfl (by decide) (fun x142 e143 => ?_)
            exact yT.retI rfl rfl (qI hT128 trivial)
          · refine yT.aan (pc' := 35) g130 rfl rfl rfl ?_
            refine yT.cgR (pc' := 38) rfl rfl hT128 o0 rfl rfl (fun q145 w144 o146 => ?_)
            refine yT.iln (pc' := 39) g131 rfl rfl ?_
            refine yT.il (pc' := 41) g134 rfl rfl ?_
            refine yT.iln (pc' := 42) g132 rfl rfl ?_
            refine kL (yT.cc (G2 := 0) (pc' := 45) rfl rfl rfl hT128 o146 xM_2 (c2 hT128 o146 x1 x129 x2) rfl (by decide) (by decide) rfl) (fun h147 x150 hT148 E149 => ?_)
            refine yT.p (pc' := 47) (lv' := xst2 _ 5 (.long x150)) rfl rfl (fun _ _ _ _ => rfl) ?_
            refine yT.ll (pc' := 49) xg2_eq rfl rfl ?_
            refine kZ (yT.cst (G2 := 0) (pc' := 52) rfl rfl xM_160 (c160 hT148 x150) rfl (by decide) (by decide) rfl) (fun h151 x154 hT152 E153 b155 => ?_)
            have i156 := b01i b155
            refine yT.if1 (t := 66) (pc' := 55) rfl rfl rfl (c1_ne rfl) (fun c157 => ?_) (fun c157 => ?_)
            · refine yT.inc (pc' := 69) (xg2_ne g134 rfl) rfl rfl rfl rfl ⟨by decide, by have := i32_rng x129; omega⟩ (fun x158 e159 => ?_)
              refine yT.p (pc' := 27) rfl rfl (fun _ _ _ _ => rfl) ?_
              exact ih138 _ _ x158 hT152 (xg_ne (xg2_ne g130 rfl) rfl) (xg_ne (xg2_ne g131 rfl) rfl) (xg_ne (xg2_ne g132 rfl) rfl) (xg_ne (xg2_ne g133 rfl) rfl) xg_eq (by omega) (by have := i32_rng x158; omega)
            · refine yT.ll (pc' := 57) xg2_eq rfl rfl ?_
              refine yT.iln (pc' := 58) (xg2_ne g133 rfl) rfl rfl ?_
              refine yT.fl (pc' := 59) rfl rfl (fun _ _ _ _ => rfl) (fun x160 => ?_)
              refine yT.fi (pc' := 60) rfl rfl (fun _ _ _ _ => rfl) (fun x161 => ?_)
              refine yT.if1 (t := 66) (pc' := 63) rfl rfl rfl (c1_lt rfl) (fun c162 => ?_) (fun c162 => ?_)
              · refine yT.inc (pc' := 69) (xg2_ne g134 rfl) rfl rfl rfl rfl ⟨by decide, by have := i32_rng x129; omega⟩ (fun x163 e164 => ?_)
                refine yT.p (pc' := 27) rfl rfl (fun _ _ _ _ => rfl) ?_
                exact ih138 _ _ x163 hT152 (xg_ne (xg2_ne g130 rfl) rfl) (xg_ne (xg2_ne g131 rfl) rfl) (xg_ne (xg2_ne g132 rfl) rfl) (xg_ne (xg2_ne g133 rfl) rfl) xg_eq (by omega) (by have := i32_rng x163; omega)
              · refine yT.il (pc' := 65) (xg2_ne g134 rfl) rfl rfl ?_
                exact yT.retI rfl rfl (qI hT152 trivial)
      exact L125 _ _ _ x123 hT117 (xg_ne g0 rfl) (xg_ne g1 rfl) (xg_ne g2 rfl) (xg_ne g3 rfl) xg_eq (by omega) (Nat.lt_succ_self _)
    · refine yT.aan (pc' := 17) g0 rfl rfl rfl ?_
      refine yT.kb (pc' := 19) rfl rfl (by decide) (fun x165 e166 => ?_)
      refine kI (yT.cc (G2 := 0) (pc' := 22) rfl rfl rfl hT117 o0 xM_153 (c153 hT117 K o0 x165) rfl (by decide) (by decide) rfl) (fun h167 x170 hT168 E169 => ?_)
      have e171 : x170 = x165 := by have e : some (Value.int x170) = some (.int x165) := E169; injection e with e; injection e
      have e172 : x170.toInt = (-2) := by first | (rw [e171]; done) | (rw [e171]; exact e166)
      exact yT.retI rfl rfl (qI hT168 trivial)
-- rX8_news
set_option maxRecDepth 100000 in
set_option maxHeartbeats 4000000 in
theorem c137 {ks : List cT} {σ : Nat → Nat → Int32} {ρ : Nat → xE} {h : List xE} (hT : HT ks σ ρ h) {B0 : Nat} (K : KE KS0 ks B0) {q0 : Nat} (o0 : xnth ks q0 = some (18, 0)) (x1 : Int32) (x2 : Int32) : yM 137 (123) 0 [.ref (q0 + 1), .int x1, .int x2] h (CQ ks σ ρ (0, 0, 0) yT0) := by
  refine yM.st xM_137 rfl rfl (fun lv g => ?_)
  have g0 := g 0 _ rfl
  have g1 := g 1 _ rfl
  have g2 := g 2 _ rfl
  refine yT.aan (pc' := 1) g0 rfl rfl rfl ?_
  refine yT.iln (pc' := 2) g1 rfl rfl ?_
  refine kZ (yT.cc (G2 := 0) (pc' := 5) rfl rfl rfl hT o0 xM_158 (c158 hT K o0 x1) rfl (by decide) (by decide) rfl) (fun h101 x104 hT102 E103 b105 => ?_)
  have i106 := b01i b105
  refine yT.if1 (t := 15) (pc' := 8) rfl rfl rfl (c1_ne rfl) (fun c107 => ?_) (fun c107 => ?_)
  · refine yT.kI (pc' := 16) rfl rfl (by decide) (fun x108 e109 => ?_)
    refine yT.p (pc' := 17) (lv' := xst1 _ 3 (.int x108)) rfl rfl (fun _ _ _ _ => rfl) ?_
    refine yT.kI (pc' := 18) rfl rfl (by decide) (fun x110 e111 => ?_)
    refine yT.p (pc' := 20) (lv' := xst1 _ 4 (.int x110)) rfl rfl (fun _ _ _ _ => rfl) ?_
    have L112 : ∀ (n124 : Nat) (lv113 : xLv) (h114 : List xE) (x116 : Int32) (x117 : Int32), HT ks σ ρ h114 → xget lv113 0 = some (.ref (q0 + 1)) → xget lv113 1 = some (.int x1) → xget lv113 2 = some (.int x2) → xget lv113 3 = some (.int x116) → xget lv113 4 = some (.int x117) → 0 ≤ x117.toInt → (2147483647 - x117.toInt).toNat < n124 → yT 0 [] rX8_news (123) 0 20 lv113 [] h114 (CQ ks σ ρ (0, 0, 0) yT0) := by
      intro n124
      induction n124 with
      | zero => intro lv113 h114 x116 x117 hT115 g118 g119 g120 g121 g122 i123 m125; exact absurd m125 (Nat.not_lt_zero _)
      | succ n124 ih126 =>
        intro lv113 h114 x116 x117 hT115 g118 g119 g120 g121 g122 i123 m125
        refine yT.il (pc' := 22) g122 rfl rfl ?_
        refine yT.aan (pc' := 23) g118 rfl rfl rfl ?_
        refine yT.cg8 (pc' := 26) rfl rfl hT115 o0 rfl rfl (fun w127 => ?_)
        refine kI (yT.cc (G2 := 0) (pc' := 29) rfl rfl rfl hT115 (K.up rfl) xM_85 (c85 hT115 (K.up rfl)) rfl (by decide) (by decide) rfl) (fun h128 x131 hT129 E130 => ?_)
        refine yT.if2 (t := 102) (pc' := 32) rfl rfl rfl (c2_ge rfl rfl) (fun c132 => ?_) (fun c132 => ?_)
        · refine yT.iln (pc' := 103) g121 rfl rfl ?_
          exact yT.retI rfl rfl (qI hT129 trivial)
        · refine yT.aan (pc' := 33) g118 rfl rfl rfl ?_
          refine yT.cg8 (pc' := 36) rfl rfl hT129 o0 rfl rfl (fun w133 => ?_)
          refine yT.il (pc' := 38) g122 rfl rfl ?_
          refine kN (yT.cc (G2 := 0) (pc' := 41) rfl rfl rfl hT129 (K.up rfl) xM_87 (c87 hT129 (K.up rfl) x117) rfl (by decide) (by decide) rfl) (fun h134 hT135 E136 => ?_) (fun h134 q137 hT135 E136 o138 => ?_)
          · refine yT.p (pc' := 43) (lv' := xst1 _ 5 (.null)) rfl rfl (fun _ _ _ _ => rfl) ?_
            refine yT.aa_ (pc' := 45) xg_eq rfl rfl rfl ?_
            refine yT.p (pc' := 96) rfl rfl (fun _ _ _ _ => rfl) ?_
            refine yT.inc (pc' := 99) (xg_ne g122 rfl) rfl rfl rfl rfl ⟨by decide, by have := i32_rng x117; have := i32_rng x131; omega⟩ (fun x139 e140 => ?_)
            refine yT.p (pc' := 20) rfl rfl (fun _ _ _ _ => rfl) ?_
            exact ih126 _ _ x116 x139 hT135 (xg_ne (xg_ne g118 rfl) rfl) (xg_ne (xg_ne g119 rfl) rfl) (xg_ne (xg_ne g120 rfl) rfl) (xg_ne (xg_ne g121 rfl) rfl) xg_eq (by omega) (by have := i32_rng x139; omega)
          · have i141 : 0 ≤ x117.toInt ∧ x117.toInt < 24 := (show _ ∨ _ from E136).elim (fun e => by cases e) id
            refine yT.p (pc' := 43) (lv' := xst1 _ 5 (.ref (q137 + 1))) rfl rfl (fun _ _ _ _ => rfl) ?_
            refine yT.aa_ (pc' := 45) xg_eq rfl rfl rfl ?_
            refine yT.p (pc' := 48) rfl rfl (fun _ _ _ _ => rfl) ?_
            refine yT.aa_ (pc' := 50) xg_eq rfl rfl rfl ?_
            refine yT.cgZ (pc' := 53) rfl rfl hT135 o138 rfl rfl (fun x143 w142 b144 => ?_)
            have i145 := b01i b144
            refine yT.if1 (t := 96) (pc' := 56) rfl rfl rfl (c1_ne rfl) (fun c146 => ?_) (fun c146 => ?_)
            · refine yT.inc (pc' := 99) (xg_ne g122 rfl) rfl rfl rfl rfl ⟨by decide, by have := i32_rng x117; have := i32_rng x131; omega⟩ (fun x147 e148 => ?_)
              refine yT.p (pc' := 20) rfl rfl (fun _ _ _ _ => rfl) ?_
              exact ih126 _ _ x116 x147 hT135 (xg_ne (xg_ne g118 rfl) rfl) (xg_ne (xg_ne g119 rfl) rfl) (xg_ne (xg_ne g120 rfl) rfl) (xg_ne (xg_ne g121 rfl) rfl) xg_eq (by omega) (by have := i32_rng x147; omega)
            · refine yT.aa_ (pc' := 58) xg_eq rfl rfl rfl ?_
              refine yT.kI (pc' := 59) rfl rfl (by decide) (fun x149 e150 => ?_)
              refine kZ (yT.cc (G2 := 0) (pc' := 62) rfl rfl rfl hT135 o138 xM_8 (c8 hT135 o138 x149) rfl (by decide) (by decide) rfl) (fun h151 x154 hT152 E153 b155 => ?_)
              have i156 := b01i b155
              refine yT.if1 (t := 96) (pc' := 65) rfl rfl rfl (c1_eq rfl) (fun c157 => ?_) (fun c157 => ?_)
              · refine yT.inc (pc' := 99) (xg_ne g122 rfl) rfl rfl rfl rfl ⟨by decide, by have := i32_rng x117; have := i32_rng x131; omega⟩ (fun x158 e159 => ?_)
                refine yT.p (pc' := 20) rfl rfl (fun _ _ _ _ => rfl) ?_
                exact ih126 _ _ x116 x158 hT152 (xg_ne (xg_ne g118 rfl) rfl) (xg_ne (xg_ne g119 rfl) rfl) (xg_ne (xg_ne g120 rfl) rfl) (xg_ne (xg_ne g121 rfl) rfl) xg_eq (by omega) (by have := i32_rng x158; omega)
              · refine yT.aan (pc' := 66) (xg_ne g118 rfl) rfl rfl rfl ?_
                refine yT.cgR (pc' := 69) rfl rfl hT152 o0 rfl rfl (fun q161 w160 o162 => ?_)
                refine yT.il (pc' := 71) (xg_ne g122 rfl) rfl rfl ?_
                refine kL (yT.cc (G2 := 0) (pc' := 74) rfl rfl rfl hT152 o162 xM_1 (c1 hT152 o162 x117) rfl (by decide) (by decide) rfl) (fun h163 x166 hT164 E165 => ?_)
                refine yT.aan (pc' := 75) (xg_ne g118 rfl) rfl rfl rfl ?_
                refine yT.cgR (pc' := 78) rfl rfl hT164 o0 rfl rfl (fun q168 w167 o169 => ?_)
                refine yT.iln (pc' := 79) (xg_ne g119 rfl) rfl rfl ?_
                refine yT.iln (pc' := 80) (xg_ne g120 rfl) rfl rfl ?_
                refine yT.il (pc' := 82) (xg_ne g122 rfl) rfl rfl ?_
                refine kL (yT.cc (G2 := 0) (pc' := 85) rfl rfl rfl hT164 o169 xM_2 (c2 hT164 o169 x1 x2 x117) rfl (by decide) (by decide) rfl) (fun h170 x173 hT171 E172 => ?_)
                refine yT.fi (pc' := 86) rfl rfl (fun _ _ _ _ => rfl) (fun x174 => ?_)
                refine yT.if1 (t := 96) (pc' := 89) rfl rfl rfl (c1_eq rfl) (fun c175 => ?_) (fun c175 => ?_)
                · refine yT.inc (pc' := 99) (xg_ne g122 rfl) rfl rfl rfl rfl ⟨by decide, by have := i32_rng x117; have := i32_rng x131; omega⟩ (fun x176 e177 => ?_)
                  refine yT.p (pc' := 20) rfl rfl (fun _ _ _ _ => rfl) ?_
                  exact ih126 _ _ x116 x176 hT171 (xg_ne (xg_ne g118 rfl) rfl) (xg_ne (xg_ne g119 rfl) rfl) (xg_ne (xg_ne g120 rfl) rfl) (xg_ne (xg_ne g121 rfl) rfl) xg_eq (by omega) (by have := i32_rng x176; omega)
                · refine yT.iln (pc' := 90) (xg_ne g121 rfl) rfl rfl ?_
                  refine yT.kI (pc' := 91) rfl rfl (by decide) (fun x178 e179 => ?_)
                  refine yT.il (pc' := 93) (xg_ne g122 rfl) rfl rfl ?_
                  refine yT.fi (pc' := 94) rfl rfl (fun _ _ _ _ => rfl) (fun x180 => ?_)
                  refine yT.fi (pc' := 95) rfl rfl (fun _ _ _ _ => rfl) (fun x181 => ?_)
                  refine yT.p (pc' := 96) (lv' := xst1 _ 3 (.int x181)) rfl rfl (fun _ _ _ _ => rfl) ?_
                  refine yT.inc (pc' := 99) (xg_ne (xg_ne g122 rfl) rfl) rfl rfl rfl rfl ⟨by decide, by have := i32_rng x117; have := i32_rng x131; omega⟩ (fun x182 e183 => ?_)
                  refine yT.p (pc' := 20) rfl rfl (fun _ _ _ _ => rfl) ?_
                  exact ih126 _ _ x181 x182 hT171 (xg_ne (xg_ne (xg_ne g118 rfl) rfl) rfl) (xg_ne (xg_ne (xg_ne g119 rfl) rfl) rfl) (xg_ne (xg_ne (xg_ne g120 rfl) rfl) rfl) (xg_ne xg_eq rfl) xg_eq (by omega) (by have := i32_rng x182; omega)
    exact L112 _ _ _ x108 x110 hT102 (xg_ne (xg_ne g0 rfl) rfl) (xg_ne (xg_ne g1 rfl) rfl) (xg_ne (xg_ne g2 rfl) rfl) (xg_ne xg_eq rfl) xg_eq (by omega) (Nat.lt_succ_self _)
  · refine yT.aan (pc' := 9) g0 rfl rfl rfl ?_
    refine yT.kb (pc' := 11) rfl rfl (by decide) (fun x184 e185 => ?_)
    refine kI (yT.cc (G2 := 0) (pc' := 14) rfl rfl rfl hT102 o0 xM_153 (c153 hT102 K o0 x184) rfl (by decide) (by decide) rfl) (fun h186 x189 hT187 E188 => ?_)
    have e190 : x189 = x184 := by have e : some (Value.int x189) = some (.int x184) := E188; injection e with e; injection e
    have e191 : x189.toInt = (-2) := by first | (rw [e190]; done) | (rw [e190]; exact e185)
    exact yT.retI rfl rfl (qI hT187 trivial)
-- rX8_reaches
set_option maxRecDepth 100000 in
set_option maxHeartbeats 4000000 in
theorem c138 {ks : List cT} {σ : Nat → Nat → Int32} {ρ : Nat → xE} {h : List xE} (hT : HT ks σ ρ h) {B0 : Nat} (K : KE KS0 ks B0) {q0 : Nat} (o0 : xnth ks q0 = some (18, 0)) (x1 : Int32) (x2 : Int32) : yM 138 (1) 0 [.ref (q0 + 1), .int x1, .int x2] h (CQ ks σ ρ (0, 0, 0) yT0) := by
  refine yM.st xM_138 rfl rfl (fun lv g => ?_)
  have g0 := g 0 _ rfl
  have g1 := g 1 _ rfl
  have g2 := g 2 _ rfl
  refine yT.aan (pc' := 1) g0 rfl rfl rfl ?_
  refine yT.cg8 (pc' := 4) rfl rfl hT o0 rfl rfl (fun w101 => ?_)
  refine yT.iln (pc' := 5) g1 rfl rfl ?_
  refine kN (yT.cc (G2 := 0) (pc' := 8) rfl rfl rfl hT (K.up rfl) xM_87 (c87 hT (K.up rfl) x1) rfl (by decide) (by decide) rfl) (fun h102 hT103 E104 => ?_) (fun h102 q105 hT103 E104 o106 => ?_)
  · refine yT.p (pc' := 22) rfl rfl (fun _ _ _ _ => rfl) ?_
    refine yT.aan (pc' := 23) g0 rfl rfl rfl ?_
    refine yT.kb (pc' := 25) rfl rfl (by decide) (fun x107 e108 => ?_)
    refine kI (yT.cc (G2 := 0) (pc' := 28) rfl rfl rfl hT103 o0 xM_153 (c153 hT103 K o0 x107) rfl (by decide) (by decide) rfl) (fun h109 x112 hT110 E111 => ?_)
    have e113 : x112 = x107 := by have e : some (Value.int x112) = some (.int x107) := E111; injection e with e; injection e
    have e114 : x112.toInt = (-2) := by first | (rw [e113]; done) | (rw [e113]; exact e108)
    exact yT.retI rfl rfl (qI hT110 trivial)
  · have i115 : 0 ≤ x1.toInt ∧ x1.toInt < 24 := (show _ ∨ _ from E104).elim (fun e => by cases e) id
    refine yT.p (pc' := 11) rfl rfl (fun _ _ _ _ => rfl) ?_
    refine yT.aan (pc' := 12) g0 rfl rfl rfl ?_
    refine yT.cg8 (pc' := 15) rfl rfl hT103 o0 rfl rfl (fun w116 => ?_)
    refine yT.iln (pc' := 16) g2 rfl rfl ?_
    refine kN (yT.cc (G2 := 0) (pc' := 19) rfl rfl rfl hT103 (K.up rfl) xM_87 (c87 hT103 (K.up rfl) x2) rfl (by decide) (by decide) rfl) (fun h117 hT118 E119 => ?_) (fun h117 q120 hT118 E119 o121 => ?_)
    · refine yT.p (pc' := 22) rfl rfl (fun _ _ _ _ => rfl) ?_
      refine yT.aan (pc' := 23) g0 rfl rfl rfl ?_
      refine yT.kb (pc' := 25) rfl rfl (by decide) (fun x122 e123 => ?_)
      refine kI (yT.cc (G2 := 0) (pc' := 28) rfl rfl rfl hT118 o0 xM_153 (c153 hT118 K o0 x122) rfl (by decide) (by decide) rfl) (fun h124 x127 hT125 E126 => ?_)
      have e128 : x127 = x122 := by have e : some (Value.int x127) = some (.int x122) := E126; injection e with e; injection e
      have e129 : x127.toInt = (-2) := by first | (rw [e128]; done) | (rw [e128]; exact e123)
      exact yT.retI rfl rfl (qI hT125 trivial)
    · have i130 : 0 ≤ x2.toInt ∧ x2.toInt < 24 := (show _ ∨ _ from E119).elim (fun e => by cases e) id
      refine yT.p (pc' := 29) rfl rfl (fun _ _ _ _ => rfl) ?_
      refine yT.aan (pc' := 30) g0 rfl rfl rfl ?_
      refine yT.cg8 (pc' := 33) rfl rfl hT118 o0 rfl rfl (fun w131 => ?_)
      refine yT.iln (pc' := 34) g1 rfl rfl ?_
      refine kI (yT.cc (G2 := 0) (pc' := 37) rfl rfl rfl hT118 (K.up rfl) xM_97 (c97 hT118 (K.up rfl) x1) rfl (by decide) (by decide) rfl) (fun h132 x135 hT133 E134 => ?_)
      refine yT.iln (pc' := 38) g2 rfl rfl ?_
      refine yT.fi (pc' := 39) rfl rfl (fun _ _ _ _ => rfl) (fun x136 => ?_)
      refine yT.kI (pc' := 40) rfl rfl (by decide) (fun x137 e138 => ?_)
      refine yT.fi (pc' := 41) rfl rfl (fun _ _ _ _ => rfl) (fun x139 => ?_)
      exact yT.retI rfl rfl (qI hT133 trivial)
-- rX8_colours
set_option maxRecDepth 100000 in
set_option maxHeartbeats 4000000 in
theorem c139 {ks : List cT} {σ : Nat → Nat → Int32} {ρ : Nat → xE} {h : List xE} (hT : HT ks σ ρ h) {B0 : Nat} (K : KE KS0 ks B0) {q0 : Nat} (o0 : xnth ks q0 = some (18, 0)) (x1 : Int32) : yM 139 (1) 0 [.ref (q0 + 1), .int x1] h (CQ ks σ ρ (0, 0, 0) yT0) := by
  refine yM.st xM_139 rfl rfl (fun lv g => ?_)
  have g0 := g 0 _ rfl
  have g1 := g 1 _ rfl
  refine yT.iln (pc' := 1) g1 rfl rfl ?_
  refine yT.if1 (t := 9) (pc' := 4) rfl rfl rfl (c1_lt rfl) (fun c101 => ?_) (fun c101 => ?_)
  · refine yT.aan (pc' := 10) g0 rfl rfl rfl ?_
    refine yT.kb (pc' := 12) rfl rfl (by decide) (fun x102 e103 => ?_)
    refine kI (yT.cc (G2 := 0) (pc' := 15) rfl rfl rfl hT o0 xM_153 (c153 hT K o0 x102) rfl (by decide) (by decide) rfl) (fun h104 x107 hT105 E106 => ?_)
    have e108 : x107 = x102 := by have e : some (Value.int x107) = some (.int x102) := E106; injection e with e; injection e
    have e109 : x107.toInt = (-2) := by first | (rw [e108]; done) | (rw [e108]; exact e103)
    exact yT.retI rfl rfl (qI hT105 trivial)
  · refine yT.iln (pc' := 5) g1 rfl rfl ?_
    refine yT.kI (pc' := 6) rfl rfl (by decide) (fun x110 e111 => ?_)
    refine yT.if2 (t := 16) (pc' := 9) rfl rfl rfl (c2_le rfl e111) (fun c112 => ?_) (fun c112 => ?_)
    · refine yT.aan (pc' := 17) g0 rfl rfl rfl ?_
      refine yT.cg8 (pc' := 20) rfl rfl hT o0 rfl rfl (fun w113 => ?_)
      refine yT.iln (pc' := 21) g1 rfl rfl ?_
      refine kI (yT.cc (G2 := 0) (pc' := 24) rfl rfl rfl hT (K.up rfl) xM_99 (c99 hT (K.up rfl) x1) rfl (by decide) (by decide) rfl) (fun h114 x117 hT115 E116 => ?_)
      exact yT.retI rfl rfl (qI hT115 trivial)
    · refine yT.aan (pc' := 10) g0 rfl rfl rfl ?_
      refine yT.kb (pc' := 12) rfl rfl (by decide) (fun x118 e119 => ?_)
      refine kI (yT.cc (G2 := 0) (pc' := 15) rfl rfl rfl hT o0 xM_153 (c153 hT K o0 x118) rfl (by decide) (by decide) rfl) (fun h120 x123 hT121 E122 => ?_)
      have e124 : x123 = x118 := by have e : some (Value.int x123) = some (.int x118) := E122; injection e with e; injection e
      have e125 : x123.toInt = (-2) := by first | (rw [e124]; done) | (rw [e124]; exact e119)
      exact yT.retI rfl rfl (qI hT121 trivial)
-- rX8_signs
set_option maxRecDepth 100000 in
set_option maxHeartbeats 4000000 in
theorem c140 {ks : List cT} {σ : Nat → Nat → Int32} {ρ : Nat → xE} {h : List xE} (hT : HT ks σ ρ h) {B0 : Nat} (K : KE KS0 ks B0) {q0 : Nat} (o0 : xnth ks q0 = some (18, 0)) (x1 : Int32) (x2 : Int32) (x3 : Int32) : yM 140 (1) 0 [.ref (q0 + 1), .int x1, .int x2, .int x3] h (CQ ks σ ρ (0, 0, 0) yT0) := by
  refine yM.st xM_140 rfl rfl (fun lv g => ?_)
  have g0 := g 0 _ rfl
  have g1 := g 1 _ rfl
  have g2 := g 2 _ rfl
  have g3 := g 3 _ rfl
  refine yT.kI (pc' := 1) rfl rfl (by decide) (fun x101 e102 => ?_)
  refine yT.p (pc' := 3) (lv' := xst1 _ 4 (.int x101)) rfl rfl (fun _ _ _ _ => rfl) ?_
  refine yT.kI (pc' := 4) rfl rfl (by decide) (fun x103 e104 => ?_)
  refine yT.p (pc' := 6) (lv' := xst1 _ 5 (.int x103)) rfl rfl (fun _ _ _ _ => rfl) ?_
  have L105 : ∀ (n117 : Nat) (lv106 : xLv) (h107 : List xE) (x109 : Int32) (x110 : Int32), HT ks σ ρ h107 → xget lv106 1 = some (.int x1) → xget lv106 2 = some (.int x2) → xget lv106 3 = some (.int x3) → xget lv106 4 = some (.int x109) → xget lv106 5 = some (.int x110) → 0 ≤ x110.toInt → (2147483647 - x110.toInt).toNat < n117 → yT 0 [] rX8_signs (1) 0 6 lv106 [] h107 (CQ ks σ ρ (0, 0, 0) yT0) := by
    intro n117
    induction n117 with
    | zero => intro lv106 h107 x109 x110 hT108 g111 g112 g113 g114 g115 i116 m118; exact absurd m118 (Nat.not_lt_zero _)
    | succ n117 ih119 =>
      intro lv106 h107 x109 x110 hT108 g111 g112 g113 g114 g115 i116 m118
      refine yT.il (pc' := 8) g115 rfl rfl ?_
      refine yT.kb (pc' := 10) rfl rfl (by decide) (fun x120 e121 => ?_)
      refine yT.if2 (t := 67) (pc' := 13) rfl rfl rfl (c2_ge rfl e121) (fun c122 => ?_) (fun c122 => ?_)
      · refine yT.il (pc' := 69) g114 rfl rfl ?_
        exact yT.retI rfl rfl (qI hT108 trivial)
      · refine yT.iln (pc' := 14) g112 rfl rfl ?_
        have J123 : ∀ (lv124 : xLv), xget lv124 1 = some (.int x1) → xget lv124 2 = some (.int x2) → xget lv124 3 = some (.int x3) → xget lv124 4 = some (.int x109) → xget lv124 5 = some (.int x110) → yT 0 [] rX8_signs (1) 0 33 lv124 [] h107 (CQ ks σ ρ (0, 0, 0) yT0) := by
          intro lv124 g125 g126 g127 g128 g129
          refine yT.kI (pc' := 34) rfl rfl (by decide) (fun x130 e131 => ?_)
          refine yT.p (pc' := 36) (lv' := xst1 _ 6 (.int x130)) rfl rfl (fun _ _ _ _ => rfl) ?_
          refine yT.il (pc' := 38) xg_eq rfl rfl ?_
          refine yT.if1 (t := 61) (pc' := 41) rfl rfl rfl (c1_ne e131) (fun c132 => by omega) (fun c132 => ?_)
          refine yT.il (pc' := 43) (xg_ne g129 rfl) rfl rfl ?_
          refine yT.iln (pc' := 44) (xg_ne g125 rfl) rfl rfl ?_
          refine yT.iln (pc' := 45) (xg_ne g126 rfl) rfl rfl ?_
          refine kI (yT.cst (G2 := 0) (pc' := 48) rfl rfl xM_161 (c161 hT108 x110 x1 x2) rfl (by decide) (by decide) rfl) (fun h133 x136 hT134 E135 => ?_)
          refine yT.iln (pc' := 49) (xg_ne g127 rfl) rfl rfl ?_
          refine yT.if2 (t := 61) (pc' := 52) rfl rfl rfl (c2_ne rfl rfl) (fun c137 => ?_) (fun c137 => ?_)
          · refine yT.inc (pc' := 64) (xg_ne g129 rfl) rfl rfl rfl rfl ⟨by decide, by have := i32_rng x110; omega⟩ (fun x138 e139 => ?_)
            refine yT.p (pc' := 6) rfl rfl (fun _ _ _ _ => rfl) ?_
            exact ih119 _ _ x109 x138 hT134 (xg_ne (xg_ne g125 rfl) rfl) (xg_ne (xg_ne g126 rfl) rfl) (xg_ne (xg_ne g127 rfl) rfl) (xg_ne (xg_ne g128 rfl) rfl) xg_eq (by omega) (by have := i32_rng x138; omega)
          · refine yT.il (pc' := 54) (xg_ne g128 rfl) rfl rfl ?_
            refine yT.kI (pc' := 55) rfl rfl (by decide) (fun x140 e141 => ?_)
            refine yT.il (pc' := 57) (xg_ne g129 rfl) rfl rfl ?_
            refine yT.fi (pc' := 58) rfl rfl (fun _ _ _ _ => rfl) (fun x142 => ?_)
            refine yT.fi (pc' := 59) rfl rfl (fun _ _ _ _ => rfl) (fun x143 => ?_)
            refine yT.p (pc' := 61) (lv' := xst1 _ 4 (.int x143)) rfl rfl (fun _ _ _ _ => rfl) ?_
            refine yT.inc (pc' := 64) (xg_ne (xg_ne g129 rfl) rfl) rfl rfl rfl rfl ⟨by decide, by have := i32_rng x110; omega⟩ (fun x144 e145 => ?_)
            refine yT.p (pc' := 6) rfl rfl (fun _ _ _ _ => rfl) ?_
            exact ih119 _ _ x143 x144 hT134 (xg_ne (xg_ne (xg_ne g125 rfl) rfl) rfl) (xg_ne (xg_ne (xg_ne g126 rfl) rfl) rfl) (xg_ne (xg_ne (xg_ne g127 rfl) rfl) rfl) (xg_ne xg_eq rfl) xg_eq (by omega) (by have := i32_rng x144; omega)
        refine yT.if1 (t := 33) (pc' := 17) rfl rfl rfl (c1_ne rfl) (fun c146 => ?_) (fun c146 => ?_)
        · exact J123 _ g111 g112 g113 g114 g115
        · refine yT.il (pc' := 19) g115 rfl rfl ?_
          refine yT.kI (pc' := 20) rfl rfl (by decide) (fun x147 e148 => ?_)
          have J149 : ∀ (lv150 : xLv), xget lv150 1 = some (.int x1) → xget lv150 2 = some (.int x2) → xget lv150 3 = some (.int x3) → xget lv150 4 = some (.int x109) → xget lv150 5 = some (.int x110) → yT 0 [] rX8_signs (1) 0 29 lv150 [] h107 (CQ ks σ ρ (0, 0, 0) yT0) := by
            intro lv150 g151 g152 g153 g154 g155
            refine yT.kI (pc' := 30) rfl rfl (by decide) (fun x156 e157 => ?_)
            refine yT.p (pc' := 34) rfl rfl (fun _ _ _ _ => rfl) ?_
            refine yT.p (pc' := 36) (lv' := xst1 _ 6 (.int x156)) rfl rfl (fun _ _ _ _ => rfl) ?_
            refine yT.il (pc' := 38) xg_eq rfl rfl ?_
            refine yT.if1 (t := 61) (pc' := 41) rfl rfl rfl (c1_ne e157) (fun c158 => ?_) (fun c158 => by omega)
            refine yT.inc (pc' := 64) (xg_ne g155 rfl) rfl rfl rfl rfl ⟨by decide, by have := i32_rng x110; omega⟩ (fun x159 e160 => ?_)
            refine yT.p (pc' := 6) rfl rfl (fun _ _ _ _ => rfl) ?_
            exact ih119 _ _ x109 x159 hT108 (xg_ne (xg_ne g151 rfl) rfl) (xg_ne (xg_ne g152 rfl) rfl) (xg_ne (xg_ne g153 rfl) rfl) (xg_ne (xg_ne g154 rfl) rfl) xg_eq (by omega) (by have := i32_rng x159; omega)
          refine yT.if2 (t := 29) (pc' := 23) rfl rfl rfl (c2_eq rfl e148) (fun c161 => ?_) (fun c161 => ?_)
          · exact J149 _ g111 g112 g113 g114 g115
          · refine yT.il (pc' := 25) g115 rfl rfl ?_
            refine yT.kI (pc' := 26) rfl rfl (by decide) (fun x162 e163 => ?_)
            refine yT.if2 (t := 33) (pc' := 29) rfl rfl rfl (c2_ne rfl e163) (fun c164 => ?_) (fun c164 => ?_)
            · exact J123 _ g111 g112 g113 g114 g115
            · exact J149 _ g111 g112 g113 g114 g115
  exact L105 _ _ _ x101 x103 hT (xg_ne (xg_ne g1 rfl) rfl) (xg_ne (xg_ne g2 rfl) rfl) (xg_ne (xg_ne g3 rfl) rfl) (xg_ne xg_eq rfl) xg_eq (by omega) (Nat.lt_succ_self _)
-- rX8_log
set_option maxRecDepth 100000 in
set_option maxHeartbeats 4000000 in
theorem c141 {ks : List cT} {σ : Nat → Nat → Int32} {ρ : Nat → xE} {h : List xE} (hT : HT ks σ ρ h) {B0 : Nat} (K : KE KS0 ks B0) {q0 : Nat} (o0 : xnth ks q0 = some (18, 0)) (x1 : Int32) : yM 141 (2) 0 [.ref (q0 + 1), .int x1] h (CQ ks σ ρ (0, 0, 0) yT0) := by
  refine yM.st xM_141 rfl rfl (fun lv g => ?_)
  have g0 := g 0 _ rfl
  have g1 := g 1 _ rfl
  refine yT.aan (pc' := 1) g0 rfl rfl rfl ?_
  refine yT.cg8 (pc' := 4) rfl rfl hT o0 rfl rfl (fun w101 => ?_)
  refine yT.iln (pc' := 5) g1 rfl rfl ?_
  refine kZ (yT.cc (G2 := 0) (pc' := 8) rfl rfl rfl hT (K.up rfl) xM_102 (c102 hT (K.up rfl) x1) rfl (by decide) (by decide) rfl) (fun h102 x105 hT103 E104 b106 => ?_)
  have i107 := b01i b106
  refine yT.if1 (t := 18) (pc' := 11) rfl rfl rfl (c1_ne rfl) (fun c108 => ?_) (fun c108 => ?_)
  · refine yT.aan (pc' := 19) g0 rfl rfl rfl ?_
    refine yT.cg8 (pc' := 22) rfl rfl hT103 o0 rfl rfl (fun w109 => ?_)
    refine yT.cgR (pc' := 25) rfl rfl hT103 (K.up rfl) rfl rfl (fun q111 w110 o112 => ?_)
    refine yT.iln (pc' := 26) g1 rfl rfl ?_
    refine kI (yT.cc (G2 := 0) (pc' := 29) rfl rfl rfl hT103 o112 xM_46 (c46 hT103 o112 (by decide) x1) rfl (by decide) (by decide) rfl) (fun h113 x116 hT114 E115 => ?_)
    exact yT.retI rfl rfl (qI hT114 trivial)
  · refine yT.aan (pc' := 12) g0 rfl rfl rfl ?_
    refine yT.kb (pc' := 14) rfl rfl (by decide) (fun x117 e118 => ?_)
    refine kI (yT.cc (G2 := 0) (pc' := 17) rfl rfl rfl hT103 o0 xM_153 (c153 hT103 K o0 x117) rfl (by decide) (by decide) rfl) (fun h119 x122 hT120 E121 => ?_)
    have e123 : x122 = x117 := by have e : some (Value.int x122) = some (.int x117) := E121; injection e with e; injection e
    have e124 : x122.toInt = (-2) := by first | (rw [e123]; done) | (rw [e123]; exact e118)
    exact yT.retI rfl rfl (qI hT120 trivial)
-- rX8_logged
set_option maxRecDepth 100000 in
set_option maxHeartbeats 4000000 in
theorem c142 {ks : List cT} {σ : Nat → Nat → Int32} {ρ : Nat → xE} {h : List xE} (hT : HT ks σ ρ h) {B0 : Nat} (K : KE KS0 ks B0) {q0 : Nat} (o0 : xnth ks q0 = some (18, 0)) (x1 : Int32) : yM 142 (2) 0 [.ref (q0 + 1), .int x1] h (CQ ks σ ρ (2, 0, 0) yT0) := by
  refine yM.st xM_142 rfl rfl (fun lv g => ?_)
  have g0 := g 0 _ rfl
  have g1 := g 1 _ rfl
  refine yT.aan (pc' := 1) g0 rfl rfl rfl ?_
  refine yT.cg8 (pc' := 4) rfl rfl hT o0 rfl rfl (fun w101 => ?_)
  refine yT.iln (pc' := 5) g1 rfl rfl ?_
  refine kZ (yT.cc (G2 := 0) (pc' := 8) rfl rfl rfl hT (K.up rfl) xM_102 (c102 hT (K.up rfl) x1) rfl (by decide) (by decide) rfl) (fun h102 x105 hT103 E104 b106 => ?_)
  have i107 := b01i b106
  refine yT.if1 (t := 18) (pc' := 11) rfl rfl rfl (c1_ne rfl) (fun c108 => ?_) (fun c108 => ?_)
  · refine yT.aan (pc' := 19) g0 rfl rfl rfl ?_
    refine yT.cg8 (pc' := 22) rfl rfl hT103 o0 rfl rfl (fun w109 => ?_)
    refine yT.iln (pc' := 23) g1 rfl rfl ?_
    refine kL (yT.cc (G2 := 0) (pc' := 26) rfl rfl rfl hT103 (K.up rfl) xM_103 (c103 hT103 (K.up rfl) x1) rfl (by decide) (by decide) rfl) (fun h110 x113 hT111 E112 => ?_)
    exact yT.retL rfl rfl (qL hT111 trivial)
  · refine yT.aan (pc' := 12) g0 rfl rfl rfl ?_
    refine yT.kb (pc' := 14) rfl rfl (by decide) (fun x114 e115 => ?_)
    refine kL (yT.cc (G2 := 0) (pc' := 17) rfl rfl rfl hT103 o0 xM_154 (c154 hT103 K o0 x114) rfl (by decide) (by decide) rfl) (fun h116 x119 hT117 E118 => ?_)
    exact yT.retL rfl rfl (qL hT117 trivial)
-- rX8_disposed
set_option maxRecDepth 100000 in
set_option maxHeartbeats 4000000 in
theorem c143 {ks : List cT} {σ : Nat → Nat → Int32} {ρ : Nat → xE} {h : List xE} (hT : HT ks σ ρ h) {B0 : Nat} (K : KE KS0 ks B0) {q0 : Nat} (o0 : xnth ks q0 = some (18, 0)) (x1 : Int32) : yM 143 (1) 0 [.ref (q0 + 1), .int x1] h (CQ ks σ ρ (0, 0, 0) yT0) := by
  refine yM.st xM_143 rfl rfl (fun lv g => ?_)
  have g0 := g 0 _ rfl
  have g1 := g 1 _ rfl
  refine yT.iln (pc' := 1) g1 rfl rfl ?_
  refine yT.if1 (t := 18) (pc' := 4) rfl rfl rfl (c1_lt rfl) (fun c101 => ?_) (fun c101 => ?_)
  · refine yT.aan (pc' := 19) g0 rfl rfl rfl ?_
    refine yT.kb (pc' := 21) rfl rfl (by decide) (fun x102 e103 => ?_)
    refine kI (yT.cc (G2 := 0) (pc' := 24) rfl rfl rfl hT o0 xM_153 (c153 hT K o0 x102) rfl (by decide) (by decide) rfl) (fun h104 x107 hT105 E106 => ?_)
    have e108 : x107 = x102 := by have e : some (Value.int x107) = some (.int x102) := E106; injection e with e; injection e
    have e109 : x107.toInt = (-2) := by first | (rw [e108]; done) | (rw [e108]; exact e103)
    exact yT.retI rfl rfl (qI hT105 trivial)
  · refine yT.iln (pc' := 5) g1 rfl rfl ?_
    refine yT.aan (pc' := 6) g0 rfl rfl rfl ?_
    refine yT.cg8 (pc' := 9) rfl rfl hT o0 rfl rfl (fun w110 => ?_)
    refine yT.cgR (pc' := 12) rfl rfl hT (K.up rfl) rfl rfl (fun q112 w111 o113 => ?_)
    refine kS (yT.cc (G2 := 0) (pc' := 15) rfl rfl rfl hT o113 xM_44 (c44 hT o113 (by decide)) rfl (by decide) (by decide) rfl) (fun h114 x117 hT115 E116 i118 i119 => ?_)
    refine yT.if2 (t := 25) (pc' := 18) rfl rfl rfl (c2_lt rfl rfl) (fun c120 => ?_) (fun c120 => ?_)
    · refine yT.aan (pc' := 26) g0 rfl rfl rfl ?_
      refine yT.cg8 (pc' := 29) rfl rfl hT115 o0 rfl rfl (fun w121 => ?_)
      refine yT.cgR (pc' := 32) rfl rfl hT115 (K.up rfl) rfl rfl (fun q123 w122 o124 => ?_)
      refine yT.iln (pc' := 33) g1 rfl rfl ?_
      refine kI (yT.cc (G2 := 0) (pc' := 36) rfl rfl rfl hT115 o124 xM_46 (c46 hT115 o124 (by decide) x1) rfl (by decide) (by decide) rfl) (fun h125 x128 hT126 E127 => ?_)
      exact yT.retI rfl rfl (qI hT126 trivial)
    · refine yT.aan (pc' := 19) g0 rfl rfl rfl ?_
      refine yT.kb (pc' := 21) rfl rfl (by decide) (fun x129 e130 => ?_)
      refine kI (yT.cc (G2 := 0) (pc' := 24) rfl rfl rfl hT115 o0 xM_153 (c153 hT115 K o0 x129) rfl (by decide) (by decide) rfl) (fun h131 x134 hT132 E133 => ?_)
      have e135 : x134 = x129 := by have e : some (Value.int x134) = some (.int x129) := E133; injection e with e; injection e
      have e136 : x134.toInt = (-2) := by first | (rw [e135]; done) | (rw [e135]; exact e130)
      exact yT.retI rfl rfl (qI hT132 trivial)
-- rX8_queued
set_option maxRecDepth 100000 in
set_option maxHeartbeats 4000000 in
theorem c144 {ks : List cT} {σ : Nat → Nat → Int32} {ρ : Nat → xE} {h : List xE} (hT : HT ks σ ρ h) {B0 : Nat} (K : KE KS0 ks B0) {q0 : Nat} (o0 : xnth ks q0 = some (18, 0)) (x1 : Int32) : yM 144 (1) 0 [.ref (q0 + 1), .int x1] h (CQ ks σ ρ (0, 0, 0) yT0) := by
  refine yM.st xM_144 rfl rfl (fun lv g => ?_)
  have g0 := g 0 _ rfl
  have g1 := g 1 _ rfl
  refine yT.iln (pc' := 1) g1 rfl rfl ?_
  refine yT.if1 (t := 18) (pc' := 4) rfl rfl rfl (c1_lt rfl) (fun c101 => ?_) (fun c101 => ?_)
  · refine yT.aan (pc' := 19) g0 rfl rfl rfl ?_
    refine yT.kb (pc' := 21) rfl rfl (by decide) (fun x102 e103 => ?_)
    refine kI (yT.cc (G2 := 0) (pc' := 24) rfl rfl rfl hT o0 xM_153 (c153 hT K o0 x102) rfl (by decide) (by decide) rfl) (fun h104 x107 hT105 E106 => ?_)
    have e108 : x107 = x102 := by have e : some (Value.int x107) = some (.int x102) := E106; injection e with e; injection e
    have e109 : x107.toInt = (-2) := by first | (rw [e108]; done) | (rw [e108]; exact e103)
    exact yT.retI rfl rfl (qI hT105 trivial)
  · refine yT.iln (pc' := 5) g1 rfl rfl ?_
    refine yT.aan (pc' := 6) g0 rfl rfl rfl ?_
    refine yT.cg8 (pc' := 9) rfl rfl hT o0 rfl rfl (fun w110 => ?_)
    refine yT.cgR (pc' := 12) rfl rfl hT (K.up rfl) rfl rfl (fun q112 w111 o113 => ?_)
    refine kS (yT.cc (G2 := 0) (pc' := 15) rfl rfl rfl hT o113 xM_44 (c44 hT o113 (by decide)) rfl (by decide) (by decide) rfl) (fun h114 x117 hT115 E116 i118 i119 => ?_)
    refine yT.if2 (t := 25) (pc' := 18) rfl rfl rfl (c2_lt rfl rfl) (fun c120 => ?_) (fun c120 => ?_)
    · refine yT.aan (pc' := 26) g0 rfl rfl rfl ?_
      refine yT.cg8 (pc' := 29) rfl rfl hT115 o0 rfl rfl (fun w121 => ?_)
      refine yT.cgR (pc' := 32) rfl rfl hT115 (K.up rfl) rfl rfl (fun q123 w122 o124 => ?_)
      refine yT.iln (pc' := 33) g1 rfl rfl ?_
      refine kI (yT.cc (G2 := 0) (pc' := 36) rfl rfl rfl hT115 o124 xM_46 (c46 hT115 o124 (by decide) x1) rfl (by decide) (by decide) rfl) (fun h125 x128 hT126 E127 => ?_)
      exact yT.retI rfl rfl (qI hT126 trivial)
    · refine yT.aan (pc' := 19) g0 rfl rfl rfl ?_
      refine yT.kb (pc' := 21) rfl rfl (by decide) (fun x129 e130 => ?_)
      refine kI (yT.cc (G2 := 0) (pc' := 24) rfl rfl rfl hT115 o0 xM_153 (c153 hT115 K o0 x129) rfl (by decide) (by decide) rfl) (fun h131 x134 hT132 E133 => ?_)
      have e135 : x134 = x129 := by have e : some (Value.int x134) = some (.int x129) := E133; injection e with e; injection e
      have e136 : x134.toInt = (-2) := by first | (rw [e135]; done) | (rw [e135]; exact e130)
      exact yT.retI rfl rfl (qI hT132 trivial)
-- rX8_judge
set_option maxRecDepth 100000 in
set_option maxHeartbeats 4000000 in
theorem c145 {ks : List cT} {σ : Nat → Nat → Int32} {ρ : Nat → xE} {h : List xE} (hT : HT ks σ ρ h) {B0 : Nat} (K : KE KS0 ks B0) {q0 : Nat} (o0 : xnth ks q0 = some (18, 0)) (x1 : Int32) (x2 : Int32) : yM 145 (3) 0 [.ref (q0 + 1), .int x1, .int x2] h (CQ ks σ ρ (0, 0, 0) yT0) := by
  refine yM.st xM_145 rfl rfl (fun lv g => ?_)
  have g0 := g 0 _ rfl
  have g1 := g 1 _ rfl
  have g2 := g 2 _ rfl
  refine yT.aan (pc' := 1) g0 rfl rfl rfl ?_
  refine yT.iln (pc' := 2) g1 rfl rfl ?_
  refine kN (yT.cc (G2 := 0) (pc' := 5) rfl rfl rfl hT o0 xM_156 (c156 hT K o0 x1) rfl (by decide) (by decide) rfl) (fun h101 hT102 E103 => ?_) (fun h101 q104 hT102 E103 o105 => ?_)
  · have i106 : ¬ (0 ≤ x1.toInt ∧ x1.toInt < 8) := (show _ ∨ _ from E103).elim (fun e => e.2) (fun e => absurd rfl e.1)
    refine yT.p (pc' := 6) (lv' := xst1 _ 3 (.null)) rfl rfl (fun _ _ _ _ => rfl) ?_
    refine yT.aan (pc' := 7) xg_eq rfl rfl rfl ?_
    refine yT.p (pc' := 20) rfl rfl (fun _ _ _ _ => rfl) ?_
    refine yT.aan (pc' := 21) (xg_ne g0 rfl) rfl rfl rfl ?_
    refine yT.kb (pc' := 23) rfl rfl (by decide) (fun x107 e108 => ?_)
    refine kI (yT.cc (G2 := 0) (pc' := 26) rfl rfl rfl hT102 o0 xM_153 (c153 hT102 K o0 x107) rfl (by decide) (by decide) rfl) (fun h109 x112 hT110 E111 => ?_)
    have e113 : x112 = x107 := by have e : some (Value.int x112) = some (.int x107) := E111; injection e with e; injection e
    have e114 : x112.toInt = (-2) := by first | (rw [e113]; done) | (rw [e113]; exact e108)
    exact yT.retI rfl rfl (qI hT110 trivial)
  · have i115 : 0 ≤ x1.toInt ∧ x1.toInt < 8 := (show _ ∨ _ from E103).elim (fun e => by cases e.1) (fun e => e.2)
    refine yT.p (pc' := 6) (lv' := xst1 _ 3 (.ref (q104 + 1))) rfl rfl (fun _ _ _ _ => rfl) ?_
    refine yT.aan (pc' := 7) xg_eq rfl rfl rfl ?_
    refine yT.p (pc' := 10) rfl rfl (fun _ _ _ _ => rfl) ?_
    refine yT.iln (pc' := 11) (xg_ne g2 rfl) rfl rfl ?_
    refine yT.if1 (t := 20) (pc' := 14) rfl rfl rfl (c1_lt rfl) (fun c116 => ?_) (fun c116 => ?_)
    · refine yT.aan (pc' := 21) (xg_ne g0 rfl) rfl rfl rfl ?_
      refine yT.kb (pc' := 23) rfl rfl (by decide) (fun x117 e118 => ?_)
      refine kI (yT.cc (G2 := 0) (pc' := 26) rfl rfl rfl hT102 o0 xM_153 (c153 hT102 K o0 x117) rfl (by decide) (by decide) rfl) (fun h119 x122 hT120 E121 => ?_)
      have e123 : x122 = x117 := by have e : some (Value.int x122) = some (.int x117) := E121; injection e with e; injection e
      have e124 : x122.toInt = (-2) := by first | (rw [e123]; done) | (rw [e123]; exact e118)
      exact yT.retI rfl rfl (qI hT120 trivial)
    · refine yT.iln (pc' := 15) (xg_ne g2 rfl) rfl rfl ?_
      refine yT.kb (pc' := 17) rfl rfl (by decide) (fun x125 e126 => ?_)
      refine yT.if2 (t := 27) (pc' := 20) rfl rfl rfl (c2_le rfl e126) (fun c127 => ?_) (fun c127 => ?_)
      · refine yT.aan (pc' := 28) xg_eq rfl rfl rfl ?_
        refine kI (yT.cst (G2 := 0) (pc' := 31) rfl rfl xM_157 (c157 hT102 (Or.inr ⟨_, rfl, o105⟩)) rfl (by decide) (by decide) rfl) (fun h128 x131 hT129 E130 => ?_)
        refine yT.p (pc' := 33) (lv' := xst1 _ 4 (.int x131)) rfl rfl (fun _ _ _ _ => rfl) ?_
        refine yT.il (pc' := 35) xg_eq rfl rfl ?_
        refine yT.if1 (t := 45) (pc' := 38) rfl rfl rfl (c1_eq rfl) (fun c132 => ?_) (fun c132 => ?_)
        · refine yT.aan (pc' := 46) (xg_ne xg_eq rfl) rfl rfl rfl ?_
          refine yT.kI (pc' := 47) rfl rfl (by decide) (fun x133 e134 => ?_)
          refine yT.kI (pc' := 48) rfl rfl (by decide) (fun x135 e136 => ?_)
          refine yT.iln (pc' := 49) (xg_ne (xg_ne g2 rfl) rfl) rfl rfl ?_
          refine yT.ml (pc' := 50) e136 rfl rfl rfl (by have := i32_rng x2; omega) (fun x137 e138 => ?_)
          refine kZ (yT.cc (G2 := 0) (pc' := 53) rfl rfl rfl hT129 o105 xM_79 (c79 hT129 o105 x133 x137) rfl (by decide) (by decide) rfl) (fun h139 x142 hT140 E141 b143 => ?_)
          have i144 := b01i b143
          refine yT.if1 (t := 63) (pc' := 56) rfl rfl rfl (c1_ne rfl) (fun c145 => ?_) (fun c145 => ?_)
          · refine yT.kI (pc' := 64) rfl rfl (by decide) (fun x146 e147 => ?_)
            refine yT.p (pc' := 66) (lv' := xst1 _ 5 (.int x146)) rfl rfl (fun _ _ _ _ => rfl) ?_
            have L148 : ∀ (n158 : Nat) (lv149 : xLv) (h150 : List xE) (x152 : Int32), HT ks σ ρ h150 → xget lv149 0 = some (.ref (q0 + 1)) → xget lv149 2 = some (.int x2) → xget lv149 3 = some (.ref (q104 + 1)) → xget lv149 5 = some (.int x152) → 0 ≤ x152.toInt → (2147483647 - x152.toInt).toNat < n158 → yT 0 [] rX8_judge (3) 0 66 lv149 [] h150 (CQ ks σ ρ (0, 0, 0) yT0) := by
              intro n158
              induction n158 with
              | zero => intro lv149 h150 x152 hT151 g153 g154 g155 g156 i157 m159; exact absurd m159 (Nat.not_lt_zero _)
              | succ n158 ih160 =>
                intro lv149 h150 x152 hT151 g153 g154 g155 g156 i157 m159
                refine yT.il (pc' := 68) g156 rfl rfl ?_
                refine yT.iln (pc' := 69) g154 rfl rfl ?_
                refine yT.if2 (t := 111) (pc' := 72) rfl rfl rfl (c2_ge rfl rfl) (fun c161 => ?_) (fun c161 => ?_)
                · refine yT.kI (pc' := 112) rfl rfl (by decide) (fun x162 e163 => ?_)
                  exact yT.retI rfl rfl (qI hT151 trivial)
                · refine yT.aan (pc' := 73) g153 rfl rfl rfl ?_
                  refine yT.cg8 (pc' := 76) rfl rfl hT151 o0 rfl rfl (fun w164 => ?_)
                  refine yT.il (pc' := 78) g156 rfl rfl ?_
                  refine yT.aan (pc' := 79) g155 rfl rfl rfl ?_
                  refine yT.kI (pc' := 80) rfl rfl (by decide) (fun x165 e166 => ?_)
                  refine yT.il (pc' := 82) g156 rfl rfl ?_
                  refine yT.ml (pc' := 83) e166 rfl rfl rfl (by have := i32_rng x152; have := i32_rng x2; omega) (fun x167 e168 => ?_)
                  refine kL (yT.cc (G2 := 0) (pc' := 86) rfl rfl rfl hT151 o105 xM_80 (c80 hT151 o105 x167) rfl (by decide) (by decide) rfl) (fun h169 x172 hT170 E171 => ?_)
                  refine yT.aan (pc' := 87) g155 rfl rfl rfl ?_
                  refine yT.kI (pc' := 88) rfl rfl (by decide) (fun x173 e174 => ?_)
                  refine yT.il (pc' := 90) g156 rfl rfl ?_
                  refine yT.ml (pc' := 91) e174 rfl rfl rfl (by have := i32_rng x152; have := i32_rng x2; omega) (fun x175 e176 => ?_)
                  refine yT.kI (pc' := 92) rfl rfl (by decide) (fun x177 e178 => ?_)
                  refine yT.ad (pc' := 93) e176 e178 rfl rfl (by have := i32_rng x152; have := i32_rng x2; omega) (fun x179 e180 => ?_)
                  refine kL (yT.cc (G2 := 0) (pc' := 96) rfl rfl rfl hT170 o105 xM_80 (c80 hT170 o105 x179) rfl (by decide) (by decide) rfl) (fun h181 x184 hT182 E183 => ?_)
                  refine kZ (yT.cc (G2 := 0) (pc' := 99) rfl rfl rfl hT182 (K.up rfl) xM_104 (c104 hT182 (K.up rfl) x152 x172 x184) rfl (by decide) (by decide) rfl) (fun h185 x188 hT186 E187 b189 => ?_)
                  have i190 := b01i b189
                  refine yT.if1 (t := 105) (pc' := 102) rfl rfl rfl (c1_ne rfl) (fun c191 => ?_) (fun c191 => ?_)
                  · refine yT.inc (pc' := 108) g156 rfl rfl rfl rfl ⟨by decide, by have := i32_rng x152; have := i32_rng x2; omega⟩ (fun x192 e193 => ?_)
                    refine yT.p (pc' := 66) rfl rfl (fun _ _ _ _ => rfl) ?_
                    exact ih160 _ _ x192 hT186 (xg_ne g153 rfl) (xg_ne g154 rfl) (xg_ne g155 rfl) xg_eq (by omega) (by have := i32_rng x192; omega)
                  · refine yT.il (pc' := 104) g156 rfl rfl ?_
                    exact yT.retI rfl rfl (qI hT186 trivial)
            exact L148 _ _ _ x146 hT140 (xg_ne (xg_ne (xg_ne g0 rfl) rfl) rfl) (xg_ne (xg_ne (xg_ne g2 rfl) rfl) rfl) (xg_ne (xg_ne xg_eq rfl) rfl) xg_eq (by omega) (Nat.lt_succ_self _)
          · refine yT.aan (pc' := 57) (xg_ne (xg_ne g0 rfl) rfl) rfl rfl rfl ?_
            refine yT.kb (pc' := 59) rfl rfl (by decide) (fun x194 e195 => ?_)
            refine kI (yT.cc (G2 := 0) (pc' := 62) rfl rfl rfl hT140 o0 xM_153 (c153 hT140 K o0 x194) rfl (by decide) (by decide) rfl) (fun h196 x199 hT197 E198 => ?_)
            have e200 : x199 = x194 := by have e : some (Value.int x199) = some (.int x194) := E198; injection e with e; injection e
            have e201 : x199.toInt = (-2) := by first | (rw [e200]; done) | (rw [e200]; exact e195)
            exact yT.retI rfl rfl (qI hT197 trivial)
        · refine yT.aan (pc' := 39) (xg_ne (xg_ne g0 rfl) rfl) rfl rfl rfl ?_
          refine yT.il (pc' := 41) xg_eq rfl rfl ?_
          refine kI (yT.cc (G2 := 0) (pc' := 44) rfl rfl rfl hT129 o0 xM_153 (c153 hT129 K o0 x131) rfl (by decide) (by decide) rfl) (fun h202 x205 hT203 E204 => ?_)
          have e206 : x205 = x131 := by have e : some (Value.int x205) = some (.int x131) := E204; injection e with e; injection e
          have e207 : x205.toInt = x131.toInt := by first | (rw [e206]; done) | (rw [e206]; exact rfl)
          exact yT.retI rfl rfl (qI hT203 trivial)
      · refine yT.aan (pc' := 21) (xg_ne g0 rfl) rfl rfl rfl ?_
        refine yT.kb (pc' := 23) rfl rfl (by decide) (fun x208 e209 => ?_)
        refine kI (yT.cc (G2 := 0) (pc' := 26) rfl rfl rfl hT102 o0 xM_153 (c153 hT102 K o0 x208) rfl (by decide) (by decide) rfl) (fun h210 x213 hT211 E212 => ?_)
        have e214 : x213 = x208 := by have e : some (Value.int x213) = some (.int x208) := E212; injection e with e; injection e
        have e215 : x213.toInt = (-2) := by first | (rw [e214]; done) | (rw [e214]; exact e209)
        exact yT.retI rfl rfl (qI hT211 trivial)
