-- rX4_cleart
set_option maxRecDepth 100000 in
set_option maxHeartbeats 4000000 in
theorem c55t {ks : List cT} {σ : Nat → Nat → Int32} {ρ : Nat → xE} {h : List xE} (hT : HT ks σ ρ h) {q0 : Nat} (o0 : xnth ks q0 = some (9, 0)) : yM 55 (0) 0 [.ref (q0 + 1)] h (CQ ks (us σ q0 1 0) ρ (9, 0, 0) yT0) := by
  refine yM.st xM_55 rfl rfl (fun lv g => ?_)
  have g0 := g 0 _ rfl
  refine yT.aan (pc' := 1) g0 rfl rfl rfl ?_
  refine yT.kI (pc' := 2) rfl rfl (by decide) (fun x101 e102 => ?_)
  refine yT.cpX (c := 0) (pc' := 5) rfl rfl hT o0 rfl rfl rfl e102 (by omega) (Int32.toInt_inj.mp (show x101.toInt = (0 : Int32).toInt from e102)) (fun h103 hT104 w105 fv106 => ?_)
  refine yT.aan (pc' := 6) g0 rfl rfl rfl ?_
  refine yT.kI (pc' := 7) rfl rfl (by decide) (fun x107 e108 => ?_)
  refine yT.cpI (pc' := 10) rfl rfl hT104 o0 rfl rfl rfl (fun h109 hT110 w111 fv112 => ?_)
  exact yT.retV rfl rfl (qV hT110 trivial)
-- rX3_take
set_option maxRecDepth 100000 in
set_option maxHeartbeats 4000000 in
theorem c22 {ks : List cT} {σ : Nat → Nat → Int32} {ρ : Nat → xE} {h : List xE} (hT : HT ks σ ρ h) {q0 : Nat} (o0 : xnth ks q0 = some (13, 0)) {q1 : Nat} (o1 : xnth ks q1 = some (9, 0)) (x2 : Int32) : yM 22 (8) 3020 [.ref (q0 + 1), .ref (q1 + 1), .int x2] h (CA ks σ ρ (4, 12, 0) 9 yT0) := by
  refine yM.st xM_22 rfl rfl (fun lv g => ?_)
  have g0 := g 0 _ rfl
  have g1 := g 1 _ rfl
  have g2 := g 2 _ rfl
  refine yT.aan (pc' := 1) g0 rfl rfl rfl ?_
  refine yT.iln (pc' := 2) g2 rfl rfl ?_
  refine kV (yT.cc (G2 := 3020) (pc' := 5) rfl rfl rfl hT o0 xM_23 (c23 hT o0 x2) rfl (by decide) (by decide) rfl) (fun h101 hT102 E103 => ?_)
  refine yT.aan (pc' := 6) g1 rfl rfl rfl ?_
  refine kS (yT.cc (G2 := 3020) (pc' := 9) rfl rfl rfl hT102 o1 xM_44 (c44t hT102 o1) rfl (by decide) (by decide) rfl) (fun h104 x107 hT105 E106 i108 i109 => ?_)
  refine yT.p (pc' := 10) (lv' := xst1 _ 3 (.int x107)) rfl rfl (fun _ _ _ _ => rfl) ?_
  refine yT.kI (pc' := 11) rfl rfl (by decide) (fun x110 e111 => ?_)
  refine yT.p (pc' := 13) (lv' := xst1 _ 4 (.int x110)) rfl rfl (fun _ _ _ _ => rfl) ?_
  have L112 : ∀ (n122 : Nat) (lv113 : xLv) (h114 : List xE) (x116 : Int32), HT ks σ ρ h114 → xget lv113 0 = some (.ref (q0 + 1)) → xget lv113 1 = some (.ref (q1 + 1)) → xget lv113 3 = some (.int x107) → xget lv113 4 = some (.int x116) → 0 ≤ x116.toInt → (2147483647 - x116.toInt).toNat < n122 → yT 0 [] rX3_take (8) 3020 13 lv113 [] h114 (CA ks σ ρ (4, 12, 0) 9 yT0) := by
    intro n122
    induction n122 with
    | zero => intro lv113 h114 x116 hT115 g117 g118 g119 g120 i121 m123; exact absurd m123 (Nat.not_lt_zero _)
    | succ n122 ih124 =>
      intro lv113 h114 x116 hT115 g117 g118 g119 g120 i121 m123
      refine yT.il (pc' := 15) g120 rfl rfl ?_
      refine yT.iln (pc' := 16) g119 rfl rfl ?_
      refine yT.if2 (t := 79) (pc' := 19) rfl rfl rfl (c2_ge rfl rfl) (fun c125 => ?_) (fun c125 => ?_)
      · refine yT.aan (pc' := 80) g117 rfl rfl rfl ?_
        refine yT.cgI (pc' := 83) rfl rfl hT115 o0 rfl rfl (fun x127 w126 => ?_)
        refine yT.kI (pc' := 84) rfl rfl (by decide) (fun x128 e129 => ?_)
        refine yT.if2 (t := 89) (pc' := 87) rfl rfl rfl (c2_eq rfl e129) (fun c130 => ?_) (fun c130 => ?_)
        · refine yT.aan (pc' := 90) g117 rfl rfl rfl ?_
          refine yT.kI (pc' := 91) rfl rfl (by decide) (fun x131 e132 => ?_)
          refine kV (yT.cc (G2 := 3020) (pc' := 94) rfl rfl rfl hT115 o0 xM_33 (c33 hT115 o0 x131) rfl (by decide) (by decide) rfl) (fun h133 hT134 E135 => ?_)
          refine yT.aan (pc' := 95) g117 rfl rfl rfl ?_
          refine yT.cgZ (pc' := 98) rfl rfl hT134 o0 rfl rfl (fun x137 w136 b138 => ?_)
          have i139 := b01i b138
          refine yT.if1 (t := 111) (pc' := 101) rfl rfl rfl (c1_ne rfl) (fun c140 => ?_) (fun c140 => ?_)
          · refine yT.aan (pc' := 112) g117 rfl rfl rfl ?_
            refine yT.iln (pc' := 113) g119 rfl rfl ?_
            refine yT.cpI (pc' := 116) rfl rfl hT134 o0 rfl rfl rfl (fun h141 hT142 w143 fv144 => ?_)
            refine yT.p (pc' := 117) rfl rfl (fun _ _ _ _ => rfl) ?_
            exact yT.retA rfl rfl rfl (qAN0 (KE.rf.w (Nat.zero_le _)) hT142 trivial)
          · refine yT.aan (pc' := 102) g117 rfl rfl rfl ?_
            refine yT.cgR (pc' := 105) rfl rfl hT134 o0 rfl rfl (fun q146 w145 o147 => ?_)
            refine kS (yT.cc (G2 := 3020) (pc' := 108) rfl rfl rfl hT134 o147 xM_44 (c44 hT134 o147 (by decide)) rfl (by decide) (by decide) rfl) (fun h148 x151 hT149 E150 i152 i153 => ?_)
            refine yT.if1 (t := 118) (pc' := 111) rfl rfl rfl (c1_le rfl) (fun c154 => ?_) (fun c154 => ?_)
            · exact take_tail hT149 o0 g117 (by decide)
            · refine yT.aan (pc' := 112) g117 rfl rfl rfl ?_
              refine yT.iln (pc' := 113) g119 rfl rfl ?_
              refine yT.cpI (pc' := 116) rfl rfl hT149 o0 rfl rfl rfl (fun h155 hT156 w157 fv158 => ?_)
              refine yT.p (pc' := 117) rfl rfl (fun _ _ _ _ => rfl) ?_
              exact yT.retA rfl rfl rfl (qAN0 (KE.rf.w (Nat.zero_le _)) hT156 trivial)
        · refine yT.p (pc' := 88) rfl rfl (fun _ _ _ _ => rfl) ?_
          exact yT.retA rfl rfl rfl (qAN0 (KE.rf.w (Nat.zero_le _)) hT115 trivial)
      · refine yT.aan (pc' := 20) g117 rfl rfl rfl ?_
        refine yT.cgI (pc' := 23) rfl rfl hT115 o0 rfl rfl (fun x160 w159 => ?_)
        refine yT.iln (pc' := 24) g119 rfl rfl ?_
        refine yT.if2 (t := 79) (pc' := 27) rfl rfl rfl (c2_ge rfl rfl) (fun c161 => ?_) (fun c161 => ?_)
        · refine yT.aan (pc' := 80) g117 rfl rfl rfl ?_
          refine yT.cgI (pc' := 83) rfl rfl hT115 o0 rfl rfl (fun x163 w162 => ?_)
          refine yT.kI (pc' := 84) rfl rfl (by decide) (fun x164 e165 => ?_)
          refine yT.if2 (t := 89) (pc' := 87) rfl rfl rfl (c2_eq rfl e165) (fun c166 => ?_) (fun c166 => ?_)
          · refine yT.aan (pc' := 90) g117 rfl rfl rfl ?_
            refine yT.kI (pc' := 91) rfl rfl (by decide) (fun x167 e168 => ?_)
            refine kV (yT.cc (G2 := 3020) (pc' := 94) rfl rfl rfl hT115 o0 xM_33 (c33 hT115 o0 x167) rfl (by decide) (by decide) rfl) (fun h169 hT170 E171 => ?_)
            refine yT.aan (pc' := 95) g117 rfl rfl rfl ?_
            refine yT.cgZ (pc' := 98) rfl rfl hT170 o0 rfl rfl (fun x173 w172 b174 => ?_)
            have i175 := b01i b174
            refine yT.if1 (t := 111) (pc' := 101) rfl rfl rfl (c1_ne rfl) (fun c176 => ?_) (fun c176 => ?_)
            · refine yT.aan (pc' := 112) g117 rfl rfl rfl ?_
              refine yT.iln (pc' := 113) g119 rfl rfl ?_
              refine yT.cpI (pc' := 116) rfl rfl hT170 o0 rfl rfl rfl (fun h177 hT178 w179 fv180 => ?_)
              refine yT.p (pc' := 117) rfl rfl (fun _ _ _ _ => rfl) ?_
              exact yT.retA rfl rfl rfl (qAN0 (KE.rf.w (Nat.zero_le _)) hT178 trivial)
            · refine yT.aan (pc' := 102) g117 rfl rfl rfl ?_
              refine yT.cgR (pc' := 105) rfl rfl hT170 o0 rfl rfl (fun q182 w181 o183 => ?_)
              refine kS (yT.cc (G2 := 3020) (pc' := 108) rfl rfl rfl hT170 o183 xM_44 (c44 hT170 o183 (by decide)) rfl (by decide) (by decide) rfl) (fun h184 x187 hT185 E186 i188 i189 => ?_)
              refine yT.if1 (t := 118) (pc' := 111) rfl rfl rfl (c1_le rfl) (fun c190 => ?_) (fun c190 => ?_)
              · exact take_tail hT185 o0 g117 (by decide)
              · refine yT.aan (pc' := 112) g117 rfl rfl rfl ?_
                refine yT.iln (pc' := 113) g119 rfl rfl ?_
                refine yT.cpI (pc' := 116) rfl rfl hT185 o0 rfl rfl rfl (fun h191 hT192 w193 fv194 => ?_)
                refine yT.p (pc' := 117) rfl rfl (fun _ _ _ _ => rfl) ?_
                exact yT.retA rfl rfl rfl (qAN0 (KE.rf.w (Nat.zero_le _)) hT192 trivial)
          · refine yT.p (pc' := 88) rfl rfl (fun _ _ _ _ => rfl) ?_
            exact yT.retA rfl rfl rfl (qAN0 (KE.rf.w (Nat.zero_le _)) hT115 trivial)
        · refine yT.aan (pc' := 28) g117 rfl rfl rfl ?_
          refine yT.cgI (pc' := 31) rfl rfl hT115 o0 rfl rfl (fun x196 w195 => ?_)
          refine yT.kI (pc' := 32) rfl rfl (by decide) (fun x197 e198 => ?_)
          refine yT.if2 (t := 79) (pc' := 35) rfl rfl rfl (c2_ne rfl e198) (fun c199 => ?_) (fun c199 => ?_)
          · refine yT.aan (pc' := 80) g117 rfl rfl rfl ?_
            refine yT.cgk (pc' := 83) rfl rfl w195 ?_
            refine yT.kI (pc' := 84) rfl rfl (by decide) (fun x200 e201 => ?_)
            refine yT.if2 (t := 89) (pc' := 87) rfl rfl rfl (c2_eq rfl e201) (fun c202 => ?_) (fun c202 => ?_)
            · refine yT.aan (pc' := 90) g117 rfl rfl rfl ?_
              refine yT.kI (pc' := 91) rfl rfl (by decide) (fun x203 e204 => ?_)
              refine kV (yT.cc (G2 := 3020) (pc' := 94) rfl rfl rfl hT115 o0 xM_33 (c33 hT115 o0 x203) rfl (by decide) (by decide) rfl) (fun h205 hT206 E207 => ?_)
              refine yT.aan (pc' := 95) g117 rfl rfl rfl ?_
              refine yT.cgZ (pc' := 98) rfl rfl hT206 o0 rfl rfl (fun x209 w208 b210 => ?_)
              have i211 := b01i b210
              refine yT.if1 (t := 111) (pc' := 101) rfl rfl rfl (c1_ne rfl) (fun c212 => ?_) (fun c212 => ?_)
              · refine yT.aan (pc' := 112) g117 rfl rfl rfl ?_
                refine yT.iln (pc' := 113) g119 rfl rfl ?_
                refine yT.cpI (pc' := 116) rfl rfl hT206 o0 rfl rfl rfl (fun h213 hT214 w215 fv216 => ?_)
                refine yT.p (pc' := 117) rfl rfl (fun _ _ _ _ => rfl) ?_
                exact yT.retA rfl rfl rfl (qAN0 (KE.rf.w (Nat.zero_le _)) hT214 trivial)
              · refine yT.aan (pc' := 102) g117 rfl rfl rfl ?_
                refine yT.cgR (pc' := 105) rfl rfl hT206 o0 rfl rfl (fun q218 w217 o219 => ?_)
                refine kS (yT.cc (G2 := 3020) (pc' := 108) rfl rfl rfl hT206 o219 xM_44 (c44 hT206 o219 (by decide)) rfl (by decide) (by decide) rfl) (fun h220 x223 hT221 E222 i224 i225 => ?_)
                refine yT.if1 (t := 118) (pc' := 111) rfl rfl rfl (c1_le rfl) (fun c226 => ?_) (fun c226 => ?_)
                · exact take_tail hT221 o0 g117 (by decide)
                · refine yT.aan (pc' := 112) g117 rfl rfl rfl ?_
                  refine yT.iln (pc' := 113) g119 rfl rfl ?_
                  refine yT.cpI (pc' := 116) rfl rfl hT221 o0 rfl rfl rfl (fun h227 hT228 w229 fv230 => ?_)
                  refine yT.p (pc' := 117) rfl rfl (fun _ _ _ _ => rfl) ?_
                  exact yT.retA rfl rfl rfl (qAN0 (KE.rf.w (Nat.zero_le _)) hT228 trivial)
            · refine yT.p (pc' := 88) rfl rfl (fun _ _ _ _ => rfl) ?_
              exact yT.retA rfl rfl rfl (qAN0 (KE.rf.w (Nat.zero_le _)) hT115 trivial)
          · refine yT.aan (pc' := 36) g117 rfl rfl rfl ?_
            refine yT.cgZ (pc' := 39) rfl rfl hT115 o0 rfl rfl (fun x232 w231 b233 => ?_)
            have i234 := b01i b233
            refine yT.if1 (t := 50) (pc' := 42) rfl rfl rfl (c1_eq rfl) (fun c235 => ?_) (fun c235 => ?_)
            · refine yT.aan (pc' := 51) g117 rfl rfl rfl ?_
              refine yT.aan (pc' := 52) g118 rfl rfl rfl ?_
              refine yT.aan (pc' := 53) g117 rfl rfl rfl ?_
              refine yT.cgk (pc' := 56) rfl rfl w159 ?_
              refine kI (yT.cc (G2 := 3020) (pc' := 59) rfl rfl rfl hT115 o1 xM_46 (c46t hT115 o1 x160) rfl (by decide) (by decide) rfl) (fun h236 x239 hT237 E238 => ?_)
              refine kV (yT.cc (G2 := 3020) (pc' := 62) rfl rfl rfl hT237 o0 xM_32 (c32 hT237 o0 x239) rfl (by decide) (by decide) rfl) (fun h240 hT241 E242 => ?_)
              refine yT.aan (pc' := 63) g117 rfl rfl rfl ?_
              refine yT.cgZ (pc' := 66) rfl rfl hT241 o0 rfl rfl (fun x244 w243 b245 => ?_)
              have i246 := b01i b245
              refine yT.if1 (t := 73) (pc' := 69) rfl rfl rfl (c1_eq rfl) (fun c247 => ?_) (fun c247 => ?_)
              · refine yT.inc (pc' := 76) g120 rfl rfl rfl rfl ⟨by decide, by have := i32_rng x107; have := i32_rng x116; omega⟩ (fun x248 e249 => ?_)
                refine yT.p (pc' := 13) rfl rfl (fun _ _ _ _ => rfl) ?_
                exact ih124 _ _ x248 hT241 (xg_ne g117 rfl) (xg_ne g118 rfl) (xg_ne g119 rfl) xg_eq (by omega) (by have := i32_rng x248; omega)
              · refine yT.aan (pc' := 70) g117 rfl rfl rfl ?_
                refine kV (yT.cc (G2 := 3020) (pc' := 73) rfl rfl rfl hT241 o0 xM_31 (c31 hT241 o0) rfl (by decide) (by decide) rfl) (fun h250 hT251 E252 => ?_)
                refine yT.inc (pc' := 76) g120 rfl rfl rfl rfl ⟨by decide, by have := i32_rng x107; have := i32_rng x116; omega⟩ (fun x253 e254 => ?_)
                refine yT.p (pc' := 13) rfl rfl (fun _ _ _ _ => rfl) ?_
                exact ih124 _ _ x253 hT251 (xg_ne g117 rfl) (xg_ne g118 rfl) (xg_ne g119 rfl) xg_eq (by omega) (by have := i32_rng x253; omega)
            · refine yT.aan (pc' := 43) g117 rfl rfl rfl ?_
              refine yT.aan (pc' := 44) g118 rfl rfl rfl ?_
              refine kV (yT.cc (G2 := 3020) (pc' := 47) rfl rfl rfl hT115 o0 xM_24 (c24 hT115 o0 o1) rfl (by decide) (by decide) rfl) (fun h255 hT256 E257 => ?_)
              refine yT.p (pc' := 62) rfl rfl (fun _ _ _ _ => rfl) ?_
              refine yT.aan (pc' := 63) g117 rfl rfl rfl ?_
              refine yT.cgZ (pc' := 66) rfl rfl hT256 o0 rfl rfl (fun x259 w258 b260 => ?_)
              have i261 := b01i b260
              refine yT.if1 (t := 73) (pc' := 69) rfl rfl rfl (c1_eq rfl) (fun c262 => ?_) (fun c262 => ?_)
              · refine yT.inc (pc' := 76) g120 rfl rfl rfl rfl ⟨by decide, by have := i32_rng x107; have := i32_rng x116; omega⟩ (fun x263 e264 => ?_)
                refine yT.p (pc' := 13) rfl rfl (fun _ _ _ _ => rfl) ?_
                exact ih124 _ _ x263 hT256 (xg_ne g117 rfl) (xg_ne g118 rfl) (xg_ne g119 rfl) xg_eq (by omega) (by have := i32_rng x263; omega)
              · refine yT.aan (pc' := 70) g117 rfl rfl rfl ?_
                refine kV (yT.cc (G2 := 3020) (pc' := 73) rfl rfl rfl hT256 o0 xM_31 (c31 hT256 o0) rfl (by decide) (by decide) rfl) (fun h265 hT266 E267 => ?_)
                refine yT.inc (pc' := 76) g120 rfl rfl rfl rfl ⟨by decide, by have := i32_rng x107; have := i32_rng x116; omega⟩ (fun x268 e269 => ?_)
                refine yT.p (pc' := 13) rfl rfl (fun _ _ _ _ => rfl) ?_
                exact ih124 _ _ x268 hT266 (xg_ne g117 rfl) (xg_ne g118 rfl) (xg_ne g119 rfl) xg_eq (by omega) (by have := i32_rng x268; omega)
  exact L112 _ _ _ x110 hT105 (xg_ne (xg_ne g0 rfl) rfl) (xg_ne (xg_ne g1 rfl) rfl) (xg_ne xg_eq rfl) xg_eq (by omega) (Nat.lt_succ_self _)
-- rX7_addCell
set_option maxRecDepth 100000 in
set_option maxHeartbeats 4000000 in
theorem c89 {ks : List cT} {σ : Nat → Nat → Int32} {ρ : Nat → xE} {h : List xE} (hT : HT ks σ ρ h) {q0 : Nat} (o0 : xnth ks q0 = some (17, 0)) (x1 : Int32) (x2 : Int32) (x3 : Int64) {v5 : Value} (o5 : v5 = .null ∨ ∃ p, v5 = .ref (p + 1) ∧ xnth ks p = some (12, 0)) : yM 89 (4) 763 [.ref (q0 + 1), .int x1, .int x2, .long x3, v5] h (CA ks σ ρ (0, 0, 0) 3 yT0) := by
  rcases o5 with rfl | ⟨q5, rfl, o5⟩
  · refine yM.st xM_89 rfl rfl (fun lv g => ?_)
    have g0 := g 0 _ rfl
    have g1 := g 1 _ rfl
    have g2 := g 2 _ rfl
    have g3 := g 3 _ rfl
    have g5 := g 5 _ rfl
    refine yT.aan (pc' := 1) g0 rfl rfl rfl ?_
    refine yT.cgI (pc' := 4) rfl rfl hT o0 rfl rfl (fun x102 w101 => ?_)
    refine yT.if1 (t := 19) (pc' := 7) rfl rfl rfl (c1_lt rfl) (fun c103 => ?_) (fun c103 => ?_)
    · refine yT.kI (pc' := 20) rfl rfl (by decide) (fun x104 e105 => ?_)
      exact yT.retI rfl rfl (qAI (KE.rf.w (Nat.zero_le _)) hT trivial)
    · refine yT.aan (pc' := 8) g0 rfl rfl rfl ?_
      refine yT.cgk (pc' := 11) rfl rfl w101 ?_
      refine yT.aan (pc' := 12) g0 rfl rfl rfl ?_
      refine yT.cgR (pc' := 15) rfl rfl hT o0 rfl rfl (fun q107 w106 o108 => ?_)
      refine yT.cal (pc' := 16) rfl rfl hT o108 rfl (by omega) (fun x109 e110 => ?_)
      refine yT.if2 (t := 21) (pc' := 19) rfl rfl rfl (c2_lt rfl e110) (fun c111 => ?_) (fun c111 => ?_)
      · refine yT.aan (pc' := 22) g0 rfl rfl rfl ?_
        refine yT.aan (pc' := 23) g0 rfl rfl rfl ?_
        refine yT.cgk (pc' := 26) rfl rfl w101 ?_
        refine kAN (yT.cc (G2 := 0) (pc' := 29) rfl rfl rfl hT o0 xM_90 (c90 hT o0 x102) rfl (by decide) (by decide) rfl) (fun h112 ks115 ke116 hT113 E114 => ?_) (fun h112 ks115 q117 ke116 hT113 E114 o118 => ?_)
        · refine yT.p (pc' := 31) (lv' := xst1 _ 6 (.null)) rfl rfl (fun _ _ _ _ => rfl) ?_
          refine yT.aa_ (pc' := 33) xg_eq rfl rfl rfl ?_
          refine yT.p (pc' := 46) rfl rfl (fun _ _ _ _ => rfl) ?_
          refine yT.aan (pc' := 47) (xg_ne g0 rfl) rfl rfl rfl ?_
          refine yT.p (pc' := 48) rfl rfl (fun _ _ _ _ => rfl) ?_
          refine yT.cgI (pc' := 51) rfl rfl hT113 (ke116.up o0) rfl rfl (fun x120 w119 => ?_)
          refine yT.kI (pc' := 52) rfl rfl (by decide) (fun x121 e122 => ?_)
          refine yT.fi (pc' := 53) rfl rfl (fun _ _ _ _ => rfl) (fun x123 => ?_)
          refine yT.cpI (pc' := 56) rfl rfl hT113 (ke116.up o0) rfl rfl rfl (fun h124 hT125 w126 fv127 => ?_)
          refine yT.aan (pc' := 57) (xg_ne g0 rfl) rfl rfl rfl ?_
          refine yT.cgk (pc' := 60) rfl rfl w126 ?_
          refine yT.kI (pc' := 61) rfl rfl (by decide) (fun x128 e129 => ?_)
          refine yT.fi (pc' := 62) rfl rfl (fun _ _ _ _ => rfl) (fun x130 => ?_)
          exact yT.retI rfl rfl (qAI (ke116.w (by decide)) hT125 trivial)
        · refine yT.p (pc' := 31) (lv' := xst1 _ 6 (.ref (q117 + 1))) rfl rfl (fun _ _ _ _ => rfl) ?_
          refine yT.aa_ (pc' := 33) xg_eq rfl rfl rfl ?_
          refine yT.p (pc' := 36) rfl rfl (fun _ _ _ _ => rfl) ?_
          refine yT.aa_ (pc' := 38) xg_eq rfl rfl rfl ?_
          refine yT.iln (pc' := 39) (xg_ne g1 rfl) rfl rfl ?_
          refine yT.iln (pc' := 40) (xg_ne g2 rfl) rfl rfl ?_
          refine yT.lln (pc' := 41) (xg_ne g3 rfl) rfl rfl ?_
          refine yT.aa_ (pc' := 43) (xg_ne g5 rfl) rfl rfl rfl ?_
          refine kV (yT.cc (G2 := 0) (pc' := 46) rfl rfl rfl hT113 o118 xM_6 (c6 hT113 o118 x1 x2 x3 (Or.inl rfl)) rfl (by decide) (by decide) rfl) (fun h131 hT132 E133 => ?_)
          refine yT.aan (pc' := 47) (xg_ne g0 rfl) rfl rfl rfl ?_
          refine yT.p (pc' := 48) rfl rfl (fun _ _ _ _ => rfl) ?_
          refine yT.cgI (pc' := 51) rfl rfl hT132 (ke116.up o0) rfl rfl (fun x135 w134 => ?_)
          refine yT.kI (pc' := 52) rfl rfl (by decide) (fun x136 e137 => ?_)
          refine yT.fi (pc' := 53) rfl rfl (fun _ _ _ _ => rfl) (fun x138 => ?_)
          refine yT.cpI (pc' := 56) rfl rfl hT132 (ke116.up o0) rfl rfl rfl (fun h139 hT140 w141 fv142 => ?_)
          refine yT.aan (pc' := 57) (xg_ne g0 rfl) rfl rfl rfl ?_
          refine yT.cgk (pc' := 60) rfl rfl w141 ?_
          refine yT.kI (pc' := 61) rfl rfl (by decide) (fun x143 e144 => ?_)
          refine yT.fi (pc' := 62) rfl rfl (fun _ _ _ _ => rfl) (fun x145 => ?_)
          exact yT.retI rfl rfl (qAI (ke116.w (by decide)) hT140 trivial)
      · refine yT.kI (pc' := 20) rfl rfl (by decide) (fun x146 e147 => ?_)
        exact yT.retI rfl rfl (qAI (KE.rf.w (Nat.zero_le _)) hT trivial)
  · refine yM.st xM_89 rfl rfl (fun lv g => ?_)
    have g0 := g 0 _ rfl
    have g1 := g 1 _ rfl
    have g2 := g 2 _ rfl
    have g3 := g 3 _ rfl
    have g5 := g 5 _ rfl
    refine yT.aan (pc' := 1) g0 rfl rfl rfl ?_
    refine yT.cgI (pc' := 4) rfl rfl hT o0 rfl rfl (fun x149 w148 => ?_)
    refine yT.if1 (t := 19) (pc' := 7) rfl rfl rfl (c1_lt rfl) (fun c150 => ?_) (fun c150 => ?_)
    · refine yT.kI (pc' := 20) rfl rfl (by decide) (fun x151 e152 => ?_)
      exact yT.retI rfl rfl (qAI (KE.rf.w (Nat.zero_le _)) hT trivial)
    · refine yT.aan (pc' := 8) g0 rfl rfl rfl ?_
      refine yT.cgk (pc' := 11) rfl rfl w148 ?_
      refine yT.aan (pc' := 12) g0 rfl rfl rfl ?_
      refine yT.cgR (pc' := 15) rfl rfl hT o0 rfl rfl (fun q154 w153 o155 => ?_)
      refine yT.cal (pc' := 16) rfl rfl hT o155 rfl (by omega) (fun x156 e157 => ?_)
      refine yT.if2 (t := 21) (pc' := 19) rfl rfl rfl (c2_lt rfl e157) (fun c158 => ?_) (fun c158 => ?_)
      · refine yT.aan (pc' := 22) g0 rfl rfl rfl ?_
        refine yT.aan (pc' := 23) g0 rfl rfl rfl ?_
        refine yT.cgk (pc' := 26) rfl rfl w148 ?_
        refine kAN (yT.cc (G2 := 0) (pc' := 29) rfl rfl rfl hT o0 xM_90 (c90 hT o0 x149) rfl (by decide) (by decide) rfl) (fun h159 ks162 ke163 hT160 E161 => ?_) (fun h159 ks162 q164 ke163 hT160 E161 o165 => ?_)
        · refine yT.p (pc' := 31) (lv' := xst1 _ 6 (.null)) rfl rfl (fun _ _ _ _ => rfl) ?_
          refine yT.aa_ (pc' := 33) xg_eq rfl rfl rfl ?_
          refine yT.p (pc' := 46) rfl rfl (fun _ _ _ _ => rfl) ?_
          refine yT.aan (pc' := 47) (xg_ne g0 rfl) rfl rfl rfl ?_
          refine yT.p (pc' := 48) rfl rfl (fun _ _ _ _ => rfl) ?_
          refine yT.cgI (pc' := 51) rfl rfl hT160 (ke163.up o0) rfl rfl (fun x167 w166 => ?_)
          refine yT.kI (pc' := 52) rfl rfl (by decide) (fun x168 e169 => ?_)
          refine yT.fi (pc' := 53) rfl rfl (fun _ _ _ _ => rfl) (fun x170 => ?_)
          refine yT.cpI (pc' := 56) rfl rfl hT160 (ke163.up o0) rfl rfl rfl (fun h171 hT172 w173 fv174 => ?_)
          refine yT.aan (pc' := 57) (xg_ne g0 rfl) rfl rfl rfl ?_
          refine yT.cgk (pc' := 60) rfl rfl w173 ?_
          refine yT.kI (pc' := 61) rfl rfl (by decide) (fun x175 e176 => ?_)
          refine yT.fi (pc' := 62) rfl rfl (fun _ _ _ _ => rfl) (fun x177 => ?_)
          exact yT.retI rfl rfl (qAI (ke163.w (by decide)) hT172 trivial)
        · refine yT.p (pc' := 31) (lv' := xst1 _ 6 (.ref (q164 + 1))) rfl rfl (fun _ _ _ _ => rfl) ?_
          refine yT.aa_ (pc' := 33) xg_eq rfl rfl rfl ?_
          refine yT.p (pc' := 36) rfl rfl (fun _ _ _ _ => rfl) ?_
          refine yT.aa_ (pc' := 38) xg_eq rfl rfl rfl ?_
          refine yT.iln (pc' := 39) (xg_ne g1 rfl) rfl rfl ?_
          refine yT.iln (pc' := 40) (xg_ne g2 rfl) rfl rfl ?_
          refine yT.lln (pc' := 41) (xg_ne g3 rfl) rfl rfl ?_
          refine yT.aa_ (pc' := 43) (xg_ne g5 rfl) rfl rfl rfl ?_
          refine kV (yT.cc (G2 := 0) (pc' := 46) rfl rfl rfl hT160 o165 xM_6 (c6 hT160 o165 x1 x2 x3 (Or.inr ⟨_, rfl, (ke163.up o5)⟩)) rfl (by decide) (by decide) rfl) (fun h178 hT179 E180 => ?_)
          refine yT.aan (pc' := 47) (xg_ne g0 rfl) rfl rfl rfl ?_
          refine yT.p (pc' := 48) rfl rfl (fun _ _ _ _ => rfl) ?_
          refine yT.cgI (pc' := 51) rfl rfl hT179 (ke163.up o0) rfl rfl (fun x182 w181 => ?_)
          refine yT.kI (pc' := 52) rfl rfl (by decide) (fun x183 e184 => ?_)
          refine yT.fi (pc' := 53) rfl rfl (fun _ _ _ _ => rfl) (fun x185 => ?_)
          refine yT.cpI (pc' := 56) rfl rfl hT179 (ke163.up o0) rfl rfl rfl (fun h186 hT187 w188 fv189 => ?_)
          refine yT.aan (pc' := 57) (xg_ne g0 rfl) rfl rfl rfl ?_
          refine yT.cgk (pc' := 60) rfl rfl w188 ?_
          refine yT.kI (pc' := 61) rfl rfl (by decide) (fun x190 e191 => ?_)
          refine yT.fi (pc' := 62) rfl rfl (fun _ _ _ _ => rfl) (fun x192 => ?_)
          exact yT.retI rfl rfl (qAI (ke163.w (by decide)) hT187 trivial)
      · refine yT.kI (pc' := 20) rfl rfl (by decide) (fun x193 e194 => ?_)
        exact yT.retI rfl rfl (qAI (KE.rf.w (Nat.zero_le _)) hT trivial)
-- rX8_newCell
set_option maxRecDepth 100000 in
set_option maxHeartbeats 4000000 in
theorem c119 {ks : List cT} {σ : Nat → Nat → Int32} {ρ : Nat → xE} {h : List xE} (hT : HT ks σ ρ h) {B0 : Nat} (K : KE KS0 ks B0) {q0 : Nat} (o0 : xnth ks q0 = some (18, 0)) (x1 : Int32) (x2 : Int32) (x3 : Int32) : yM 119 (5) 763 [.ref (q0 + 1), .int x1, .int x2, .int x3] h (CA ks σ ρ (0, 0, 0) 3 yT0) := by
  refine yM.st xM_119 rfl rfl (fun lv g => ?_)
  have g0 := g 0 _ rfl
  have g1 := g 1 _ rfl
  have g2 := g 2 _ rfl
  have g3 := g 3 _ rfl
  refine yT.aan (pc' := 1) g0 rfl rfl rfl ?_
  refine yT.cg8 (pc' := 4) rfl rfl hT o0 rfl rfl (fun w101 => ?_)
  refine yT.iln (pc' := 5) g2 rfl rfl ?_
  refine kZ (yT.cc (G2 := 763) (pc' := 8) rfl rfl rfl hT (K.up rfl) xM_88 (c88 hT (K.up rfl) x2) rfl (by decide) (by decide) rfl) (fun h102 x105 hT103 E104 b106 => ?_)
  have i107 := b01i b106
  refine yT.if1 (t := 18) (pc' := 11) rfl rfl rfl (c1_ne rfl) (fun c108 => ?_) (fun c108 => ?_)
  · refine yT.aan (pc' := 19) g0 rfl rfl rfl ?_
    refine yT.cg8 (pc' := 22) rfl rfl hT103 o0 rfl rfl (fun w109 => ?_)
    refine kZ (yT.cc (G2 := 763) (pc' := 25) rfl rfl rfl hT103 (K.up rfl) xM_86 (c86 hT103 (K.up rfl)) rfl (by decide) (by decide) rfl) (fun h110 x113 hT111 E112 b114 => ?_)
    have i115 := b01i b114
    refine yT.if1 (t := 35) (pc' := 28) rfl rfl rfl (c1_eq rfl) (fun c116 => ?_) (fun c116 => ?_)
    · refine yT.aan (pc' := 36) g0 rfl rfl rfl ?_
      refine yT.cg8 (pc' := 39) rfl rfl hT111 o0 rfl rfl (fun w117 => ?_)
      refine yT.iln (pc' := 40) g1 rfl rfl ?_
      refine yT.iln (pc' := 41) g2 rfl rfl ?_
      refine yT.iln (pc' := 42) g3 rfl rfl ?_
      refine yT.fl (pc' := 43) rfl rfl (fun _ _ _ _ => rfl) (fun x118 => ?_)
      refine yT.p (pc' := 44) rfl rfl (fun _ _ _ _ => rfl) ?_
      refine kAI (yT.cc (G2 := 0) (pc' := 47) rfl rfl rfl hT111 (K.up rfl) xM_89 (c89 hT111 (K.up rfl) x1 x2 x118 (Or.inl rfl)) rfl (by decide) (by decide) rfl) (fun h119 ks122 x124 ke123 hT120 E121 => ?_)
      exact yT.retI rfl rfl (qAI (ke123.w (by decide)) hT120 trivial)
    · refine yT.aan (pc' := 29) g0 rfl rfl rfl ?_
      refine yT.kb (pc' := 31) rfl rfl (by decide) (fun x125 e126 => ?_)
      refine kI (yT.cc (G2 := 763) (pc' := 34) rfl rfl rfl hT111 o0 xM_153 (c153 hT111 K o0 x125) rfl (by decide) (by decide) rfl) (fun h127 x130 hT128 E129 => ?_)
      have e131 : x130 = x125 := by have e : some (Value.int x130) = some (.int x125) := E129; injection e with e; injection e
      have e132 : x130.toInt = (-6) := by first | (rw [e131]; done) | (rw [e131]; exact e126)
      exact yT.retI rfl rfl (qAI (KE.rf.w (Nat.zero_le _)) hT128 trivial)
  · refine yT.aan (pc' := 12) g0 rfl rfl rfl ?_
    refine yT.kb (pc' := 14) rfl rfl (by decide) (fun x133 e134 => ?_)
    refine kI (yT.cc (G2 := 763) (pc' := 17) rfl rfl rfl hT103 o0 xM_153 (c153 hT103 K o0 x133) rfl (by decide) (by decide) rfl) (fun h135 x138 hT136 E137 => ?_)
    have e139 : x138 = x133 := by have e : some (Value.int x138) = some (.int x133) := E137; injection e with e; injection e
    have e140 : x138.toInt = (-2) := by first | (rw [e139]; done) | (rw [e139]; exact e134)
    exact yT.retI rfl rfl (qAI (KE.rf.w (Nat.zero_le _)) hT136 trivial)
-- rX8_source
set_option maxRecDepth 100000 in
set_option maxHeartbeats 4000000 in
theorem c117 {ks : List cT} {σ : Nat → Nat → Int32} {ρ : Nat → xE} {h : List xE} (hT : HT ks σ ρ h) {B0 : Nat} (K : KE KS0 ks B0) {q0 : Nat} (o0 : xnth ks q0 = some (18, 0)) (x1 : Int32) (x2 : Int32) : yM 117 (6) 763 [.ref (q0 + 1), .int x1, .int x2] h (CA ks σ ρ (0, 0, 0) 3 yT0) := by
  refine yM.st xM_117 rfl rfl (fun lv g => ?_)
  have g0 := g 0 _ rfl
  have g1 := g 1 _ rfl
  have g2 := g 2 _ rfl
  refine yT.aan (pc' := 1) g0 rfl rfl rfl ?_
  refine yT.kI (pc' := 2) rfl rfl (by decide) (fun x101 e102 => ?_)
  refine yT.iln (pc' := 3) g2 rfl rfl ?_
  refine yT.iln (pc' := 4) g1 rfl rfl ?_
  refine kAI (yT.cc (G2 := 0) (pc' := 7) rfl rfl rfl hT o0 xM_119 (c119 hT K o0 x101 x2 x1) rfl (by decide) (by decide) rfl) (fun h103 ks106 x108 ke107 hT104 E105 => ?_)
  exact yT.retI rfl rfl (qAI (ke107.w (by decide)) hT104 trivial)
-- rX8_scope
set_option maxRecDepth 100000 in
set_option maxHeartbeats 4000000 in
theorem c118 {ks : List cT} {σ : Nat → Nat → Int32} {ρ : Nat → xE} {h : List xE} (hT : HT ks σ ρ h) {B0 : Nat} (K : KE KS0 ks B0) {q0 : Nat} (o0 : xnth ks q0 = some (18, 0)) (x1 : Int32) : yM 118 (6) 763 [.ref (q0 + 1), .int x1] h (CA ks σ ρ (0, 0, 0) 3 yT0) := by
  refine yM.st xM_118 rfl rfl (fun lv g => ?_)
  have g0 := g 0 _ rfl
  have g1 := g 1 _ rfl
  refine yT.aan (pc' := 1) g0 rfl rfl rfl ?_
  refine yT.kI (pc' := 2) rfl rfl (by decide) (fun x101 e102 => ?_)
  refine yT.iln (pc' := 3) g1 rfl rfl ?_
  refine yT.kI (pc' := 4) rfl rfl (by decide) (fun x103 e104 => ?_)
  refine kAI (yT.cc (G2 := 0) (pc' := 7) rfl rfl rfl hT o0 xM_119 (c119 hT K o0 x101 x1 x103) rfl (by decide) (by decide) rfl) (fun h105 ks108 x110 ke109 hT106 E107 => ?_)
  exact yT.retI rfl rfl (qAI (ke109.w (by decide)) hT106 trivial)
-- rX8_newComputed
set_option maxRecDepth 100000 in
set_option maxHeartbeats 4000000 in
theorem c122 {ks : List cT} {σ : Nat → Nat → Int32} {ρ : Nat → xE} {h : List xE} (hT : HT ks σ ρ h) {B0 : Nat} (K : KE KS0 ks B0) {q0 : Nat} (o0 : xnth ks q0 = some (18, 0)) (x1 : Int32) (x2 : Int32) : yM 122 (9) 3783 [.ref (q0 + 1), .int x1, .int x2] h (CA ks σ ρ (0, 0, 0) 12 yT0) := by
  refine yM.st xM_122 rfl rfl (fun lv g => ?_)
  have g0 := g 0 _ rfl
  have g1 := g 1 _ rfl
  have g2 := g 2 _ rfl
  refine yT.aan (pc' := 1) g0 rfl rfl rfl ?_
  refine yT.cg8 (pc' := 4) rfl rfl hT o0 rfl rfl (fun w101 => ?_)
  refine yT.iln (pc' := 5) g2 rfl rfl ?_
  refine kZ (yT.cc (G2 := 3783) (pc' := 8) rfl rfl rfl hT (K.up rfl) xM_88 (c88 hT (K.up rfl) x2) rfl (by decide) (by decide) rfl) (fun h102 x105 hT103 E104 b106 => ?_)
  have i107 := b01i b106
  refine yT.if1 (t := 18) (pc' := 11) rfl rfl rfl (c1_ne rfl) (fun c108 => ?_) (fun c108 => ?_)
  · refine yT.aan (pc' := 19) g0 rfl rfl rfl ?_
    refine yT.cgR (pc' := 22) rfl rfl hT103 o0 rfl rfl (fun q110 w109 o111 => ?_)
    refine yT.aan (pc' := 23) g0 rfl rfl rfl ?_
    refine yT.cg8 (pc' := 26) rfl rfl hT103 o0 rfl rfl (fun w112 => ?_)
    refine yT.aan (pc' := 27) g0 rfl rfl rfl ?_
    refine yT.cg8 (pc' := 30) rfl rfl hT103 o0 rfl rfl (fun w113 => ?_)
    refine kI (yT.cc (G2 := 3783) (pc' := 33) rfl rfl rfl hT103 (K.up rfl) xM_85 (c85 hT103 (K.up rfl)) rfl (by decide) (by decide) rfl) (fun h114 x117 hT115 E116 => ?_)
    refine kAN (yT.cc (G2 := 763) (pc' := 36) rfl rfl rfl hT115 o111 xM_22 (c22 hT115 o111 (K.up rfl) x117) rfl (by decide) (by decide) rfl) (fun h118 ks121 ke122 hT119 E120 => ?_) (fun h118 ks121 q123 ke122 hT119 E120 o124 => ?_)
    · refine yT.p (pc' := 37) (lv' := xst1 _ 3 (.null)) rfl rfl (fun _ _ _ _ => rfl) ?_
      refine yT.aan (pc' := 38) xg_eq rfl rfl rfl ?_
      refine yT.p (pc' := 41) rfl rfl (fun _ _ _ _ => rfl) ?_
      refine yT.aan (pc' := 42) (xg_ne g0 rfl) rfl rfl rfl ?_
      refine kI (yT.cc (G2 := 763) (pc' := 45) rfl rfl rfl hT119 (ke122.up o0) xM_155 (c155 hT119 (K.tr ke122) (ke122.up o0)) rfl (by decide) (by decide) rfl) (fun h125 x128 hT126 E127 => ?_)
      exact yT.retI rfl rfl (qAI (ke122.w (by decide)) hT126 trivial)
    · refine yT.p (pc' := 37) (lv' := xst1 _ 3 (.ref (q123 + 1))) rfl rfl (fun _ _ _ _ => rfl) ?_
      refine yT.aan (pc' := 38) xg_eq rfl rfl rfl ?_
      refine yT.p (pc' := 46) rfl rfl (fun _ _ _ _ => rfl) ?_
      refine yT.aan (pc' := 47) (xg_ne g0 rfl) rfl rfl rfl ?_
      refine yT.cg8 (pc' := 50) rfl rfl hT119 (ke122.up o0) rfl rfl (fun w129 => ?_)
      refine kZ (yT.cc (G2 := 763) (pc' := 53) rfl rfl rfl hT119 ((K.tr ke122).up rfl) xM_86 (c86 hT119 ((K.tr ke122).up rfl)) rfl (by decide) (by decide) rfl) (fun h130 x133 hT131 E132 b134 => ?_)
      have i135 := b01i b134
      refine yT.if1 (t := 63) (pc' := 56) rfl rfl rfl (c1_eq rfl) (fun c136 => ?_) (fun c136 => ?_)
      · refine yT.aan (pc' := 64) (xg_ne g0 rfl) rfl rfl rfl ?_
        refine yT.cg8 (pc' := 67) rfl rfl hT131 (ke122.up o0) rfl rfl (fun w137 => ?_)
        refine yT.iln (pc' := 68) (xg_ne g1 rfl) rfl rfl ?_
        refine yT.iln (pc' := 69) (xg_ne g2 rfl) rfl rfl ?_
        refine yT.fl (pc' := 70) rfl rfl (fun _ _ _ _ => rfl) (fun x138 => ?_)
        refine yT.aan (pc' := 71) xg_eq rfl rfl rfl ?_
        refine kAI (yT.cc (G2 := 0) (pc' := 74) rfl rfl rfl hT131 ((K.tr ke122).up rfl) xM_89 (c89 hT131 ((K.tr ke122).up rfl) x1 x2 x138 (Or.inr ⟨_, rfl, o124⟩)) rfl (by decide) (by decide) rfl) (fun h139 ks142 x144 ke143 hT140 E141 => ?_)
        exact yT.retI rfl rfl (qAI ((ke122.tr ke143).w (by decide)) hT140 trivial)
      · refine yT.aan (pc' := 57) (xg_ne g0 rfl) rfl rfl rfl ?_
        refine yT.kb (pc' := 59) rfl rfl (by decide) (fun x145 e146 => ?_)
        refine kI (yT.cc (G2 := 763) (pc' := 62) rfl rfl rfl hT131 (ke122.up o0) xM_153 (c153 hT131 (K.tr ke122) (ke122.up o0) x145) rfl (by decide) (by decide) rfl) (fun h147 x150 hT148 E149 => ?_)
        have e151 : x150 = x145 := by have e : some (Value.int x150) = some (.int x145) := E149; injection e with e; injection e
        have e152 : x150.toInt = (-6) := by first | (rw [e151]; done) | (rw [e151]; exact e146)
        exact yT.retI rfl rfl (qAI (ke122.w (by decide)) hT148 trivial)
  · refine yT.aan (pc' := 12) g0 rfl rfl rfl ?_
    refine yT.kb (pc' := 14) rfl rfl (by decide) (fun x153 e154 => ?_)
    refine kI (yT.cc (G2 := 3783) (pc' := 17) rfl rfl rfl hT103 o0 xM_153 (c153 hT103 K o0 x153) rfl (by decide) (by decide) rfl) (fun h155 x158 hT156 E157 => ?_)
    have e159 : x158 = x153 := by have e : some (Value.int x158) = some (.int x153) := E157; injection e with e; injection e
    have e160 : x158.toInt = (-2) := by first | (rw [e159]; done) | (rw [e159]; exact e154)
    exact yT.retI rfl rfl (qAI (KE.rf.w (Nat.zero_le _)) hT156 trivial)
-- rX8_anotherFormula
set_option maxRecDepth 100000 in
set_option maxHeartbeats 4000000 in
theorem c124 {ks : List cT} {σ : Nat → Nat → Int32} {ρ : Nat → xE} {h : List xE} (hT : HT ks σ ρ h) {B0 : Nat} (K : KE KS0 ks B0) {q0 : Nat} (o0 : xnth ks q0 = some (18, 0)) (x1 : Int32) : yM 124 (9) 3020 [.ref (q0 + 1), .int x1] h (CA ks σ ρ (0, 0, 0) 9 yT0) := by
  refine yM.st xM_124 rfl rfl (fun lv g => ?_)
  have g0 := g 0 _ rfl
  have g1 := g 1 _ rfl
  refine yT.aan (pc' := 1) g0 rfl rfl rfl ?_
  refine yT.cg8 (pc' := 4) rfl rfl hT o0 rfl rfl (fun w101 => ?_)
  refine yT.iln (pc' := 5) g1 rfl rfl ?_
  refine kN (yT.cc (G2 := 3020) (pc' := 8) rfl rfl rfl hT (K.up rfl) xM_87 (c87 hT (K.up rfl) x1) rfl (by decide) (by decide) rfl) (fun h102 hT103 E104 => ?_) (fun h102 q105 hT103 E104 o106 => ?_)
  · refine yT.p (pc' := 9) (lv' := xst1 _ 2 (.null)) rfl rfl (fun _ _ _ _ => rfl) ?_
    refine yT.aan (pc' := 10) xg_eq rfl rfl rfl ?_
    refine yT.p (pc' := 21) rfl rfl (fun _ _ _ _ => rfl) ?_
    refine yT.aan (pc' := 22) (xg_ne g0 rfl) rfl rfl rfl ?_
    refine yT.kb (pc' := 24) rfl rfl (by decide) (fun x107 e108 => ?_)
    refine kI (yT.cc (G2 := 3020) (pc' := 27) rfl rfl rfl hT103 o0 xM_153 (c153 hT103 K o0 x107) rfl (by decide) (by decide) rfl) (fun h109 x112 hT110 E111 => ?_)
    have e113 : x112 = x107 := by have e : some (Value.int x112) = some (.int x107) := E111; injection e with e; injection e
    have e114 : x112.toInt = (-2) := by first | (rw [e113]; done) | (rw [e113]; exact e108)
    exact yT.retI rfl rfl (qAI (KE.rf.w (Nat.zero_le _)) hT110 trivial)
  · have i115 : 0 ≤ x1.toInt ∧ x1.toInt < 24 := (show _ ∨ _ from E104).elim (fun e => by cases e) id
    refine yT.p (pc' := 9) (lv' := xst1 _ 2 (.ref (q105 + 1))) rfl rfl (fun _ _ _ _ => rfl) ?_
    refine yT.aan (pc' := 10) xg_eq rfl rfl rfl ?_
    refine yT.p (pc' := 13) rfl rfl (fun _ _ _ _ => rfl) ?_
    refine yT.aan (pc' := 14) xg_eq rfl rfl rfl ?_
    refine yT.kI (pc' := 15) rfl rfl (by decide) (fun x116 e117 => ?_)
    refine kZ (yT.cc (G2 := 3020) (pc' := 18) rfl rfl rfl hT103 o106 xM_8 (c8 hT103 o106 x116) rfl (by decide) (by decide) rfl) (fun h118 x121 hT119 E120 b122 => ?_)
    have i123 := b01i b122
    refine yT.if1 (t := 28) (pc' := 21) rfl rfl rfl (c1_ne rfl) (fun c124 => ?_) (fun c124 => ?_)
    · refine yT.aan (pc' := 29) xg_eq rfl rfl rfl ?_
      refine yT.cgZ (pc' := 32) rfl rfl hT119 o106 rfl rfl (fun x126 w125 b127 => ?_)
      have i128 := b01i b127
      refine yT.if1 (t := 42) (pc' := 35) rfl rfl rfl (c1_eq rfl) (fun c129 => ?_) (fun c129 => ?_)
      · refine yT.aan (pc' := 43) (xg_ne g0 rfl) rfl rfl rfl ?_
        refine yT.cgR (pc' := 46) rfl rfl hT119 o0 rfl rfl (fun q131 w130 o132 => ?_)
        refine yT.aan (pc' := 47) (xg_ne g0 rfl) rfl rfl rfl ?_
        refine yT.cg8 (pc' := 50) rfl rfl hT119 o0 rfl rfl (fun w133 => ?_)
        refine yT.aan (pc' := 51) (xg_ne g0 rfl) rfl rfl rfl ?_
        refine yT.cg8 (pc' := 54) rfl rfl hT119 o0 rfl rfl (fun w134 => ?_)
        refine kI (yT.cc (G2 := 3020) (pc' := 57) rfl rfl rfl hT119 (K.up rfl) xM_85 (c85 hT119 (K.up rfl)) rfl (by decide) (by decide) rfl) (fun h135 x138 hT136 E137 => ?_)
        refine kAN (yT.cc (G2 := 0) (pc' := 60) rfl rfl rfl hT136 o132 xM_22 (c22 hT136 o132 (K.up rfl) x138) rfl (by decide) (by decide) rfl) (fun h139 ks142 ke143 hT140 E141 => ?_) (fun h139 ks142 q144 ke143 hT140 E141 o145 => ?_)
        · refine yT.p (pc' := 61) (lv' := xst1 _ 3 (.null)) rfl rfl (fun _ _ _ _ => rfl) ?_
          refine yT.aan (pc' := 62) xg_eq rfl rfl rfl ?_
          refine yT.p (pc' := 65) rfl rfl (fun _ _ _ _ => rfl) ?_
          refine yT.aan (pc' := 66) (xg_ne (xg_ne g0 rfl) rfl) rfl rfl rfl ?_
          refine kI (yT.cc (G2 := 0) (pc' := 69) rfl rfl rfl hT140 (ke143.up o0) xM_155 (c155 hT140 (K.tr ke143) (ke143.up o0)) rfl (by decide) (by decide) rfl) (fun h146 x149 hT147 E148 => ?_)
          exact yT.retI rfl rfl (qAI (ke143.w (by decide)) hT147 trivial)
        · refine yT.p (pc' := 61) (lv' := xst1 _ 3 (.ref (q144 + 1))) rfl rfl (fun _ _ _ _ => rfl) ?_
          refine yT.aan (pc' := 62) xg_eq rfl rfl rfl ?_
          refine yT.p (pc' := 70) rfl rfl (fun _ _ _ _ => rfl) ?_
          refine yT.aan (pc' := 71) (xg_ne (xg_ne g0 rfl) rfl) rfl rfl rfl ?_
          refine yT.cgR (pc' := 74) rfl rfl hT140 (ke143.up o0) rfl rfl (fun q151 w150 o152 => ?_)
          refine yT.iln (pc' := 75) (xg_ne (xg_ne g1 rfl) rfl) rfl rfl ?_
          refine yT.aan (pc' := 76) xg_eq rfl rfl rfl ?_
          refine kV (yT.cc (G2 := 0) (pc' := 79) rfl rfl rfl hT140 o152 xM_62 (c62 hT140 o152 x1 (Or.inr ⟨_, rfl, o145⟩)) rfl (by decide) (by decide) rfl) (fun h153 hT154 E155 => ?_)
          refine yT.kI (pc' := 80) rfl rfl (by decide) (fun x156 e157 => ?_)
          exact yT.retI rfl rfl (qAI (ke143.w (by decide)) hT154 trivial)
      · refine yT.aan (pc' := 36) (xg_ne g0 rfl) rfl rfl rfl ?_
        refine yT.kb (pc' := 38) rfl rfl (by decide) (fun x158 e159 => ?_)
        refine kI (yT.cc (G2 := 3020) (pc' := 41) rfl rfl rfl hT119 o0 xM_153 (c153 hT119 K o0 x158) rfl (by decide) (by decide) rfl) (fun h160 x163 hT161 E162 => ?_)
        have e164 : x163 = x158 := by have e : some (Value.int x163) = some (.int x158) := E162; injection e with e; injection e
        have e165 : x163.toInt = (-5) := by first | (rw [e164]; done) | (rw [e164]; exact e159)
        exact yT.retI rfl rfl (qAI (KE.rf.w (Nat.zero_le _)) hT161 trivial)
    · refine yT.aan (pc' := 22) (xg_ne g0 rfl) rfl rfl rfl ?_
      refine yT.kb (pc' := 24) rfl rfl (by decide) (fun x166 e167 => ?_)
      refine kI (yT.cc (G2 := 3020) (pc' := 27) rfl rfl rfl hT119 o0 xM_153 (c153 hT119 K o0 x166) rfl (by decide) (by decide) rfl) (fun h168 x171 hT169 E170 => ?_)
      have e172 : x171 = x166 := by have e : some (Value.int x171) = some (.int x166) := E170; injection e with e; injection e
      have e173 : x171.toInt = (-2) := by first | (rw [e172]; done) | (rw [e172]; exact e167)
      exact yT.retI rfl rfl (qAI (KE.rf.w (Nat.zero_le _)) hT169 trivial)
-- rX8_memo
set_option maxRecDepth 100000 in
set_option maxHeartbeats 4000000 in
theorem c120 {ks : List cT} {σ : Nat → Nat → Int32} {ρ : Nat → xE} {h : List xE} (hT : HT ks σ ρ h) {B0 : Nat} (K : KE KS0 ks B0) {q0 : Nat} (o0 : xnth ks q0 = some (18, 0)) (x1 : Int32) : yM 120 (10) 3783 [.ref (q0 + 1), .int x1] h (CA ks (us σ 40 1 0) ρ (0, 0, 0) 12 yT0) := by
  refine yM.st xM_120 rfl rfl (fun lv g => ?_)
  have g0 := g 0 _ rfl
  have g1 := g 1 _ rfl
  refine yT.aan (pc' := 1) g0 rfl rfl rfl ?_
  refine yT.kI (pc' := 2) rfl rfl (by decide) (fun x101 e102 => ?_)
  refine yT.iln (pc' := 3) g1 rfl rfl ?_
  refine kAI (yT.cc (G2 := 0) (pc' := 6) rfl rfl rfl hT o0 xM_122 (c122 hT K o0 x101 x1) rfl (by decide) (by decide) rfl) (fun h103 ks106 x108 ke107 hT104 E105 => ?_)
  refine yT.p (pc' := 7) (lv' := xst1 _ 2 (.int x108)) rfl rfl (fun _ _ _ _ => rfl) ?_
  refine yT.aan (pc' := 8) (xg_ne g0 rfl) rfl rfl rfl ?_
  refine yT.cg8 (pc' := 11) rfl rfl hT104 (ke107.up o0) rfl rfl (fun w109 => ?_)
  refine kV (yT.cc (G2 := 0) (pc' := 14) rfl rfl rfl hT104 ((K.tr ke107).up rfl) xM_55 (c55t hT104 ((K.tr ke107).up rfl)) rfl (by decide) (by decide) rfl) (fun h110 hT111 E112 => ?_)
  refine yT.iln (pc' := 15) xg_eq rfl rfl ?_
  exact yT.retI rfl rfl (qAI (ke107.w (by decide)) hT111 trivial)
-- rX8_effect
set_option maxRecDepth 100000 in
set_option maxHeartbeats 4000000 in
theorem c121 {ks : List cT} {σ : Nat → Nat → Int32} {ρ : Nat → xE} {h : List xE} (hT : HT ks σ ρ h) {B0 : Nat} (K : KE KS0 ks B0) {q0 : Nat} (o0 : xnth ks q0 = some (18, 0)) (x1 : Int32) : yM 121 (402) 3783 [.ref (q0 + 1), .int x1] h (CA ks (us σ 40 1 0) ρ (0, 0, 0) 12 yT0) := by
  refine yM.st xM_121 rfl rfl (fun lv g => ?_)
  have g0 := g 0 _ rfl
  have g1 := g 1 _ rfl
  refine yT.aan (pc' := 1) g0 rfl rfl rfl ?_
  refine yT.kI (pc' := 2) rfl rfl (by decide) (fun x101 e102 => ?_)
  refine yT.iln (pc' := 3) g1 rfl rfl ?_
  refine kAI (yT.cc (G2 := 0) (pc' := 6) rfl rfl rfl hT o0 xM_122 (c122 hT K o0 x101 x1) rfl (by decide) (by decide) rfl) (fun h103 ks106 x108 ke107 hT104 E105 => ?_)
  refine yT.p (pc' := 7) (lv' := xst1 _ 2 (.int x108)) rfl rfl (fun _ _ _ _ => rfl) ?_
  refine yT.aan (pc' := 8) (xg_ne g0 rfl) rfl rfl rfl ?_
  refine yT.cg8 (pc' := 11) rfl rfl hT104 (ke107.up o0) rfl rfl (fun w109 => ?_)
  refine kV (yT.cc (G2 := 0) (pc' := 14) rfl rfl rfl hT104 ((K.tr ke107).up rfl) xM_55 (c55t hT104 ((K.tr ke107).up rfl)) rfl (by decide) (by decide) rfl) (fun h110 hT111 E112 => ?_)
  refine yT.iln (pc' := 15) xg_eq rfl rfl ?_
  refine yT.if1 (t := 36) (pc' := 18) rfl rfl rfl (c1_lt rfl) (fun c113 => ?_) (fun c113 => ?_)
  · refine yT.iln (pc' := 37) xg_eq rfl rfl ?_
    exact yT.retI rfl rfl (qAI (ke107.w (by decide)) hT111 trivial)
  · refine yT.aan (pc' := 19) (xg_ne g0 rfl) rfl rfl rfl ?_
    refine yT.cg8 (pc' := 22) rfl rfl hT111 (ke107.up o0) rfl rfl (fun w114 => ?_)
    refine yT.cgR (pc' := 25) rfl rfl hT111 ((K.tr ke107).up rfl) rfl rfl (fun q116 w115 o117 => ?_)
    refine yT.iln (pc' := 26) xg_eq rfl rfl ?_
    refine kV (yT.cc (G2 := 0) (pc' := 29) rfl rfl rfl hT111 o117 xM_50 (c50 hT111 o117 (by decide) x108) rfl (by decide) (by decide) rfl) (fun h118 hT119 E120 => ?_)
    refine yT.aan (pc' := 30) (xg_ne g0 rfl) rfl rfl rfl ?_
    refine yT.cgR (pc' := 33) rfl rfl hT119 (ke107.up o0) rfl rfl (fun q122 w121 o123 => ?_)
    refine kV (yT.cc (G2 := 0) (pc' := 36) rfl rfl rfl hT119 o123 xM_60 (c60 hT119 o123) rfl (by decide) (by decide) rfl) (fun h124 hT125 E126 => ?_)
    refine yT.iln (pc' := 37) xg_eq rfl rfl ?_
    exact yT.retI rfl rfl (qAI (ke107.w (by decide)) hT125 trivial)
-- rX8_reform
set_option maxRecDepth 100000 in
set_option maxHeartbeats 4000000 in
theorem c123 {ks : List cT} {σ : Nat → Nat → Int32} {ρ : Nat → xE} {h : List xE} (hT : HT ks σ ρ h) {B0 : Nat} (K : KE KS0 ks B0) {q0 : Nat} (o0 : xnth ks q0 = some (18, 0)) (x1 : Int32) : yM 123 (402) 3020 [.ref (q0 + 1), .int x1] h (CA ks (us σ 40 1 0) ρ (0, 0, 0) 9 yT0) := by
  refine yM.st xM_123 rfl rfl (fun lv g => ?_)
  have g0 := g 0 _ rfl
  have g1 := g 1 _ rfl
  refine yT.aan (pc' := 1) g0 rfl rfl rfl ?_
  refine yT.iln (pc' := 2) g1 rfl rfl ?_
  refine kAI (yT.cc (G2 := 0) (pc' := 5) rfl rfl rfl hT o0 xM_124 (c124 hT K o0 x1) rfl (by decide) (by decide) rfl) (fun h101 ks104 x106 ke105 hT102 E103 => ?_)
  refine yT.p (pc' := 6) (lv' := xst1 _ 2 (.int x106)) rfl rfl (fun _ _ _ _ => rfl) ?_
  refine yT.aan (pc' := 7) (xg_ne g0 rfl) rfl rfl rfl ?_
  refine yT.cg8 (pc' := 10) rfl rfl hT102 (ke105.up o0) rfl rfl (fun w107 => ?_)
  refine kV (yT.cc (G2 := 0) (pc' := 13) rfl rfl rfl hT102 ((K.tr ke105).up rfl) xM_55 (c55t hT102 ((K.tr ke105).up rfl)) rfl (by decide) (by decide) rfl) (fun h108 hT109 E110 => ?_)
  refine yT.iln (pc' := 14) xg_eq rfl rfl ?_
  refine yT.kI (pc' := 15) rfl rfl (by decide) (fun x111 e112 => ?_)
  refine yT.if2 (t := 25) (pc' := 18) rfl rfl rfl (c2_ne rfl e112) (fun c113 => ?_) (fun c113 => ?_)
  · refine yT.iln (pc' := 26) xg_eq rfl rfl ?_
    exact yT.retI rfl rfl (qAI (ke105.w (by decide)) hT109 trivial)
  · refine yT.aan (pc' := 19) (xg_ne g0 rfl) rfl rfl rfl ?_
    refine yT.cgR (pc' := 22) rfl rfl hT109 (ke105.up o0) rfl rfl (fun q115 w114 o116 => ?_)
    refine kV (yT.cc (G2 := 0) (pc' := 25) rfl rfl rfl hT109 o116 xM_60 (c60 hT109 o116) rfl (by decide) (by decide) rfl) (fun h117 hT118 E119 => ?_)
    refine yT.iln (pc' := 26) xg_eq rfl rfl ?_
    exact yT.retI rfl rfl (qAI (ke105.w (by decide)) hT118 trivial)
-- rX7_takeFromf
set_option maxRecDepth 100000 in
set_option maxHeartbeats 4000000 in
theorem c91f53 {ks0 ks : List cT} {σ : Nat → Nat → Int32} {ρ : Nat → xE} {h : List xE} (ke : KE ks0 ks 72) (hT : HT ks σ ρ h) {lv : xLv} {q0 : Nat} (o0 : xnth ks q0 = some (17, 0)) (g0 : xget lv 0 = some (.ref (q0 + 1))) {q1 : Nat} (o1 : xnth ks q1 = some (17, 0)) (g1 : xget lv 1 = some (.ref (q1 + 1))) : yT 0 [] rX7_takeFrom (6) 0 53 lv [] h (CA ks0 (us σ q0 7 (σ q1 7)) ρ (9, 0, 0) 72 yT0) := by
  refine yT.kI (pc' := 54) rfl rfl (by decide) (fun x101 e102 => ?_)
  refine yT.p (pc' := 55) (lv' := xst1 _ 2 (.int x101)) rfl rfl (fun _ _ _ _ => rfl) ?_
  have L103 : ∀ (n112 : Nat) (lv104 : xLv) (h105 : List xE) (x107 : Int32), HT ks σ ρ h105 → xget lv104 0 = some (.ref (q0 + 1)) → xget lv104 1 = some (.ref (q1 + 1)) → xget lv104 2 = some (.int x107) → 0 ≤ x107.toInt → (2147483647 - x107.toInt).toNat < n112 → yT 0 [] rX7_takeFrom (6) 0 55 lv104 [] h105 (CA ks0 (us σ q0 7 (σ q1 7)) ρ (9, 0, 0) 72 yT0) := by
    intro n112
    induction n112 with
    | zero => intro lv104 h105 x107 hT106 g108 g109 g110 i111 m113; exact absurd m113 (Nat.not_lt_zero _)
    | succ n112 ih114 =>
      intro lv104 h105 x107 hT106 g108 g109 g110 i111 m113
      refine yT.iln (pc' := 56) g110 rfl rfl ?_
      refine yT.aan (pc' := 57) g108 rfl rfl rfl ?_
      refine yT.cgR (pc' := 60) rfl rfl hT106 o0 rfl rfl (fun q116 w115 o117 => ?_)
      refine yT.cal (pc' := 61) rfl rfl hT106 o117 rfl (by omega) (fun x118 e119 => ?_)
      have J120 : ∀ (lv121 : xLv), xget lv121 0 = some (.ref (q0 + 1)) → xget lv121 1 = some (.ref (q1 + 1)) → yT 0 [] rX7_takeFrom (6) 0 91 lv121 [] h105 (CA ks0 (us σ q0 7 (σ q1 7)) ρ (9, 0, 0) 72 yT0) := by
        intro lv121 g122 g123
        refine yT.aan (pc' := 92) g122 rfl rfl rfl ?_
        refine yT.aan (pc' := 93) g123 rfl rfl rfl ?_
        refine yT.cgI (pc' := 96) rfl rfl hT106 o1 rfl rfl (fun x125 w124 => ?_)
        refine yT.cpI (pc' := 99) rfl rfl hT106 o0 rfl rfl rfl (fun h126 hT127 w128 fv129 => ?_)
        refine yT.aan (pc' := 100) g122 rfl rfl rfl ?_
        refine yT.cgR (pc' := 103) rfl rfl hT127 o0 rfl rfl (fun q131 w130 o132 => ?_)
        refine yT.aan (pc' := 104) g123 rfl rfl rfl ?_
        refine yT.cgR (pc' := 107) rfl rfl hT127 o1 rfl rfl (fun q134 w133 o135 => ?_)
        refine kV (yT.cc (G2 := 0) (pc' := 110) rfl rfl rfl hT127 o132 xM_56 (c56 hT127 o132 (by decide) o135 (by decide)) rfl (by decide) (by decide) rfl) (fun h136 hT137 E138 => ?_)
        refine yT.aan (pc' := 111) g122 rfl rfl rfl ?_
        refine yT.cgR (pc' := 114) rfl rfl hT137 o0 rfl rfl (fun q140 w139 o141 => ?_)
        refine yT.aan (pc' := 115) g123 rfl rfl rfl ?_
        refine yT.cgR (pc' := 118) rfl rfl hT137 o1 rfl rfl (fun q143 w142 o144 => ?_)
        refine kV (yT.cc (G2 := 0) (pc' := 121) rfl rfl rfl hT137 o141 xM_56 (c56 hT137 o141 (by decide) o144 (by decide)) rfl (by decide) (by decide) rfl) (fun h145 hT146 E147 => ?_)
        refine yT.kI (pc' := 122) rfl rfl (by decide) (fun x148 e149 => ?_)
        refine yT.p (pc' := 123) (lv' := xst1 _ 2 (.int x148)) rfl rfl (fun _ _ _ _ => rfl) ?_
        have L150 : ∀ (n159 : Nat) (lv151 : xLv) (h152 : List xE) (x154 : Int32), HT ks σ ρ h152 → xget lv151 0 = some (.ref (q0 + 1)) → xget lv151 1 = some (.ref (q1 + 1)) → xget lv151 2 = some (.int x154) → 0 ≤ x154.toInt → (2147483647 - x154.toInt).toNat < n159 → yT 0 [] rX7_takeFrom (6) 0 123 lv151 [] h152 (CA ks0 (us σ q0 7 (σ q1 7)) ρ (9, 0, 0) 72 yT0) := by
          intro n159
          induction n159 with
          | zero => intro lv151 h152 x154 hT153 g155 g156 g157 i158 m160; exact absurd m160 (Nat.not_lt_zero _)
          | succ n159 ih161 =>
            intro lv151 h152 x154 hT153 g155 g156 g157 i158 m160
            refine yT.iln (pc' := 124) g157 rfl rfl ?_
            refine yT.aan (pc' := 125) g155 rfl rfl rfl ?_
            refine yT.cgR (pc' := 128) rfl rfl hT153 o0 rfl rfl (fun q163 w162 o164 => ?_)
            refine yT.cal (pc' := 129) rfl rfl hT153 o164 rfl (by omega) (fun x165 e166 => ?_)
            refine yT.if2 (t := 159) (pc' := 132) rfl rfl rfl (c2_ge rfl e166) (fun c167 => ?_) (fun c167 => ?_)
            · refine yT.aan (pc' := 160) g155 rfl rfl rfl ?_
              refine yT.cgR (pc' := 163) rfl rfl hT153 o0 rfl rfl (fun q169 w168 o170 => ?_)
              refine yT.aan (pc' := 164) g156 rfl rfl rfl ?_
              refine yT.cgR (pc' := 167) rfl rfl hT153 o1 rfl rfl (fun q172 w171 o173 => ?_)
              refine kV (yT.cc (G2 := 0) (pc' := 170) rfl rfl rfl hT153 o170 xM_56 (c56 hT153 o170 (by decide) o173 (by decide)) rfl (by decide) (by decide) rfl) (fun h174 hT175 E176 => ?_)
              refine yT.aan (pc' := 171) g155 rfl rfl rfl ?_
              refine yT.aan (pc' := 172) g156 rfl rfl rfl ?_
              refine yT.cgX (pc' := 175) rfl rfl hT175 o1 rfl rfl (fun x178 w177 i179 i180 z181 => ?_)
              refine yT.cpX (c := (σ q1 7)) (pc' := 178) rfl rfl hT175 o0 rfl rfl rfl rfl (by omega) z181 (fun h182 hT183 w184 fv185 => ?_)
              refine yT.aan (pc' := 179) g155 rfl rfl rfl ?_
              refine yT.aan (pc' := 180) g156 rfl rfl rfl ?_
              refine yT.cgI (pc' := 183) rfl rfl hT183 o1 rfl rfl (fun x187 w186 => ?_)
              refine yT.cpI (pc' := 186) rfl rfl hT183 o0 rfl rfl rfl (fun h188 hT189 w190 fv191 => ?_)
              exact yT.retV rfl rfl (qAV (ke.w (by decide)) hT189 trivial)
            · refine yT.iln (pc' := 133) g157 rfl rfl ?_
              refine yT.aan (pc' := 134) g156 rfl rfl rfl ?_
              refine yT.cgR (pc' := 137) rfl rfl hT153 o1 rfl rfl (fun q193 w192 o194 => ?_)
              refine yT.cal (pc' := 138) rfl rfl hT153 o194 rfl (by omega) (fun x195 e196 => ?_)
              refine yT.if2 (t := 159) (pc' := 141) rfl rfl rfl (c2_ge rfl e196) (fun c197 => by omega) (fun c197 => ?_)
              refine yT.aan (pc' := 142) g155 rfl rfl rfl ?_
              refine yT.cgk (pc' := 145) rfl rfl w162 ?_
              refine yT.iln (pc' := 146) g157 rfl rfl ?_
              refine yT.aan (pc' := 147) g156 rfl rfl rfl ?_
              refine yT.cgk (pc' := 150) rfl rfl w192 ?_
              refine yT.iln (pc' := 151) g157 rfl rfl ?_
              refine yT.cla (pc' := 152) rfl rfl hT153 o194 rfl (by omega) (fun x198 => ?_)
              refine yT.cls (pc' := 153) rfl rfl hT153 o164 rfl (by omega) (fun h199 hT200 fv201 => ?_)
              refine yT.inc (pc' := 156) g157 rfl rfl rfl rfl ⟨by decide, by have := i32_rng x154; omega⟩ (fun x202 e203 => ?_)
              refine yT.p (pc' := 123) rfl rfl (fun _ _ _ _ => rfl) ?_
              exact ih161 _ _ x202 hT200 (xg_ne g155 rfl) (xg_ne g156 rfl) xg_eq (by omega) (by have := i32_rng x202; omega)
        exact L150 _ _ _ x148 hT146 (xg_ne g122 rfl) (xg_ne g123 rfl) xg_eq (by omega) (Nat.lt_succ_self _)
      refine yT.if2 (t := 91) (pc' := 64) rfl rfl rfl (c2_ge rfl e119) (fun c204 => ?_) (fun c204 => ?_)
      · exact J120 _ g108 g109
      · refine yT.iln (pc' := 65) g110 rfl rfl ?_
        refine yT.aan (pc' := 66) g109 rfl rfl rfl ?_
        refine yT.cgR (pc' := 69) rfl rfl hT106 o1 rfl rfl (fun q206 w205 o207 => ?_)
        refine yT.cal (pc' := 70) rfl rfl hT106 o207 rfl (by omega) (fun x208 e209 => ?_)
        refine yT.if2 (t := 91) (pc' := 73) rfl rfl rfl (c2_ge rfl e209) (fun c210 => by omega) (fun c210 => ?_)
        refine yT.aan (pc' := 74) g108 rfl rfl rfl ?_
        refine yT.cgk (pc' := 77) rfl rfl w115 ?_
        refine yT.iln (pc' := 78) g110 rfl rfl ?_
        refine yT.aan (pc' := 79) g109 rfl rfl rfl ?_
        refine yT.cgk (pc' := 82) rfl rfl w205 ?_
        refine yT.iln (pc' := 83) g110 rfl rfl ?_
        refine yT.cia (pc' := 84) rfl rfl hT106 o207 rfl (by omega) (fun x211 => ?_)
        refine yT.cis (pc' := 85) rfl rfl hT106 o117 rfl (by omega) (fun h212 hT213 fv214 => ?_)
        refine yT.inc (pc' := 88) g110 rfl rfl rfl rfl ⟨by decide, by have := i32_rng x107; omega⟩ (fun x215 e216 => ?_)
        refine yT.p (pc' := 55) rfl rfl (fun _ _ _ _ => rfl) ?_
        exact ih114 _ _ x215 hT213 (xg_ne g108 rfl) (xg_ne g109 rfl) xg_eq (by omega) (by have := i32_rng x215; omega)
  exact L103 _ _ _ x101 hT (xg_ne g0 rfl) (xg_ne g1 rfl) xg_eq (by omega) (Nat.lt_succ_self _)
