-- rX5_runOnce
set_option maxRecDepth 100000 in
set_option maxHeartbeats 4000000 in
theorem c69 {ks : List cT} {σ : Nat → Nat → Int32} {ρ : Nat → xE} {h : List xE} (hT : HT ks σ ρ h) {q0 : Nat} (o0 : xnth ks q0 = some (15, 0)) {q1 : Nat} (o1 : xnth ks q1 = some (11, 0)) (x2 : Int32) (x3 : Int32) (ix3 : 0 ≤ x3.toInt ∧ x3.toInt ≤ 24) {m : Nat} (R : ∀ {h : List xE}, HT ks σ ρ h → ∀ (x y : Int32), y.toInt = x3.toInt + 1 → yM 67 (8 * m + 192) 0 [.ref (q0 + 1), .int x, .int y] h (CQ ks σ ρ (9, 0, 0) yT0)) : yM 69 (8 * m + 196) 0 [.ref (q0 + 1), .ref (q1 + 1), .int x2, .int x3] h (CQ ks σ ρ (9, 0, 0) yT0) := by
  refine yM.st xM_69 rfl rfl (fun lv g => ?_)
  have g0 := g 0 _ rfl
  have g1 := g 1 _ rfl
  have g2 := g 2 _ rfl
  have g3 := g 3 _ rfl
  refine yT.aan (pc' := 1) g0 rfl rfl rfl ?_
  refine yT.cgR (pc' := 4) rfl rfl hT o0 rfl rfl (fun q102 w101 o103 => ?_)
  refine yT.iln (pc' := 5) g2 rfl rfl ?_
  refine kV (yT.cc (G2 := 0) (pc' := 8) rfl rfl rfl hT o103 xM_94 (c94 hT o103 x2) rfl (by omega) (by decide) rfl) (fun h104 hT105 E106 => ?_)
  refine yT.aan (pc' := 9) g1 rfl rfl rfl ?_
  refine yT.cgI (pc' := 12) rfl rfl hT105 o1 rfl rfl (fun x108 w107 => ?_)
  refine yT.kI (pc' := 13) rfl rfl (by decide) (fun x109 e110 => ?_)
  have J111 : ∀ (lv112 : xLv) (h113 : List xE), HT ks σ ρ h113 → xget lv112 0 = some (.ref (q0 + 1)) → xget lv112 1 = some (.ref (q1 + 1)) → xget lv112 2 = some (.int x2) → xget lv112 3 = some (.int x3) → yT 0 [] rX5_runOnce (8 * m + 196) 0 22 lv112 [] h113 (CQ ks σ ρ (9, 0, 0) yT0) := by
    intro lv112 h113 hT114 g115 g116 g117 g118
    refine yT.aan (pc' := 23) g116 rfl rfl rfl ?_
    refine yT.cgN (pc' := 26) rfl rfl hT114 o1 rfl rfl (fun w119 => ?_) (fun q120 w119 o121 => ?_)
    · refine yT.p (pc' := 28) (lv' := xst1 _ 4 (.null)) rfl rfl (fun _ _ _ _ => rfl) ?_
      refine yT.aa_ (pc' := 30) xg_eq rfl rfl rfl ?_
      refine yT.p (pc' := 33) rfl rfl (fun _ _ _ _ => rfl) ?_
      exact yT.retV rfl rfl (qV hT114 trivial)
    · refine yT.p (pc' := 28) (lv' := xst1 _ 4 (.ref (q120 + 1))) rfl rfl (fun _ _ _ _ => rfl) ?_
      refine yT.aa_ (pc' := 30) xg_eq rfl rfl rfl ?_
      refine yT.p (pc' := 34) rfl rfl (fun _ _ _ _ => rfl) ?_
      refine yT.aa_ (pc' := 36) xg_eq rfl rfl rfl ?_
      refine kV (yT.cc (G2 := 0) (pc' := 39) rfl rfl rfl hT114 o121 xM_14 (c14 hT114 o121) rfl (by omega) (by decide) rfl) (fun h122 hT123 E124 => ?_)
      refine yT.kI (pc' := 40) rfl rfl (by decide) (fun x125 e126 => ?_)
      refine yT.p (pc' := 42) (lv' := xst1 _ 5 (.int x125)) rfl rfl (fun _ _ _ _ => rfl) ?_
      have L127 : ∀ (n139 : Nat) (lv128 : xLv) (h129 : List xE) (x131 : Int32), HT ks σ ρ h129 → xget lv128 0 = some (.ref (q0 + 1)) → xget lv128 1 = some (.ref (q1 + 1)) → xget lv128 2 = some (.int x2) → xget lv128 3 = some (.int x3) → xget lv128 4 = some (.ref (q120 + 1)) → xget lv128 5 = some (.int x131) → 0 ≤ x131.toInt → (2147483647 - x131.toInt).toNat < n139 → yT 0 [] rX5_runOnce (8 * m + 196) 0 42 lv128 [] h129 (CQ ks σ ρ (9, 0, 0) yT0) := by
        intro n139
        induction n139 with
        | zero => intro lv128 h129 x131 hT130 g132 g133 g134 g135 g136 g137 i138 m140; exact absurd m140 (Nat.not_lt_zero _)
        | succ n139 ih141 =>
          intro lv128 h129 x131 hT130 g132 g133 g134 g135 g136 g137 i138 m140
          refine yT.il (pc' := 44) g137 rfl rfl ?_
          refine yT.ks (pc' := 47) rfl rfl (by decide) (fun x142 e143 => ?_)
          have J144 : ∀ (lv145 : xLv) (h146 : List xE), HT ks σ ρ h146 → xget lv145 0 = some (.ref (q0 + 1)) → xget lv145 1 = some (.ref (q1 + 1)) → xget lv145 2 = some (.int x2) → xget lv145 4 = some (.ref (q120 + 1)) → yT 0 [] rX5_runOnce (8 * m + 196) 0 81 lv145 [] h146 (CQ ks σ ρ (9, 0, 0) yT0) := by
            intro lv145 h146 hT147 g148 g149 g150 g151
            refine yT.aa_ (pc' := 83) g151 rfl rfl rfl ?_
            refine kL (yT.cc (G2 := 0) (pc' := 86) rfl rfl rfl hT147 o121 xM_17 (c17 hT147 o121) rfl (by omega) (by decide) rfl) (fun h152 x155 hT153 E154 => ?_)
            refine yT.p (pc' := 88) (lv' := xst2 _ 5 (.long x155)) rfl rfl (fun _ _ _ _ => rfl) ?_
            refine yT.aan (pc' := 89) (xg2_ne g149 rfl) rfl rfl rfl ?_
            refine yT.kI (pc' := 90) rfl rfl (by decide) (fun x156 e157 => ?_)
            refine yT.cpI (pc' := 93) rfl rfl hT153 o1 rfl rfl rfl (fun h158 hT159 w160 fv161 => ?_)
            refine yT.aan (pc' := 94) (xg2_ne g149 rfl) rfl rfl rfl ?_
            refine yT.p (pc' := 95) rfl rfl (fun _ _ _ _ => rfl) ?_
            refine yT.cgI (pc' := 98) rfl rfl hT159 o1 rfl rfl (fun x163 w162 => ?_)
            refine yT.kI (pc' := 99) rfl rfl (by decide) (fun x164 e165 => ?_)
            refine yT.fi (pc' := 100) rfl rfl (fun _ _ _ _ => rfl) (fun x166 => ?_)
            refine yT.cpI (pc' := 103) rfl rfl hT159 o1 rfl rfl rfl (fun h167 hT168 w169 fv170 => ?_)
            refine yT.aan (pc' := 104) (xg2_ne g149 rfl) rfl rfl rfl ?_
            refine yT.cgI (pc' := 107) rfl rfl hT168 o1 rfl rfl (fun x172 w171 => ?_)
            refine yT.kI (pc' := 108) rfl rfl (by decide) (fun x173 e174 => ?_)
            have J175 : ∀ (lv176 : xLv) (h177 : List xE), HT ks σ ρ h177 → xget lv176 0 = some (.ref (q0 + 1)) → xget lv176 1 = some (.ref (q1 + 1)) → xget lv176 2 = some (.int x2) → xget lv176 5 = some (.long x155) → yT 0 [] rX5_runOnce (8 * m + 196) 0 121 lv176 [] h177 (CQ ks σ ρ (9, 0, 0) yT0) := by
              intro lv176 h177 hT178 g179 g180 g181 g182
              refine yT.ll (pc' := 123) g182 rfl rfl ?_
              refine yT.aan (pc' := 124) g180 rfl rfl rfl ?_
              refine yT.cgL (pc' := 127) rfl rfl hT178 o1 rfl rfl (fun x184 w183 => ?_)
              refine yT.fi (pc' := 128) rfl rfl (fun _ _ _ _ => rfl) (fun x185 => ?_)
              have J186 : ∀ (lv187 : xLv), xget lv187 0 = some (.ref (q0 + 1)) → xget lv187 1 = some (.ref (q1 + 1)) → xget lv187 2 = some (.int x2) → xget lv187 5 = some (.long x155) → yT 0 [] rX5_runOnce (8 * m + 196) 0 140 lv187 [] h177 (CQ ks σ ρ (9, 0, 0) yT0) := by
                intro lv187 g188 g189 g190 g191
                refine yT.aan (pc' := 141) g189 rfl rfl rfl ?_
                refine yT.ll (pc' := 143) g191 rfl rfl ?_
                refine yT.cpL (pc' := 146) rfl rfl hT178 o1 rfl rfl rfl (fun h192 hT193 w194 fv195 => ?_)
                refine yT.aan (pc' := 147) g189 rfl rfl rfl ?_
                refine yT.p (pc' := 148) rfl rfl (fun _ _ _ _ => rfl) ?_
                refine yT.cgL (pc' := 151) rfl rfl hT193 o1 rfl rfl (fun x197 w196 => ?_)
                refine yT.fl (pc' := 152) rfl rfl (fun _ _ _ _ => rfl) (fun x198 => ?_)
                refine yT.fl (pc' := 153) rfl rfl (fun _ _ _ _ => rfl) (fun x199 => ?_)
                refine yT.cpL (pc' := 156) rfl rfl hT193 o1 rfl rfl rfl (fun h200 hT201 w202 fv203 => ?_)
                refine yT.aan (pc' := 157) g188 rfl rfl rfl ?_
                refine yT.aan (pc' := 158) g188 rfl rfl rfl ?_
                refine yT.cgR (pc' := 161) rfl rfl hT201 o0 rfl rfl (fun q205 w204 o206 => ?_)
                refine yT.iln (pc' := 162) g190 rfl rfl ?_
                refine kI (yT.cc (G2 := 0) (pc' := 165) rfl rfl rfl hT201 o206 xM_95 (c95 hT201 o206 x2) rfl (by omega) (by decide) rfl) (fun h207 x210 hT208 E209 => ?_)
                refine yT.kI (pc' := 166) rfl rfl (by decide) (fun x211 e212 => ?_)
                refine kV (yT.cc (G2 := 0) (pc' := 169) rfl rfl rfl hT208 o0 xM_66 (c66 hT208 o0 x210 x211) rfl (by omega) (by decide) rfl) (fun h213 hT214 E215 => ?_)
                exact yT.retV rfl rfl (qV hT214 trivial)
              refine yT.if1 (t := 140) (pc' := 131) rfl rfl rfl (c1_ne rfl) (fun c216 => ?_) (fun c216 => ?_)
              · exact J186 _ g179 g180 g181 g182
              · refine yT.aan (pc' := 132) g180 rfl rfl rfl ?_
                refine yT.cgL (pc' := 135) rfl rfl hT178 o1 rfl rfl (fun x218 w217 => ?_)
                refine yT.fl (pc' := 136) rfl rfl (fun _ _ _ _ => rfl) (fun x219 => ?_)
                refine yT.fi (pc' := 137) rfl rfl (fun _ _ _ _ => rfl) (fun x220 => ?_)
                refine yT.if1 (t := 169) (pc' := 140) rfl rfl rfl (c1_ne rfl) (fun c221 => ?_) (fun c221 => ?_)
                · exact yT.retV rfl rfl (qV hT178 trivial)
                · exact J186 _ g179 g180 g181 g182
            refine yT.if2 (t := 121) (pc' := 111) rfl rfl rfl (c2_ne rfl e174) (fun c222 => ?_) (fun c222 => ?_)
            · exact J175 _ _ hT168 (xg2_ne g148 rfl) (xg2_ne g149 rfl) (xg2_ne g150 rfl) xg2_eq
            · refine yT.aan (pc' := 112) (xg2_ne g148 rfl) rfl rfl rfl ?_
              refine yT.cgR (pc' := 115) rfl rfl hT168 o0 rfl rfl (fun q224 w223 o225 => ?_)
              refine yT.iln (pc' := 116) (xg2_ne g150 rfl) rfl rfl ?_
              refine yT.ll (pc' := 118) xg2_eq rfl rfl ?_
              refine kV (yT.cc (G2 := 0) (pc' := 121) rfl rfl rfl hT168 o225 xM_101 (c101 hT168 o225 x2 x155) rfl (by omega) (by decide) rfl) (fun h226 hT227 E228 => ?_)
              exact J175 _ _ hT227 (xg2_ne g148 rfl) (xg2_ne g149 rfl) (xg2_ne g150 rfl) xg2_eq
          refine yT.if2 (t := 81) (pc' := 50) rfl rfl rfl (c2_ge rfl e143) (fun c229 => ?_) (fun c229 => ?_)
          · exact J144 _ _ hT130 g132 g133 g134 g136
          · refine yT.aa_ (pc' := 52) g136 rfl rfl rfl ?_
            refine kZ (yT.cc (G2 := 0) (pc' := 55) rfl rfl rfl hT130 o121 xM_15 (c15 hT130 o121) rfl (by omega) (by decide) rfl) (fun h230 x233 hT231 E232 b234 => ?_)
            have i235 := b01i b234
            refine yT.if1 (t := 81) (pc' := 58) rfl rfl rfl (c1_eq rfl) (fun c236 => ?_) (fun c236 => ?_)
            · exact J144 _ _ hT231 g132 g133 g134 g136
            · refine yT.aa_ (pc' := 60) g136 rfl rfl rfl ?_
              refine yT.aan (pc' := 61) g132 rfl rfl rfl ?_
              refine yT.aan (pc' := 62) g133 rfl rfl rfl ?_
              refine yT.iln (pc' := 63) g134 rfl rfl ?_
              refine yT.aa_ (pc' := 65) g136 rfl rfl rfl ?_
              refine kI (yT.cc (G2 := 0) (pc' := 68) rfl rfl rfl hT231 o121 xM_12 (c12 hT231 o121) rfl (by omega) (by decide) rfl) (fun h237 x240 hT238 E239 => ?_)
              refine yT.iln (pc' := 69) g135 rfl rfl ?_
              refine kL (yT.cc (G2 := 0) (pc' := 72) rfl rfl rfl hT238 o0 xM_70 (c70 hT238 o0 o1 x2 x240 x3 (by omega) R) rfl (by omega) (by decide) rfl) (fun h241 x244 hT242 E243 => ?_)
              refine kV (yT.cc (G2 := 0) (pc' := 75) rfl rfl rfl hT242 o121 xM_16 (c16 hT242 o121 x244) rfl (by omega) (by decide) rfl) (fun h245 hT246 E247 => ?_)
              refine yT.inc (pc' := 78) g137 rfl rfl rfl rfl ⟨by decide, by have := i32_rng x131; omega⟩ (fun x248 e249 => ?_)
              refine yT.p (pc' := 42) rfl rfl (fun _ _ _ _ => rfl) ?_
              exact ih141 _ _ x248 hT246 (xg_ne g132 rfl) (xg_ne g133 rfl) (xg_ne g134 rfl) (xg_ne g135 rfl) (xg_ne g136 rfl) xg_eq (by omega) (by have := i32_rng x248; omega)
      exact L127 _ _ _ x125 hT123 (xg_ne (xg_ne g115 rfl) rfl) (xg_ne (xg_ne g116 rfl) rfl) (xg_ne (xg_ne g117 rfl) rfl) (xg_ne (xg_ne g118 rfl) rfl) (xg_ne xg_eq rfl) xg_eq (by omega) (Nat.lt_succ_self _)
  refine yT.if2 (t := 22) (pc' := 16) rfl rfl rfl (c2_ne rfl e110) (fun c250 => ?_) (fun c250 => ?_)
  · exact J111 _ _ hT105 g0 g1 g2 g3
  · refine yT.aan (pc' := 17) g0 rfl rfl rfl ?_
    refine yT.iln (pc' := 18) g2 rfl rfl ?_
    refine yT.kI (pc' := 19) rfl rfl (by decide) (fun x251 e252 => ?_)
    refine kV (yT.cc (G2 := 0) (pc' := 22) rfl rfl rfl hT105 o0 xM_64 (c64z hT105 o0 x2 x251 (by omega)) rfl (by omega) (by decide) rfl) (fun h253 hT254 E255 => ?_)
    exact J111 _ _ hT254 g0 g1 g2 g3
-- rX5_refreshr
set_option maxRecDepth 100000 in
set_option maxHeartbeats 4000000 in
theorem c67r {ks : List cT} {σ : Nat → Nat → Int32} {ρ : Nat → xE} {h : List xE} (hT : HT ks σ ρ h) {q0 : Nat} (o0 : xnth ks q0 = some (15, 0)) (x1 : Int32) (x2 : Int32) (ix2 : 0 ≤ x2.toInt ∧ x2.toInt ≤ 25) {m : Nat} (hm : x2.toInt + (m : Int) = 25) (R : x2.toInt ≤ 24 → ∀ {h : List xE}, HT ks σ ρ h → ∀ (x y : Int32), y.toInt = x2.toInt + 1 → yM 67 (8 * m + 192) 0 [.ref (q0 + 1), .int x, .int y] h (CQ ks σ ρ (9, 0, 0) yT0)) : yM 67 (8 * m + 200) 0 [.ref (q0 + 1), .int x1, .int x2] h (CQ ks σ ρ (9, 0, 0) yT0) := by
  refine yM.st xM_67 rfl rfl (fun lv g => ?_)
  have g0 := g 0 _ rfl
  have g1 := g 1 _ rfl
  have g2 := g 2 _ rfl
  refine yT.aan (pc' := 1) g0 rfl rfl rfl ?_
  refine yT.cgR (pc' := 4) rfl rfl hT o0 rfl rfl (fun q102 w101 o103 => ?_)
  refine yT.iln (pc' := 5) g1 rfl rfl ?_
  refine kN (yT.cc (G2 := 0) (pc' := 8) rfl rfl rfl hT o103 xM_87 (c87 hT o103 x1) rfl (by omega) (by decide) rfl) (fun h104 hT105 E106 => ?_) (fun h104 q107 hT105 E106 o108 => ?_)
  · refine yT.p (pc' := 9) (lv' := xst1 _ 3 (.null)) rfl rfl (fun _ _ _ _ => rfl) ?_
    refine yT.aan (pc' := 10) xg_eq rfl rfl rfl ?_
    refine yT.p (pc' := 33) rfl rfl (fun _ _ _ _ => rfl) ?_
    exact yT.retV rfl rfl (qV hT105 trivial)
  · have i109 : 0 ≤ x1.toInt ∧ x1.toInt < 24 := (show _ ∨ _ from E106).elim (fun e => by cases e) id
    refine yT.p (pc' := 9) (lv' := xst1 _ 3 (.ref (q107 + 1))) rfl rfl (fun _ _ _ _ => rfl) ?_
    refine yT.aan (pc' := 10) xg_eq rfl rfl rfl ?_
    refine yT.p (pc' := 13) rfl rfl (fun _ _ _ _ => rfl) ?_
    refine yT.aan (pc' := 14) xg_eq rfl rfl rfl ?_
    refine yT.cgZ (pc' := 17) rfl rfl hT105 o108 rfl rfl (fun x111 w110 b112 => ?_)
    have i113 := b01i b112
    refine yT.if1 (t := 33) (pc' := 20) rfl rfl rfl (c1_ne rfl) (fun c114 => ?_) (fun c114 => ?_)
    · exact yT.retV rfl rfl (qV hT105 trivial)
    · refine yT.aan (pc' := 21) xg_eq rfl rfl rfl ?_
      refine yT.cgI (pc' := 24) rfl rfl hT105 o108 rfl rfl (fun x116 w115 => ?_)
      refine yT.if1 (t := 33) (pc' := 27) rfl rfl rfl (c1_eq rfl) (fun c117 => ?_) (fun c117 => ?_)
      · exact yT.retV rfl rfl (qV hT105 trivial)
      · refine yT.iln (pc' := 28) (xg_ne g2 rfl) rfl rfl ?_
        refine yT.kb (pc' := 30) rfl rfl (by decide) (fun x118 e119 => ?_)
        refine yT.if2 (t := 34) (pc' := 33) rfl rfl rfl (c2_le rfl e119) (fun c120 => ?_) (fun c120 => ?_)
        · refine yT.aan (pc' := 35) xg_eq rfl rfl rfl ?_
          refine yT.kI (pc' := 36) rfl rfl (by decide) (fun x121 e122 => ?_)
          refine yT.cpZ (pc' := 39) rfl rfl hT105 o108 rfl rfl rfl (b01 (by omega) (by omega)) (fun h123 hT124 w125 fv126 => ?_)
          refine yT.aan (pc' := 40) xg_eq rfl rfl rfl ?_
          refine yT.cgk (pc' := 43) rfl rfl (fv126 _ _ _ _ rfl w115) ?_
          refine yT.kI (pc' := 44) rfl rfl (by decide) (fun x127 e128 => ?_)
          refine yT.if2 (t := 53) (pc' := 47) rfl rfl rfl (c2_ne rfl e128) (fun c129 => ?_) (fun c129 => ?_)
          · refine yT.aan (pc' := 54) xg_eq rfl rfl rfl ?_
            refine yT.cgk (pc' := 57) rfl rfl (fv126 _ _ _ _ rfl w115) ?_
            refine yT.kI (pc' := 58) rfl rfl (by decide) (fun x130 e131 => ?_)
            refine yT.if2 (t := 68) (pc' := 61) rfl rfl rfl (c2_ne rfl e131) (fun c132 => ?_) (fun c132 => ?_)
            · refine yT.aan (pc' := 69) xg_eq rfl rfl rfl ?_
              refine yT.kI (pc' := 70) rfl rfl (by decide) (fun x133 e134 => ?_)
              refine yT.cpZ (pc' := 73) rfl rfl hT124 o108 rfl rfl rfl (b01 (by omega) (by omega)) (fun h135 hT136 w137 fv138 => ?_)
              exact yT.retV rfl rfl (qV hT136 trivial)
            · refine yT.aan (pc' := 62) (xg_ne g0 rfl) rfl rfl rfl ?_
              refine yT.aan (pc' := 63) xg_eq rfl rfl rfl ?_
              refine yT.iln (pc' := 64) (xg_ne g1 rfl) rfl rfl ?_
              refine yT.iln (pc' := 65) (xg_ne g2 rfl) rfl rfl ?_
              refine kV (yT.cc (G2 := 0) (pc' := 68) rfl rfl rfl hT124 o0 xM_69 (c69 hT124 o0 o108 x1 x2 (by omega) (R (by omega))) rfl (by omega) (by decide) rfl) (fun h139 hT140 E141 => ?_)
              refine yT.aan (pc' := 69) xg_eq rfl rfl rfl ?_
              refine yT.kI (pc' := 70) rfl rfl (by decide) (fun x142 e143 => ?_)
              refine yT.cpZ (pc' := 73) rfl rfl hT140 o108 rfl rfl rfl (b01 (by omega) (by omega)) (fun h144 hT145 w146 fv147 => ?_)
              exact yT.retV rfl rfl (qV hT145 trivial)
          · refine yT.aan (pc' := 48) (xg_ne g0 rfl) rfl rfl rfl ?_
            refine yT.aan (pc' := 49) xg_eq rfl rfl rfl ?_
            refine yT.iln (pc' := 50) (xg_ne g2 rfl) rfl rfl ?_
            refine kV (yT.cc (G2 := 0) (pc' := 53) rfl rfl rfl hT124 o0 xM_68 (c68 hT124 o0 o108 x2 (by omega) (R (by omega))) rfl (by omega) (by decide) rfl) (fun h148 hT149 E150 => ?_)
            refine yT.aan (pc' := 54) xg_eq rfl rfl rfl ?_
            refine yT.cgI (pc' := 57) rfl rfl hT149 o108 rfl rfl (fun x152 w151 => ?_)
            refine yT.kI (pc' := 58) rfl rfl (by decide) (fun x153 e154 => ?_)
            refine yT.if2 (t := 68) (pc' := 61) rfl rfl rfl (c2_ne rfl e154) (fun c155 => ?_) (fun c155 => ?_)
            · refine yT.aan (pc' := 69) xg_eq rfl rfl rfl ?_
              refine yT.kI (pc' := 70) rfl rfl (by decide) (fun x156 e157 => ?_)
              refine yT.cpZ (pc' := 73) rfl rfl hT149 o108 rfl rfl rfl (b01 (by omega) (by omega)) (fun h158 hT159 w160 fv161 => ?_)
              exact yT.retV rfl rfl (qV hT159 trivial)
            · refine yT.aan (pc' := 62) (xg_ne g0 rfl) rfl rfl rfl ?_
              refine yT.aan (pc' := 63) xg_eq rfl rfl rfl ?_
              refine yT.iln (pc' := 64) (xg_ne g1 rfl) rfl rfl ?_
              refine yT.iln (pc' := 65) (xg_ne g2 rfl) rfl rfl ?_
              refine kV (yT.cc (G2 := 0) (pc' := 68) rfl rfl rfl hT149 o0 xM_69 (c69 hT149 o0 o108 x1 x2 (by omega) (R (by omega))) rfl (by omega) (by decide) rfl) (fun h162 hT163 E164 => ?_)
              refine yT.aan (pc' := 69) xg_eq rfl rfl rfl ?_
              refine yT.kI (pc' := 70) rfl rfl (by decide) (fun x165 e166 => ?_)
              refine yT.cpZ (pc' := 73) rfl rfl hT163 o108 rfl rfl rfl (b01 (by omega) (by omega)) (fun h167 hT168 w169 fv170 => ?_)
              exact yT.retV rfl rfl (qV hT168 trivial)
        · exact yT.retV rfl rfl (qV hT105 trivial)
-- rX5_refresh
set_option maxRecDepth 100000 in
set_option maxHeartbeats 4000000 in
theorem c67 {ks : List cT} {σ : Nat → Nat → Int32} {ρ : Nat → xE} {q0 : Nat} (o0 : xnth ks q0 = some (15, 0)) : ∀ (m : Nat) {h : List xE}, HT ks σ ρ h → ∀ (x y : Int32), (0 ≤ y.toInt ∧ y.toInt + (m : Int) = 25) → yM 67 (8 * m + 200) 0 [.ref (q0 + 1), .int x, .int y] h (CQ ks σ ρ (9, 0, 0) yT0)
  | 0, h, hT, x, y, hy => c67r hT o0 x y (by omega) (m := 0) (by omega) (fun h => absurd h (by omega))
  | m + 1, h, hT, x, y, hy => c67r hT o0 x y (by omega) (m := m + 1) (by omega) (fun _ h' hT' x' y' e => by
    have k := c67 o0 m hT' x' y' (by omega)
    rw [show 8 * (m + 1) + 192 = 8 * m + 200 by omega]
    exact k)
set_option maxRecDepth 100000 in
set_option maxHeartbeats 4000000 in
theorem c67z {ks : List cT} {σ : Nat → Nat → Int32} {ρ : Nat → xE} {h : List xE} (hT : HT ks σ ρ h) {q0 : Nat} (o0 : xnth ks q0 = some (15, 0)) (x1 x2 : Int32) (e : x2.toInt = 0) : yM 67 400 0 [.ref (q0 + 1), .int x1, .int x2] h (CQ ks σ ρ (9, 0, 0) yT0) := c67 o0 25 hT x1 x2 (by omega)
-- rX5_pull
set_option maxRecDepth 100000 in
set_option maxHeartbeats 4000000 in
theorem c59 {ks : List cT} {σ : Nat → Nat → Int32} {ρ : Nat → xE} {h : List xE} (hT : HT ks σ ρ h) {q0 : Nat} (o0 : xnth ks q0 = some (15, 0)) (x1 : Int32) : yM 59 (401) 0 [.ref (q0 + 1), .int x1] h (CQ ks σ ρ (9, 0, 0) yT0) := by
  refine yM.st xM_59 rfl rfl (fun lv g => ?_)
  have g0 := g 0 _ rfl
  have g1 := g 1 _ rfl
  refine yT.aan (pc' := 1) g0 rfl rfl rfl ?_
  refine yT.iln (pc' := 2) g1 rfl rfl ?_
  refine yT.kI (pc' := 3) rfl rfl (by decide) (fun x101 e102 => ?_)
  refine kV (yT.cc (G2 := 0) (pc' := 6) rfl rfl rfl hT o0 xM_67 (c67z hT o0 x1 x101 (by omega)) rfl (by decide) (by decide) rfl) (fun h103 hT104 E105 => ?_)
  exact yT.retV rfl rfl (qV hT104 trivial)
-- rX5_flushUnlessBatch
set_option maxRecDepth 100000 in
set_option maxHeartbeats 4000000 in
theorem c60 {ks : List cT} {σ : Nat → Nat → Int32} {ρ : Nat → xE} {h : List xE} (hT : HT ks σ ρ h) {q0 : Nat} (o0 : xnth ks q0 = some (15, 0)) : yM 60 (401) 0 [.ref (q0 + 1)] h (CQ ks σ ρ (9, 0, 0) yT0) := by
  refine yM.st xM_60 rfl rfl (fun lv g => ?_)
  have g0 := g 0 _ rfl
  refine yT.aan (pc' := 1) g0 rfl rfl rfl ?_
  refine yT.cgR (pc' := 4) rfl rfl hT o0 rfl rfl (fun q102 w101 o103 => ?_)
  refine yT.cgX (pc' := 7) rfl rfl hT o103 rfl rfl (fun x105 w104 i106 i107 z108 => ?_)
  refine yT.if1 (t := 11) (pc' := 10) rfl rfl rfl (c1_le rfl) (fun c109 => ?_) (fun c109 => ?_)
  · refine yT.kI (pc' := 12) rfl rfl (by decide) (fun x110 e111 => ?_)
    refine yT.p (pc' := 13) (lv' := xst1 _ 1 (.int x110)) rfl rfl (fun _ _ _ _ => rfl) ?_
    have L112 : ∀ (n120 : Nat) (lv113 : xLv) (h114 : List xE) (x116 : Int32), HT ks σ ρ h114 → xget lv113 0 = some (.ref (q0 + 1)) → xget lv113 1 = some (.int x116) → 0 ≤ x116.toInt → (2147483647 - x116.toInt).toNat < n120 → yT 0 [] rX5_flushUnlessBatch (401) 0 13 lv113 [] h114 (CQ ks σ ρ (9, 0, 0) yT0) := by
      intro n120
      induction n120 with
      | zero => intro lv113 h114 x116 hT115 g117 g118 i119 m121; exact absurd m121 (Nat.not_lt_zero _)
      | succ n120 ih122 =>
        intro lv113 h114 x116 hT115 g117 g118 i119 m121
        refine yT.iln (pc' := 14) g118 rfl rfl ?_
        refine yT.kb (pc' := 16) rfl rfl (by decide) (fun x123 e124 => ?_)
        refine yT.if2 (t := 67) (pc' := 19) rfl rfl rfl (c2_ge rfl e124) (fun c125 => ?_) (fun c125 => ?_)
        · exact yT.retV rfl rfl (qV hT115 trivial)
        · refine yT.aan (pc' := 20) g117 rfl rfl rfl ?_
          refine yT.cgR (pc' := 23) rfl rfl hT115 o0 rfl rfl (fun q127 w126 o128 => ?_)
          refine yT.cgR (pc' := 26) rfl rfl hT115 o128 rfl rfl (fun q130 w129 o131 => ?_)
          refine kS (yT.cc (G2 := 0) (pc' := 29) rfl rfl rfl hT115 o131 xM_44 (c44 hT115 o131 (by decide)) rfl (by decide) (by decide) rfl) (fun h132 x135 hT133 E134 i136 i137 => ?_)
          refine yT.if1 (t := 67) (pc' := 32) rfl rfl rfl (c1_le rfl) (fun c138 => ?_) (fun c138 => ?_)
          · exact yT.retV rfl rfl (qV hT133 trivial)
          · refine yT.aan (pc' := 33) g117 rfl rfl rfl ?_
            refine yT.cgR (pc' := 36) rfl rfl hT133 o0 rfl rfl (fun q140 w139 o141 => ?_)
            refine yT.cgR (pc' := 39) rfl rfl hT133 o141 rfl rfl (fun q143 w142 o144 => ?_)
            refine yT.kI (pc' := 40) rfl rfl (by decide) (fun x145 e146 => ?_)
            refine kI (yT.cc (G2 := 0) (pc' := 43) rfl rfl rfl hT133 o144 xM_46 (c46 hT133 o144 (by decide) x145) rfl (by decide) (by decide) rfl) (fun h147 x150 hT148 E149 => ?_)
            refine yT.p (pc' := 44) (lv' := xst1 _ 2 (.int x150)) rfl rfl (fun _ _ _ _ => rfl) ?_
            refine yT.aan (pc' := 45) (xg_ne g117 rfl) rfl rfl rfl ?_
            refine yT.cgR (pc' := 48) rfl rfl hT148 o0 rfl rfl (fun q152 w151 o153 => ?_)
            refine yT.cgR (pc' := 51) rfl rfl hT148 o153 rfl rfl (fun q155 w154 o156 => ?_)
            refine yT.iln (pc' := 52) xg_eq rfl rfl ?_
            refine kV (yT.cc (G2 := 0) (pc' := 55) rfl rfl rfl hT148 o156 xM_54 (c54 hT148 o156 (by decide) x150) rfl (by decide) (by decide) rfl) (fun h157 hT158 E159 => ?_)
            refine yT.aan (pc' := 56) (xg_ne g117 rfl) rfl rfl rfl ?_
            refine yT.iln (pc' := 57) xg_eq rfl rfl ?_
            refine yT.kI (pc' := 58) rfl rfl (by decide) (fun x160 e161 => ?_)
            refine kV (yT.cc (G2 := 0) (pc' := 61) rfl rfl rfl hT158 o0 xM_67 (c67z hT158 o0 x150 x160 (by omega)) rfl (by decide) (by decide) rfl) (fun h162 hT163 E164 => ?_)
            refine yT.inc (pc' := 64) (xg_ne g118 rfl) rfl rfl rfl rfl ⟨by decide, by have := i32_rng x116; omega⟩ (fun x165 e166 => ?_)
            refine yT.p (pc' := 13) rfl rfl (fun _ _ _ _ => rfl) ?_
            exact ih122 _ _ x165 hT163 (xg_ne (xg_ne g117 rfl) rfl) xg_eq (by omega) (by have := i32_rng x165; omega)
    exact L112 _ _ _ x110 hT (xg_ne g0 rfl) xg_eq (by omega) (Nat.lt_succ_self _)
  · exact yT.retV rfl rfl (qV hT trivial)
-- rX5_writeTo
set_option maxRecDepth 100000 in
set_option maxHeartbeats 4000000 in
theorem c61 {ks : List cT} {σ : Nat → Nat → Int32} {ρ : Nat → xE} {h : List xE} (hT : HT ks σ ρ h) {q0 : Nat} (o0 : xnth ks q0 = some (15, 0)) (x1 : Int32) (x2 : Int32) : yM 61 (2) 0 [.ref (q0 + 1), .int x1, .int x2] h (CQ ks σ ρ (1, 0, 0) yT0) := by
  refine yM.st xM_61 rfl rfl (fun lv g => ?_)
  have g0 := g 0 _ rfl
  have g1 := g 1 _ rfl
  have g2 := g 2 _ rfl
  refine yT.aan (pc' := 1) g0 rfl rfl rfl ?_
  refine yT.cgR (pc' := 4) rfl rfl hT o0 rfl rfl (fun q102 w101 o103 => ?_)
  refine yT.iln (pc' := 5) g1 rfl rfl ?_
  refine kN (yT.cc (G2 := 0) (pc' := 8) rfl rfl rfl hT o103 xM_87 (c87 hT o103 x1) rfl (by decide) (by decide) rfl) (fun h104 hT105 E106 => ?_) (fun h104 q107 hT105 E106 o108 => ?_)
  · refine yT.p (pc' := 9) (lv' := xst1 _ 3 (.null)) rfl rfl (fun _ _ _ _ => rfl) ?_
    refine yT.aan (pc' := 10) xg_eq rfl rfl rfl ?_
    refine yT.p (pc' := 23) rfl rfl (fun _ _ _ _ => rfl) ?_
    refine yT.kI (pc' := 24) rfl rfl (by decide) (fun x109 e110 => ?_)
    exact yT.retZ rfl rfl (b01 (by omega) (by omega)) (qZ hT105 trivial (b01 (by omega) (by omega)))
  · have i111 : 0 ≤ x1.toInt ∧ x1.toInt < 24 := (show _ ∨ _ from E106).elim (fun e => by cases e) id
    refine yT.p (pc' := 9) (lv' := xst1 _ 3 (.ref (q107 + 1))) rfl rfl (fun _ _ _ _ => rfl) ?_
    refine yT.aan (pc' := 10) xg_eq rfl rfl rfl ?_
    refine yT.p (pc' := 13) rfl rfl (fun _ _ _ _ => rfl) ?_
    refine yT.aan (pc' := 14) xg_eq rfl rfl rfl ?_
    refine yT.cgL (pc' := 17) rfl rfl hT105 o108 rfl rfl (fun x113 w112 => ?_)
    refine yT.iln (pc' := 18) (xg_ne g2 rfl) rfl rfl ?_
    refine yT.fl (pc' := 19) rfl rfl (fun _ _ _ _ => rfl) (fun x114 => ?_)
    refine yT.fi (pc' := 20) rfl rfl (fun _ _ _ _ => rfl) (fun x115 => ?_)
    refine yT.if1 (t := 25) (pc' := 23) rfl rfl rfl (c1_ne rfl) (fun c116 => ?_) (fun c116 => ?_)
    · refine yT.aan (pc' := 26) xg_eq rfl rfl rfl ?_
      refine yT.iln (pc' := 27) (xg_ne g2 rfl) rfl rfl ?_
      refine yT.fl (pc' := 28) rfl rfl (fun _ _ _ _ => rfl) (fun x117 => ?_)
      refine yT.cpL (pc' := 31) rfl rfl hT105 o108 rfl rfl rfl (fun h118 hT119 w120 fv121 => ?_)
      refine yT.aan (pc' := 32) xg_eq rfl rfl rfl ?_
      refine yT.p (pc' := 33) rfl rfl (fun _ _ _ _ => rfl) ?_
      refine yT.cgL (pc' := 36) rfl rfl hT119 o108 rfl rfl (fun x123 w122 => ?_)
      refine yT.fl (pc' := 37) rfl rfl (fun _ _ _ _ => rfl) (fun x124 => ?_)
      refine yT.fl (pc' := 38) rfl rfl (fun _ _ _ _ => rfl) (fun x125 => ?_)
      refine yT.cpL (pc' := 41) rfl rfl hT119 o108 rfl rfl rfl (fun h126 hT127 w128 fv129 => ?_)
      refine yT.aan (pc' := 42) (xg_ne g0 rfl) rfl rfl rfl ?_
      refine yT.aan (pc' := 43) (xg_ne g0 rfl) rfl rfl rfl ?_
      refine yT.cgR (pc' := 46) rfl rfl hT127 o0 rfl rfl (fun q131 w130 o132 => ?_)
      refine yT.iln (pc' := 47) (xg_ne g1 rfl) rfl rfl ?_
      refine kI (yT.cc (G2 := 0) (pc' := 50) rfl rfl rfl hT127 o132 xM_95 (c95 hT127 o132 x1) rfl (by decide) (by decide) rfl) (fun h133 x136 hT134 E135 => ?_)
      refine yT.aan (pc' := 51) (xg_ne g0 rfl) rfl rfl rfl ?_
      refine yT.cgR (pc' := 54) rfl rfl hT134 o0 rfl rfl (fun q138 w137 o139 => ?_)
      refine yT.iln (pc' := 55) (xg_ne g1 rfl) rfl rfl ?_
      refine kI (yT.cc (G2 := 0) (pc' := 58) rfl rfl rfl hT134 o139 xM_96 (c96 hT134 o139 x1) rfl (by decide) (by decide) rfl) (fun h140 x143 hT141 E142 => ?_)
      refine kV (yT.cc (G2 := 0) (pc' := 61) rfl rfl rfl hT141 o0 xM_66 (c66 hT141 o0 x136 x143) rfl (by decide) (by decide) rfl) (fun h144 hT145 E146 => ?_)
      refine yT.kI (pc' := 62) rfl rfl (by decide) (fun x147 e148 => ?_)
      exact yT.retZ rfl rfl (b01 (by omega) (by omega)) (qZ hT145 trivial (b01 (by omega) (by omega)))
    · refine yT.kI (pc' := 24) rfl rfl (by decide) (fun x149 e150 => ?_)
      exact yT.retZ rfl rfl (b01 (by omega) (by omega)) (qZ hT105 trivial (b01 (by omega) (by omega)))
-- rX5_giveFormula
set_option maxRecDepth 100000 in
set_option maxHeartbeats 4000000 in
theorem c62 {ks : List cT} {σ : Nat → Nat → Int32} {ρ : Nat → xE} {h : List xE} (hT : HT ks σ ρ h) {q0 : Nat} (o0 : xnth ks q0 = some (15, 0)) (x1 : Int32) {v2 : Value} (o2 : v2 = .null ∨ ∃ p, v2 = .ref (p + 1) ∧ xnth ks p = some (12, 0)) : yM 62 (2) 0 [.ref (q0 + 1), .int x1, v2] h (CQ ks σ ρ (9, 0, 0) yT0) := by
  rcases o2 with rfl | ⟨q2, rfl, o2⟩
  · refine yM.st xM_62 rfl rfl (fun lv g => ?_)
    have g0 := g 0 _ rfl
    have g1 := g 1 _ rfl
    have g2 := g 2 _ rfl
    refine yT.aan (pc' := 1) g0 rfl rfl rfl ?_
    refine yT.cgR (pc' := 4) rfl rfl hT o0 rfl rfl (fun q102 w101 o103 => ?_)
    refine yT.iln (pc' := 5) g1 rfl rfl ?_
    refine kN (yT.cc (G2 := 0) (pc' := 8) rfl rfl rfl hT o103 xM_87 (c87 hT o103 x1) rfl (by decide) (by decide) rfl) (fun h104 hT105 E106 => ?_) (fun h104 q107 hT105 E106 o108 => ?_)
    · refine yT.p (pc' := 9) (lv' := xst1 _ 3 (.null)) rfl rfl (fun _ _ _ _ => rfl) ?_
      refine yT.aan (pc' := 10) xg_eq rfl rfl rfl ?_
      refine yT.p (pc' := 13) rfl rfl (fun _ _ _ _ => rfl) ?_
      exact yT.retV rfl rfl (qV hT105 trivial)
    · have i109 : 0 ≤ x1.toInt ∧ x1.toInt < 24 := (show _ ∨ _ from E106).elim (fun e => by cases e) id
      refine yT.p (pc' := 9) (lv' := xst1 _ 3 (.ref (q107 + 1))) rfl rfl (fun _ _ _ _ => rfl) ?_
      refine yT.aan (pc' := 10) xg_eq rfl rfl rfl ?_
      refine yT.p (pc' := 14) rfl rfl (fun _ _ _ _ => rfl) ?_
      refine yT.aan (pc' := 15) xg_eq rfl rfl rfl ?_
      refine yT.aan (pc' := 16) (xg_ne g2 rfl) rfl rfl rfl ?_
      refine yT.cpN (pc' := 19) rfl rfl hT105 o108 rfl rfl rfl (Or.inl rfl) rfl (fun h110 hT111 w112 fv113 => ?_)
      refine yT.aan (pc' := 20) (xg_ne g0 rfl) rfl rfl rfl ?_
      refine yT.kI (pc' := 21) rfl rfl (by decide) (fun x114 e115 => ?_)
      refine yT.iln (pc' := 22) (xg_ne g1 rfl) rfl rfl ?_
      refine yT.fi (pc' := 23) rfl rfl (fun _ _ _ _ => rfl) (fun x116 => ?_)
      refine yT.kI (pc' := 24) rfl rfl (by decide) (fun x117 e118 => ?_)
      refine kV (yT.cc (G2 := 0) (pc' := 27) rfl rfl rfl hT111 o0 xM_66 (c66 hT111 o0 x116 x117) rfl (by decide) (by decide) rfl) (fun h119 hT120 E121 => ?_)
      refine yT.aan (pc' := 28) (xg_ne g0 rfl) rfl rfl rfl ?_
      refine yT.kI (pc' := 29) rfl rfl (by decide) (fun x122 e123 => ?_)
      refine yT.aan (pc' := 30) (xg_ne g0 rfl) rfl rfl rfl ?_
      refine yT.cgR (pc' := 33) rfl rfl hT120 o0 rfl rfl (fun q125 w124 o126 => ?_)
      refine yT.iln (pc' := 34) (xg_ne g1 rfl) rfl rfl ?_
      refine kI (yT.cc (G2 := 0) (pc' := 37) rfl rfl rfl hT120 o126 xM_95 (c95 hT120 o126 x1) rfl (by decide) (by decide) rfl) (fun h127 x130 hT128 E129 => ?_)
      refine yT.aan (pc' := 38) (xg_ne g0 rfl) rfl rfl rfl ?_
      refine yT.cgR (pc' := 41) rfl rfl hT128 o0 rfl rfl (fun q132 w131 o133 => ?_)
      refine yT.iln (pc' := 42) (xg_ne g1 rfl) rfl rfl ?_
      refine kI (yT.cc (G2 := 0) (pc' := 45) rfl rfl rfl hT128 o133 xM_96 (c96 hT128 o133 x1) rfl (by decide) (by decide) rfl) (fun h134 x137 hT135 E136 => ?_)
      refine yT.fi (pc' := 46) rfl rfl (fun _ _ _ _ => rfl) (fun x138 => ?_)
      refine kV (yT.cc (G2 := 0) (pc' := 49) rfl rfl rfl hT135 o0 xM_66 (c66 hT135 o0 x122 x138) rfl (by decide) (by decide) rfl) (fun h139 hT140 E141 => ?_)
      exact yT.retV rfl rfl (qV hT140 trivial)
  · refine yM.st xM_62 rfl rfl (fun lv g => ?_)
    have g0 := g 0 _ rfl
    have g1 := g 1 _ rfl
    have g2 := g 2 _ rfl
    refine yT.aan (pc' := 1) g0 rfl rfl rfl ?_
    refine yT.cgR (pc' := 4) rfl rfl hT o0 rfl rfl (fun q143 w142 o144 => ?_)
    refine yT.iln (pc' := 5) g1 rfl rfl ?_
    refine kN (yT.cc (G2 := 0) (pc' := 8) rfl rfl rfl hT o144 xM_87 (c87 hT o144 x1) rfl (by decide) (by decide) rfl) (fun h145 hT146 E147 => ?_) (fun h145 q148 hT146 E147 o149 => ?_)
    · refine yT.p (pc' := 9) (lv' := xst1 _ 3 (.null)) rfl rfl (fun _ _ _ _ => rfl) ?_
      refine yT.aan (pc' := 10) xg_eq rfl rfl rfl ?_
      refine yT.p (pc' := 13) rfl rfl (fun _ _ _ _ => rfl) ?_
      exact yT.retV rfl rfl (qV hT146 trivial)
    · have i150 : 0 ≤ x1.toInt ∧ x1.toInt < 24 := (show _ ∨ _ from E147).elim (fun e => by cases e) id
      refine yT.p (pc' := 9) (lv' := xst1 _ 3 (.ref (q148 + 1))) rfl rfl (fun _ _ _ _ => rfl) ?_
      refine yT.aan (pc' := 10) xg_eq rfl rfl rfl ?_
      refine yT.p (pc' := 14) rfl rfl (fun _ _ _ _ => rfl) ?_
      refine yT.aan (pc' := 15) xg_eq rfl rfl rfl ?_
      refine yT.aan (pc' := 16) (xg_ne g2 rfl) rfl rfl rfl ?_
      refine yT.cpN (pc' := 19) rfl rfl hT146 o149 rfl rfl rfl (Or.inr ⟨_, rfl, o2⟩) rfl (fun h151 hT152 w153 fv154 => ?_)
      refine yT.aan (pc' := 20) (xg_ne g0 rfl) rfl rfl rfl ?_
      refine yT.kI (pc' := 21) rfl rfl (by decide) (fun x155 e156 => ?_)
      refine yT.iln (pc' := 22) (xg_ne g1 rfl) rfl rfl ?_
      refine yT.fi (pc' := 23) rfl rfl (fun _ _ _ _ => rfl) (fun x157 => ?_)
      refine yT.kI (pc' := 24) rfl rfl (by decide) (fun x158 e159 => ?_)
      refine kV (yT.cc (G2 := 0) (pc' := 27) rfl rfl rfl hT152 o0 xM_66 (c66 hT152 o0 x157 x158) rfl (by decide) (by decide) rfl) (fun h160 hT161 E162 => ?_)
      refine yT.aan (pc' := 28) (xg_ne g0 rfl) rfl rfl rfl ?_
      refine yT.kI (pc' := 29) rfl rfl (by decide) (fun x163 e164 => ?_)
      refine yT.aan (pc' := 30) (xg_ne g0 rfl) rfl rfl rfl ?_
      refine yT.cgR (pc' := 33) rfl rfl hT161 o0 rfl rfl (fun q166 w165 o167 => ?_)
      refine yT.iln (pc' := 34) (xg_ne g1 rfl) rfl rfl ?_
      refine kI (yT.cc (G2 := 0) (pc' := 37) rfl rfl rfl hT161 o167 xM_95 (c95 hT161 o167 x1) rfl (by decide) (by decide) rfl) (fun h168 x171 hT169 E170 => ?_)
      refine yT.aan (pc' := 38) (xg_ne g0 rfl) rfl rfl rfl ?_
      refine yT.cgR (pc' := 41) rfl rfl hT169 o0 rfl rfl (fun q173 w172 o174 => ?_)
      refine yT.iln (pc' := 42) (xg_ne g1 rfl) rfl rfl ?_
      refine kI (yT.cc (G2 := 0) (pc' := 45) rfl rfl rfl hT169 o174 xM_96 (c96 hT169 o174 x1) rfl (by decide) (by decide) rfl) (fun h175 x178 hT176 E177 => ?_)
      refine yT.fi (pc' := 46) rfl rfl (fun _ _ _ _ => rfl) (fun x179 => ?_)
      refine kV (yT.cc (G2 := 0) (pc' := 49) rfl rfl rfl hT176 o0 xM_66 (c66 hT176 o0 x163 x179) rfl (by decide) (by decide) rfl) (fun h180 hT181 E182 => ?_)
      exact yT.retV rfl rfl (qV hT181 trivial)
-- rX5_disposeOf
set_option maxRecDepth 100000 in
set_option maxHeartbeats 4000000 in
theorem c63 {ks : List cT} {σ : Nat → Nat → Int32} {ρ : Nat → xE} {h : List xE} (hT : HT ks σ ρ h) {q0 : Nat} (o0 : xnth ks q0 = some (15, 0)) (x1 : Int32) : yM 63 (109) 0 [.ref (q0 + 1), .int x1] h (CQ ks σ ρ (9, 0, 0) yT0) := by
  refine yM.st xM_63 rfl rfl (fun lv g => ?_)
  have g0 := g 0 _ rfl
  have g1 := g 1 _ rfl
  refine yT.aan (pc' := 1) g0 rfl rfl rfl ?_
  refine yT.iln (pc' := 2) g1 rfl rfl ?_
  refine yT.kI (pc' := 3) rfl rfl (by decide) (fun x101 e102 => ?_)
  refine kV (yT.cc (G2 := 0) (pc' := 6) rfl rfl rfl hT o0 xM_64 (c64z hT o0 x1 x101 (by omega)) rfl (by decide) (by decide) rfl) (fun h103 hT104 E105 => ?_)
  refine yT.aan (pc' := 7) g0 rfl rfl rfl ?_
  refine yT.iln (pc' := 8) g1 rfl rfl ?_
  refine kV (yT.cc (G2 := 0) (pc' := 11) rfl rfl rfl hT104 o0 xM_65 (c65 hT104 o0 x1) rfl (by decide) (by decide) rfl) (fun h106 hT107 E108 => ?_)
  exact yT.retV rfl rfl (qV hT107 trivial)
-- rX6_holding
set_option maxRecDepth 100000 in
set_option maxHeartbeats 4000000 in
theorem c72 {ks : List cT} {σ : Nat → Nat → Int32} {ρ : Nat → xE} {h : List xE} (hT : HT ks σ ρ h) {q0 : Nat} (o0 : xnth ks q0 = some (16, 0)) : yM 72 (0) 0 [.ref (q0 + 1)] h (CQ ks σ ρ (0, 0, 0) yT0) := by
  refine yM.st xM_72 rfl rfl (fun lv g => ?_)
  have g0 := g 0 _ rfl
  refine yT.aan (pc' := 1) g0 rfl rfl rfl ?_
  refine yT.cgI (pc' := 4) rfl rfl hT o0 rfl rfl (fun x102 w101 => ?_)
  exact yT.retI rfl rfl (qI hT trivial)
-- rX6_holdsRow
set_option maxRecDepth 100000 in
set_option maxHeartbeats 4000000 in
theorem c73 {ks : List cT} {σ : Nat → Nat → Int32} {ρ : Nat → xE} {h : List xE} (hT : HT ks σ ρ h) {q0 : Nat} (o0 : xnth ks q0 = some (16, 0)) : yM 73 (0) 0 [.ref (q0 + 1)] h (CQ ks σ ρ (1, 0, 0) yT0) := by
  refine yM.st xM_73 rfl rfl (fun lv g => ?_)
  have g0 := g 0 _ rfl
  refine yT.aan (pc' := 1) g0 rfl rfl rfl ?_
  refine yT.cgI (pc' := 4) rfl rfl hT o0 rfl rfl (fun x102 w101 => ?_)
  refine yT.if1 (t := 19) (pc' := 7) rfl rfl rfl (c1_lt rfl) (fun c103 => ?_) (fun c103 => ?_)
  · refine yT.kI (pc' := 20) rfl rfl (by decide) (fun x104 e105 => ?_)
    exact yT.retZ rfl rfl (b01 (by omega) (by omega)) (qZ hT trivial (b01 (by omega) (by omega)))
  · refine yT.aan (pc' := 8) g0 rfl rfl rfl ?_
    refine yT.cgk (pc' := 11) rfl rfl w101 ?_
    refine yT.kI (pc' := 12) rfl rfl (by decide) (fun x106 e107 => ?_)
    refine yT.if2 (t := 19) (pc' := 15) rfl rfl rfl (c2_gt rfl e107) (fun c108 => ?_) (fun c108 => ?_)
    · refine yT.kI (pc' := 20) rfl rfl (by decide) (fun x109 e110 => ?_)
      exact yT.retZ rfl rfl (b01 (by omega) (by omega)) (qZ hT trivial (b01 (by omega) (by omega)))
    · refine yT.kI (pc' := 16) rfl rfl (by decide) (fun x111 e112 => ?_)
      refine yT.p (pc' := 20) rfl rfl (fun _ _ _ _ => rfl) ?_
      exact yT.retZ rfl rfl (b01 (by omega) (by omega)) (qZ hT trivial (b01 (by omega) (by omega)))
-- rX6_holdsCell
set_option maxRecDepth 100000 in
set_option maxHeartbeats 4000000 in
theorem c74 {ks : List cT} {σ : Nat → Nat → Int32} {ρ : Nat → xE} {h : List xE} (hT : HT ks σ ρ h) {q0 : Nat} (o0 : xnth ks q0 = some (16, 0)) : yM 74 (0) 0 [.ref (q0 + 1)] h (CQ ks σ ρ (1, 0, 0) yT0) := by
  refine yM.st xM_74 rfl rfl (fun lv g => ?_)
  have g0 := g 0 _ rfl
  refine yT.aan (pc' := 1) g0 rfl rfl rfl ?_
  refine yT.cgI (pc' := 4) rfl rfl hT o0 rfl rfl (fun x102 w101 => ?_)
  refine yT.kb (pc' := 6) rfl rfl (by decide) (fun x103 e104 => ?_)
  refine yT.if2 (t := 13) (pc' := 9) rfl rfl rfl (c2_lt rfl e104) (fun c105 => ?_) (fun c105 => ?_)
  · refine yT.kI (pc' := 14) rfl rfl (by decide) (fun x106 e107 => ?_)
    exact yT.retZ rfl rfl (b01 (by omega) (by omega)) (qZ hT trivial (b01 (by omega) (by omega)))
  · refine yT.kI (pc' := 10) rfl rfl (by decide) (fun x108 e109 => ?_)
    refine yT.p (pc' := 14) rfl rfl (fun _ _ _ _ => rfl) ?_
    exact yT.retZ rfl rfl (b01 (by omega) (by omega)) (qZ hT trivial (b01 (by omega) (by omega)))
-- rX6_cellHeld
set_option maxRecDepth 100000 in
set_option maxHeartbeats 4000000 in
theorem c75 {ks : List cT} {σ : Nat → Nat → Int32} {ρ : Nat → xE} {h : List xE} (hT : HT ks σ ρ h) {q0 : Nat} (o0 : xnth ks q0 = some (16, 0)) : yM 75 (0) 0 [.ref (q0 + 1)] h (CQ ks σ ρ (0, 0, 0) yT0) := by
  refine yM.st xM_75 rfl rfl (fun lv g => ?_)
  have g0 := g 0 _ rfl
  refine yT.aan (pc' := 1) g0 rfl rfl rfl ?_
  refine yT.cgI (pc' := 4) rfl rfl hT o0 rfl rfl (fun x102 w101 => ?_)
  refine yT.kb (pc' := 6) rfl rfl (by decide) (fun x103 e104 => ?_)
  refine yT.fi (pc' := 7) rfl rfl (fun _ _ _ _ => rfl) (fun x105 => ?_)
  exact yT.retI rfl rfl (qI hT trivial)
-- rX6_holdNothing
set_option maxRecDepth 100000 in
set_option maxHeartbeats 4000000 in
theorem c76 {ks : List cT} {σ : Nat → Nat → Int32} {ρ : Nat → xE} {h : List xE} (hT : HT ks σ ρ h) {q0 : Nat} (o0 : xnth ks q0 = some (16, 0)) : yM 76 (0) 0 [.ref (q0 + 1)] h (CQ ks σ ρ (9, 0, 0) yT0) := by
  refine yM.st xM_76 rfl rfl (fun lv g => ?_)
  have g0 := g 0 _ rfl
  refine yT.aan (pc' := 1) g0 rfl rfl rfl ?_
  refine yT.kI (pc' := 2) rfl rfl (by decide) (fun x101 e102 => ?_)
  refine yT.cpI (pc' := 5) rfl rfl hT o0 rfl rfl rfl (fun h103 hT104 w105 fv106 => ?_)
  refine yT.aan (pc' := 6) g0 rfl rfl rfl ?_
  refine yT.kI (pc' := 7) rfl rfl (by decide) (fun x107 e108 => ?_)
  refine yT.cpI (pc' := 10) rfl rfl hT104 o0 rfl rfl rfl (fun h109 hT110 w111 fv112 => ?_)
  exact yT.retV rfl rfl (qV hT110 trivial)
-- rX6_holdCell
set_option maxRecDepth 100000 in
set_option maxHeartbeats 4000000 in
theorem c77 {ks : List cT} {σ : Nat → Nat → Int32} {ρ : Nat → xE} {h : List xE} (hT : HT ks σ ρ h) {q0 : Nat} (o0 : xnth ks q0 = some (16, 0)) (x1 : Int32) : yM 77 (0) 0 [.ref (q0 + 1), .int x1] h (CQ ks σ ρ (9, 0, 0) yT0) := by
  refine yM.st xM_77 rfl rfl (fun lv g => ?_)
  have g0 := g 0 _ rfl
  have g1 := g 1 _ rfl
  refine yT.aan (pc' := 1) g0 rfl rfl rfl ?_
  refine yT.kb (pc' := 3) rfl rfl (by decide) (fun x101 e102 => ?_)
  refine yT.iln (pc' := 4) g1 rfl rfl ?_
  refine yT.fi (pc' := 5) rfl rfl (fun _ _ _ _ => rfl) (fun x103 => ?_)
  refine yT.cpI (pc' := 8) rfl rfl hT o0 rfl rfl rfl (fun h104 hT105 w106 fv107 => ?_)
  refine yT.aan (pc' := 9) g0 rfl rfl rfl ?_
  refine yT.kI (pc' := 10) rfl rfl (by decide) (fun x108 e109 => ?_)
  refine yT.cpI (pc' := 13) rfl rfl hT105 o0 rfl rfl rfl (fun h110 hT111 w112 fv113 => ?_)
  exact yT.retV rfl rfl (qV hT111 trivial)
-- rX6_holdRow
set_option maxRecDepth 100000 in
set_option maxHeartbeats 4000000 in
theorem c78 {ks : List cT} {σ : Nat → Nat → Int32} {ρ : Nat → xE} {h : List xE} (hT : HT ks σ ρ h) {q0 : Nat} (o0 : xnth ks q0 = some (16, 0)) (x1 : Int32) (x2 : Int32) : yM 78 (0) 0 [.ref (q0 + 1), .int x1, .int x2] h (CQ ks σ ρ (9, 0, 0) yT0) := by
  refine yM.st xM_78 rfl rfl (fun lv g => ?_)
  have g0 := g 0 _ rfl
  have g1 := g 1 _ rfl
  have g2 := g 2 _ rfl
  refine yT.aan (pc' := 1) g0 rfl rfl rfl ?_
  refine yT.iln (pc' := 2) g1 rfl rfl ?_
  refine yT.cpI (pc' := 5) rfl rfl hT o0 rfl rfl rfl (fun h101 hT102 w103 fv104 => ?_)
  refine yT.aan (pc' := 6) g0 rfl rfl rfl ?_
  refine yT.iln (pc' := 7) g2 rfl rfl ?_
  refine yT.cpI (pc' := 10) rfl rfl hT102 o0 rfl rfl rfl (fun h105 hT106 w107 fv108 => ?_)
  refine yT.kI (pc' := 11) rfl rfl (by decide) (fun x109 e110 => ?_)
  refine yT.p (pc' := 12) (lv' := xst1 _ 3 (.int x109)) rfl rfl (fun _ _ _ _ => rfl) ?_
  have L111 : ∀ (n119 : Nat) (lv112 : xLv) (h113 : List xE) (x115 : Int32), HT ks σ ρ h113 → xget lv112 0 = some (.ref (q0 + 1)) → xget lv112 3 = some (.int x115) → 0 ≤ x115.toInt → (2147483647 - x115.toInt).toNat < n119 → yT 0 [] rX6_holdRow (0) 0 12 lv112 [] h113 (CQ ks σ ρ (9, 0, 0) yT0) := by
    intro n119
    induction n119 with
    | zero => intro lv112 h113 x115 hT114 g116 g117 i118 m120; exact absurd m120 (Nat.not_lt_zero _)
    | succ n119 ih121 =>
      intro lv112 h113 x115 hT114 g116 g117 i118 m120
      refine yT.iln (pc' := 13) g117 rfl rfl ?_
      refine yT.aan (pc' := 14) g116 rfl rfl rfl ?_
      refine yT.cgR (pc' := 17) rfl rfl hT114 o0 rfl rfl (fun q123 w122 o124 => ?_)
      refine yT.cal (pc' := 18) rfl rfl hT114 o124 rfl (by omega) (fun x125 e126 => ?_)
      refine yT.if2 (t := 34) (pc' := 21) rfl rfl rfl (c2_ge rfl e126) (fun c127 => ?_) (fun c127 => ?_)
      · exact yT.retV rfl rfl (qV hT114 trivial)
      · refine yT.aan (pc' := 22) g116 rfl rfl rfl ?_
        refine yT.cgk (pc' := 25) rfl rfl w122 ?_
        refine yT.iln (pc' := 26) g117 rfl rfl ?_
        refine yT.fl (pc' := 27) rfl rfl (fun _ _ _ _ => rfl) (fun x128 => ?_)
        refine yT.cls (pc' := 28) rfl rfl hT114 o124 rfl (by omega) (fun h129 hT130 fv131 => ?_)
        refine yT.inc (pc' := 31) g117 rfl rfl rfl rfl ⟨by decide, by have := i32_rng x115; omega⟩ (fun x132 e133 => ?_)
        refine yT.p (pc' := 12) rfl rfl (fun _ _ _ _ => rfl) ?_
        exact ih121 _ _ x132 hT130 (xg_ne g116 rfl) xg_eq (by omega) (by have := i32_rng x132; omega)
  exact L111 _ _ _ x109 hT106 (xg_ne g0 rfl) xg_eq (by omega) (Nat.lt_succ_self _)
-- rX6_hasPlaces
set_option maxRecDepth 100000 in
set_option maxHeartbeats 4000000 in
theorem c79 {ks : List cT} {σ : Nat → Nat → Int32} {ρ : Nat → xE} {h : List xE} (hT : HT ks σ ρ h) {q0 : Nat} (o0 : xnth ks q0 = some (16, 0)) (x1 : Int32) (x2 : Int32) : yM 79 (0) 0 [.ref (q0 + 1), .int x1, .int x2] h (CQ ks σ ρ (1, 0, 0) yT0) := by
  refine yM.st xM_79 rfl rfl (fun lv g => ?_)
  have g0 := g 0 _ rfl
  have g1 := g 1 _ rfl
  have g2 := g 2 _ rfl
  refine yT.iln (pc' := 1) g1 rfl rfl ?_
  refine yT.if1 (t := 30) (pc' := 4) rfl rfl rfl (c1_lt rfl) (fun c101 => ?_) (fun c101 => ?_)
  · refine yT.kI (pc' := 31) rfl rfl (by decide) (fun x102 e103 => ?_)
    exact yT.retZ rfl rfl (b01 (by omega) (by omega)) (qZ hT trivial (b01 (by omega) (by omega)))
  · refine yT.iln (pc' := 5) g2 rfl rfl ?_
    refine yT.if1 (t := 30) (pc' := 8) rfl rfl rfl (c1_lt rfl) (fun c104 => ?_) (fun c104 => ?_)
    · refine yT.kI (pc' := 31) rfl rfl (by decide) (fun x105 e106 => ?_)
      exact yT.retZ rfl rfl (b01 (by omega) (by omega)) (qZ hT trivial (b01 (by omega) (by omega)))
    · refine yT.iln (pc' := 9) g1 rfl rfl ?_
      refine yT.aan (pc' := 10) g0 rfl rfl rfl ?_
      refine yT.cgI (pc' := 13) rfl rfl hT o0 rfl rfl (fun x108 w107 => ?_)
      refine yT.if2 (t := 30) (pc' := 16) rfl rfl rfl (c2_gt rfl rfl) (fun c109 => ?_) (fun c109 => ?_)
      · refine yT.kI (pc' := 31) rfl rfl (by decide) (fun x110 e111 => ?_)
        exact yT.retZ rfl rfl (b01 (by omega) (by omega)) (qZ hT trivial (b01 (by omega) (by omega)))
      · refine yT.iln (pc' := 17) g2 rfl rfl ?_
        refine yT.aan (pc' := 18) g0 rfl rfl rfl ?_
        refine yT.cgk (pc' := 21) rfl rfl w107 ?_
        refine yT.iln (pc' := 22) g1 rfl rfl ?_
        refine yT.sb (pc' := 23) rfl rfl rfl rfl (by have := i32_rng x1; have := i32_rng x108; omega) (fun x112 e113 => ?_)
        refine yT.if2 (t := 30) (pc' := 26) rfl rfl rfl (c2_gt rfl e113) (fun c114 => ?_) (fun c114 => ?_)
        · refine yT.kI (pc' := 31) rfl rfl (by decide) (fun x115 e116 => ?_)
          exact yT.retZ rfl rfl (b01 (by omega) (by omega)) (qZ hT trivial (b01 (by omega) (by omega)))
        · refine yT.kI (pc' := 27) rfl rfl (by decide) (fun x117 e118 => ?_)
          refine yT.p (pc' := 31) rfl rfl (fun _ _ _ _ => rfl) ?_
          exact yT.retZ rfl rfl (b01 (by omega) (by omega)) (qZ hT trivial (b01 (by omega) (by omega)))
-- rX6_elementAt
set_option maxRecDepth 100000 in
set_option maxHeartbeats 4000000 in
theorem c80 {ks : List cT} {σ : Nat → Nat → Int32} {ρ : Nat → xE} {h : List xE} (hT : HT ks σ ρ h) {q0 : Nat} (o0 : xnth ks q0 = some (16, 0)) (x1 : Int32) : yM 80 (0) 0 [.ref (q0 + 1), .int x1] h (CQ ks σ ρ (2, 0, 0) yT0) := by
  refine yM.st xM_80 rfl rfl (fun lv g => ?_)
  have g0 := g 0 _ rfl
  have g1 := g 1 _ rfl
  refine yT.iln (pc' := 1) g1 rfl rfl ?_
  refine yT.if1 (t := 30) (pc' := 4) rfl rfl rfl (c1_lt rfl) (fun c101 => ?_) (fun c101 => ?_)
  · refine yT.fl (pc' := 31) rfl rfl (fun _ _ _ _ => rfl) (fun x102 => ?_)
    exact yT.retL rfl rfl (qL hT trivial)
  · refine yT.iln (pc' := 5) g1 rfl rfl ?_
    refine yT.aan (pc' := 6) g0 rfl rfl rfl ?_
    refine yT.cgI (pc' := 9) rfl rfl hT o0 rfl rfl (fun x104 w103 => ?_)
    refine yT.if2 (t := 30) (pc' := 12) rfl rfl rfl (c2_ge rfl rfl) (fun c105 => ?_) (fun c105 => ?_)
    · refine yT.fl (pc' := 31) rfl rfl (fun _ _ _ _ => rfl) (fun x106 => ?_)
      exact yT.retL rfl rfl (qL hT trivial)
    · refine yT.iln (pc' := 13) g1 rfl rfl ?_
      refine yT.aan (pc' := 14) g0 rfl rfl rfl ?_
      refine yT.cgR (pc' := 17) rfl rfl hT o0 rfl rfl (fun q108 w107 o109 => ?_)
      refine yT.cal (pc' := 18) rfl rfl hT o109 rfl (by omega) (fun x110 e111 => ?_)
      refine yT.if2 (t := 30) (pc' := 21) rfl rfl rfl (c2_ge rfl e111) (fun c112 => ?_) (fun c112 => ?_)
      · refine yT.fl (pc' := 31) rfl rfl (fun _ _ _ _ => rfl) (fun x113 => ?_)
        exact yT.retL rfl rfl (qL hT trivial)
      · refine yT.aan (pc' := 22) g0 rfl rfl rfl ?_
        refine yT.cgk (pc' := 25) rfl rfl w107 ?_
        refine yT.iln (pc' := 26) g1 rfl rfl ?_
        refine yT.cla (pc' := 27) rfl rfl hT o109 rfl (by omega) (fun x114 => ?_)
        refine yT.p (pc' := 31) rfl rfl (fun _ _ _ _ => rfl) ?_
        exact yT.retL rfl rfl (qL hT trivial)
-- rX6_lowestBits
set_option maxRecDepth 100000 in
set_option maxHeartbeats 4000000 in
theorem c82 {ks : List cT} {σ : Nat → Nat → Int32} {ρ : Nat → xE} {h : List xE} (hT : HT ks σ ρ h) {q0 : Nat} (o0 : xnth ks q0 = some (16, 0)) (x1 : Int64) : yM 82 (0) 0 [.ref (q0 + 1), .long x1] h (CQ ks σ ρ (2, 0, 0) yT0) := by
  refine yM.st xM_82 rfl rfl (fun lv g => ?_)
  have g0 := g 0 _ rfl
  have g1 := g 1 _ rfl
  refine yT.aan (pc' := 1) g0 rfl rfl rfl ?_
  refine yT.cgI (pc' := 4) rfl rfl hT o0 rfl rfl (fun x102 w101 => ?_)
  by_cases c103 : x102.toInt = 0
  · refine yT.tswK 0 (t := 40) rfl rfl (by omega) rfl rfl ?_
    refine yT.lln (pc' := 41) g1 rfl rfl ?_
    refine yT.fi (pc' := 42) rfl rfl (fun _ _ _ _ => rfl) (fun x104 => ?_)
    refine yT.fi (pc' := 43) rfl rfl (fun _ _ _ _ => rfl) (fun x105 => ?_)
    refine yT.fl (pc' := 44) rfl rfl (fun _ _ _ _ => rfl) (fun x106 => ?_)
    exact yT.retL rfl rfl (qL hT trivial)
  · by_cases c107 : x102.toInt = 1
    · refine yT.tswK 1 (t := 45) rfl rfl (by omega) rfl rfl ?_
      refine yT.lln (pc' := 46) g1 rfl rfl ?_
      refine yT.fi (pc' := 47) rfl rfl (fun _ _ _ _ => rfl) (fun x108 => ?_)
      refine yT.fi (pc' := 48) rfl rfl (fun _ _ _ _ => rfl) (fun x109 => ?_)
      refine yT.fl (pc' := 49) rfl rfl (fun _ _ _ _ => rfl) (fun x110 => ?_)
      exact yT.retL rfl rfl (qL hT trivial)
    · by_cases c111 : x102.toInt = 2
      · refine yT.tswK 2 (t := 50) rfl rfl (by omega) rfl rfl ?_
        refine yT.lln (pc' := 51) g1 rfl rfl ?_
        refine yT.fi (pc' := 52) rfl rfl (fun _ _ _ _ => rfl) (fun x112 => ?_)
        refine yT.fl (pc' := 53) rfl rfl (fun _ _ _ _ => rfl) (fun x113 => ?_)
        exact yT.retL rfl rfl (qL hT trivial)
      · by_cases c114 : x102.toInt = 4
        · refine yT.tswK 4 (t := 54) rfl rfl (by omega) rfl rfl ?_
          refine yT.lln (pc' := 55) g1 rfl rfl ?_
          refine yT.fl (pc' := 56) rfl rfl (fun _ _ _ _ => rfl) (fun x115 => ?_)
          refine yT.fi (pc' := 57) rfl rfl (fun _ _ _ _ => rfl) (fun x116 => ?_)
          refine yT.if1 (t := 64) (pc' := 60) rfl rfl rfl (c1_eq rfl) (fun c117 => ?_) (fun c117 => ?_)
          · refine yT.fl (pc' := 65) rfl rfl (fun _ _ _ _ => rfl) (fun x118 => ?_)
            exact yT.retL rfl rfl (qL hT trivial)
          · refine yT.fl (pc' := 61) rfl rfl (fun _ _ _ _ => rfl) (fun x119 => ?_)
            refine yT.p (pc' := 65) rfl rfl (fun _ _ _ _ => rfl) ?_
            exact yT.retL rfl rfl (qL hT trivial)
        · refine yT.tswJ (t := 66) ?_ ?_
          · intro J122
            by_cases c123 : x102.toInt = 3
            · exact yT.tswK 3 (t := 66) rfl rfl (by omega) rfl rfl J122
            exact yT.tswD (t := 66) rfl rfl rfl (by omega) J122
          · refine yT.lln (pc' := 67) g1 rfl rfl ?_
            exact yT.retL rfl rfl (qL hT trivial)
-- rX6_putElement
set_option maxRecDepth 100000 in
set_option maxHeartbeats 4000000 in
theorem c81 {ks : List cT} {σ : Nat → Nat → Int32} {ρ : Nat → xE} {h : List xE} (hT : HT ks σ ρ h) {q0 : Nat} (o0 : xnth ks q0 = some (16, 0)) (x1 : Int32) (x2 : Int64) : yM 81 (1) 0 [.ref (q0 + 1), .int x1, .long x2] h (CQ ks σ ρ (9, 0, 0) yT0) := by
  refine yM.st xM_81 rfl rfl (fun lv g => ?_)
  have g0 := g 0 _ rfl
  have g1 := g 1 _ rfl
  have g2 := g 2 _ rfl
  refine yT.iln (pc' := 1) g1 rfl rfl ?_
  refine yT.if1 (t := 32) (pc' := 4) rfl rfl rfl (c1_lt rfl) (fun c101 => ?_) (fun c101 => ?_)
  · exact yT.retV rfl rfl (qV hT trivial)
  · refine yT.iln (pc' := 5) g1 rfl rfl ?_
    refine yT.aan (pc' := 6) g0 rfl rfl rfl ?_
    refine yT.cgI (pc' := 9) rfl rfl hT o0 rfl rfl (fun x103 w102 => ?_)
    refine yT.if2 (t := 32) (pc' := 12) rfl rfl rfl (c2_ge rfl rfl) (fun c104 => ?_) (fun c104 => ?_)
    · exact yT.retV rfl rfl (qV hT trivial)
    · refine yT.iln (pc' := 13) g1 rfl rfl ?_
      refine yT.aan (pc' := 14) g0 rfl rfl rfl ?_
      refine yT.cgR (pc' := 17) rfl rfl hT o0 rfl rfl (fun q106 w105 o107 => ?_)
      refine yT.cal (pc' := 18) rfl rfl hT o107 rfl (by omega) (fun x108 e109 => ?_)
      refine yT.if2 (t := 32) (pc' := 21) rfl rfl rfl (c2_ge rfl e109) (fun c110 => ?_) (fun c110 => ?_)
      · exact yT.retV rfl rfl (qV hT trivial)
      · refine yT.aan (pc' := 22) g0 rfl rfl rfl ?_
        refine yT.cgk (pc' := 25) rfl rfl w105 ?_
        refine yT.iln (pc' := 26) g1 rfl rfl ?_
        refine yT.aan (pc' := 27) g0 rfl rfl rfl ?_
        refine yT.lln (pc' := 28) g2 rfl rfl ?_
        refine kL (yT.cc (G2 := 0) (pc' := 31) rfl rfl rfl hT o0 xM_82 (c82 hT o0 x2) rfl (by decide) (by decide) rfl) (fun h111 x114 hT112 E113 => ?_)
        refine yT.cls (pc' := 32) rfl rfl hT112 o107 rfl (by omega) (fun h115 hT116 fv117 => ?_)
        exact yT.retV rfl rfl (qV hT116 trivial)
-- rX6_takeElements
set_option maxRecDepth 100000 in
set_option maxHeartbeats 4000000 in
theorem c83 {ks : List cT} {σ : Nat → Nat → Int32} {ρ : Nat → xE} {h : List xE} (hT : HT ks σ ρ h) {q0 : Nat} (o0 : xnth ks q0 = some (16, 0)) (x1 : Int32) {q2 : Nat} (o2 : xnth ks q2 = some (16, 0)) (x3 : Int32) (x4 : Int32) : yM 83 (2) 0 [.ref (q0 + 1), .int x1, .ref (q2 + 1), .int x3, .int x4] h (CQ ks σ ρ (9, 0, 0) yT0) := by
  refine yM.st xM_83 rfl rfl (fun lv g => ?_)
  have g0 := g 0 _ rfl
  have g1 := g 1 _ rfl
  have g2 := g 2 _ rfl
  have g3 := g 3 _ rfl
  have g4 := g 4 _ rfl
  refine yT.iln (pc' := 1) g1 rfl rfl ?_
  refine yT.iln (pc' := 2) g3 rfl rfl ?_
  refine yT.if2 (t := 40) (pc' := 5) rfl rfl rfl (c2_gt rfl rfl) (fun c101 => ?_) (fun c101 => ?_)
  · refine yT.il (pc' := 42) g4 rfl rfl ?_
    refine yT.kI (pc' := 43) rfl rfl (by decide) (fun x102 e103 => ?_)
    refine yT.fi (pc' := 44) rfl rfl (fun _ _ _ _ => rfl) (fun x104 => ?_)
    refine yT.p (pc' := 46) (lv' := xst1 _ 5 (.int x104)) rfl rfl (fun _ _ _ _ => rfl) ?_
    have L105 : ∀ (n115 : Nat) (lv106 : xLv) (h107 : List xE) (x109 : Int32), HT ks σ ρ h107 → xget lv106 0 = some (.ref (q0 + 1)) → xget lv106 1 = some (.int x1) → xget lv106 2 = some (.ref (q2 + 1)) → xget lv106 3 = some (.int x3) → xget lv106 5 = some (.int x109) → (x109.toInt + 2147483648).toNat < n115 → yT 0 [] rX6_takeElements (2) 0 46 lv106 [] h107 (CQ ks σ ρ (9, 0, 0) yT0) := by
      intro n115
      induction n115 with
      | zero => intro lv106 h107 x109 hT108 g110 g111 g112 g113 g114 m116; exact absurd m116 (Nat.not_lt_zero _)
      | succ n115 ih117 =>
        intro lv106 h107 x109 hT108 g110 g111 g112 g113 g114 m116
        refine yT.il (pc' := 48) g114 rfl rfl ?_
        refine yT.if1 (t := 73) (pc' := 51) rfl rfl rfl (c1_lt rfl) (fun c118 => ?_) (fun c118 => ?_)
        · exact yT.retV rfl rfl (qV hT108 trivial)
        · refine yT.aan (pc' := 52) g110 rfl rfl rfl ?_
          refine yT.iln (pc' := 53) g111 rfl rfl ?_
          refine yT.il (pc' := 55) g114 rfl rfl ?_
          refine yT.fi (pc' := 56) rfl rfl (fun _ _ _ _ => rfl) (fun x119 => ?_)
          refine yT.aan (pc' := 57) g112 rfl rfl rfl ?_
          refine yT.iln (pc' := 58) g113 rfl rfl ?_
          refine yT.il (pc' := 60) g114 rfl rfl ?_
          refine yT.fi (pc' := 61) rfl rfl (fun _ _ _ _ => rfl) (fun x120 => ?_)
          refine kL (yT.cc (G2 := 0) (pc' := 64) rfl rfl rfl hT108 o2 xM_80 (c80 hT108 o2 x120) rfl (by decide) (by decide) rfl) (fun h121 x124 hT122 E123 => ?_)
          refine kV (yT.cc (G2 := 0) (pc' := 67) rfl rfl rfl hT122 o0 xM_81 (c81 hT122 o0 x119 x124) rfl (by decide) (by decide) rfl) (fun h125 hT126 E127 => ?_)
          refine yT.inc (pc' := 70) g114 rfl rfl rfl rfl ⟨by decide, by have := i32_rng x109; omega⟩ (fun x128 e129 => ?_)
          refine yT.p (pc' := 46) rfl rfl (fun _ _ _ _ => rfl) ?_
          exact ih117 _ _ x128 hT126 (xg_ne g110 rfl) (xg_ne g111 rfl) (xg_ne g112 rfl) (xg_ne g113 rfl) xg_eq (by have := i32_rng x128; omega)
    exact L105 _ _ _ x104 hT (xg_ne g0 rfl) (xg_ne g1 rfl) (xg_ne g2 rfl) (xg_ne g3 rfl) xg_eq (Nat.lt_succ_self _)
  · refine yT.kI (pc' := 6) rfl rfl (by decide) (fun x130 e131 => ?_)
    refine yT.p (pc' := 8) (lv' := xst1 _ 5 (.int x130)) rfl rfl (fun _ _ _ _ => rfl) ?_
    have L132 : ∀ (n144 : Nat) (lv133 : xLv) (h134 : List xE) (x136 : Int32), HT ks σ ρ h134 → xget lv133 0 = some (.ref (q0 + 1)) → xget lv133 1 = some (.int x1) → xget lv133 2 = some (.ref (q2 + 1)) → xget lv133 3 = some (.int x3) → xget lv133 4 = some (.int x4) → xget lv133 5 = some (.int x136) → 0 ≤ x136.toInt → (2147483647 - x136.toInt).toNat < n144 → yT 0 [] rX6_takeElements (2) 0 8 lv133 [] h134 (CQ ks σ ρ (9, 0, 0) yT0) := by
      intro n144
      induction n144 with
      | zero => intro lv133 h134 x136 hT135 g137 g138 g139 g140 g141 g142 i143 m145; exact absurd m145 (Nat.not_lt_zero _)
      | succ n144 ih146 =>
        intro lv133 h134 x136 hT135 g137 g138 g139 g140 g141 g142 i143 m145
        refine yT.il (pc' := 10) g142 rfl rfl ?_
        refine yT.il (pc' := 12) g141 rfl rfl ?_
        refine yT.if2 (t := 37) (pc' := 15) rfl rfl rfl (c2_ge rfl rfl) (fun c147 => ?_) (fun c147 => ?_)
        · refine yT.p (pc' := 73) rfl rfl (fun _ _ _ _ => rfl) ?_
          exact yT.retV rfl rfl (qV hT135 trivial)
        · refine yT.aan (pc' := 16) g137 rfl rfl rfl ?_
          refine yT.iln (pc' := 17) g138 rfl rfl ?_
          refine yT.il (pc' := 19) g142 rfl rfl ?_
          refine yT.fi (pc' := 20) rfl rfl (fun _ _ _ _ => rfl) (fun x148 => ?_)
          refine yT.aan (pc' := 21) g139 rfl rfl rfl ?_
          refine yT.iln (pc' := 22) g140 rfl rfl ?_
          refine yT.il (pc' := 24) g142 rfl rfl ?_
          refine yT.fi (pc' := 25) rfl rfl (fun _ _ _ _ => rfl) (fun x149 => ?_)
          refine kL (yT.cc (G2 := 0) (pc' := 28) rfl rfl rfl hT135 o2 xM_80 (c80 hT135 o2 x149) rfl (by decide) (by decide) rfl) (fun h150 x153 hT151 E152 => ?_)
          refine kV (yT.cc (G2 := 0) (pc' := 31) rfl rfl rfl hT151 o0 xM_81 (c81 hT151 o0 x148 x153) rfl (by decide) (by decide) rfl) (fun h154 hT155 E156 => ?_)
          refine yT.inc (pc' := 34) g142 rfl rfl rfl rfl ⟨by decide, by have := i32_rng x136; have := i32_rng x4; omega⟩ (fun x157 e158 => ?_)
          refine yT.p (pc' := 8) rfl rfl (fun _ _ _ _ => rfl) ?_
          exact ih146 _ _ x157 hT155 (xg_ne g137 rfl) (xg_ne g138 rfl) (xg_ne g139 rfl) (xg_ne g140 rfl) (xg_ne g141 rfl) xg_eq (by omega) (by have := i32_rng x157; omega)
    exact L132 _ _ _ x130 hT (xg_ne g0 rfl) (xg_ne g1 rfl) (xg_ne g2 rfl) (xg_ne g3 rfl) (xg_ne g4 rfl) xg_eq (by omega) (Nat.lt_succ_self _)
-- rX7_isFull
set_option maxRecDepth 100000 in
set_option maxHeartbeats 4000000 in
theorem c86 {ks : List cT} {σ : Nat → Nat → Int32} {ρ : Nat → xE} {h : List xE} (hT : HT ks σ ρ h) {q0 : Nat} (o0 : xnth ks q0 = some (17, 0)) : yM 86 (0) 0 [.ref (q0 + 1)] h (CQ ks σ ρ (1, 0, 0) yT0) := by
  refine yM.st xM_86 rfl rfl (fun lv g => ?_)
  have g0 := g 0 _ rfl
  refine yT.aan (pc' := 1) g0 rfl rfl rfl ?_
  refine yT.cgI (pc' := 4) rfl rfl hT o0 rfl rfl (fun x102 w101 => ?_)
  refine yT.aan (pc' := 5) g0 rfl rfl rfl ?_
  refine yT.cgR (pc' := 8) rfl rfl hT o0 rfl rfl (fun q104 w103 o105 => ?_)
  refine yT.cal (pc' := 9) rfl rfl hT o105 rfl (by omega) (fun x106 e107 => ?_)
  refine yT.if2 (t := 16) (pc' := 12) rfl rfl rfl (c2_lt rfl e107) (fun c108 => ?_) (fun c108 => ?_)
  · refine yT.kI (pc' := 17) rfl rfl (by decide) (fun x109 e110 => ?_)
    exact yT.retZ rfl rfl (b01 (by omega) (by omega)) (qZ hT trivial (b01 (by omega) (by omega)))
  · refine yT.kI (pc' := 13) rfl rfl (by decide) (fun x111 e112 => ?_)
    refine yT.p (pc' := 17) rfl rfl (fun _ _ _ _ => rfl) ?_
    exact yT.retZ rfl rfl (b01 (by omega) (by omega)) (qZ hT trivial (b01 (by omega) (by omega)))
-- rX7_mayOwn
set_option maxRecDepth 100000 in
set_option maxHeartbeats 4000000 in
theorem c88 {ks : List cT} {σ : Nat → Nat → Int32} {ρ : Nat → xE} {h : List xE} (hT : HT ks σ ρ h) {q0 : Nat} (o0 : xnth ks q0 = some (17, 0)) (x1 : Int32) : yM 88 (1) 0 [.ref (q0 + 1), .int x1] h (CQ ks σ ρ (1, 0, 0) yT0) := by
  refine yM.st xM_88 rfl rfl (fun lv g => ?_)
  have g0 := g 0 _ rfl
  have g1 := g 1 _ rfl
  refine yT.aan (pc' := 1) g0 rfl rfl rfl ?_
  refine yT.iln (pc' := 2) g1 rfl rfl ?_
  refine kN (yT.cc (G2 := 0) (pc' := 5) rfl rfl rfl hT o0 xM_87 (c87 hT o0 x1) rfl (by decide) (by decide) rfl) (fun h101 hT102 E103 => ?_) (fun h101 q104 hT102 E103 o105 => ?_)
  · refine yT.p (pc' := 6) (lv' := xst1 _ 2 (.null)) rfl rfl (fun _ _ _ _ => rfl) ?_
    refine yT.iln (pc' := 7) (xg_ne g1 rfl) rfl rfl ?_
    refine yT.kI (pc' := 8) rfl rfl (by decide) (fun x106 e107 => ?_)
    refine yT.if2 (t := 38) (pc' := 11) rfl rfl rfl (c2_eq rfl e107) (fun c108 => ?_) (fun c108 => ?_)
    · refine yT.kI (pc' := 39) rfl rfl (by decide) (fun x109 e110 => ?_)
      refine yT.p (pc' := 43) rfl rfl (fun _ _ _ _ => rfl) ?_
      exact yT.retZ rfl rfl (b01 (by omega) (by omega)) (qZ hT102 trivial (b01 (by omega) (by omega)))
    · refine yT.aan (pc' := 12) xg_eq rfl rfl rfl ?_
      refine yT.p (pc' := 42) rfl rfl (fun _ _ _ _ => rfl) ?_
      refine yT.kI (pc' := 43) rfl rfl (by decide) (fun x111 e112 => ?_)
      exact yT.retZ rfl rfl (b01 (by omega) (by omega)) (qZ hT102 trivial (b01 (by omega) (by omega)))
  · have i113 : 0 ≤ x1.toInt ∧ x1.toInt < 24 := (show _ ∨ _ from E103).elim (fun e => by cases e) id
    refine yT.p (pc' := 6) (lv' := xst1 _ 2 (.ref (q104 + 1))) rfl rfl (fun _ _ _ _ => rfl) ?_
    refine yT.iln (pc' := 7) (xg_ne g1 rfl) rfl rfl ?_
    refine yT.kI (pc' := 8) rfl rfl (by decide) (fun x114 e115 => ?_)
    refine yT.if2 (t := 38) (pc' := 11) rfl rfl rfl (c2_eq rfl e115) (fun c116 => by omega) (fun c116 => ?_)
    refine yT.aan (pc' := 12) xg_eq rfl rfl rfl ?_
    refine yT.p (pc' := 15) rfl rfl (fun _ _ _ _ => rfl) ?_
    refine yT.aan (pc' := 16) xg_eq rfl rfl rfl ?_
    refine yT.cgZ (pc' := 19) rfl rfl hT102 o105 rfl rfl (fun x118 w117 b119 => ?_)
    have i120 := b01i b119
    refine yT.if1 (t := 42) (pc' := 22) rfl rfl rfl (c1_ne rfl) (fun c121 => ?_) (fun c121 => ?_)
    · refine yT.kI (pc' := 43) rfl rfl (by decide) (fun x122 e123 => ?_)
      exact yT.retZ rfl rfl (b01 (by omega) (by omega)) (qZ hT102 trivial (b01 (by omega) (by omega)))
    · refine yT.aan (pc' := 23) xg_eq rfl rfl rfl ?_
      refine yT.cgI (pc' := 26) rfl rfl hT102 o105 rfl rfl (fun x125 w124 => ?_)
      refine yT.kI (pc' := 27) rfl rfl (by decide) (fun x126 e127 => ?_)
      refine yT.if2 (t := 38) (pc' := 30) rfl rfl rfl (c2_eq rfl e127) (fun c128 => ?_) (fun c128 => ?_)
      · refine yT.kI (pc' := 39) rfl rfl (by decide) (fun x129 e130 => ?_)
        refine yT.p (pc' := 43) rfl rfl (fun _ _ _ _ => rfl) ?_
        exact yT.retZ rfl rfl (b01 (by omega) (by omega)) (qZ hT102 trivial (b01 (by omega) (by omega)))
      · refine yT.aan (pc' := 31) xg_eq rfl rfl rfl ?_
        refine yT.cgk (pc' := 34) rfl rfl w124 ?_
        refine yT.kI (pc' := 35) rfl rfl (by decide) (fun x131 e132 => ?_)
        refine yT.if2 (t := 42) (pc' := 38) rfl rfl rfl (c2_ne rfl e132) (fun c133 => ?_) (fun c133 => ?_)
        · refine yT.kI (pc' := 43) rfl rfl (by decide) (fun x134 e135 => ?_)
          exact yT.retZ rfl rfl (b01 (by omega) (by omega)) (qZ hT102 trivial (b01 (by omega) (by omega)))
        · refine yT.kI (pc' := 39) rfl rfl (by decide) (fun x136 e137 => ?_)
          refine yT.p (pc' := 43) rfl rfl (fun _ _ _ _ => rfl) ?_
          exact yT.retZ rfl rfl (b01 (by omega) (by omega)) (qZ hT102 trivial (b01 (by omega) (by omega)))
-- rX7_reachedFrom
set_option maxRecDepth 100000 in
set_option maxHeartbeats 4000000 in
theorem c97 {ks : List cT} {σ : Nat → Nat → Int32} {ρ : Nat → xE} {h : List xE} (hT : HT ks σ ρ h) {q0 : Nat} (o0 : xnth ks q0 = some (17, 0)) (x1 : Int32) : yM 97 (0) 0 [.ref (q0 + 1), .int x1] h (CQ ks σ ρ (0, 0, 0) yT0) := by
  refine yM.st xM_97 rfl rfl (fun lv g => ?_)
  have g0 := g 0 _ rfl
  have g1 := g 1 _ rfl
  refine yT.kI (pc' := 1) rfl rfl (by decide) (fun x101 e102 => ?_)
  refine yT.p (pc' := 2) (lv' := xst1 _ 2 (.int x101)) rfl rfl (fun _ _ _ _ => rfl) ?_
  refine yT.kI (pc' := 3) rfl rfl (by decide) (fun x103 e104 => ?_)
  refine yT.iln (pc' := 4) (xg_ne g1 rfl) rfl rfl ?_
  refine yT.fi (pc' := 5) rfl rfl (fun _ _ _ _ => rfl) (fun x105 => ?_)
  refine yT.p (pc' := 6) (lv' := xst1 _ 3 (.int x105)) rfl rfl (fun _ _ _ _ => rfl) ?_
  refine yT.kI (pc' := 7) rfl rfl (by decide) (fun x106 e107 => ?_)
  refine yT.p (pc' := 9) (lv' := xst1 _ 4 (.int x106)) rfl rfl (fun _ _ _ _ => rfl) ?_
  have L108 : ∀ (n118 : Nat) (lv109 : xLv) (x110 : Int32) (x111 : Int32) (x112 : Int32), xget lv109 0 = some (.ref (q0 + 1)) → xget lv109 2 = some (.int x110) → xget lv109 3 = some (.int x111) → xget lv109 4 = some (.int x112) → 0 ≤ x112.toInt → (2147483647 - x112.toInt).toNat < n118 → yT 0 [] rX7_reachedFrom (0) 0 9 lv109 [] h (CQ ks σ ρ (0, 0, 0) yT0) := by
    intro n118
    induction n118 with
    | zero => intro lv109 x110 x111 x112 g113 g114 g115 g116 i117 m119; exact absurd m119 (Nat.not_lt_zero _)
    | succ n118 ih120 =>
      intro lv109 x110 x111 x112 g113 g114 g115 g116 i117 m119
      refine yT.il (pc' := 11) g116 rfl rfl ?_
      refine yT.kb (pc' := 13) rfl rfl (by decide) (fun x121 e122 => ?_)
      refine yT.if2 (t := 81) (pc' := 16) rfl rfl rfl (c2_gt rfl e122) (fun c123 => ?_) (fun c123 => ?_)
      · refine yT.iln (pc' := 82) g114 rfl rfl ?_
        exact yT.retI rfl rfl (qI hT trivial)
      · refine yT.iln (pc' := 17) g115 rfl rfl ?_
        refine yT.if1 (t := 81) (pc' := 20) rfl rfl rfl (c1_eq rfl) (fun c124 => ?_) (fun c124 => ?_)
        · refine yT.iln (pc' := 82) g114 rfl rfl ?_
          exact yT.retI rfl rfl (qI hT trivial)
        · refine yT.kI (pc' := 21) rfl rfl (by decide) (fun x125 e126 => ?_)
          refine yT.p (pc' := 23) (lv' := xst1 _ 5 (.int x125)) rfl rfl (fun _ _ _ _ => rfl) ?_
          refine yT.kI (pc' := 24) rfl rfl (by decide) (fun x127 e128 => ?_)
          refine yT.p (pc' := 26) (lv' := xst1 _ 6 (.int x127)) rfl rfl (fun _ _ _ _ => rfl) ?_
          have L129 : ∀ (n140 : Nat) (lv130 : xLv) (x131 : Int32) (x132 : Int32), xget lv130 0 = some (.ref (q0 + 1)) → xget lv130 2 = some (.int x110) → xget lv130 3 = some (.int x111) → xget lv130 4 = some (.int x112) → xget lv130 5 = some (.int x131) → xget lv130 6 = some (.int x132) → 0 ≤ x132.toInt → (2147483647 - x132.toInt).toNat < n140 → yT 0 [] rX7_reachedFrom (0) 0 26 lv130 [] h (CQ ks σ ρ (0, 0, 0) yT0) := by
            intro n140
            induction n140 with
            | zero => intro lv130 x131 x132 g133 g134 g135 g136 g137 g138 i139 m141; exact absurd m141 (Nat.not_lt_zero _)
            | succ n140 ih142 =>
              intro lv130 x131 x132 g133 g134 g135 g136 g137 g138 i139 m141
              refine yT.il (pc' := 28) g138 rfl rfl ?_
              refine yT.aan (pc' := 29) g133 rfl rfl rfl ?_
              refine yT.cgR (pc' := 32) rfl rfl hT o0 rfl rfl (fun q144 w143 o145 => ?_)
              refine yT.cal (pc' := 33) rfl rfl hT o145 rfl (by omega) (fun x146 e147 => ?_)
              refine yT.if2 (t := 63) (pc' := 36) rfl rfl rfl (c2_ge rfl e147) (fun c148 => ?_) (fun c148 => ?_)
              · refine yT.il (pc' := 65) g137 rfl rfl ?_
                refine yT.iln (pc' := 66) g134 rfl rfl ?_
                refine yT.kI (pc' := 67) rfl rfl (by decide) (fun x149 e150 => ?_)
                refine yT.fi (pc' := 68) rfl rfl (fun _ _ _ _ => rfl) (fun x151 => ?_)
                refine yT.fi (pc' := 69) rfl rfl (fun _ _ _ _ => rfl) (fun x152 => ?_)
                refine yT.p (pc' := 70) (lv' := xst1 _ 3 (.int x152)) rfl rfl (fun _ _ _ _ => rfl) ?_
                refine yT.iln (pc' := 71) (xg_ne g134 rfl) rfl rfl ?_
                refine yT.il (pc' := 73) (xg_ne g137 rfl) rfl rfl ?_
                refine yT.fi (pc' := 74) rfl rfl (fun _ _ _ _ => rfl) (fun x153 => ?_)
                refine yT.p (pc' := 75) (lv' := xst1 _ 2 (.int x153)) rfl rfl (fun _ _ _ _ => rfl) ?_
                refine yT.inc (pc' := 78) (xg_ne (xg_ne g136 rfl) rfl) rfl rfl rfl rfl ⟨by decide, by have := i32_rng x112; omega⟩ (fun x154 e155 => ?_)
                refine yT.p (pc' := 9) rfl rfl (fun _ _ _ _ => rfl) ?_
                exact ih120 _ x153 x152 x154 (xg_ne (xg_ne (xg_ne g133 rfl) rfl) rfl) (xg_ne xg_eq rfl) (xg_ne (xg_ne xg_eq rfl) rfl) xg_eq (by omega) (by have := i32_rng x154; omega)
              · refine yT.aan (pc' := 37) g133 rfl rfl rfl ?_
                refine yT.cgk (pc' := 40) rfl rfl w143 ?_
                refine yT.il (pc' := 42) g138 rfl rfl ?_
                refine yT.cia (pc' := 43) rfl rfl hT o145 rfl (by omega) (fun x156 => ?_)
                refine yT.iln (pc' := 44) g135 rfl rfl ?_
                refine yT.fi (pc' := 45) rfl rfl (fun _ _ _ _ => rfl) (fun x157 => ?_)
                refine yT.if1 (t := 57) (pc' := 48) rfl rfl rfl (c1_eq rfl) (fun c158 => ?_) (fun c158 => ?_)
                · refine yT.inc (pc' := 60) g138 rfl rfl rfl rfl ⟨by decide, by have := i32_rng x132; omega⟩ (fun x159 e160 => ?_)
                  refine yT.p (pc' := 26) rfl rfl (fun _ _ _ _ => rfl) ?_
                  exact ih142 _ x131 x159 (xg_ne g133 rfl) (xg_ne g134 rfl) (xg_ne g135 rfl) (xg_ne g136 rfl) (xg_ne g137 rfl) xg_eq (by omega) (by have := i32_rng x159; omega)
                · refine yT.il (pc' := 50) g137 rfl rfl ?_
                  refine yT.kI (pc' := 51) rfl rfl (by decide) (fun x161 e162 => ?_)
                  refine yT.il (pc' := 53) g138 rfl rfl ?_
                  refine yT.fi (pc' := 54) rfl rfl (fun _ _ _ _ => rfl) (fun x163 => ?_)
                  refine yT.fi (pc' := 55) rfl rfl (fun _ _ _ _ => rfl) (fun x164 => ?_)
                  refine yT.p (pc' := 57) (lv' := xst1 _ 5 (.int x164)) rfl rfl (fun _ _ _ _ => rfl) ?_
                  refine yT.inc (pc' := 60) (xg_ne g138 rfl) rfl rfl rfl rfl ⟨by decide, by have := i32_rng x132; omega⟩ (fun x165 e166 => ?_)
                  refine yT.p (pc' := 26) rfl rfl (fun _ _ _ _ => rfl) ?_
                  exact ih142 _ x164 x165 (xg_ne (xg_ne g133 rfl) rfl) (xg_ne (xg_ne g134 rfl) rfl) (xg_ne (xg_ne g135 rfl) rfl) (xg_ne (xg_ne g136 rfl) rfl) (xg_ne xg_eq rfl) xg_eq (by omega) (by have := i32_rng x165; omega)
          exact L129 _ _ x125 x127 (xg_ne (xg_ne g113 rfl) rfl) (xg_ne (xg_ne g114 rfl) rfl) (xg_ne (xg_ne g115 rfl) rfl) (xg_ne (xg_ne g116 rfl) rfl) (xg_ne xg_eq rfl) xg_eq (by omega) (Nat.lt_succ_self _)
  exact L108 _ _ x101 x105 x106 (xg_ne (xg_ne (xg_ne g0 rfl) rfl) rfl) (xg_ne (xg_ne xg_eq rfl) rfl) (xg_ne xg_eq rfl) xg_eq (by omega) (Nat.lt_succ_self _)
-- rX7_goneCount
set_option maxRecDepth 100000 in
set_option maxHeartbeats 4000000 in
theorem c98 {ks : List cT} {σ : Nat → Nat → Int32} {ρ : Nat → xE} {h : List xE} (hT : HT ks σ ρ h) {q0 : Nat} (o0 : xnth ks q0 = some (17, 0)) : yM 98 (0) 0 [.ref (q0 + 1)] h (CQ ks σ ρ (0, 0, 0) yT0) := by
  refine yM.st xM_98 rfl rfl (fun lv g => ?_)
  have g0 := g 0 _ rfl
  refine yT.kI (pc' := 1) rfl rfl (by decide) (fun x101 e102 => ?_)
  refine yT.p (pc' := 2) (lv' := xst1 _ 1 (.int x101)) rfl rfl (fun _ _ _ _ => rfl) ?_
  refine yT.kI (pc' := 3) rfl rfl (by decide) (fun x103 e104 => ?_)
  refine yT.p (pc' := 4) (lv' := xst1 _ 2 (.int x103)) rfl rfl (fun _ _ _ _ => rfl) ?_
  have L105 : ∀ (n113 : Nat) (lv106 : xLv) (x107 : Int32) (x108 : Int32), xget lv106 0 = some (.ref (q0 + 1)) → xget lv106 1 = some (.int x107) → xget lv106 2 = some (.int x108) → 0 ≤ x108.toInt → (2147483647 - x108.toInt).toNat < n113 → yT 0 [] rX7_goneCount (0) 0 4 lv106 [] h (CQ ks σ ρ (0, 0, 0) yT0) := by
    intro n113
    induction n113 with
    | zero => intro lv106 x107 x108 g109 g110 g111 i112 m114; exact absurd m114 (Nat.not_lt_zero _)
    | succ n113 ih115 =>
      intro lv106 x107 x108 g109 g110 g111 i112 m114
      refine yT.iln (pc' := 5) g111 rfl rfl ?_
      refine yT.aan (pc' := 6) g109 rfl rfl rfl ?_
      refine yT.cgI (pc' := 9) rfl rfl hT o0 rfl rfl (fun x117 w116 => ?_)
      refine yT.if2 (t := 48) (pc' := 12) rfl rfl rfl (c2_ge rfl rfl) (fun c118 => ?_) (fun c118 => ?_)
      · refine yT.iln (pc' := 49) g110 rfl rfl ?_
        exact yT.retI rfl rfl (qI hT trivial)
      · refine yT.iln (pc' := 13) g111 rfl rfl ?_
        refine yT.aan (pc' := 14) g109 rfl rfl rfl ?_
        refine yT.cgR (pc' := 17) rfl rfl hT o0 rfl rfl (fun q120 w119 o121 => ?_)
        refine yT.cal (pc' := 18) rfl rfl hT o121 rfl (by omega) (fun x122 e123 => ?_)
        refine yT.if2 (t := 48) (pc' := 21) rfl rfl rfl (c2_ge rfl e123) (fun c124 => ?_) (fun c124 => ?_)
        · refine yT.iln (pc' := 49) g110 rfl rfl ?_
          exact yT.retI rfl rfl (qI hT trivial)
        · refine yT.aan (pc' := 22) g109 rfl rfl rfl ?_
          refine yT.cgk (pc' := 25) rfl rfl w119 ?_
          refine yT.iln (pc' := 26) g111 rfl rfl ?_
          refine yT.cca (pc' := 27) rfl rfl hT o121 rfl (by omega) ?_ (fun q125 o126 => ?_)
          · refine yT.p (pc' := 28) (lv' := xst1 _ 3 (.null)) rfl rfl (fun _ _ _ _ => rfl) ?_
            refine yT.aan (pc' := 29) xg_eq rfl rfl rfl ?_
            refine yT.p (pc' := 42) rfl rfl (fun _ _ _ _ => rfl) ?_
            refine yT.inc (pc' := 45) (xg_ne g111 rfl) rfl rfl rfl rfl ⟨by decide, by have := i32_rng x108; have := i32_rng x117; omega⟩ (fun x127 e128 => ?_)
            refine yT.p (pc' := 4) rfl rfl (fun _ _ _ _ => rfl) ?_
            exact ih115 _ x107 x127 (xg_ne (xg_ne g109 rfl) rfl) (xg_ne (xg_ne g110 rfl) rfl) xg_eq (by omega) (by have := i32_rng x127; omega)
          · refine yT.p (pc' := 28) (lv' := xst1 _ 3 (.ref (q125 + 1))) rfl rfl (fun _ _ _ _ => rfl) ?_
            refine yT.aan (pc' := 29) xg_eq rfl rfl rfl ?_
            refine yT.p (pc' := 32) rfl rfl (fun _ _ _ _ => rfl) ?_
            refine yT.aan (pc' := 33) xg_eq rfl rfl rfl ?_
            refine yT.cgZ (pc' := 36) rfl rfl hT o126 rfl rfl (fun x130 w129 b131 => ?_)
            have i132 := b01i b131
            refine yT.if1 (t := 42) (pc' := 39) rfl rfl rfl (c1_eq rfl) (fun c133 => ?_) (fun c133 => ?_)
            · refine yT.inc (pc' := 45) (xg_ne g111 rfl) rfl rfl rfl rfl ⟨by decide, by have := i32_rng x108; have := i32_rng x117; omega⟩ (fun x134 e135 => ?_)
              refine yT.p (pc' := 4) rfl rfl (fun _ _ _ _ => rfl) ?_
              exact ih115 _ x107 x134 (xg_ne (xg_ne g109 rfl) rfl) (xg_ne (xg_ne g110 rfl) rfl) xg_eq (by omega) (by have := i32_rng x134; omega)
            · refine yT.incF (pc' := 42) (xg_ne g110 rfl) rfl rfl rfl (fun x136 => ?_)
              refine yT.inc (pc' := 45) (xg_ne (xg_ne g111 rfl) rfl) rfl rfl rfl rfl ⟨by decide, by have := i32_rng x108; have := i32_rng x117; omega⟩ (fun x137 e138 => ?_)
              refine yT.p (pc' := 4) rfl rfl (fun _ _ _ _ => rfl) ?_
              exact ih115 _ x136 x137 (xg_ne (xg_ne (xg_ne g109 rfl) rfl) rfl) (xg_ne xg_eq rfl) xg_eq (by omega) (by have := i32_rng x137; omega)
  exact L105 _ _ x101 x103 (xg_ne (xg_ne g0 rfl) rfl) (xg_ne xg_eq rfl) xg_eq (by omega) (Nat.lt_succ_self _)
-- rX7_colouredCount
set_option maxRecDepth 100000 in
set_option maxHeartbeats 4000000 in
theorem c99 {ks : List cT} {σ : Nat → Nat → Int32} {ρ : Nat → xE} {h : List xE} (hT : HT ks σ ρ h) {q0 : Nat} (o0 : xnth ks q0 = some (17, 0)) (x1 : Int32) : yM 99 (0) 0 [.ref (q0 + 1), .int x1] h (CQ ks σ ρ (0, 0, 0) yT0) := by
  refine yM.st xM_99 rfl rfl (fun lv g => ?_)
  have g0 := g 0 _ rfl
  have g1 := g 1 _ rfl
  refine yT.kI (pc' := 1) rfl rfl (by decide) (fun x101 e102 => ?_)
  refine yT.p (pc' := 2) (lv' := xst1 _ 2 (.int x101)) rfl rfl (fun _ _ _ _ => rfl) ?_
  refine yT.kI (pc' := 3) rfl rfl (by decide) (fun x103 e104 => ?_)
  refine yT.p (pc' := 4) (lv' := xst1 _ 3 (.int x103)) rfl rfl (fun _ _ _ _ => rfl) ?_
  have L105 : ∀ (n114 : Nat) (lv106 : xLv) (x107 : Int32) (x108 : Int32), xget lv106 0 = some (.ref (q0 + 1)) → xget lv106 1 = some (.int x1) → xget lv106 2 = some (.int x107) → xget lv106 3 = some (.int x108) → 0 ≤ x108.toInt → (2147483647 - x108.toInt).toNat < n114 → yT 0 [] rX7_colouredCount (0) 0 4 lv106 [] h (CQ ks σ ρ (0, 0, 0) yT0) := by
    intro n114
    induction n114 with
    | zero => intro lv106 x107 x108 g109 g110 g111 g112 i113 m115; exact absurd m115 (Nat.not_lt_zero _)
    | succ n114 ih116 =>
      intro lv106 x107 x108 g109 g110 g111 g112 i113 m115
      refine yT.iln (pc' := 5) g112 rfl rfl ?_
      refine yT.aan (pc' := 6) g109 rfl rfl rfl ?_
      refine yT.cgI (pc' := 9) rfl rfl hT o0 rfl rfl (fun x118 w117 => ?_)
      refine yT.if2 (t := 60) (pc' := 12) rfl rfl rfl (c2_ge rfl rfl) (fun c119 => ?_) (fun c119 => ?_)
      · refine yT.iln (pc' := 61) g111 rfl rfl ?_
        exact yT.retI rfl rfl (qI hT trivial)
      · refine yT.iln (pc' := 13) g112 rfl rfl ?_
        refine yT.aan (pc' := 14) g109 rfl rfl rfl ?_
        refine yT.cgR (pc' := 17) rfl rfl hT o0 rfl rfl (fun q121 w120 o122 => ?_)
        refine yT.cal (pc' := 18) rfl rfl hT o122 rfl (by omega) (fun x123 e124 => ?_)
        refine yT.if2 (t := 60) (pc' := 21) rfl rfl rfl (c2_ge rfl e124) (fun c125 => ?_) (fun c125 => ?_)
        · refine yT.iln (pc' := 61) g111 rfl rfl ?_
          exact yT.retI rfl rfl (qI hT trivial)
        · refine yT.aan (pc' := 22) g109 rfl rfl rfl ?_
          refine yT.cgk (pc' := 25) rfl rfl w120 ?_
          refine yT.iln (pc' := 26) g112 rfl rfl ?_
          refine yT.cca (pc' := 27) rfl rfl hT o122 rfl (by omega) ?_ (fun q126 o127 => ?_)
          · refine yT.p (pc' := 29) (lv' := xst1 _ 4 (.null)) rfl rfl (fun _ _ _ _ => rfl) ?_
            refine yT.aa_ (pc' := 31) xg_eq rfl rfl rfl ?_
            refine yT.p (pc' := 54) rfl rfl (fun _ _ _ _ => rfl) ?_
            refine yT.inc (pc' := 57) (xg_ne g112 rfl) rfl rfl rfl rfl ⟨by decide, by have := i32_rng x108; have := i32_rng x118; omega⟩ (fun x128 e129 => ?_)
            refine yT.p (pc' := 4) rfl rfl (fun _ _ _ _ => rfl) ?_
            exact ih116 _ x107 x128 (xg_ne (xg_ne g109 rfl) rfl) (xg_ne (xg_ne g110 rfl) rfl) (xg_ne (xg_ne g111 rfl) rfl) xg_eq (by omega) (by have := i32_rng x128; omega)
          · refine yT.p (pc' := 29) (lv' := xst1 _ 4 (.ref (q126 + 1))) rfl rfl (fun _ _ _ _ => rfl) ?_
            refine yT.aa_ (pc' := 31) xg_eq rfl rfl rfl ?_
            refine yT.p (pc' := 34) rfl rfl (fun _ _ _ _ => rfl) ?_
            refine yT.aa_ (pc' := 36) xg_eq rfl rfl rfl ?_
            refine yT.cgZ (pc' := 39) rfl rfl hT o127 rfl rfl (fun x131 w130 b132 => ?_)
            have i133 := b01i b132
            refine yT.if1 (t := 54) (pc' := 42) rfl rfl rfl (c1_ne rfl) (fun c134 => ?_) (fun c134 => ?_)
            · refine yT.inc (pc' := 57) (xg_ne g112 rfl) rfl rfl rfl rfl ⟨by decide, by have := i32_rng x108; have := i32_rng x118; omega⟩ (fun x135 e136 => ?_)
              refine yT.p (pc' := 4) rfl rfl (fun _ _ _ _ => rfl) ?_
              exact ih116 _ x107 x135 (xg_ne (xg_ne g109 rfl) rfl) (xg_ne (xg_ne g110 rfl) rfl) (xg_ne (xg_ne g111 rfl) rfl) xg_eq (by omega) (by have := i32_rng x135; omega)
            · refine yT.aa_ (pc' := 44) xg_eq rfl rfl rfl ?_
              refine yT.cgI (pc' := 47) rfl rfl hT o127 rfl rfl (fun x138 w137 => ?_)
              refine yT.iln (pc' := 48) (xg_ne g110 rfl) rfl rfl ?_
              refine yT.if2 (t := 54) (pc' := 51) rfl rfl rfl (c2_ne rfl rfl) (fun c139 => ?_) (fun c139 => ?_)
              · refine yT.inc (pc' := 57) (xg_ne g112 rfl) rfl rfl rfl rfl ⟨by decide, by have := i32_rng x108; have := i32_rng x118; omega⟩ (fun x140 e141 => ?_)
                refine yT.p (pc' := 4) rfl rfl (fun _ _ _ _ => rfl) ?_
                exact ih116 _ x107 x140 (xg_ne (xg_ne g109 rfl) rfl) (xg_ne (xg_ne g110 rfl) rfl) (xg_ne (xg_ne g111 rfl) rfl) xg_eq (by omega) (by have := i32_rng x140; omega)
              · refine yT.incF (pc' := 54) (xg_ne g111 rfl) rfl rfl rfl (fun x142 => ?_)
                refine yT.inc (pc' := 57) (xg_ne (xg_ne g112 rfl) rfl) rfl rfl rfl rfl ⟨by decide, by have := i32_rng x108; have := i32_rng x118; omega⟩ (fun x143 e144 => ?_)
                refine yT.p (pc' := 4) rfl rfl (fun _ _ _ _ => rfl) ?_
                exact ih116 _ x142 x143 (xg_ne (xg_ne (xg_ne g109 rfl) rfl) rfl) (xg_ne (xg_ne (xg_ne g110 rfl) rfl) rfl) (xg_ne xg_eq rfl) xg_eq (by omega) (by have := i32_rng x143; omega)
  exact L105 _ _ x101 x103 (xg_ne (xg_ne g0 rfl) rfl) (xg_ne (xg_ne g1 rfl) rfl) (xg_ne xg_eq rfl) xg_eq (by omega) (Nat.lt_succ_self _)
-- rX7_allRuns
set_option maxRecDepth 100000 in
set_option maxHeartbeats 4000000 in
theorem c100 {ks : List cT} {σ : Nat → Nat → Int32} {ρ : Nat → xE} {h : List xE} (hT : HT ks σ ρ h) {q0 : Nat} (o0 : xnth ks q0 = some (17, 0)) : yM 100 (0) 0 [.ref (q0 + 1)] h (CQ ks σ ρ (0, 0, 0) yT0) := by
  refine yM.st xM_100 rfl rfl (fun lv g => ?_)
  have g0 := g 0 _ rfl
  refine yT.kI (pc' := 1) rfl rfl (by decide) (fun x101 e102 => ?_)
  refine yT.p (pc' := 2) (lv' := xst1 _ 1 (.int x101)) rfl rfl (fun _ _ _ _ => rfl) ?_
  refine yT.kI (pc' := 3) rfl rfl (by decide) (fun x103 e104 => ?_)
  refine yT.p (pc' := 4) (lv' := xst1 _ 2 (.int x103)) rfl rfl (fun _ _ _ _ => rfl) ?_
  have L105 : ∀ (n113 : Nat) (lv106 : xLv) (x107 : Int32) (x108 : Int32), xget lv106 0 = some (.ref (q0 + 1)) → xget lv106 1 = some (.int x107) → xget lv106 2 = some (.int x108) → 0 ≤ x108.toInt → (2147483647 - x108.toInt).toNat < n113 → yT 0 [] rX7_allRuns (0) 0 4 lv106 [] h (CQ ks σ ρ (0, 0, 0) yT0) := by
    intro n113
    induction n113 with
    | zero => intro lv106 x107 x108 g109 g110 g111 i112 m114; exact absurd m114 (Nat.not_lt_zero _)
    | succ n113 ih115 =>
      intro lv106 x107 x108 g109 g110 g111 i112 m114
      refine yT.iln (pc' := 5) g111 rfl rfl ?_
      refine yT.aan (pc' := 6) g109 rfl rfl rfl ?_
      refine yT.cgI (pc' := 9) rfl rfl hT o0 rfl rfl (fun x117 w116 => ?_)
      refine yT.if2 (t := 45) (pc' := 12) rfl rfl rfl (c2_ge rfl rfl) (fun c118 => ?_) (fun c118 => ?_)
      · refine yT.iln (pc' := 46) g110 rfl rfl ?_
        exact yT.retI rfl rfl (qI hT trivial)
      · refine yT.iln (pc' := 13) g111 rfl rfl ?_
        refine yT.aan (pc' := 14) g109 rfl rfl rfl ?_
        refine yT.cgR (pc' := 17) rfl rfl hT o0 rfl rfl (fun q120 w119 o121 => ?_)
        refine yT.cal (pc' := 18) rfl rfl hT o121 rfl (by omega) (fun x122 e123 => ?_)
        refine yT.if2 (t := 45) (pc' := 21) rfl rfl rfl (c2_ge rfl e123) (fun c124 => ?_) (fun c124 => ?_)
        · refine yT.iln (pc' := 46) g110 rfl rfl ?_
          exact yT.retI rfl rfl (qI hT trivial)
        · refine yT.aan (pc' := 22) g109 rfl rfl rfl ?_
          refine yT.cgk (pc' := 25) rfl rfl w119 ?_
          refine yT.iln (pc' := 26) g111 rfl rfl ?_
          refine yT.cca (pc' := 27) rfl rfl hT o121 rfl (by omega) ?_ (fun q125 o126 => ?_)
          · refine yT.p (pc' := 28) (lv' := xst1 _ 3 (.null)) rfl rfl (fun _ _ _ _ => rfl) ?_
            refine yT.aan (pc' := 29) xg_eq rfl rfl rfl ?_
            refine yT.p (pc' := 39) rfl rfl (fun _ _ _ _ => rfl) ?_
            refine yT.inc (pc' := 42) (xg_ne g111 rfl) rfl rfl rfl rfl ⟨by decide, by have := i32_rng x108; have := i32_rng x117; omega⟩ (fun x127 e128 => ?_)
            refine yT.p (pc' := 4) rfl rfl (fun _ _ _ _ => rfl) ?_
            exact ih115 _ x107 x127 (xg_ne (xg_ne g109 rfl) rfl) (xg_ne (xg_ne g110 rfl) rfl) xg_eq (by omega) (by have := i32_rng x127; omega)
          · refine yT.p (pc' := 28) (lv' := xst1 _ 3 (.ref (q125 + 1))) rfl rfl (fun _ _ _ _ => rfl) ?_
            refine yT.aan (pc' := 29) xg_eq rfl rfl rfl ?_
            refine yT.p (pc' := 32) rfl rfl (fun _ _ _ _ => rfl) ?_
            refine yT.iln (pc' := 33) (xg_ne g110 rfl) rfl rfl ?_
            refine yT.aan (pc' := 34) xg_eq rfl rfl rfl ?_
            refine yT.cgI (pc' := 37) rfl rfl hT o126 rfl rfl (fun x130 w129 => ?_)
            refine yT.fi (pc' := 38) rfl rfl (fun _ _ _ _ => rfl) (fun x131 => ?_)
            refine yT.p (pc' := 39) (lv' := xst1 _ 1 (.int x131)) rfl rfl (fun _ _ _ _ => rfl) ?_
            refine yT.inc (pc' := 42) (xg_ne (xg_ne g111 rfl) rfl) rfl rfl rfl rfl ⟨by decide, by have := i32_rng x108; have := i32_rng x117; omega⟩ (fun x132 e133 => ?_)
            refine yT.p (pc' := 4) rfl rfl (fun _ _ _ _ => rfl) ?_
            exact ih115 _ x131 x132 (xg_ne (xg_ne (xg_ne g109 rfl) rfl) rfl) (xg_ne xg_eq rfl) xg_eq (by omega) (by have := i32_rng x132; omega)
  exact L105 _ _ x101 x103 (xg_ne (xg_ne g0 rfl) rfl) (xg_ne xg_eq rfl) xg_eq (by omega) (Nat.lt_succ_self _)
-- rX7_hasLogged
set_option maxRecDepth 100000 in
set_option maxHeartbeats 4000000 in
theorem c102 {ks : List cT} {σ : Nat → Nat → Int32} {ρ : Nat → xE} {h : List xE} (hT : HT ks σ ρ h) {q0 : Nat} (o0 : xnth ks q0 = some (17, 0)) (x1 : Int32) : yM 102 (1) 0 [.ref (q0 + 1), .int x1] h (CQ ks σ ρ (1, 0, 0) yT0) := by
  refine yM.st xM_102 rfl rfl (fun lv g => ?_)
  have g0 := g 0 _ rfl
  have g1 := g 1 _ rfl
  refine yT.iln (pc' := 1) g1 rfl rfl ?_
  refine yT.if1 (t := 19) (pc' := 4) rfl rfl rfl (c1_lt rfl) (fun c101 => ?_) (fun c101 => ?_)
  · refine yT.kI (pc' := 20) rfl rfl (by decide) (fun x102 e103 => ?_)
    exact yT.retZ rfl rfl (b01 (by omega) (by omega)) (qZ hT trivial (b01 (by omega) (by omega)))
  · refine yT.iln (pc' := 5) g1 rfl rfl ?_
    refine yT.aan (pc' := 6) g0 rfl rfl rfl ?_
    refine yT.cgR (pc' := 9) rfl rfl hT o0 rfl rfl (fun q105 w104 o106 => ?_)
    refine kS (yT.cc (G2 := 0) (pc' := 12) rfl rfl rfl hT o106 xM_44 (c44 hT o106 (by decide)) rfl (by decide) (by decide) rfl) (fun h107 x110 hT108 E109 i111 i112 => ?_)
    refine yT.if2 (t := 19) (pc' := 15) rfl rfl rfl (c2_ge rfl rfl) (fun c113 => ?_) (fun c113 => ?_)
    · refine yT.kI (pc' := 20) rfl rfl (by decide) (fun x114 e115 => ?_)
      exact yT.retZ rfl rfl (b01 (by omega) (by omega)) (qZ hT108 trivial (b01 (by omega) (by omega)))
    · refine yT.kI (pc' := 16) rfl rfl (by decide) (fun x116 e117 => ?_)
      refine yT.p (pc' := 20) rfl rfl (fun _ _ _ _ => rfl) ?_
      exact yT.retZ rfl rfl (b01 (by omega) (by omega)) (qZ hT108 trivial (b01 (by omega) (by omega)))
-- rX7_outcomeLogged
set_option maxRecDepth 100000 in
set_option maxHeartbeats 4000000 in
theorem c103 {ks : List cT} {σ : Nat → Nat → Int32} {ρ : Nat → xE} {h : List xE} (hT : HT ks σ ρ h) {q0 : Nat} (o0 : xnth ks q0 = some (17, 0)) (x1 : Int32) : yM 103 (0) 0 [.ref (q0 + 1), .int x1] h (CQ ks σ ρ (2, 0, 0) yT0) := by
  refine yM.st xM_103 rfl rfl (fun lv g => ?_)
  have g0 := g 0 _ rfl
  have g1 := g 1 _ rfl
  refine yT.iln (pc' := 1) g1 rfl rfl ?_
  refine yT.if1 (t := 22) (pc' := 4) rfl rfl rfl (c1_lt rfl) (fun c101 => ?_) (fun c101 => ?_)
  · refine yT.fl (pc' := 23) rfl rfl (fun _ _ _ _ => rfl) (fun x102 => ?_)
    exact yT.retL rfl rfl (qL hT trivial)
  · refine yT.iln (pc' := 5) g1 rfl rfl ?_
    refine yT.aan (pc' := 6) g0 rfl rfl rfl ?_
    refine yT.cgR (pc' := 9) rfl rfl hT o0 rfl rfl (fun q104 w103 o105 => ?_)
    refine yT.cal (pc' := 10) rfl rfl hT o105 rfl (by omega) (fun x106 e107 => ?_)
    refine yT.if2 (t := 22) (pc' := 13) rfl rfl rfl (c2_ge rfl e107) (fun c108 => ?_) (fun c108 => ?_)
    · refine yT.fl (pc' := 23) rfl rfl (fun _ _ _ _ => rfl) (fun x109 => ?_)
      exact yT.retL rfl rfl (qL hT trivial)
    · refine yT.aan (pc' := 14) g0 rfl rfl rfl ?_
      refine yT.cgk (pc' := 17) rfl rfl w103 ?_
      refine yT.iln (pc' := 18) g1 rfl rfl ?_
      refine yT.cla (pc' := 19) rfl rfl hT o105 rfl (by omega) (fun x110 => ?_)
      refine yT.p (pc' := 23) rfl rfl (fun _ _ _ _ => rfl) ?_
      exact yT.retL rfl rfl (qL hT trivial)
-- rX7_logSays
set_option maxRecDepth 100000 in
set_option maxHeartbeats 4000000 in
theorem c104 {ks : List cT} {σ : Nat → Nat → Int32} {ρ : Nat → xE} {h : List xE} (hT : HT ks σ ρ h) {q0 : Nat} (o0 : xnth ks q0 = some (17, 0)) (x1 : Int32) (x2 : Int64) (x4 : Int64) : yM 104 (2) 0 [.ref (q0 + 1), .int x1, .long x2, .long x4] h (CQ ks σ ρ (1, 0, 0) yT0) := by
  refine yM.st xM_104 rfl rfl (fun lv g => ?_)
  have g0 := g 0 _ rfl
  have g1 := g 1 _ rfl
  have g2 := g 2 _ rfl
  have g4 := g 4 _ rfl
  refine yT.aan (pc' := 1) g0 rfl rfl rfl ?_
  refine yT.iln (pc' := 2) g1 rfl rfl ?_
  refine kZ (yT.cc (G2 := 0) (pc' := 5) rfl rfl rfl hT o0 xM_102 (c102 hT o0 x1) rfl (by decide) (by decide) rfl) (fun h101 x104 hT102 E103 b105 => ?_)
  have i106 := b01i b105
  refine yT.if1 (t := 45) (pc' := 8) rfl rfl rfl (c1_eq rfl) (fun c107 => ?_) (fun c107 => ?_)
  · refine yT.kI (pc' := 46) rfl rfl (by decide) (fun x108 e109 => ?_)
    exact yT.retZ rfl rfl (b01 (by omega) (by omega)) (qZ hT102 trivial (b01 (by omega) (by omega)))
  · refine yT.aan (pc' := 9) g0 rfl rfl rfl ?_
    refine yT.cgR (pc' := 12) rfl rfl hT102 o0 rfl rfl (fun q111 w110 o112 => ?_)
    refine yT.iln (pc' := 13) g1 rfl rfl ?_
    refine kI (yT.cc (G2 := 0) (pc' := 16) rfl rfl rfl hT102 o112 xM_46 (c46 hT102 o112 (by decide) x1) rfl (by decide) (by decide) rfl) (fun h113 x116 hT114 E115 => ?_)
    refine yT.fl (pc' := 17) rfl rfl (fun _ _ _ _ => rfl) (fun x117 => ?_)
    refine yT.lln (pc' := 18) g2 rfl rfl ?_
    refine yT.fi (pc' := 19) rfl rfl (fun _ _ _ _ => rfl) (fun x118 => ?_)
    refine yT.if1 (t := 45) (pc' := 22) rfl rfl rfl (c1_ne rfl) (fun c119 => ?_) (fun c119 => ?_)
    · refine yT.kI (pc' := 46) rfl rfl (by decide) (fun x120 e121 => ?_)
      exact yT.retZ rfl rfl (b01 (by omega) (by omega)) (qZ hT114 trivial (b01 (by omega) (by omega)))
    · refine yT.aan (pc' := 23) g0 rfl rfl rfl ?_
      refine yT.iln (pc' := 24) g1 rfl rfl ?_
      refine kL (yT.cc (G2 := 0) (pc' := 27) rfl rfl rfl hT114 o0 xM_103 (c103 hT114 o0 x1) rfl (by decide) (by decide) rfl) (fun h122 x125 hT123 E124 => ?_)
      refine yT.ll (pc' := 29) g4 rfl rfl ?_
      refine yT.fi (pc' := 30) rfl rfl (fun _ _ _ _ => rfl) (fun x126 => ?_)
      refine yT.if1 (t := 45) (pc' := 33) rfl rfl rfl (c1_ne rfl) (fun c127 => ?_) (fun c127 => ?_)
      · refine yT.kI (pc' := 46) rfl rfl (by decide) (fun x128 e129 => ?_)
        exact yT.retZ rfl rfl (b01 (by omega) (by omega)) (qZ hT123 trivial (b01 (by omega) (by omega)))
      · refine yT.ll (pc' := 35) g4 rfl rfl ?_
        refine kZ (yT.cst (G2 := 0) (pc' := 38) rfl rfl xM_160 (c160 hT123 x4) rfl (by decide) (by decide) rfl) (fun h130 x133 hT131 E132 b134 => ?_)
        have i135 := b01i b134
        refine yT.if1 (t := 45) (pc' := 41) rfl rfl rfl (c1_ne rfl) (fun c136 => ?_) (fun c136 => ?_)
        · refine yT.kI (pc' := 46) rfl rfl (by decide) (fun x137 e138 => ?_)
          exact yT.retZ rfl rfl (b01 (by omega) (by omega)) (qZ hT131 trivial (b01 (by omega) (by omega)))
        · refine yT.kI (pc' := 42) rfl rfl (by decide) (fun x139 e140 => ?_)
          refine yT.p (pc' := 46) rfl rfl (fun _ _ _ _ => rfl) ?_
          exact yT.retZ rfl rfl (b01 (by omega) (by omega)) (qZ hT131 trivial (b01 (by omega) (by omega)))
-- rX7_draw
set_option maxRecDepth 100000 in
set_option maxHeartbeats 4000000 in
theorem c105 {ks : List cT} {σ : Nat → Nat → Int32} {ρ : Nat → xE} {h : List xE} (hT : HT ks σ ρ h) {q0 : Nat} (o0 : xnth ks q0 = some (17, 0)) (x1 : Int32) : yM 105 (0) 0 [.ref (q0 + 1), .int x1] h (CQ ks σ ρ (0, 0, 0) yT0) := by
  refine yM.st xM_105 rfl rfl (fun lv g => ?_)
  have g0 := g 0 _ rfl
  have g1 := g 1 _ rfl
  refine yT.aan (pc' := 1) g0 rfl rfl rfl ?_
  refine yT.aan (pc' := 2) g0 rfl rfl rfl ?_
  refine yT.cgI (pc' := 5) rfl rfl hT o0 rfl rfl (fun x102 w101 => ?_)
  refine yT.fi (pc' := 7) rfl rfl (fun _ _ _ _ => rfl) (fun x103 => ?_)
  refine yT.fi (pc' := 8) rfl rfl (fun _ _ _ _ => rfl) (fun x104 => ?_)
  refine yT.ks (pc' := 11) rfl rfl (by decide) (fun x105 e106 => ?_)
  refine yT.fi (pc' := 12) rfl rfl (fun _ _ _ _ => rfl) (fun x107 => ?_)
  refine yT.cpI (pc' := 15) rfl rfl hT o0 rfl rfl rfl (fun h108 hT109 w110 fv111 => ?_)
  refine yT.iln (pc' := 16) g1 rfl rfl ?_
  refine yT.if1 (t := 23) (pc' := 19) rfl rfl rfl (c1_gt rfl) (fun c112 => ?_) (fun c112 => ?_)
  · refine yT.aan (pc' := 24) g0 rfl rfl rfl ?_
    refine yT.cgk (pc' := 27) rfl rfl w110 ?_
    refine yT.kb (pc' := 29) rfl rfl (by decide) (fun x113 e114 => ?_)
    refine yT.fi (pc' := 30) rfl rfl (fun _ _ _ _ => rfl) (fun x115 => ?_)
    refine yT.iln (pc' := 31) g1 rfl rfl ?_
    refine yT.remF (pc' := 32) rfl (by omega) rfl rfl (fun x116 => ?_)
    exact yT.retI rfl rfl (qI hT109 trivial)
  · refine yT.kI (pc' := 20) rfl rfl (by decide) (fun x117 e118 => ?_)
    refine yT.p (pc' := 32) rfl rfl (fun _ _ _ _ => rfl) ?_
    exact yT.retI rfl rfl (qI hT109 trivial)
-- rX8_shelfAt
set_option maxRecDepth 100000 in
set_option maxHeartbeats 4000000 in
theorem c156 {ks : List cT} {σ : Nat → Nat → Int32} {ρ : Nat → xE} {h : List xE} (hT : HT ks σ ρ h) {B0 : Nat} (K : KE KS0 ks B0) {q0 : Nat} (o0 : xnth ks q0 = some (18, 0)) (x1 : Int32) : yM 156 (0) 0 [.ref (q0 + 1), .int x1] h (CQ ks σ ρ (4, 16, 0) (fun _ r => (r = some .null ∧ ¬ (0 ≤ x1.toInt ∧ x1.toInt < 8)) ∨ (r ≠ some .null ∧ 0 ≤ x1.toInt ∧ x1.toInt < 8))) := by
  refine yM.st xM_156 rfl rfl (fun lv g => ?_)
  have g0 := g 0 _ rfl
  have g1 := g 1 _ rfl
  refine yT.iln (pc' := 1) g1 rfl rfl ?_
  refine yT.if1 (t := 22) (pc' := 4) rfl rfl rfl (c1_lt rfl) (fun c101 => ?_) (fun c101 => ?_)
  · refine yT.p (pc' := 23) rfl rfl (fun _ _ _ _ => rfl) ?_
    exact yT.retA rfl rfl rfl (qN0 hT (Or.inl ⟨rfl, by omega⟩))
  · refine yT.iln (pc' := 5) g1 rfl rfl ?_
    refine yT.aan (pc' := 6) g0 rfl rfl rfl ?_
    refine yT.cgR (pc' := 9) rfl rfl hT o0 rfl rfl (fun q103 w102 o104 => ?_)
    refine yT.cal (pc' := 10) rfl rfl hT o104 rfl (by omega) (fun x105 e106 => ?_)
    refine yT.if2 (t := 22) (pc' := 13) rfl rfl rfl (c2_ge rfl e106) (fun c107 => ?_) (fun c107 => ?_)
    · refine yT.p (pc' := 23) rfl rfl (fun _ _ _ _ => rfl) ?_
      exact yT.retA rfl rfl rfl (qN0 hT (Or.inl ⟨rfl, by omega⟩))
    · refine yT.aan (pc' := 14) g0 rfl rfl rfl ?_
      refine yT.cgk (pc' := 17) rfl rfl w102 ?_
      refine yT.iln (pc' := 18) g1 rfl rfl ?_
      refine yT.csa (pc' := 19) rfl rfl hT o104 rfl (by omega) (fun q108 o109 => ?_)
      refine yT.p (pc' := 23) rfl rfl (fun _ _ _ _ => rfl) ?_
      exact yT.retA rfl rfl rfl (qN hT (Or.inr ⟨(by intro e; cases e), (by omega), (by omega)⟩) o109 rfl)
-- rX8_refuse
set_option maxRecDepth 100000 in
set_option maxHeartbeats 4000000 in
theorem c153 {ks : List cT} {σ : Nat → Nat → Int32} {ρ : Nat → xE} {h : List xE} (hT : HT ks σ ρ h) {B0 : Nat} (K : KE KS0 ks B0) {q0 : Nat} (o0 : xnth ks q0 = some (18, 0)) (x1 : Int32) : yM 153 (0) 0 [.ref (q0 + 1), .int x1] h (CQ ks σ ρ (0, 0, 0) (fun _ r => r = some (.int x1))) := by
  refine yM.st xM_153 rfl rfl (fun lv g => ?_)
  have g0 := g 0 _ rfl
  have g1 := g 1 _ rfl
  refine yT.kb (pc' := 2) rfl rfl (by decide) (fun x101 e102 => ?_)
  refine yT.iln (pc' := 3) g1 rfl rfl ?_
  refine yT.fi (pc' := 4) rfl rfl (fun _ _ _ _ => rfl) (fun x103 => ?_)
  refine yT.p (pc' := 5) (lv' := xst1 _ 2 (.int x103)) rfl rfl (fun _ _ _ _ => rfl) ?_
  refine yT.iln (pc' := 6) xg_eq rfl rfl ?_
  refine yT.if1 (t := 28) (pc' := 9) rfl rfl rfl (c1_lt rfl) (fun c104 => ?_) (fun c104 => ?_)
  · refine yT.iln (pc' := 29) (xg_ne g1 rfl) rfl rfl ?_
    exact yT.retI rfl rfl (qI hT rfl)
  · refine yT.iln (pc' := 10) xg_eq rfl rfl ?_
    refine yT.aan (pc' := 11) (xg_ne g0 rfl) rfl rfl rfl ?_
    refine yT.cgR (pc' := 14) rfl rfl hT o0 rfl rfl (fun q106 w105 o107 => ?_)
    refine yT.cal (pc' := 15) rfl rfl hT o107 rfl (by omega) (fun x108 e109 => ?_)
    refine yT.if2 (t := 28) (pc' := 18) rfl rfl rfl (c2_ge rfl e109) (fun c110 => ?_) (fun c110 => ?_)
    · refine yT.iln (pc' := 29) (xg_ne g1 rfl) rfl rfl ?_
      exact yT.retI rfl rfl (qI hT rfl)
    · refine yT.aan (pc' := 19) (xg_ne g0 rfl) rfl rfl rfl ?_
      refine yT.cgk (pc' := 22) rfl rfl w105 ?_
      refine yT.iln (pc' := 23) xg_eq rfl rfl ?_
      refine yT.p (pc' := 24) rfl rfl (fun _ _ _ _ => rfl) ?_
      refine yT.cia (pc' := 25) rfl rfl hT o107 rfl (by omega) (fun x111 => ?_)
      refine yT.kI (pc' := 26) rfl rfl (by decide) (fun x112 e113 => ?_)
      refine yT.fi (pc' := 27) rfl rfl (fun _ _ _ _ => rfl) (fun x114 => ?_)
      refine yT.cis (pc' := 28) rfl rfl hT o107 rfl (by omega) (fun h115 hT116 fv117 => ?_)
      refine yT.iln (pc' := 29) (xg_ne g1 rfl) rfl rfl ?_
      exact yT.retI rfl rfl (qI hT116 rfl)
-- rX8_row
set_option maxRecDepth 100000 in
set_option maxHeartbeats 4000000 in
theorem c107 {ks : List cT} {σ : Nat → Nat → Int32} {ρ : Nat → xE} {h : List xE} (hT : HT ks σ ρ h) {B0 : Nat} (K : KE KS0 ks B0) {q0 : Nat} (o0 : xnth ks q0 = some (18, 0)) (x1 : Int32) (x2 : Int32) (x3 : Int32) : yM 107 (1) 0 [.ref (q0 + 1), .int x1, .int x2, .int x3] h (CQ ks σ ρ (0, 0, 0) yT0) := by
  refine yM.st xM_107 rfl rfl (fun lv g => ?_)
  have g0 := g 0 _ rfl
  have g1 := g 1 _ rfl
  have g2 := g 2 _ rfl
  have g3 := g 3 _ rfl
  refine yT.aan (pc' := 1) g0 rfl rfl rfl ?_
  refine yT.iln (pc' := 2) g1 rfl rfl ?_
  refine kN (yT.cc (G2 := 0) (pc' := 5) rfl rfl rfl hT o0 xM_156 (c156 hT K o0 x1) rfl (by decide) (by decide) rfl) (fun h101 hT102 E103 => ?_) (fun h101 q104 hT102 E103 o105 => ?_)
  · have i106 : ¬ (0 ≤ x1.toInt ∧ x1.toInt < 8) := (show _ ∨ _ from E103).elim (fun e => e.2) (fun e => absurd rfl e.1)
    refine yT.p (pc' := 7) (lv' := xst1 _ 4 (.null)) rfl rfl (fun _ _ _ _ => rfl) ?_
    refine yT.aa_ (pc' := 9) xg_eq rfl rfl rfl ?_
    refine yT.p (pc' := 31) rfl rfl (fun _ _ _ _ => rfl) ?_
    refine yT.aan (pc' := 32) (xg_ne g0 rfl) rfl rfl rfl ?_
    refine yT.kb (pc' := 34) rfl rfl (by decide) (fun x107 e108 => ?_)
    refine kI (yT.cc (G2 := 0) (pc' := 37) rfl rfl rfl hT102 o0 xM_153 (c153 hT102 K o0 x107) rfl (by decide) (by decide) rfl) (fun h109 x112 hT110 E111 => ?_)
    have e113 : x112 = x107 := by have e : some (Value.int x112) = some (.int x107) := E111; injection e with e; injection e
    have e114 : x112.toInt = (-2) := by first | (rw [e113]; done) | (rw [e113]; exact e108)
    exact yT.retI rfl rfl (qI hT110 trivial)
  · have i115 : 0 ≤ x1.toInt ∧ x1.toInt < 8 := (show _ ∨ _ from E103).elim (fun e => by cases e.1) (fun e => e.2)
    refine yT.p (pc' := 7) (lv' := xst1 _ 4 (.ref (q104 + 1))) rfl rfl (fun _ _ _ _ => rfl) ?_
    refine yT.aa_ (pc' := 9) xg_eq rfl rfl rfl ?_
    refine yT.p (pc' := 12) rfl rfl (fun _ _ _ _ => rfl) ?_
    refine yT.iln (pc' := 13) (xg_ne g2 rfl) rfl rfl ?_
    refine yT.if1 (t := 31) (pc' := 16) rfl rfl rfl (c1_lt rfl) (fun c116 => ?_) (fun c116 => ?_)
    · refine yT.aan (pc' := 32) (xg_ne g0 rfl) rfl rfl rfl ?_
      refine yT.kb (pc' := 34) rfl rfl (by decide) (fun x117 e118 => ?_)
      refine kI (yT.cc (G2 := 0) (pc' := 37) rfl rfl rfl hT102 o0 xM_153 (c153 hT102 K o0 x117) rfl (by decide) (by decide) rfl) (fun h119 x122 hT120 E121 => ?_)
      have e123 : x122 = x117 := by have e : some (Value.int x122) = some (.int x117) := E121; injection e with e; injection e
      have e124 : x122.toInt = (-2) := by first | (rw [e123]; done) | (rw [e123]; exact e118)
      exact yT.retI rfl rfl (qI hT120 trivial)
    · refine yT.iln (pc' := 17) (xg_ne g2 rfl) rfl rfl ?_
      refine yT.kI (pc' := 18) rfl rfl (by decide) (fun x125 e126 => ?_)
      refine yT.if2 (t := 31) (pc' := 21) rfl rfl rfl (c2_gt rfl e126) (fun c127 => ?_) (fun c127 => ?_)
      · refine yT.aan (pc' := 32) (xg_ne g0 rfl) rfl rfl rfl ?_
        refine yT.kb (pc' := 34) rfl rfl (by decide) (fun x128 e129 => ?_)
        refine kI (yT.cc (G2 := 0) (pc' := 37) rfl rfl rfl hT102 o0 xM_153 (c153 hT102 K o0 x128) rfl (by decide) (by decide) rfl) (fun h130 x133 hT131 E132 => ?_)
        have e134 : x133 = x128 := by have e : some (Value.int x133) = some (.int x128) := E132; injection e with e; injection e
        have e135 : x133.toInt = (-2) := by first | (rw [e134]; done) | (rw [e134]; exact e129)
        exact yT.retI rfl rfl (qI hT131 trivial)
      · refine yT.iln (pc' := 22) (xg_ne g3 rfl) rfl rfl ?_
        refine yT.if1 (t := 31) (pc' := 25) rfl rfl rfl (c1_lt rfl) (fun c136 => ?_) (fun c136 => ?_)
        · refine yT.aan (pc' := 32) (xg_ne g0 rfl) rfl rfl rfl ?_
          refine yT.kb (pc' := 34) rfl rfl (by decide) (fun x137 e138 => ?_)
          refine kI (yT.cc (G2 := 0) (pc' := 37) rfl rfl rfl hT102 o0 xM_153 (c153 hT102 K o0 x137) rfl (by decide) (by decide) rfl) (fun h139 x142 hT140 E141 => ?_)
          have e143 : x142 = x137 := by have e : some (Value.int x142) = some (.int x137) := E141; injection e with e; injection e
          have e144 : x142.toInt = (-2) := by first | (rw [e143]; done) | (rw [e143]; exact e138)
          exact yT.retI rfl rfl (qI hT140 trivial)
        · refine yT.iln (pc' := 26) (xg_ne g3 rfl) rfl rfl ?_
          refine yT.kb (pc' := 28) rfl rfl (by decide) (fun x145 e146 => ?_)
          refine yT.if2 (t := 38) (pc' := 31) rfl rfl rfl (c2_le rfl e146) (fun c147 => ?_) (fun c147 => ?_)
          · refine yT.aa_ (pc' := 40) xg_eq rfl rfl rfl ?_
            refine yT.iln (pc' := 41) (xg_ne g2 rfl) rfl rfl ?_
            refine yT.iln (pc' := 42) (xg_ne g3 rfl) rfl rfl ?_
            refine kV (yT.cc (G2 := 0) (pc' := 45) rfl rfl rfl hT102 o105 xM_78 (c78 hT102 o105 x2 x3) rfl (by decide) (by decide) rfl) (fun h148 hT149 E150 => ?_)
            refine yT.kI (pc' := 46) rfl rfl (by decide) (fun x151 e152 => ?_)
            exact yT.retI rfl rfl (qI hT149 trivial)
          · refine yT.aan (pc' := 32) (xg_ne g0 rfl) rfl rfl rfl ?_
            refine yT.kb (pc' := 34) rfl rfl (by decide) (fun x153 e154 => ?_)
            refine kI (yT.cc (G2 := 0) (pc' := 37) rfl rfl rfl hT102 o0 xM_153 (c153 hT102 K o0 x153) rfl (by decide) (by decide) rfl) (fun h155 x158 hT156 E157 => ?_)
            have e159 : x158 = x153 := by have e : some (Value.int x158) = some (.int x153) := E157; injection e with e; injection e
            have e160 : x158.toInt = (-2) := by first | (rw [e159]; done) | (rw [e159]; exact e154)
            exact yT.retI rfl rfl (qI hT156 trivial)
-- rX8_rowRefusal
set_option maxRecDepth 100000 in
set_option maxHeartbeats 4000000 in
theorem c157 {ks : List cT} {σ : Nat → Nat → Int32} {ρ : Nat → xE} {h : List xE} (hT : HT ks σ ρ h) {v0 : Value} (o0 : v0 = .null ∨ ∃ p, v0 = .ref (p + 1) ∧ xnth ks p = some (16, 0)) : yM 157 (1) 0 [v0] h (CQ ks σ ρ (0, 0, 0) yT0) := by
  rcases o0 with rfl | ⟨q0, rfl, o0⟩
  · refine yM.st xM_157 rfl rfl (fun lv g => ?_)
    have g0 := g 0 _ rfl
    refine yT.aan (pc' := 1) g0 rfl rfl rfl ?_
    refine yT.p (pc' := 4) rfl rfl (fun _ _ _ _ => rfl) ?_
    refine yT.kb (pc' := 6) rfl rfl (by decide) (fun x101 e102 => ?_)
    exact yT.retI rfl rfl (qI hT trivial)
  · refine yM.st xM_157 rfl rfl (fun lv g => ?_)
    have g0 := g 0 _ rfl
    refine yT.aan (pc' := 1) g0 rfl rfl rfl ?_
    refine yT.p (pc' := 7) rfl rfl (fun _ _ _ _ => rfl) ?_
    refine yT.aan (pc' := 8) g0 rfl rfl rfl ?_
    refine kZ (yT.cc (G2 := 0) (pc' := 11) rfl rfl rfl hT o0 xM_74 (c74 hT o0) rfl (by decide) (by decide) rfl) (fun h103 x106 hT104 E105 b107 => ?_)
    have i108 := b01i b107
    refine yT.if1 (t := 17) (pc' := 14) rfl rfl rfl (c1_eq rfl) (fun c109 => ?_) (fun c109 => ?_)
    · refine yT.aan (pc' := 18) g0 rfl rfl rfl ?_
      refine kZ (yT.cc (G2 := 0) (pc' := 21) rfl rfl rfl hT104 o0 xM_73 (c73 hT104 o0) rfl (by decide) (by decide) rfl) (fun h110 x113 hT111 E112 b114 => ?_)
      have i115 := b01i b114
      refine yT.if1 (t := 28) (pc' := 24) rfl rfl rfl (c1_eq rfl) (fun c116 => ?_) (fun c116 => ?_)
      · refine yT.kb (pc' := 30) rfl rfl (by decide) (fun x117 e118 => ?_)
        exact yT.retI rfl rfl (qI hT111 trivial)
      · refine yT.kI (pc' := 25) rfl rfl (by decide) (fun x119 e120 => ?_)
        refine yT.p (pc' := 30) rfl rfl (fun _ _ _ _ => rfl) ?_
        exact yT.retI rfl rfl (qI hT111 trivial)
    · refine yT.kb (pc' := 16) rfl rfl (by decide) (fun x121 e122 => ?_)
      exact yT.retI rfl rfl (qI hT104 trivial)
-- rX8_set
set_option maxRecDepth 100000 in
set_option maxHeartbeats 4000000 in
theorem c108 {ks : List cT} {σ : Nat → Nat → Int32} {ρ : Nat → xE} {h : List xE} (hT : HT ks σ ρ h) {B0 : Nat} (K : KE KS0 ks B0) {q0 : Nat} (o0 : xnth ks q0 = some (18, 0)) (x1 : Int32) (x2 : Int32) (x3 : Int64) : yM 108 (2) 0 [.ref (q0 + 1), .int x1, .int x2, .long x3] h (CQ ks σ ρ (0, 0, 0) yT0) := by
  refine yM.st xM_108 rfl rfl (fun lv g => ?_)
  have g0 := g 0 _ rfl
  have g1 := g 1 _ rfl
  have g2 := g 2 _ rfl
  have g3 := g 3 _ rfl
  refine yT.aan (pc' := 1) g0 rfl rfl rfl ?_
  refine yT.iln (pc' := 2) g1 rfl rfl ?_
  refine kN (yT.cc (G2 := 0) (pc' := 5) rfl rfl rfl hT o0 xM_156 (c156 hT K o0 x1) rfl (by decide) (by decide) rfl) (fun h101 hT102 E103 => ?_) (fun h101 q104 hT102 E103 o105 => ?_)
  · have i106 : ¬ (0 ≤ x1.toInt ∧ x1.toInt < 8) := (show _ ∨ _ from E103).elim (fun e => e.2) (fun e => absurd rfl e.1)
    refine yT.p (pc' := 7) (lv' := xst1 _ 5 (.null)) rfl rfl (fun _ _ _ _ => rfl) ?_
    refine yT.aa_ (pc' := 9) xg_eq rfl rfl rfl ?_
    refine kI (yT.cst (G2 := 0) (pc' := 12) rfl rfl xM_157 (c157 hT102 (Or.inl rfl)) rfl (by decide) (by decide) rfl) (fun h107 x110 hT108 E109 => ?_)
    refine yT.p (pc' := 14) (lv' := xst1 _ 6 (.int x110)) rfl rfl (fun _ _ _ _ => rfl) ?_
    refine yT.aa_ (pc' := 16) (xg_ne xg_eq rfl) rfl rfl rfl ?_
    refine yT.p (pc' := 24) rfl rfl (fun _ _ _ _ => rfl) ?_
    refine yT.aan (pc' := 25) (xg_ne (xg_ne g0 rfl) rfl) rfl rfl rfl ?_
    refine yT.il (pc' := 27) xg_eq rfl rfl ?_
    refine kI (yT.cc (G2 := 0) (pc' := 30) rfl rfl rfl hT108 o0 xM_153 (c153 hT108 K o0 x110) rfl (by decide) (by decide) rfl) (fun h111 x114 hT112 E113 => ?_)
    have e115 : x114 = x110 := by have e : some (Value.int x114) = some (.int x110) := E113; injection e with e; injection e
    have e116 : x114.toInt = x110.toInt := by first | (rw [e115]; done) | (rw [e115]; exact rfl)
    exact yT.retI rfl rfl (qI hT112 trivial)
  · have i117 : 0 ≤ x1.toInt ∧ x1.toInt < 8 := (show _ ∨ _ from E103).elim (fun e => by cases e.1) (fun e => e.2)
    refine yT.p (pc' := 7) (lv' := xst1 _ 5 (.ref (q104 + 1))) rfl rfl (fun _ _ _ _ => rfl) ?_
    refine yT.aa_ (pc' := 9) xg_eq rfl rfl rfl ?_
    refine kI (yT.cst (G2 := 0) (pc' := 12) rfl rfl xM_157 (c157 hT102 (Or.inr ⟨_, rfl, o105⟩)) rfl (by decide) (by decide) rfl) (fun h118 x121 hT119 E120 => ?_)
    refine yT.p (pc' := 14) (lv' := xst1 _ 6 (.int x121)) rfl rfl (fun _ _ _ _ => rfl) ?_
    refine yT.aa_ (pc' := 16) (xg_ne xg_eq rfl) rfl rfl rfl ?_
    refine yT.p (pc' := 19) rfl rfl (fun _ _ _ _ => rfl) ?_
    refine yT.il (pc' := 21) xg_eq rfl rfl ?_
    refine yT.if1 (t := 31) (pc' := 24) rfl rfl rfl (c1_eq rfl) (fun c122 => ?_) (fun c122 => ?_)
    · refine yT.aa_ (pc' := 33) (xg_ne xg_eq rfl) rfl rfl rfl ?_
      refine yT.iln (pc' := 34) (xg_ne (xg_ne g2 rfl) rfl) rfl rfl ?_
      refine yT.kI (pc' := 35) rfl rfl (by decide) (fun x123 e124 => ?_)
      refine kZ (yT.cc (G2 := 0) (pc' := 38) rfl rfl rfl hT119 o105 xM_79 (c79 hT119 o105 x2 x123) rfl (by decide) (by decide) rfl) (fun h125 x128 hT126 E127 b129 => ?_)
      have i130 := b01i b129
      refine yT.if1 (t := 48) (pc' := 41) rfl rfl rfl (c1_ne rfl) (fun c131 => ?_) (fun c131 => ?_)
      · refine yT.aa_ (pc' := 50) (xg_ne xg_eq rfl) rfl rfl rfl ?_
        refine yT.iln (pc' := 51) (xg_ne (xg_ne g2 rfl) rfl) rfl rfl ?_
        refine yT.lln (pc' := 52) (xg_ne (xg_ne g3 rfl) rfl) rfl rfl ?_
        refine kV (yT.cc (G2 := 0) (pc' := 55) rfl rfl rfl hT126 o105 xM_81 (c81 hT126 o105 x2 x3) rfl (by decide) (by decide) rfl) (fun h132 hT133 E134 => ?_)
        refine yT.kI (pc' := 56) rfl rfl (by decide) (fun x135 e136 => ?_)
        exact yT.retI rfl rfl (qI hT133 trivial)
      · refine yT.aan (pc' := 42) (xg_ne (xg_ne g0 rfl) rfl) rfl rfl rfl ?_
        refine yT.kb (pc' := 44) rfl rfl (by decide) (fun x137 e138 => ?_)
        refine kI (yT.cc (G2 := 0) (pc' := 47) rfl rfl rfl hT126 o0 xM_153 (c153 hT126 K o0 x137) rfl (by decide) (by decide) rfl) (fun h139 x142 hT140 E141 => ?_)
        have e143 : x142 = x137 := by have e : some (Value.int x142) = some (.int x137) := E141; injection e with e; injection e
        have e144 : x142.toInt = (-2) := by first | (rw [e143]; done) | (rw [e143]; exact e138)
        exact yT.retI rfl rfl (qI hT140 trivial)
    · refine yT.aan (pc' := 25) (xg_ne (xg_ne g0 rfl) rfl) rfl rfl rfl ?_
      refine yT.il (pc' := 27) xg_eq rfl rfl ?_
      refine kI (yT.cc (G2 := 0) (pc' := 30) rfl rfl rfl hT119 o0 xM_153 (c153 hT119 K o0 x121) rfl (by decide) (by decide) rfl) (fun h145 x148 hT146 E147 => ?_)
      have e149 : x148 = x121 := by have e : some (Value.int x148) = some (.int x121) := E147; injection e with e; injection e
      have e150 : x148.toInt = x121.toInt := by first | (rw [e149]; done) | (rw [e149]; exact rfl)
      exact yT.retI rfl rfl (qI hT146 trivial)
