-- rX8_days
set_option maxRecDepth 100000 in
set_option maxHeartbeats 4000000 in
theorem c146 {ks : List cT} {σ : Nat → Nat → Int32} {ρ : Nat → xE} {h : List xE} (hT : HT ks σ ρ h) {B0 : Nat} (K : KE KS0 ks B0) {q0 : Nat} (o0 : xnth ks q0 = some (18, 0)) (x1 : Int32) : yM 146 (402) 0 [.ref (q0 + 1), .int x1] h (CQ ks σ ρ (0, 0, 0) yT0) := by
  refine yM.st xM_146 rfl rfl (fun lv g => ?_)
  have g0 := g 0 _ rfl
  have g1 := g 1 _ rfl
  refine yT.iln (pc' := 1) g1 rfl rfl ?_
  refine yT.kI (pc' := 2) rfl rfl (by decide) (fun x101 e102 => ?_)
  refine yT.if2 (t := 11) (pc' := 5) rfl rfl rfl (c2_lt rfl e102) (fun c103 => ?_) (fun c103 => ?_)
  · refine yT.aan (pc' := 12) g0 rfl rfl rfl ?_
    refine yT.kb (pc' := 14) rfl rfl (by decide) (fun x104 e105 => ?_)
    refine kI (yT.cc (G2 := 0) (pc' := 17) rfl rfl rfl hT o0 xM_153 (c153 hT K o0 x104) rfl (by decide) (by decide) rfl) (fun h106 x109 hT107 E108 => ?_)
    have e110 : x109 = x104 := by have e : some (Value.int x109) = some (.int x104) := E108; injection e with e; injection e
    have e111 : x109.toInt = (-2) := by first | (rw [e110]; done) | (rw [e110]; exact e105)
    exact yT.retI rfl rfl (qI hT107 trivial)
  · refine yT.iln (pc' := 6) g1 rfl rfl ?_
    refine yT.kb (pc' := 8) rfl rfl (by decide) (fun x112 e113 => ?_)
    refine yT.if2 (t := 18) (pc' := 11) rfl rfl rfl (c2_le rfl e113) (fun c114 => ?_) (fun c114 => ?_)
    · refine yT.aan (pc' := 19) g0 rfl rfl rfl ?_
      refine yT.cg8 (pc' := 22) rfl rfl hT o0 rfl rfl (fun w115 => ?_)
      refine kI (yT.cc (G2 := 0) (pc' := 25) rfl rfl rfl hT (K.up rfl) xM_85 (c85 hT (K.up rfl)) rfl (by decide) (by decide) rfl) (fun h116 x119 hT117 E118 => ?_)
      refine yT.if1 (t := 35) (pc' := 28) rfl rfl rfl (c1_ne rfl) (fun c120 => ?_) (fun c120 => ?_)
      · refine yT.kI (pc' := 36) rfl rfl (by decide) (fun x121 e122 => ?_)
        refine yT.p (pc' := 37) (lv' := xst1 _ 2 (.int x121)) rfl rfl (fun _ _ _ _ => rfl) ?_
        refine yT.kI (pc' := 38) rfl rfl (by decide) (fun x123 e124 => ?_)
        refine yT.p (pc' := 39) (lv' := xst1 _ 3 (.int x123)) rfl rfl (fun _ _ _ _ => rfl) ?_
        have L125 : ∀ (n136 : Nat) (lv126 : xLv) (h127 : List xE) (x129 : Int32) (x130 : Int32), HT ks σ ρ h127 → xget lv126 0 = some (.ref (q0 + 1)) → xget lv126 1 = some (.int x1) → xget lv126 2 = some (.int x129) → xget lv126 3 = some (.int x130) → 0 ≤ x130.toInt → (2147483647 - x130.toInt).toNat < n136 → yT 0 [] rX8_days (402) 0 39 lv126 [] h127 (CQ ks σ ρ (0, 0, 0) yT0) := by
          intro n136
          induction n136 with
          | zero => intro lv126 h127 x129 x130 hT128 g131 g132 g133 g134 i135 m137; exact absurd m137 (Nat.not_lt_zero _)
          | succ n136 ih138 =>
            intro lv126 h127 x129 x130 hT128 g131 g132 g133 g134 i135 m137
            refine yT.iln (pc' := 40) g134 rfl rfl ?_
            refine yT.iln (pc' := 41) g132 rfl rfl ?_
            refine yT.if2 (t := 133) (pc' := 44) rfl rfl rfl (c2_ge rfl rfl) (fun c139 => ?_) (fun c139 => ?_)
            · refine yT.iln (pc' := 134) g133 rfl rfl ?_
              exact yT.retI rfl rfl (qI hT128 trivial)
            · refine yT.aan (pc' := 45) g131 rfl rfl rfl ?_
              refine yT.cg8 (pc' := 48) rfl rfl hT128 o0 rfl rfl (fun w140 => ?_)
              refine yT.aan (pc' := 49) g131 rfl rfl rfl ?_
              refine yT.cgk (pc' := 52) rfl rfl w140 ?_
              refine kI (yT.cc (G2 := 0) (pc' := 55) rfl rfl rfl hT128 (K.up rfl) xM_85 (c85 hT128 (K.up rfl)) rfl (by decide) (by decide) rfl) (fun h141 x144 hT142 E143 => ?_)
              refine kI (yT.cc (G2 := 0) (pc' := 58) rfl rfl rfl hT142 (K.up rfl) xM_105 (c105 hT142 (K.up rfl) x144) rfl (by decide) (by decide) rfl) (fun h145 x148 hT146 E147 => ?_)
              refine yT.p (pc' := 60) (lv' := xst1 _ 4 (.int x148)) rfl rfl (fun _ _ _ _ => rfl) ?_
              refine yT.aan (pc' := 61) (xg_ne g131 rfl) rfl rfl rfl ?_
              refine yT.cg8 (pc' := 64) rfl rfl hT146 o0 rfl rfl (fun w149 => ?_)
              refine yT.il (pc' := 66) xg_eq rfl rfl ?_
              refine kN (yT.cc (G2 := 0) (pc' := 69) rfl rfl rfl hT146 (K.up rfl) xM_87 (c87 hT146 (K.up rfl) x148) rfl (by decide) (by decide) rfl) (fun h150 hT151 E152 => ?_) (fun h150 q153 hT151 E152 o154 => ?_)
              · refine yT.p (pc' := 71) (lv' := xst1 _ 5 (.null)) rfl rfl (fun _ _ _ _ => rfl) ?_
                refine yT.aa_ (pc' := 73) xg_eq rfl rfl rfl ?_
                refine yT.p (pc' := 120) rfl rfl (fun _ _ _ _ => rfl) ?_
                refine yT.aan (pc' := 121) (xg_ne (xg_ne g131 rfl) rfl) rfl rfl rfl ?_
                refine yT.cgR (pc' := 124) rfl rfl hT151 o0 rfl rfl (fun q156 w155 o157 => ?_)
                refine kV (yT.cc (G2 := 0) (pc' := 127) rfl rfl rfl hT151 o157 xM_60 (c60 hT151 o157) rfl (by decide) (by decide) rfl) (fun h158 hT159 E160 => ?_)
                refine yT.inc (pc' := 130) (xg_ne (xg_ne g134 rfl) rfl) rfl rfl rfl rfl ⟨by decide, by have := i32_rng x1; have := i32_rng x130; omega⟩ (fun x161 e162 => ?_)
                refine yT.p (pc' := 39) rfl rfl (fun _ _ _ _ => rfl) ?_
                exact ih138 _ _ x129 x161 hT159 (xg_ne (xg_ne (xg_ne g131 rfl) rfl) rfl) (xg_ne (xg_ne (xg_ne g132 rfl) rfl) rfl) (xg_ne (xg_ne (xg_ne g133 rfl) rfl) rfl) xg_eq (by omega) (by have := i32_rng x161; omega)
              · have i163 : 0 ≤ x148.toInt ∧ x148.toInt < 24 := (show _ ∨ _ from E152).elim (fun e => by cases e) id
                refine yT.p (pc' := 71) (lv' := xst1 _ 5 (.ref (q153 + 1))) rfl rfl (fun _ _ _ _ => rfl) ?_
                refine yT.aa_ (pc' := 73) xg_eq rfl rfl rfl ?_
                refine yT.p (pc' := 76) rfl rfl (fun _ _ _ _ => rfl) ?_
                refine yT.aa_ (pc' := 78) xg_eq rfl rfl rfl ?_
                refine yT.cgI (pc' := 81) rfl rfl hT151 o154 rfl rfl (fun x165 w164 => ?_)
                refine yT.kI (pc' := 82) rfl rfl (by decide) (fun x166 e167 => ?_)
                refine yT.if2 (t := 120) (pc' := 85) rfl rfl rfl (c2_ne rfl e167) (fun c168 => ?_) (fun c168 => ?_)
                · refine yT.aan (pc' := 121) (xg_ne (xg_ne g131 rfl) rfl) rfl rfl rfl ?_
                  refine yT.cgR (pc' := 124) rfl rfl hT151 o0 rfl rfl (fun q170 w169 o171 => ?_)
                  refine kV (yT.cc (G2 := 0) (pc' := 127) rfl rfl rfl hT151 o171 xM_60 (c60 hT151 o171) rfl (by decide) (by decide) rfl) (fun h172 hT173 E174 => ?_)
                  refine yT.inc (pc' := 130) (xg_ne (xg_ne g134 rfl) rfl) rfl rfl rfl rfl ⟨by decide, by have := i32_rng x1; have := i32_rng x130; omega⟩ (fun x175 e176 => ?_)
                  refine yT.p (pc' := 39) rfl rfl (fun _ _ _ _ => rfl) ?_
                  exact ih138 _ _ x129 x175 hT173 (xg_ne (xg_ne (xg_ne g131 rfl) rfl) rfl) (xg_ne (xg_ne (xg_ne g132 rfl) rfl) rfl) (xg_ne (xg_ne (xg_ne g133 rfl) rfl) rfl) xg_eq (by omega) (by have := i32_rng x175; omega)
                · refine yT.aa_ (pc' := 87) xg_eq rfl rfl rfl ?_
                  refine yT.cgZ (pc' := 90) rfl rfl hT151 o154 rfl rfl (fun x178 w177 b179 => ?_)
                  have i180 := b01i b179
                  refine yT.if1 (t := 120) (pc' := 93) rfl rfl rfl (c1_ne rfl) (fun c181 => ?_) (fun c181 => ?_)
                  · refine yT.aan (pc' := 121) (xg_ne (xg_ne g131 rfl) rfl) rfl rfl rfl ?_
                    refine yT.cgR (pc' := 124) rfl rfl hT151 o0 rfl rfl (fun q183 w182 o184 => ?_)
                    refine kV (yT.cc (G2 := 0) (pc' := 127) rfl rfl rfl hT151 o184 xM_60 (c60 hT151 o184) rfl (by decide) (by decide) rfl) (fun h185 hT186 E187 => ?_)
                    refine yT.inc (pc' := 130) (xg_ne (xg_ne g134 rfl) rfl) rfl rfl rfl rfl ⟨by decide, by have := i32_rng x1; have := i32_rng x130; omega⟩ (fun x188 e189 => ?_)
                    refine yT.p (pc' := 39) rfl rfl (fun _ _ _ _ => rfl) ?_
                    exact ih138 _ _ x129 x188 hT186 (xg_ne (xg_ne (xg_ne g131 rfl) rfl) rfl) (xg_ne (xg_ne (xg_ne g132 rfl) rfl) rfl) (xg_ne (xg_ne (xg_ne g133 rfl) rfl) rfl) xg_eq (by omega) (by have := i32_rng x188; omega)
                  · refine yT.aan (pc' := 94) (xg_ne (xg_ne g131 rfl) rfl) rfl rfl rfl ?_
                    refine yT.cgR (pc' := 97) rfl rfl hT151 o0 rfl rfl (fun q191 w190 o192 => ?_)
                    refine yT.il (pc' := 99) (xg_ne xg_eq rfl) rfl rfl ?_
                    refine yT.aan (pc' := 100) (xg_ne (xg_ne g131 rfl) rfl) rfl rfl rfl ?_
                    refine yT.cg8 (pc' := 103) rfl rfl hT151 o0 rfl rfl (fun w193 => ?_)
                    refine yT.kb (pc' := 105) rfl rfl (by decide) (fun x194 e195 => ?_)
                    refine kI (yT.cc (G2 := 0) (pc' := 108) rfl rfl rfl hT151 (K.up rfl) xM_105 (c105 hT151 (K.up rfl) x194) rfl (by decide) (by decide) rfl) (fun h196 x199 hT197 E198 => ?_)
                    refine yT.kb (pc' := 110) rfl rfl (by decide) (fun x200 e201 => ?_)
                    refine yT.fi (pc' := 111) rfl rfl (fun _ _ _ _ => rfl) (fun x202 => ?_)
                    refine kZ (yT.cc (G2 := 0) (pc' := 114) rfl rfl rfl hT197 o192 xM_61 (c61 hT197 o192 x148 x202) rfl (by decide) (by decide) rfl) (fun h203 x206 hT204 E205 b207 => ?_)
                    have i208 := b01i b207
                    refine yT.if1 (t := 120) (pc' := 117) rfl rfl rfl (c1_eq rfl) (fun c209 => ?_) (fun c209 => ?_)
                    · refine yT.aan (pc' := 121) (xg_ne (xg_ne g131 rfl) rfl) rfl rfl rfl ?_
                      refine yT.cgR (pc' := 124) rfl rfl hT204 o0 rfl rfl (fun q211 w210 o212 => ?_)
                      refine kV (yT.cc (G2 := 0) (pc' := 127) rfl rfl rfl hT204 o212 xM_60 (c60 hT204 o212) rfl (by decide) (by decide) rfl) (fun h213 hT214 E215 => ?_)
                      refine yT.inc (pc' := 130) (xg_ne (xg_ne g134 rfl) rfl) rfl rfl rfl rfl ⟨by decide, by have := i32_rng x1; have := i32_rng x130; omega⟩ (fun x216 e217 => ?_)
                      refine yT.p (pc' := 39) rfl rfl (fun _ _ _ _ => rfl) ?_
                      exact ih138 _ _ x129 x216 hT214 (xg_ne (xg_ne (xg_ne g131 rfl) rfl) rfl) (xg_ne (xg_ne (xg_ne g132 rfl) rfl) rfl) (xg_ne (xg_ne (xg_ne g133 rfl) rfl) rfl) xg_eq (by omega) (by have := i32_rng x216; omega)
                    · refine yT.incF (pc' := 120) (xg_ne (xg_ne g133 rfl) rfl) rfl rfl rfl (fun x218 => ?_)
                      refine yT.aan (pc' := 121) (xg_ne (xg_ne (xg_ne g131 rfl) rfl) rfl) rfl rfl rfl ?_
                      refine yT.cgR (pc' := 124) rfl rfl hT204 o0 rfl rfl (fun q220 w219 o221 => ?_)
                      refine kV (yT.cc (G2 := 0) (pc' := 127) rfl rfl rfl hT204 o221 xM_60 (c60 hT204 o221) rfl (by decide) (by decide) rfl) (fun h222 hT223 E224 => ?_)
                      refine yT.inc (pc' := 130) (xg_ne (xg_ne (xg_ne g134 rfl) rfl) rfl) rfl rfl rfl rfl ⟨by decide, by have := i32_rng x1; have := i32_rng x130; omega⟩ (fun x225 e226 => ?_)
                      refine yT.p (pc' := 39) rfl rfl (fun _ _ _ _ => rfl) ?_
                      exact ih138 _ _ x218 x225 hT223 (xg_ne (xg_ne (xg_ne (xg_ne g131 rfl) rfl) rfl) rfl) (xg_ne (xg_ne (xg_ne (xg_ne g132 rfl) rfl) rfl) rfl) (xg_ne xg_eq rfl) xg_eq (by omega) (by have := i32_rng x225; omega)
        exact L125 _ _ _ x121 x123 hT117 (xg_ne (xg_ne g0 rfl) rfl) (xg_ne (xg_ne g1 rfl) rfl) (xg_ne xg_eq rfl) xg_eq (by omega) (Nat.lt_succ_self _)
      · refine yT.aan (pc' := 29) g0 rfl rfl rfl ?_
        refine yT.kb (pc' := 31) rfl rfl (by decide) (fun x227 e228 => ?_)
        refine kI (yT.cc (G2 := 0) (pc' := 34) rfl rfl rfl hT117 o0 xM_153 (c153 hT117 K o0 x227) rfl (by decide) (by decide) rfl) (fun h229 x232 hT230 E231 => ?_)
        have e233 : x232 = x227 := by have e : some (Value.int x232) = some (.int x227) := E231; injection e with e; injection e
        have e234 : x232.toInt = (-5) := by first | (rw [e233]; done) | (rw [e233]; exact e228)
        exact yT.retI rfl rfl (qI hT230 trivial)
    · refine yT.aan (pc' := 12) g0 rfl rfl rfl ?_
      refine yT.kb (pc' := 14) rfl rfl (by decide) (fun x235 e236 => ?_)
      refine kI (yT.cc (G2 := 0) (pc' := 17) rfl rfl rfl hT o0 xM_153 (c153 hT K o0 x235) rfl (by decide) (by decide) rfl) (fun h237 x240 hT238 E239 => ?_)
      have e241 : x240 = x235 := by have e : some (Value.int x240) = some (.int x235) := E239; injection e with e; injection e
      have e242 : x240.toInt = (-2) := by first | (rw [e241]; done) | (rw [e241]; exact e236)
      exact yT.retI rfl rfl (qI hT238 trivial)
-- rX8_seed
set_option maxRecDepth 100000 in
set_option maxHeartbeats 4000000 in
theorem c147 {ks : List cT} {σ : Nat → Nat → Int32} {ρ : Nat → xE} {h : List xE} (hT : HT ks σ ρ h) {B0 : Nat} (K : KE KS0 ks B0) {q0 : Nat} (o0 : xnth ks q0 = some (18, 0)) (x1 : Int32) : yM 147 (0) 0 [.ref (q0 + 1), .int x1] h (CQ ks σ ρ (0, 0, 0) yT0) := by
  refine yM.st xM_147 rfl rfl (fun lv g => ?_)
  have g0 := g 0 _ rfl
  have g1 := g 1 _ rfl
  refine yT.aan (pc' := 1) g0 rfl rfl rfl ?_
  refine yT.cg8 (pc' := 4) rfl rfl hT o0 rfl rfl (fun w101 => ?_)
  refine yT.cgI (pc' := 7) rfl rfl hT (K.up rfl) rfl rfl (fun x103 w102 => ?_)
  refine yT.p (pc' := 8) (lv' := xst1 _ 2 (.int x103)) rfl rfl (fun _ _ _ _ => rfl) ?_
  refine yT.aan (pc' := 9) (xg_ne g0 rfl) rfl rfl rfl ?_
  refine yT.cgk (pc' := 12) rfl rfl w101 ?_
  refine yT.iln (pc' := 13) (xg_ne g1 rfl) rfl rfl ?_
  refine yT.cpI (pc' := 16) rfl rfl hT (K.up rfl) rfl rfl rfl (fun h104 hT105 w106 fv107 => ?_)
  refine yT.iln (pc' := 17) xg_eq rfl rfl ?_
  exact yT.retI rfl rfl (qI hT105 trivial)
-- rX8_heldCount
set_option maxRecDepth 100000 in
set_option maxHeartbeats 4000000 in
theorem c151 {ks : List cT} {σ : Nat → Nat → Int32} {ρ : Nat → xE} {h : List xE} (hT : HT ks σ ρ h) {B0 : Nat} (K : KE KS0 ks B0) {q0 : Nat} (o0 : xnth ks q0 = some (18, 0)) : yM 151 (2) 0 [.ref (q0 + 1)] h (CQ ks σ ρ (0, 0, 0) yT0) := by
  refine yM.st xM_151 rfl rfl (fun lv g => ?_)
  have g0 := g 0 _ rfl
  refine yT.kI (pc' := 1) rfl rfl (by decide) (fun x101 e102 => ?_)
  refine yT.p (pc' := 2) (lv' := xst1 _ 1 (.int x101)) rfl rfl (fun _ _ _ _ => rfl) ?_
  refine yT.kI (pc' := 3) rfl rfl (by decide) (fun x103 e104 => ?_)
  refine yT.p (pc' := 4) (lv' := xst1 _ 2 (.int x103)) rfl rfl (fun _ _ _ _ => rfl) ?_
  have L105 : ∀ (n115 : Nat) (lv106 : xLv) (h107 : List xE) (x109 : Int32) (x110 : Int32), HT ks σ ρ h107 → xget lv106 0 = some (.ref (q0 + 1)) → xget lv106 1 = some (.int x109) → xget lv106 2 = some (.int x110) → 0 ≤ x110.toInt → (2147483647 - x110.toInt).toNat < n115 → yT 0 [] rX8_heldCount (2) 0 4 lv106 [] h107 (CQ ks σ ρ (0, 0, 0) yT0) := by
    intro n115
    induction n115 with
    | zero => intro lv106 h107 x109 x110 hT108 g111 g112 g113 i114 m116; exact absurd m116 (Nat.not_lt_zero _)
    | succ n115 ih117 =>
      intro lv106 h107 x109 x110 hT108 g111 g112 g113 i114 m116
      refine yT.iln (pc' := 5) g113 rfl rfl ?_
      refine yT.aan (pc' := 6) g111 rfl rfl rfl ?_
      refine yT.cgR (pc' := 9) rfl rfl hT108 o0 rfl rfl (fun q119 w118 o120 => ?_)
      refine yT.cal (pc' := 10) rfl rfl hT108 o120 rfl (by omega) (fun x121 e122 => ?_)
      refine yT.if2 (t := 31) (pc' := 13) rfl rfl rfl (c2_ge rfl e122) (fun c123 => ?_) (fun c123 => ?_)
      · refine yT.iln (pc' := 32) g112 rfl rfl ?_
        exact yT.retI rfl rfl (qI hT108 trivial)
      · refine yT.aan (pc' := 14) g111 rfl rfl rfl ?_
        refine yT.iln (pc' := 15) g113 rfl rfl ?_
        refine kI (yT.cc (G2 := 0) (pc' := 18) rfl rfl rfl hT108 o0 xM_111 (c111 hT108 K o0 x110) rfl (by decide) (by decide) rfl) (fun h124 x127 hT125 E126 => ?_)
        refine yT.kI (pc' := 19) rfl rfl (by decide) (fun x128 e129 => ?_)
        refine yT.if2 (t := 25) (pc' := 22) rfl rfl rfl (c2_eq rfl e129) (fun c130 => ?_) (fun c130 => ?_)
        · refine yT.inc (pc' := 28) g113 rfl rfl rfl rfl ⟨by decide, by have := i32_rng x110; omega⟩ (fun x131 e132 => ?_)
          refine yT.p (pc' := 4) rfl rfl (fun _ _ _ _ => rfl) ?_
          exact ih117 _ _ x109 x131 hT125 (xg_ne g111 rfl) (xg_ne g112 rfl) xg_eq (by omega) (by have := i32_rng x131; omega)
        · refine yT.incF (pc' := 25) g112 rfl rfl rfl (fun x133 => ?_)
          refine yT.inc (pc' := 28) (xg_ne g113 rfl) rfl rfl rfl rfl ⟨by decide, by have := i32_rng x110; omega⟩ (fun x134 e135 => ?_)
          refine yT.p (pc' := 4) rfl rfl (fun _ _ _ _ => rfl) ?_
          exact ih117 _ _ x133 x134 hT125 (xg_ne (xg_ne g111 rfl) rfl) (xg_ne xg_eq rfl) xg_eq (by omega) (by have := i32_rng x134; omega)
  exact L105 _ _ _ x101 x103 hT (xg_ne (xg_ne g0 rfl) rfl) (xg_ne xg_eq rfl) xg_eq (by omega) (Nat.lt_succ_self _)
-- rX8_refusalCount
set_option maxRecDepth 100000 in
set_option maxHeartbeats 4000000 in
theorem c152 {ks : List cT} {σ : Nat → Nat → Int32} {ρ : Nat → xE} {h : List xE} (hT : HT ks σ ρ h) {B0 : Nat} (K : KE KS0 ks B0) {q0 : Nat} (o0 : xnth ks q0 = some (18, 0)) (x1 : Int32) : yM 152 (0) 0 [.ref (q0 + 1), .int x1] h (CQ ks σ ρ (0, 0, 0) yT0) := by
  refine yM.st xM_152 rfl rfl (fun lv g => ?_)
  have g0 := g 0 _ rfl
  have g1 := g 1 _ rfl
  refine yT.iln (pc' := 1) g1 rfl rfl ?_
  refine yT.if1 (t := 22) (pc' := 4) rfl rfl rfl (c1_lt rfl) (fun c101 => ?_) (fun c101 => ?_)
  · refine yT.kI (pc' := 23) rfl rfl (by decide) (fun x102 e103 => ?_)
    exact yT.retI rfl rfl (qI hT trivial)
  · refine yT.iln (pc' := 5) g1 rfl rfl ?_
    refine yT.aan (pc' := 6) g0 rfl rfl rfl ?_
    refine yT.cgR (pc' := 9) rfl rfl hT o0 rfl rfl (fun q105 w104 o106 => ?_)
    refine yT.cal (pc' := 10) rfl rfl hT o106 rfl (by omega) (fun x107 e108 => ?_)
    refine yT.if2 (t := 22) (pc' := 13) rfl rfl rfl (c2_ge rfl e108) (fun c109 => ?_) (fun c109 => ?_)
    · refine yT.kI (pc' := 23) rfl rfl (by decide) (fun x110 e111 => ?_)
      exact yT.retI rfl rfl (qI hT trivial)
    · refine yT.aan (pc' := 14) g0 rfl rfl rfl ?_
      refine yT.cgk (pc' := 17) rfl rfl w104 ?_
      refine yT.iln (pc' := 18) g1 rfl rfl ?_
      refine yT.cia (pc' := 19) rfl rfl hT o106 rfl (by omega) (fun x112 => ?_)
      refine yT.p (pc' := 23) rfl rfl (fun _ _ _ _ => rfl) ?_
      exact yT.retI rfl rfl (qI hT trivial)
-- rX8_status
set_option maxRecDepth 100000 in
set_option maxHeartbeats 4000000 in
theorem c150 {ks : List cT} {σ : Nat → Nat → Int32} {ρ : Nat → xE} {h : List xE} (hT : HT ks σ ρ h) {B0 : Nat} (K : KE KS0 ks B0) {q0 : Nat} (o0 : xnth ks q0 = some (18, 0)) (x1 : Int32) : yM 150 (3) 0 [.ref (q0 + 1), .int x1] h (CQ ks σ ρ (0, 0, 0) yT0) := by
  refine yM.st xM_150 rfl rfl (fun lv g => ?_)
  have g0 := g 0 _ rfl
  have g1 := g 1 _ rfl
  refine yT.iln (pc' := 1) g1 rfl rfl ?_
  by_cases c101 : x1.toInt = 0
  · refine yT.tswK 0 (t := 56) rfl rfl (by omega) rfl rfl ?_
    refine yT.aan (pc' := 57) g0 rfl rfl rfl ?_
    refine yT.cg8 (pc' := 60) rfl rfl hT o0 rfl rfl (fun w102 => ?_)
    refine kI (yT.cc (G2 := 0) (pc' := 63) rfl rfl rfl hT (K.up rfl) xM_85 (c85 hT (K.up rfl)) rfl (by decide) (by decide) rfl) (fun h103 x106 hT104 E105 => ?_)
    exact yT.retI rfl rfl (qI hT104 trivial)
  · by_cases c107 : x1.toInt = 1
    · refine yT.tswK 1 (t := 64) rfl rfl (by omega) rfl rfl ?_
      refine yT.aan (pc' := 65) g0 rfl rfl rfl ?_
      refine yT.cg8 (pc' := 68) rfl rfl hT o0 rfl rfl (fun w108 => ?_)
      refine kI (yT.cc (G2 := 0) (pc' := 71) rfl rfl rfl hT (K.up rfl) xM_98 (c98 hT (K.up rfl)) rfl (by decide) (by decide) rfl) (fun h109 x112 hT110 E111 => ?_)
      exact yT.retI rfl rfl (qI hT110 trivial)
    · by_cases c113 : x1.toInt = 2
      · refine yT.tswK 2 (t := 72) rfl rfl (by omega) rfl rfl ?_
        refine yT.aan (pc' := 73) g0 rfl rfl rfl ?_
        refine yT.cg8 (pc' := 76) rfl rfl hT o0 rfl rfl (fun w114 => ?_)
        refine yT.cgX (pc' := 79) rfl rfl hT (K.up rfl) rfl rfl (fun x116 w115 i117 i118 z119 => ?_)
        exact yT.retI rfl rfl (qI hT trivial)
      · by_cases c120 : x1.toInt = 3
        · refine yT.tswK 3 (t := 80) rfl rfl (by omega) rfl rfl ?_
          refine yT.aan (pc' := 81) g0 rfl rfl rfl ?_
          refine yT.cg8 (pc' := 84) rfl rfl hT o0 rfl rfl (fun w121 => ?_)
          refine yT.cgR (pc' := 87) rfl rfl hT (K.up rfl) rfl rfl (fun q123 w122 o124 => ?_)
          refine kS (yT.cc (G2 := 0) (pc' := 90) rfl rfl rfl hT o124 xM_44 (c44 hT o124 (by decide)) rfl (by decide) (by decide) rfl) (fun h125 x128 hT126 E127 i129 i130 => ?_)
          exact yT.retI rfl rfl (qI hT126 trivial)
        · by_cases c131 : x1.toInt = 4
          · refine yT.tswK 4 (t := 91) rfl rfl (by omega) rfl rfl ?_
            refine yT.aan (pc' := 92) g0 rfl rfl rfl ?_
            refine yT.cg8 (pc' := 95) rfl rfl hT o0 rfl rfl (fun w132 => ?_)
            refine yT.cgR (pc' := 98) rfl rfl hT (K.up rfl) rfl rfl (fun q134 w133 o135 => ?_)
            refine kI (yT.cc (G2 := 0) (pc' := 101) rfl rfl rfl hT o135 xM_45 (c45 hT o135 (by decide)) rfl (by decide) (by decide) rfl) (fun h136 x139 hT137 E138 => ?_)
            exact yT.retI rfl rfl (qI hT137 trivial)
          · by_cases c140 : x1.toInt = 5
            · refine yT.tswK 5 (t := 102) rfl rfl (by omega) rfl rfl ?_
              refine yT.aan (pc' := 103) g0 rfl rfl rfl ?_
              refine yT.cg8 (pc' := 106) rfl rfl hT o0 rfl rfl (fun w141 => ?_)
              refine yT.cgR (pc' := 109) rfl rfl hT (K.up rfl) rfl rfl (fun q143 w142 o144 => ?_)
              refine kI (yT.cc (G2 := 0) (pc' := 112) rfl rfl rfl hT o144 xM_45 (c45 hT o144 (by decide)) rfl (by decide) (by decide) rfl) (fun h145 x148 hT146 E147 => ?_)
              exact yT.retI rfl rfl (qI hT146 trivial)
            · by_cases c149 : x1.toInt = 6
              · refine yT.tswK 6 (t := 113) rfl rfl (by omega) rfl rfl ?_
                refine yT.aan (pc' := 114) g0 rfl rfl rfl ?_
                refine yT.cg8 (pc' := 117) rfl rfl hT o0 rfl rfl (fun w150 => ?_)
                refine kI (yT.cc (G2 := 0) (pc' := 120) rfl rfl rfl hT (K.up rfl) xM_100 (c100 hT (K.up rfl)) rfl (by decide) (by decide) rfl) (fun h151 x154 hT152 E153 => ?_)
                exact yT.retI rfl rfl (qI hT152 trivial)
              · by_cases c155 : x1.toInt = 7
                · refine yT.tswK 7 (t := 121) rfl rfl (by omega) rfl rfl ?_
                  refine yT.aan (pc' := 122) g0 rfl rfl rfl ?_
                  refine yT.cg8 (pc' := 125) rfl rfl hT o0 rfl rfl (fun w156 => ?_)
                  refine kS (yT.cc (G2 := 0) (pc' := 128) rfl rfl rfl hT (K.up rfl) xM_44 (c44t hT (K.up rfl)) rfl (by decide) (by decide) rfl) (fun h157 x160 hT158 E159 i161 i162 => ?_)
                  exact yT.retI rfl rfl (qI hT158 trivial)
                · by_cases c163 : x1.toInt = 8
                  · refine yT.tswK 8 (t := 129) rfl rfl (by omega) rfl rfl ?_
                    refine yT.aan (pc' := 130) g0 rfl rfl rfl ?_
                    refine yT.cg8 (pc' := 133) rfl rfl hT o0 rfl rfl (fun w164 => ?_)
                    refine yT.cgI (pc' := 136) rfl rfl hT (K.up rfl) rfl rfl (fun x166 w165 => ?_)
                    exact yT.retI rfl rfl (qI hT trivial)
                  · by_cases c167 : x1.toInt = 9
                    · refine yT.tswK 9 (t := 137) rfl rfl (by omega) rfl rfl ?_
                      refine yT.aan (pc' := 138) g0 rfl rfl rfl ?_
                      refine kI (yT.cc (G2 := 0) (pc' := 141) rfl rfl rfl hT o0 xM_151 (c151 hT K o0) rfl (by decide) (by decide) rfl) (fun h168 x171 hT169 E170 => ?_)
                      exact yT.retI rfl rfl (qI hT169 trivial)
                    · refine yT.tswD (t := 142) rfl rfl rfl (by omega) ?_
                      refine yT.aan (pc' := 143) g0 rfl rfl rfl ?_
                      refine yT.iln (pc' := 144) g1 rfl rfl ?_
                      refine yT.kb (pc' := 146) rfl rfl (by decide) (fun x172 e173 => ?_)
                      refine yT.fi (pc' := 147) rfl rfl (fun _ _ _ _ => rfl) (fun x174 => ?_)
                      refine kI (yT.cc (G2 := 0) (pc' := 150) rfl rfl rfl hT o0 xM_152 (c152 hT K o0 x174) rfl (by decide) (by decide) rfl) (fun h175 x178 hT176 E177 => ?_)
                      exact yT.retI rfl rfl (qI hT176 trivial)
-- rX8_refuseFault
set_option maxRecDepth 100000 in
set_option maxHeartbeats 4000000 in
theorem c155 {ks : List cT} {σ : Nat → Nat → Int32} {ρ : Nat → xE} {h : List xE} (hT : HT ks σ ρ h) {B0 : Nat} (K : KE KS0 ks B0) {q0 : Nat} (o0 : xnth ks q0 = some (18, 0)) : yM 155 (1) 0 [.ref (q0 + 1)] h (CQ ks σ ρ (0, 0, 0) yT0) := by
  refine yM.st xM_155 rfl rfl (fun lv g => ?_)
  have g0 := g 0 _ rfl
  refine yT.aan (pc' := 1) g0 rfl rfl rfl ?_
  refine yT.kb (pc' := 3) rfl rfl (by decide) (fun x101 e102 => ?_)
  refine kI (yT.cc (G2 := 0) (pc' := 6) rfl rfl rfl hT o0 xM_153 (c153 hT K o0 x101) rfl (by decide) (by decide) rfl) (fun h103 x106 hT104 E105 => ?_)
  have e107 : x106 = x101 := by have e : some (Value.int x106) = some (.int x101) := E105; injection e with e; injection e
  have e108 : x106.toInt = (-2) := by first | (rw [e107]; done) | (rw [e107]; exact e102)
  refine yT.p (pc' := 7) rfl rfl (fun _ _ _ _ => rfl) ?_
  refine yT.ks (pc' := 10) rfl rfl (by decide) (fun x109 e110 => ?_)
  refine yT.aan (pc' := 11) g0 rfl rfl rfl ?_
  refine yT.cgR (pc' := 14) rfl rfl hT104 o0 rfl rfl (fun q112 w111 o113 => ?_)
  refine kI (yT.cc (G2 := 0) (pc' := 17) rfl rfl rfl hT104 o113 xM_21 (c21 hT104 o113) rfl (by decide) (by decide) rfl) (fun h114 x117 hT115 E116 => ?_)
  refine yT.fi (pc' := 18) rfl rfl (fun _ _ _ _ => rfl) (fun x118 => ?_)
  exact yT.retI rfl rfl (qI hT115 trivial)
