-- rX8_days
set_option maxRecDepth 100000 in
set_option maxHeartbeats 4000000 in
theorem c146 {ks : List cT} {σ : Nat → Nat → Int32} {ρ : Nat → xE} {h : List xE} (hT : HT ks σ ρ h) {q0 : Nat} (o0 : xnth ks q0 = some (18, 0)) (x1 : Int32) : yM 146 (402) 0 [.ref (q0 + 1), .int x1] h (CQ ks σ ρ (0, 0, 0) yT0) := by
  refine yM.st xM_146 rfl rfl (fun lv g => ?_)
  have g0 := g 0 _ rfl
  have g1 := g 1 _ rfl
  refine yT.iln (pc' := 1) g1 rfl rfl ?_
  refine yT.kI (pc' := 2) rfl rfl (by decide) (fun x101 e102 => ?_)
  refine yT.if2 (t := 11) (pc' := 5) rfl rfl rfl (c2_lt rfl e102) (fun c103 => ?_) (fun c103 => ?_)
  · refine yT.aan (pc' := 12) g0 rfl rfl rfl ?_
    refine yT.kb (pc' := 14) rfl rfl (by decide) (fun x104 e105 => ?_)
    refine kI (yT.cc (G2 := 0) (pc' := 17) rfl rfl rfl hT o0 xM_153 (c153 hT o0 x104) rfl (by decide) (by decide) rfl) (fun h106 x109 hT107 E108 => ?_)
    have e110 : x109 = x104 := by have e : some (Value.int x109) = some (.int x104) := E108; injection e with e; injection e
    have e111 : x109.toInt = (-2) := by first | (rw [e110]; done) | (rw [e110]; exact e105)
    exact yT.retI rfl rfl (qI hT107 trivial)
  · refine yT.iln (pc' := 6) g1 rfl rfl ?_
    refine yT.kb (pc' := 8) rfl rfl (by decide) (fun x112 e113 => ?_)
    refine yT.if2 (t := 18) (pc' := 11) rfl rfl rfl (c2_le rfl e113) (fun c114 => ?_) (fun c114 => ?_)
    · refine yT.aan (pc' := 19) g0 rfl rfl rfl ?_
      refine yT.cgR (pc' := 22) rfl rfl hT o0 rfl rfl (fun q116 w115 o117 => ?_)
      refine kI (yT.cc (G2 := 0) (pc' := 25) rfl rfl rfl hT o117 xM_85 (c85 hT o117) rfl (by decide) (by decide) rfl) (fun h118 x121 hT119 E120 => ?_)
      refine yT.if1 (t := 35) (pc' := 28) rfl rfl rfl (c1_ne rfl) (fun c122 => ?_) (fun c122 => ?_)
      · refine yT.kI (pc' := 36) rfl rfl (by decide) (fun x123 e124 => ?_)
        refine yT.p (pc' := 37) (lv' := xst1 _ 2 (.int x123)) rfl rfl (fun _ _ _ _ => rfl) ?_
        refine yT.kI (pc' := 38) rfl rfl (by decide) (fun x125 e126 => ?_)
        refine yT.p (pc' := 39) (lv' := xst1 _ 3 (.int x125)) rfl rfl (fun _ _ _ _ => rfl) ?_
        have L127 : ∀ (n138 : Nat) (lv128 : xLv) (h129 : List xE) (x131 : Int32) (x132 : Int32), HT ks σ ρ h129 → xget lv128 0 = some (.ref (q0 + 1)) → xget lv128 1 = some (.int x1) → xget lv128 2 = some (.int x131) → xget lv128 3 = some (.int x132) → 0 ≤ x132.toInt → (2147483647 - x132.toInt).toNat < n138 → yT 0 [] rX8_days (402) 0 39 lv128 [] h129 (CQ ks σ ρ (0, 0, 0) yT0) := by
          intro n138
          induction n138 with
          | zero => intro lv128 h129 x131 x132 hT130 g133 g134 g135 g136 i137 m139; exact absurd m139 (Nat.not_lt_zero _)
          | succ n138 ih140 =>
            intro lv128 h129 x131 x132 hT130 g133 g134 g135 g136 i137 m139
            refine yT.iln (pc' := 40) g136 rfl rfl ?_
            refine yT.iln (pc' := 41) g134 rfl rfl ?_
            refine yT.if2 (t := 133) (pc' := 44) rfl rfl rfl (c2_ge rfl rfl) (fun c141 => ?_) (fun c141 => ?_)
            · refine yT.iln (pc' := 134) g135 rfl rfl ?_
              exact yT.retI rfl rfl (qI hT130 trivial)
            · refine yT.aan (pc' := 45) g133 rfl rfl rfl ?_
              refine yT.cgR (pc' := 48) rfl rfl hT130 o0 rfl rfl (fun q143 w142 o144 => ?_)
              refine yT.aan (pc' := 49) g133 rfl rfl rfl ?_
              refine yT.cgk (pc' := 52) rfl rfl w142 ?_
              refine kI (yT.cc (G2 := 0) (pc' := 55) rfl rfl rfl hT130 o144 xM_85 (c85 hT130 o144) rfl (by decide) (by decide) rfl) (fun h145 x148 hT146 E147 => ?_)
              refine kI (yT.cc (G2 := 0) (pc' := 58) rfl rfl rfl hT146 o144 xM_105 (c105 hT146 o144 x148) rfl (by decide) (by decide) rfl) (fun h149 x152 hT150 E151 => ?_)
              refine yT.p (pc' := 60) (lv' := xst1 _ 4 (.int x152)) rfl rfl (fun _ _ _ _ => rfl) ?_
              refine yT.aan (pc' := 61) (xg_ne g133 rfl) rfl rfl rfl ?_
              refine yT.cgR (pc' := 64) rfl rfl hT150 o0 rfl rfl (fun q154 w153 o155 => ?_)
              refine yT.il (pc' := 66) xg_eq rfl rfl ?_
              refine kN (yT.cc (G2 := 0) (pc' := 69) rfl rfl rfl hT150 o155 xM_87 (c87 hT150 o155 x152) rfl (by decide) (by decide) rfl) (fun h156 hT157 E158 => ?_) (fun h156 q159 hT157 E158 o160 => ?_)
              · refine yT.p (pc' := 71) (lv' := xst1 _ 5 (.null)) rfl rfl (fun _ _ _ _ => rfl) ?_
                refine yT.aa_ (pc' := 73) xg_eq rfl rfl rfl ?_
                refine yT.p (pc' := 120) rfl rfl (fun _ _ _ _ => rfl) ?_
                refine yT.aan (pc' := 121) (xg_ne (xg_ne g133 rfl) rfl) rfl rfl rfl ?_
                refine yT.cgR (pc' := 124) rfl rfl hT157 o0 rfl rfl (fun q162 w161 o163 => ?_)
                refine kV (yT.cc (G2 := 0) (pc' := 127) rfl rfl rfl hT157 o163 xM_60 (c60 hT157 o163) rfl (by decide) (by decide) rfl) (fun h164 hT165 E166 => ?_)
                refine yT.inc (pc' := 130) (xg_ne (xg_ne g136 rfl) rfl) rfl rfl rfl rfl ⟨by decide, by have := i32_rng x1; have := i32_rng x132; omega⟩ (fun x167 e168 => ?_)
                refine yT.p (pc' := 39) rfl rfl (fun _ _ _ _ => rfl) ?_
                exact ih140 _ _ x131 x167 hT165 (xg_ne (xg_ne (xg_ne g133 rfl) rfl) rfl) (xg_ne (xg_ne (xg_ne g134 rfl) rfl) rfl) (xg_ne (xg_ne (xg_ne g135 rfl) rfl) rfl) xg_eq (by omega) (by have := i32_rng x167; omega)
              · have i169 : 0 ≤ x152.toInt ∧ x152.toInt < 24 := (show _ ∨ _ from E158).elim (fun e => by cases e) id
                refine yT.p (pc' := 71) (lv' := xst1 _ 5 (.ref (q159 + 1))) rfl rfl (fun _ _ _ _ => rfl) ?_
                refine yT.aa_ (pc' := 73) xg_eq rfl rfl rfl ?_
                refine yT.p (pc' := 76) rfl rfl (fun _ _ _ _ => rfl) ?_
                refine yT.aa_ (pc' := 78) xg_eq rfl rfl rfl ?_
                refine yT.cgI (pc' := 81) rfl rfl hT157 o160 rfl rfl (fun x171 w170 => ?_)
                refine yT.kI (pc' := 82) rfl rfl (by decide) (fun x172 e173 => ?_)
                refine yT.if2 (t := 120) (pc' := 85) rfl rfl rfl (c2_ne rfl e173) (fun c174 => ?_) (fun c174 => ?_)
                · refine yT.aan (pc' := 121) (xg_ne (xg_ne g133 rfl) rfl) rfl rfl rfl ?_
                  refine yT.cgR (pc' := 124) rfl rfl hT157 o0 rfl rfl (fun q176 w175 o177 => ?_)
                  refine kV (yT.cc (G2 := 0) (pc' := 127) rfl rfl rfl hT157 o177 xM_60 (c60 hT157 o177) rfl (by decide) (by decide) rfl) (fun h178 hT179 E180 => ?_)
                  refine yT.inc (pc' := 130) (xg_ne (xg_ne g136 rfl) rfl) rfl rfl rfl rfl ⟨by decide, by have := i32_rng x1; have := i32_rng x132; omega⟩ (fun x181 e182 => ?_)
                  refine yT.p (pc' := 39) rfl rfl (fun _ _ _ _ => rfl) ?_
                  exact ih140 _ _ x131 x181 hT179 (xg_ne (xg_ne (xg_ne g133 rfl) rfl) rfl) (xg_ne (xg_ne (xg_ne g134 rfl) rfl) rfl) (xg_ne (xg_ne (xg_ne g135 rfl) rfl) rfl) xg_eq (by omega) (by have := i32_rng x181; omega)
                · refine yT.aa_ (pc' := 87) xg_eq rfl rfl rfl ?_
                  refine yT.cgZ (pc' := 90) rfl rfl hT157 o160 rfl rfl (fun x184 w183 b185 => ?_)
                  have i186 := b01i b185
                  refine yT.if1 (t := 120) (pc' := 93) rfl rfl rfl (c1_ne rfl) (fun c187 => ?_) (fun c187 => ?_)
                  · refine yT.aan (pc' := 121) (xg_ne (xg_ne g133 rfl) rfl) rfl rfl rfl ?_
                    refine yT.cgR (pc' := 124) rfl rfl hT157 o0 rfl rfl (fun q189 w188 o190 => ?_)
                    refine kV (yT.cc (G2 := 0) (pc' := 127) rfl rfl rfl hT157 o190 xM_60 (c60 hT157 o190) rfl (by decide) (by decide) rfl) (fun h191 hT192 E193 => ?_)
                    refine yT.inc (pc' := 130) (xg_ne (xg_ne g136 rfl) rfl) rfl rfl rfl rfl ⟨by decide, by have := i32_rng x1; have := i32_rng x132; omega⟩ (fun x194 e195 => ?_)
                    refine yT.p (pc' := 39) rfl rfl (fun _ _ _ _ => rfl) ?_
                    exact ih140 _ _ x131 x194 hT192 (xg_ne (xg_ne (xg_ne g133 rfl) rfl) rfl) (xg_ne (xg_ne (xg_ne g134 rfl) rfl) rfl) (xg_ne (xg_ne (xg_ne g135 rfl) rfl) rfl) xg_eq (by omega) (by have := i32_rng x194; omega)
                  · refine yT.aan (pc' := 94) (xg_ne (xg_ne g133 rfl) rfl) rfl rfl rfl ?_
                    refine yT.cgR (pc' := 97) rfl rfl hT157 o0 rfl rfl (fun q197 w196 o198 => ?_)
                    refine yT.il (pc' := 99) (xg_ne xg_eq rfl) rfl rfl ?_
                    refine yT.aan (pc' := 100) (xg_ne (xg_ne g133 rfl) rfl) rfl rfl rfl ?_
                    refine yT.cgR (pc' := 103) rfl rfl hT157 o0 rfl rfl (fun q200 w199 o201 => ?_)
                    refine yT.kb (pc' := 105) rfl rfl (by decide) (fun x202 e203 => ?_)
                    refine kI (yT.cc (G2 := 0) (pc' := 108) rfl rfl rfl hT157 o201 xM_105 (c105 hT157 o201 x202) rfl (by decide) (by decide) rfl) (fun h204 x207 hT205 E206 => ?_)
                    refine yT.kb (pc' := 110) rfl rfl (by decide) (fun x208 e209 => ?_)
                    refine yT.fi (pc' := 111) rfl rfl (fun _ _ _ _ => rfl) (fun x210 => ?_)
                    refine kZ (yT.cc (G2 := 0) (pc' := 114) rfl rfl rfl hT205 o198 xM_61 (c61 hT205 o198 x152 x210) rfl (by decide) (by decide) rfl) (fun h211 x214 hT212 E213 b215 => ?_)
                    have i216 := b01i b215
                    refine yT.if1 (t := 120) (pc' := 117) rfl rfl rfl (c1_eq rfl) (fun c217 => ?_) (fun c217 => ?_)
                    · refine yT.aan (pc' := 121) (xg_ne (xg_ne g133 rfl) rfl) rfl rfl rfl ?_
                      refine yT.cgR (pc' := 124) rfl rfl hT212 o0 rfl rfl (fun q219 w218 o220 => ?_)
                      refine kV (yT.cc (G2 := 0) (pc' := 127) rfl rfl rfl hT212 o220 xM_60 (c60 hT212 o220) rfl (by decide) (by decide) rfl) (fun h221 hT222 E223 => ?_)
                      refine yT.inc (pc' := 130) (xg_ne (xg_ne g136 rfl) rfl) rfl rfl rfl rfl ⟨by decide, by have := i32_rng x1; have := i32_rng x132; omega⟩ (fun x224 e225 => ?_)
                      refine yT.p (pc' := 39) rfl rfl (fun _ _ _ _ => rfl) ?_
                      exact ih140 _ _ x131 x224 hT222 (xg_ne (xg_ne (xg_ne g133 rfl) rfl) rfl) (xg_ne (xg_ne (xg_ne g134 rfl) rfl) rfl) (xg_ne (xg_ne (xg_ne g135 rfl) rfl) rfl) xg_eq (by omega) (by have := i32_rng x224; omega)
                    · refine yT.incF (pc' := 120) (xg_ne (xg_ne g135 rfl) rfl) rfl rfl rfl (fun x226 => ?_)
                      refine yT.aan (pc' := 121) (xg_ne (xg_ne (xg_ne g133 rfl) rfl) rfl) rfl rfl rfl ?_
                      refine yT.cgR (pc' := 124) rfl rfl hT212 o0 rfl rfl (fun q228 w227 o229 => ?_)
                      refine kV (yT.cc (G2 := 0) (pc' := 127) rfl rfl rfl hT212 o229 xM_60 (c60 hT212 o229) rfl (by decide) (by decide) rfl) (fun h230 hT231 E232 => ?_)
                      refine yT.inc (pc' := 130) (xg_ne (xg_ne (xg_ne g136 rfl) rfl) rfl) rfl rfl rfl rfl ⟨by decide, by have := i32_rng x1; have := i32_rng x132; omega⟩ (fun x233 e234 => ?_)
                      refine yT.p (pc' := 39) rfl rfl (fun _ _ _ _ => rfl) ?_
                      exact ih140 _ _ x226 x233 hT231 (xg_ne (xg_ne (xg_ne (xg_ne g133 rfl) rfl) rfl) rfl) (xg_ne (xg_ne (xg_ne (xg_ne g134 rfl) rfl) rfl) rfl) (xg_ne xg_eq rfl) xg_eq (by omega) (by have := i32_rng x233; omega)
        exact L127 _ _ _ x123 x125 hT119 (xg_ne (xg_ne g0 rfl) rfl) (xg_ne (xg_ne g1 rfl) rfl) (xg_ne xg_eq rfl) xg_eq (by omega) (Nat.lt_succ_self _)
      · refine yT.aan (pc' := 29) g0 rfl rfl rfl ?_
        refine yT.kb (pc' := 31) rfl rfl (by decide) (fun x235 e236 => ?_)
        refine kI (yT.cc (G2 := 0) (pc' := 34) rfl rfl rfl hT119 o0 xM_153 (c153 hT119 o0 x235) rfl (by decide) (by decide) rfl) (fun h237 x240 hT238 E239 => ?_)
        have e241 : x240 = x235 := by have e : some (Value.int x240) = some (.int x235) := E239; injection e with e; injection e
        have e242 : x240.toInt = (-5) := by first | (rw [e241]; done) | (rw [e241]; exact e236)
        exact yT.retI rfl rfl (qI hT238 trivial)
    · refine yT.aan (pc' := 12) g0 rfl rfl rfl ?_
      refine yT.kb (pc' := 14) rfl rfl (by decide) (fun x243 e244 => ?_)
      refine kI (yT.cc (G2 := 0) (pc' := 17) rfl rfl rfl hT o0 xM_153 (c153 hT o0 x243) rfl (by decide) (by decide) rfl) (fun h245 x248 hT246 E247 => ?_)
      have e249 : x248 = x243 := by have e : some (Value.int x248) = some (.int x243) := E247; injection e with e; injection e
      have e250 : x248.toInt = (-2) := by first | (rw [e249]; done) | (rw [e249]; exact e244)
      exact yT.retI rfl rfl (qI hT246 trivial)
-- rX8_seed
set_option maxRecDepth 100000 in
set_option maxHeartbeats 4000000 in
theorem c147 {ks : List cT} {σ : Nat → Nat → Int32} {ρ : Nat → xE} {h : List xE} (hT : HT ks σ ρ h) {q0 : Nat} (o0 : xnth ks q0 = some (18, 0)) (x1 : Int32) : yM 147 (0) 0 [.ref (q0 + 1), .int x1] h (CQ ks σ ρ (0, 0, 0) yT0) := by
  refine yM.st xM_147 rfl rfl (fun lv g => ?_)
  have g0 := g 0 _ rfl
  have g1 := g 1 _ rfl
  refine yT.aan (pc' := 1) g0 rfl rfl rfl ?_
  refine yT.cgR (pc' := 4) rfl rfl hT o0 rfl rfl (fun q102 w101 o103 => ?_)
  refine yT.cgI (pc' := 7) rfl rfl hT o103 rfl rfl (fun x105 w104 => ?_)
  refine yT.p (pc' := 8) (lv' := xst1 _ 2 (.int x105)) rfl rfl (fun _ _ _ _ => rfl) ?_
  refine yT.aan (pc' := 9) (xg_ne g0 rfl) rfl rfl rfl ?_
  refine yT.cgk (pc' := 12) rfl rfl w101 ?_
  refine yT.iln (pc' := 13) (xg_ne g1 rfl) rfl rfl ?_
  refine yT.cpI (pc' := 16) rfl rfl hT o103 rfl rfl rfl (fun h106 hT107 w108 fv109 => ?_)
  refine yT.iln (pc' := 17) xg_eq rfl rfl ?_
  exact yT.retI rfl rfl (qI hT107 trivial)
-- rX8_heldCount
set_option maxRecDepth 100000 in
set_option maxHeartbeats 4000000 in
theorem c151 {ks : List cT} {σ : Nat → Nat → Int32} {ρ : Nat → xE} {h : List xE} (hT : HT ks σ ρ h) {q0 : Nat} (o0 : xnth ks q0 = some (18, 0)) : yM 151 (2) 0 [.ref (q0 + 1)] h (CQ ks σ ρ (0, 0, 0) yT0) := by
  refine yM.st xM_151 rfl rfl (fun lv g => ?_)
  have g0 := g 0 _ rfl
  refine yT.kI (pc' := 1) rfl rfl (by decide) (fun x101 e102 => ?_)
  refine yT.p (pc' := 2) (lv' := xst1 _ 1 (.int x101)) rfl rfl (fun _ _ _ _ => rfl) ?_
  refine yT.kI (pc' := 3) rfl rfl (by decide) (fun x103 e104 => ?_)
  refine yT.p (pc' := 4) (lv' := xst1 _ 2 (.int x103)) rfl rfl (fun _ _ _ _ => rfl) ?_
  have L105 : ∀ (n115 : Nat) (lv106 : xLv) (h107 : List xE) (x109 : Int32) (x110 : Int32), HT ks σ ρ h107 → xget lv106 0 = some (.ref (q0 + 1)) → xget lv106 1 = some (.int x109) → xget lv106 2 = some (.int x110) → 0 ≤ x110.toInt → (2147483647 - x110.toInt).toNat < n115 → yT 0 [] rX8_heldCount (2) 0 4 lv106 [] h107 (CQ ks σ ρ (0, 0, 0) yT0) := by
    intro n115
    induction n115 with
    | zero => intro lv106 h107 x109 x110 hT108 g111 g112 g113 i114 m116; exact absurd m116 (Nat.not_lt_zero _)
    | succ n115 ih117 =>
      intro lv106 h107 x109 x110 hT108 g111 g112 g113 i114 m116
      refine yT.iln (pc' := 5) g113 rfl rfl ?_
      refine yT.aan (pc' := 6) g111 rfl rfl rfl ?_
      refine yT.cgR (pc' := 9) rfl rfl hT108 o0 rfl rfl (fun q119 w118 o120 => ?_)
      refine yT.cal (pc' := 10) rfl rfl hT108 o120 rfl (by omega) (fun x121 e122 => ?_)
      refine yT.if2 (t := 31) (pc' := 13) rfl rfl rfl (c2_ge rfl e122) (fun c123 => ?_) (fun c123 => ?_)
      · refine yT.iln (pc' := 32) g112 rfl rfl ?_
        exact yT.retI rfl rfl (qI hT108 trivial)
      · refine yT.aan (pc' := 14) g111 rfl rfl rfl ?_
        refine yT.iln (pc' := 15) g113 rfl rfl ?_
        refine kI (yT.cc (G2 := 0) (pc' := 18) rfl rfl rfl hT108 o0 xM_111 (c111 hT108 o0 x110) rfl (by decide) (by decide) rfl) (fun h124 x127 hT125 E126 => ?_)
        refine yT.kI (pc' := 19) rfl rfl (by decide) (fun x128 e129 => ?_)
        refine yT.if2 (t := 25) (pc' := 22) rfl rfl rfl (c2_eq rfl e129) (fun c130 => ?_) (fun c130 => ?_)
        · refine yT.inc (pc' := 28) g113 rfl rfl rfl rfl ⟨by decide, by have := i32_rng x110; omega⟩ (fun x131 e132 => ?_)
          refine yT.p (pc' := 4) rfl rfl (fun _ _ _ _ => rfl) ?_
          exact ih117 _ _ x109 x131 hT125 (xg_ne g111 rfl) (xg_ne g112 rfl) xg_eq (by omega) (by have := i32_rng x131; omega)
        · refine yT.incF (pc' := 25) g112 rfl rfl rfl (fun x133 => ?_)
          refine yT.inc (pc' := 28) (xg_ne g113 rfl) rfl rfl rfl rfl ⟨by decide, by have := i32_rng x110; omega⟩ (fun x134 e135 => ?_)
          refine yT.p (pc' := 4) rfl rfl (fun _ _ _ _ => rfl) ?_
          exact ih117 _ _ x133 x134 hT125 (xg_ne (xg_ne g111 rfl) rfl) (xg_ne xg_eq rfl) xg_eq (by omega) (by have := i32_rng x134; omega)
  exact L105 _ _ _ x101 x103 hT (xg_ne (xg_ne g0 rfl) rfl) (xg_ne xg_eq rfl) xg_eq (by omega) (Nat.lt_succ_self _)
-- rX8_refusalCount
set_option maxRecDepth 100000 in
set_option maxHeartbeats 4000000 in
theorem c152 {ks : List cT} {σ : Nat → Nat → Int32} {ρ : Nat → xE} {h : List xE} (hT : HT ks σ ρ h) {q0 : Nat} (o0 : xnth ks q0 = some (18, 0)) (x1 : Int32) : yM 152 (0) 0 [.ref (q0 + 1), .int x1] h (CQ ks σ ρ (0, 0, 0) yT0) := by
  refine yM.st xM_152 rfl rfl (fun lv g => ?_)
  have g0 := g 0 _ rfl
  have g1 := g 1 _ rfl
  refine yT.iln (pc' := 1) g1 rfl rfl ?_
  refine yT.if1 (t := 22) (pc' := 4) rfl rfl rfl (c1_lt rfl) (fun c101 => ?_) (fun c101 => ?_)
  · refine yT.kI (pc' := 23) rfl rfl (by decide) (fun x102 e103 => ?_)
    exact yT.retI rfl rfl (qI hT trivial)
  · refine yT.iln (pc' := 5) g1 rfl rfl ?_
    refine yT.aan (pc' := 6) g0 rfl rfl rfl ?_
    refine yT.cgR (pc' := 9) rfl rfl hT o0 rfl rfl (fun q105 w104 o106 => ?_)
    refine yT.cal (pc' := 10) rfl rfl hT o106 rfl (by omega) (fun x107 e108 => ?_)
    refine yT.if2 (t := 22) (pc' := 13) rfl rfl rfl (c2_ge rfl e108) (fun c109 => ?_) (fun c109 => ?_)
    · refine yT.kI (pc' := 23) rfl rfl (by decide) (fun x110 e111 => ?_)
      exact yT.retI rfl rfl (qI hT trivial)
    · refine yT.aan (pc' := 14) g0 rfl rfl rfl ?_
      refine yT.cgk (pc' := 17) rfl rfl w104 ?_
      refine yT.iln (pc' := 18) g1 rfl rfl ?_
      refine yT.cia (pc' := 19) rfl rfl hT o106 rfl (by omega) (fun x112 => ?_)
      refine yT.p (pc' := 23) rfl rfl (fun _ _ _ _ => rfl) ?_
      exact yT.retI rfl rfl (qI hT trivial)
-- rX8_status
set_option maxRecDepth 100000 in
set_option maxHeartbeats 4000000 in
theorem c150 {ks : List cT} {σ : Nat → Nat → Int32} {ρ : Nat → xE} {h : List xE} (hT : HT ks σ ρ h) {q0 : Nat} (o0 : xnth ks q0 = some (18, 0)) (x1 : Int32) : yM 150 (3) 0 [.ref (q0 + 1), .int x1] h (CQ ks σ ρ (0, 0, 0) yT0) := by
  refine yM.st xM_150 rfl rfl (fun lv g => ?_)
  have g0 := g 0 _ rfl
  have g1 := g 1 _ rfl
  refine yT.iln (pc' := 1) g1 rfl rfl ?_
  by_cases c101 : x1.toInt = 0
  · refine yT.tswK 0 (t := 56) rfl rfl (by omega) rfl rfl ?_
    refine yT.aan (pc' := 57) g0 rfl rfl rfl ?_
    refine yT.cgR (pc' := 60) rfl rfl hT o0 rfl rfl (fun q103 w102 o104 => ?_)
    refine kI (yT.cc (G2 := 0) (pc' := 63) rfl rfl rfl hT o104 xM_85 (c85 hT o104) rfl (by decide) (by decide) rfl) (fun h105 x108 hT106 E107 => ?_)
    exact yT.retI rfl rfl (qI hT106 trivial)
  · by_cases c109 : x1.toInt = 1
    · refine yT.tswK 1 (t := 64) rfl rfl (by omega) rfl rfl ?_
      refine yT.aan (pc' := 65) g0 rfl rfl rfl ?_
      refine yT.cgR (pc' := 68) rfl rfl hT o0 rfl rfl (fun q111 w110 o112 => ?_)
      refine kI (yT.cc (G2 := 0) (pc' := 71) rfl rfl rfl hT o112 xM_98 (c98 hT o112) rfl (by decide) (by decide) rfl) (fun h113 x116 hT114 E115 => ?_)
      exact yT.retI rfl rfl (qI hT114 trivial)
    · by_cases c117 : x1.toInt = 2
      · refine yT.tswK 2 (t := 72) rfl rfl (by omega) rfl rfl ?_
        refine yT.aan (pc' := 73) g0 rfl rfl rfl ?_
        refine yT.cgR (pc' := 76) rfl rfl hT o0 rfl rfl (fun q119 w118 o120 => ?_)
        refine yT.cgX (pc' := 79) rfl rfl hT o120 rfl rfl (fun x122 w121 i123 i124 z125 => ?_)
        exact yT.retI rfl rfl (qI hT trivial)
      · by_cases c126 : x1.toInt = 3
        · refine yT.tswK 3 (t := 80) rfl rfl (by omega) rfl rfl ?_
          refine yT.aan (pc' := 81) g0 rfl rfl rfl ?_
          refine yT.cgR (pc' := 84) rfl rfl hT o0 rfl rfl (fun q128 w127 o129 => ?_)
          refine yT.cgR (pc' := 87) rfl rfl hT o129 rfl rfl (fun q131 w130 o132 => ?_)
          refine kS (yT.cc (G2 := 0) (pc' := 90) rfl rfl rfl hT o132 xM_44 (c44 hT o132 (by decide)) rfl (by decide) (by decide) rfl) (fun h133 x136 hT134 E135 i137 i138 => ?_)
          exact yT.retI rfl rfl (qI hT134 trivial)
        · by_cases c139 : x1.toInt = 4
          · refine yT.tswK 4 (t := 91) rfl rfl (by omega) rfl rfl ?_
            refine yT.aan (pc' := 92) g0 rfl rfl rfl ?_
            refine yT.cgR (pc' := 95) rfl rfl hT o0 rfl rfl (fun q141 w140 o142 => ?_)
            refine yT.cgR (pc' := 98) rfl rfl hT o142 rfl rfl (fun q144 w143 o145 => ?_)
            refine kI (yT.cc (G2 := 0) (pc' := 101) rfl rfl rfl hT o145 xM_45 (c45 hT o145 (by decide)) rfl (by decide) (by decide) rfl) (fun h146 x149 hT147 E148 => ?_)
            exact yT.retI rfl rfl (qI hT147 trivial)
          · by_cases c150 : x1.toInt = 5
            · refine yT.tswK 5 (t := 102) rfl rfl (by omega) rfl rfl ?_
              refine yT.aan (pc' := 103) g0 rfl rfl rfl ?_
              refine yT.cgR (pc' := 106) rfl rfl hT o0 rfl rfl (fun q152 w151 o153 => ?_)
              refine yT.cgR (pc' := 109) rfl rfl hT o153 rfl rfl (fun q155 w154 o156 => ?_)
              refine kI (yT.cc (G2 := 0) (pc' := 112) rfl rfl rfl hT o156 xM_45 (c45 hT o156 (by decide)) rfl (by decide) (by decide) rfl) (fun h157 x160 hT158 E159 => ?_)
              exact yT.retI rfl rfl (qI hT158 trivial)
            · by_cases c161 : x1.toInt = 6
              · refine yT.tswK 6 (t := 113) rfl rfl (by omega) rfl rfl ?_
                refine yT.aan (pc' := 114) g0 rfl rfl rfl ?_
                refine yT.cgR (pc' := 117) rfl rfl hT o0 rfl rfl (fun q163 w162 o164 => ?_)
                refine kI (yT.cc (G2 := 0) (pc' := 120) rfl rfl rfl hT o164 xM_100 (c100 hT o164) rfl (by decide) (by decide) rfl) (fun h165 x168 hT166 E167 => ?_)
                exact yT.retI rfl rfl (qI hT166 trivial)
              · by_cases c169 : x1.toInt = 7
                · refine yT.tswK 7 (t := 121) rfl rfl (by omega) rfl rfl ?_
                  refine yT.aan (pc' := 122) g0 rfl rfl rfl ?_
                  refine yT.cgR (pc' := 125) rfl rfl hT o0 rfl rfl (fun q171 w170 o172 => ?_)
                  refine kS (yT.cc (G2 := 0) (pc' := 128) rfl rfl rfl hT o172 xM_44 (c44t hT o172) rfl (by decide) (by decide) rfl) (fun h173 x176 hT174 E175 i177 i178 => ?_)
                  exact yT.retI rfl rfl (qI hT174 trivial)
                · by_cases c179 : x1.toInt = 8
                  · refine yT.tswK 8 (t := 129) rfl rfl (by omega) rfl rfl ?_
                    refine yT.aan (pc' := 130) g0 rfl rfl rfl ?_
                    refine yT.cgR (pc' := 133) rfl rfl hT o0 rfl rfl (fun q181 w180 o182 => ?_)
                    refine yT.cgI (pc' := 136) rfl rfl hT o182 rfl rfl (fun x184 w183 => ?_)
                    exact yT.retI rfl rfl (qI hT trivial)
                  · by_cases c185 : x1.toInt = 9
                    · refine yT.tswK 9 (t := 137) rfl rfl (by omega) rfl rfl ?_
                      refine yT.aan (pc' := 138) g0 rfl rfl rfl ?_
                      refine kI (yT.cc (G2 := 0) (pc' := 141) rfl rfl rfl hT o0 xM_151 (c151 hT o0) rfl (by decide) (by decide) rfl) (fun h186 x189 hT187 E188 => ?_)
                      exact yT.retI rfl rfl (qI hT187 trivial)
                    · refine yT.tswD (t := 142) rfl rfl rfl (by omega) ?_
                      refine yT.aan (pc' := 143) g0 rfl rfl rfl ?_
                      refine yT.iln (pc' := 144) g1 rfl rfl ?_
                      refine yT.kb (pc' := 146) rfl rfl (by decide) (fun x190 e191 => ?_)
                      refine yT.fi (pc' := 147) rfl rfl (fun _ _ _ _ => rfl) (fun x192 => ?_)
                      refine kI (yT.cc (G2 := 0) (pc' := 150) rfl rfl rfl hT o0 xM_152 (c152 hT o0 x192) rfl (by decide) (by decide) rfl) (fun h193 x196 hT194 E195 => ?_)
                      exact yT.retI rfl rfl (qI hT194 trivial)
-- rX8_refuseFault
set_option maxRecDepth 100000 in
set_option maxHeartbeats 4000000 in
theorem c155 {ks : List cT} {σ : Nat → Nat → Int32} {ρ : Nat → xE} {h : List xE} (hT : HT ks σ ρ h) {q0 : Nat} (o0 : xnth ks q0 = some (18, 0)) : yM 155 (1) 0 [.ref (q0 + 1)] h (CQ ks σ ρ (0, 0, 0) yT0) := by
  refine yM.st xM_155 rfl rfl (fun lv g => ?_)
  have g0 := g 0 _ rfl
  refine yT.aan (pc' := 1) g0 rfl rfl rfl ?_
  refine yT.kb (pc' := 3) rfl rfl (by decide) (fun x101 e102 => ?_)
  refine kI (yT.cc (G2 := 0) (pc' := 6) rfl rfl rfl hT o0 xM_153 (c153 hT o0 x101) rfl (by decide) (by decide) rfl) (fun h103 x106 hT104 E105 => ?_)
  have e107 : x106 = x101 := by have e : some (Value.int x106) = some (.int x101) := E105; injection e with e; injection e
  have e108 : x106.toInt = (-2) := by first | (rw [e107]; done) | (rw [e107]; exact e102)
  refine yT.p (pc' := 7) rfl rfl (fun _ _ _ _ => rfl) ?_
  refine yT.ks (pc' := 10) rfl rfl (by decide) (fun x109 e110 => ?_)
  refine yT.aan (pc' := 11) g0 rfl rfl rfl ?_
  refine yT.cgR (pc' := 14) rfl rfl hT104 o0 rfl rfl (fun q112 w111 o113 => ?_)
  refine kI (yT.cc (G2 := 0) (pc' := 17) rfl rfl rfl hT104 o113 xM_21 (c21 hT104 o113) rfl (by decide) (by decide) rfl) (fun h114 x117 hT115 E116 => ?_)
  refine yT.fi (pc' := 18) rfl rfl (fun _ _ _ _ => rfl) (fun x118 => ?_)
  exact yT.retI rfl rfl (qI hT115 trivial)
