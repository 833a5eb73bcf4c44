-- rX4_put
set_option maxRecDepth 100000 in
set_option maxHeartbeats 4000000 in
theorem c51 {ks : List cT} {σ : Nat → Nat → Int32} {ρ : Nat → xE} {h : List xE} (hT : HT ks σ ρ h) {q0 N : Nat} (o0 : xnth ks q0 = some (14, N)) (hN : N ≤ 750) (x1 : Int32) (x2 : Int32) : yM 51 (0) 0 [.ref (q0 + 1), .int x1, .int x2] h (CQ ks σ ρ (9, 0, 0) yT0) := by
  refine yM.st xM_51 rfl rfl (fun lv g => ?_)
  have g0 := g 0 _ rfl
  have g1 := g 1 _ rfl
  have g2 := g 2 _ rfl
  refine yT.iln (pc' := 1) g1 rfl rfl ?_
  refine yT.if1 (t := 28) (pc' := 4) rfl rfl rfl (c1_lt rfl) (fun c101 => ?_) (fun c101 => ?_)
  · exact yT.retV rfl rfl (qV hT trivial)
  · refine yT.iln (pc' := 5) g1 rfl rfl ?_
    refine yT.aan (pc' := 6) g0 rfl rfl rfl ?_
    refine yT.cgS (pc' := 9) rfl rfl hT o0 rfl rfl (fun x103 w102 i104 i105 => ?_)
    refine yT.if2 (t := 28) (pc' := 12) rfl rfl rfl (c2_ge rfl rfl) (fun c106 => ?_) (fun c106 => ?_)
    · exact yT.retV rfl rfl (qV hT trivial)
    · refine yT.iln (pc' := 13) g1 rfl rfl ?_
      refine yT.aan (pc' := 14) g0 rfl rfl rfl ?_
      refine yT.cgR (pc' := 17) rfl rfl hT o0 rfl rfl (fun q108 w107 o109 => ?_)
      refine yT.cal (pc' := 18) rfl rfl hT o109 rfl (by omega) (fun x110 e111 => ?_)
      refine yT.if2 (t := 28) (pc' := 21) rfl rfl rfl (c2_ge rfl e111) (fun c112 => ?_) (fun c112 => ?_)
      · exact yT.retV rfl rfl (qV hT trivial)
      · refine yT.aan (pc' := 22) g0 rfl rfl rfl ?_
        refine yT.cgk (pc' := 25) rfl rfl w107 ?_
        refine yT.iln (pc' := 26) g1 rfl rfl ?_
        refine yT.iln (pc' := 27) g2 rfl rfl ?_
        refine yT.cis (pc' := 28) rfl rfl hT o109 rfl (by omega) (fun h113 hT114 fv115 => ?_)
        exact yT.retV rfl rfl (qV hT114 trivial)
-- rX4_dropLast
set_option maxRecDepth 100000 in
set_option maxHeartbeats 4000000 in
theorem c53 {ks : List cT} {σ : Nat → Nat → Int32} {ρ : Nat → xE} {h : List xE} (hT : HT ks σ ρ h) {q0 N : Nat} (o0 : xnth ks q0 = some (14, N)) (hN : N ≤ 750) : yM 53 (0) 0 [.ref (q0 + 1)] h (CQ ks σ ρ (9, 0, 0) yT0) := by
  refine yM.st xM_53 rfl rfl (fun lv g => ?_)
  have g0 := g 0 _ rfl
  refine yT.aan (pc' := 1) g0 rfl rfl rfl ?_
  refine yT.cgS (pc' := 4) rfl rfl hT o0 rfl rfl (fun x102 w101 i103 i104 => ?_)
  refine yT.if1 (t := 17) (pc' := 7) rfl rfl rfl (c1_le rfl) (fun c105 => ?_) (fun c105 => ?_)
  · exact yT.retV rfl rfl (qV hT trivial)
  · refine yT.aan (pc' := 8) g0 rfl rfl rfl ?_
    refine yT.p (pc' := 9) rfl rfl (fun _ _ _ _ => rfl) ?_
    refine yT.cgk (pc' := 12) rfl rfl w101 ?_
    refine yT.kI (pc' := 13) rfl rfl (by decide) (fun x106 e107 => ?_)
    refine yT.sb (pc' := 14) rfl e107 rfl rfl (by have := i32_rng x102; omega) (fun x108 e109 => ?_)
    refine yT.cpS (pc' := 17) rfl rfl hT o0 rfl rfl rfl e109 (by omega) (fun h110 hT111 w112 fv113 => ?_)
    exact yT.retV rfl rfl (qV hT111 trivial)
-- rX3_closeDown
set_option maxRecDepth 100000 in
set_option maxHeartbeats 4000000 in
theorem c37 {ks : List cT} {σ : Nat → Nat → Int32} {ρ : Nat → xE} {h : List xE} (hT : HT ks σ ρ h) {q0 : Nat} (o0 : xnth ks q0 = some (13, 0)) : yM 37 (1) 0 [.ref (q0 + 1)] h (CQ ks σ ρ (9, 0, 0) yT0) := by
  refine yM.st xM_37 rfl rfl (fun lv g => ?_)
  have g0 := g 0 _ rfl
  refine yT.aan (pc' := 1) g0 rfl rfl rfl ?_
  refine yT.cgR (pc' := 4) rfl rfl hT o0 rfl rfl (fun q102 w101 o103 => ?_)
  refine kV (yT.cc (G2 := 0) (pc' := 7) rfl rfl rfl hT o103 xM_53 (c53 hT o103 (by decide)) rfl (by decide) (by decide) rfl) (fun h104 hT105 E106 => ?_)
  refine yT.aan (pc' := 8) g0 rfl rfl rfl ?_
  refine yT.cgR (pc' := 11) rfl rfl hT105 o0 rfl rfl (fun q108 w107 o109 => ?_)
  refine kV (yT.cc (G2 := 0) (pc' := 14) rfl rfl rfl hT105 o109 xM_53 (c53 hT105 o109 (by decide)) rfl (by decide) (by decide) rfl) (fun h110 hT111 E112 => ?_)
  refine yT.aan (pc' := 15) g0 rfl rfl rfl ?_
  refine yT.cgR (pc' := 18) rfl rfl hT111 o0 rfl rfl (fun q114 w113 o115 => ?_)
  refine kV (yT.cc (G2 := 0) (pc' := 21) rfl rfl rfl hT111 o115 xM_53 (c53 hT111 o115 (by decide)) rfl (by decide) (by decide) rfl) (fun h116 hT117 E118 => ?_)
  exact yT.retV rfl rfl (qV hT117 trivial)
-- rX3_closeWithPart
set_option maxRecDepth 100000 in
set_option maxHeartbeats 4000000 in
theorem c38 {ks : List cT} {σ : Nat → Nat → Int32} {ρ : Nat → xE} {h : List xE} (hT : HT ks σ ρ h) {q0 : Nat} (o0 : xnth ks q0 = some (13, 0)) : yM 38 (2) 0 [.ref (q0 + 1)] h (CQ ks σ ρ (9, 0, 0) yT0) := by
  refine yM.st xM_38 rfl rfl (fun lv g => ?_)
  have g0 := g 0 _ rfl
  refine yT.aan (pc' := 1) g0 rfl rfl rfl ?_
  refine yT.cgR (pc' := 4) rfl rfl hT o0 rfl rfl (fun q102 w101 o103 => ?_)
  refine yT.aan (pc' := 5) g0 rfl rfl rfl ?_
  refine yT.cgk (pc' := 8) rfl rfl w101 ?_
  refine kS (yT.cc (G2 := 0) (pc' := 11) rfl rfl rfl hT o103 xM_44 (c44 hT o103 (by decide)) rfl (by decide) (by decide) rfl) (fun h104 x107 hT105 E106 i108 i109 => ?_)
  refine yT.kI (pc' := 12) rfl rfl (by decide) (fun x110 e111 => ?_)
  refine yT.sb (pc' := 13) rfl e111 rfl rfl (by have := i32_rng x107; omega) (fun x112 e113 => ?_)
  refine yT.aan (pc' := 14) g0 rfl rfl rfl ?_
  refine yT.cgR (pc' := 17) rfl rfl hT105 o0 rfl rfl (fun q115 w114 o116 => ?_)
  refine kI (yT.cc (G2 := 0) (pc' := 20) rfl rfl rfl hT105 o116 xM_47 (c47 hT105 o116 (by decide)) rfl (by decide) (by decide) rfl) (fun h117 x120 hT118 E119 => ?_)
  refine kV (yT.cc (G2 := 0) (pc' := 23) rfl rfl rfl hT118 o103 xM_51 (c51 hT118 o103 (by decide) x112 x120) rfl (by decide) (by decide) rfl) (fun h121 hT122 E123 => ?_)
  refine yT.aan (pc' := 24) g0 rfl rfl rfl ?_
  refine kV (yT.cc (G2 := 0) (pc' := 27) rfl rfl rfl hT122 o0 xM_37 (c37 hT122 o0) rfl (by decide) (by decide) rfl) (fun h124 hT125 E126 => ?_)
  exact yT.retV rfl rfl (qV hT125 trivial)
-- rX3_endPart
set_option maxRecDepth 100000 in
set_option maxHeartbeats 4000000 in
theorem c31 {ks : List cT} {σ : Nat → Nat → Int32} {ρ : Nat → xE} {h : List xE} (hT : HT ks σ ρ h) {q0 : Nat} (o0 : xnth ks q0 = some (13, 0)) : yM 31 (3) 0 [.ref (q0 + 1)] h (CQ ks σ ρ (9, 0, 0) yT0) := by
  refine yM.st xM_31 rfl rfl (fun lv g => ?_)
  have g0 := g 0 _ rfl
  refine yT.aan (pc' := 1) g0 rfl rfl rfl ?_
  refine yT.kI (pc' := 2) rfl rfl (by decide) (fun x101 e102 => ?_)
  refine yT.cpZ (pc' := 5) rfl rfl hT o0 rfl rfl rfl (b01 (by omega) (by omega)) (fun h103 hT104 w105 fv106 => ?_)
  refine yT.aan (pc' := 6) g0 rfl rfl rfl ?_
  refine yT.aan (pc' := 7) g0 rfl rfl rfl ?_
  refine yT.cgS (pc' := 10) rfl rfl hT104 o0 rfl rfl (fun x108 w107 i109 i110 => ?_)
  refine yT.aan (pc' := 11) g0 rfl rfl rfl ?_
  refine yT.cgR (pc' := 14) rfl rfl hT104 o0 rfl rfl (fun q112 w111 o113 => ?_)
  refine kS (yT.cc (G2 := 0) (pc' := 17) rfl rfl rfl hT104 o113 xM_44 (c44 hT104 o113 (by decide)) rfl (by decide) (by decide) rfl) (fun h114 x117 hT115 E116 i118 i119 => ?_)
  refine yT.mx (pc' := 20) rfl rfl (by decide) rfl (fun x120 i121 => ?_)
  have i122 : x120.toInt = x108.toInt ∨ x120.toInt = x117.toInt := by rcases i121 with rfl | rfl; exact Or.inl rfl; exact Or.inr rfl
  refine yT.cpS (pc' := 23) rfl rfl hT115 o0 rfl rfl rfl rfl (by omega) (fun h123 hT124 w125 fv126 => ?_)
  refine yT.kI (pc' := 24) rfl rfl (by decide) (fun x127 e128 => ?_)
  refine yT.p (pc' := 25) (lv' := xst1 _ 1 (.int x127)) rfl rfl (fun _ _ _ _ => rfl) ?_
  have L129 : ∀ (n137 : Nat) (lv130 : xLv) (h131 : List xE) (x133 : Int32), HT ks σ ρ h131 → xget lv130 0 = some (.ref (q0 + 1)) → xget lv130 1 = some (.int x133) → 0 ≤ x133.toInt → (2147483647 - x133.toInt).toNat < n137 → yT 0 [] rX3_endPart (3) 0 25 lv130 [] h131 (CQ ks σ ρ (9, 0, 0) yT0) := by
    intro n137
    induction n137 with
    | zero => intro lv130 h131 x133 hT132 g134 g135 i136 m138; exact absurd m138 (Nat.not_lt_zero _)
    | succ n137 ih139 =>
      intro lv130 h131 x133 hT132 g134 g135 i136 m138
      refine yT.iln (pc' := 26) g135 rfl rfl ?_
      refine yT.ks (pc' := 29) rfl rfl (by decide) (fun x140 e141 => ?_)
      refine yT.if2 (t := 70) (pc' := 32) rfl rfl rfl (c2_ge rfl e141) (fun c142 => ?_) (fun c142 => ?_)
      · refine yT.aan (pc' := 71) g134 rfl rfl rfl ?_
        refine yT.kI (pc' := 72) rfl rfl (by decide) (fun x143 e144 => ?_)
        refine yT.cpZ (pc' := 75) rfl rfl hT132 o0 rfl rfl rfl (b01 (by omega) (by omega)) (fun h145 hT146 w147 fv148 => ?_)
        exact yT.retV rfl rfl (qV hT146 trivial)
      · refine yT.aan (pc' := 33) g134 rfl rfl rfl ?_
        refine yT.cgR (pc' := 36) rfl rfl hT132 o0 rfl rfl (fun q150 w149 o151 => ?_)
        refine kI (yT.cc (G2 := 0) (pc' := 39) rfl rfl rfl hT132 o151 xM_47 (c47 hT132 o151 (by decide)) rfl (by decide) (by decide) rfl) (fun h152 x155 hT153 E154 => ?_)
        refine yT.kb (pc' := 41) rfl rfl (by decide) (fun x156 e157 => ?_)
        refine yT.if2 (t := 70) (pc' := 44) rfl rfl rfl (c2_ne rfl e157) (fun c158 => ?_) (fun c158 => ?_)
        · refine yT.aan (pc' := 71) g134 rfl rfl rfl ?_
          refine yT.kI (pc' := 72) rfl rfl (by decide) (fun x159 e160 => ?_)
          refine yT.cpZ (pc' := 75) rfl rfl hT153 o0 rfl rfl rfl (b01 (by omega) (by omega)) (fun h161 hT162 w163 fv164 => ?_)
          exact yT.retV rfl rfl (qV hT162 trivial)
        · refine yT.aan (pc' := 45) g134 rfl rfl rfl ?_
          refine yT.kb (pc' := 47) rfl rfl (by decide) (fun x165 e166 => ?_)
          refine yT.kI (pc' := 48) rfl rfl (by decide) (fun x167 e168 => ?_)
          refine kV (yT.cc (G2 := 0) (pc' := 51) rfl rfl rfl hT153 o0 xM_39 (c39 hT153 o0 x165 x167) rfl (by decide) (by decide) rfl) (fun h169 hT170 E171 => ?_)
          refine yT.aan (pc' := 52) g134 rfl rfl rfl ?_
          refine yT.cgR (pc' := 55) rfl rfl hT170 o0 rfl rfl (fun q173 w172 o174 => ?_)
          refine yT.kb (pc' := 57) rfl rfl (by decide) (fun x175 e176 => ?_)
          refine kV (yT.cc (G2 := 0) (pc' := 60) rfl rfl rfl hT170 o174 xM_50 (c50 hT170 o174 (by decide) x175) rfl (by decide) (by decide) rfl) (fun h177 hT178 E179 => ?_)
          refine yT.aan (pc' := 61) g134 rfl rfl rfl ?_
          refine kV (yT.cc (G2 := 0) (pc' := 64) rfl rfl rfl hT178 o0 xM_38 (c38 hT178 o0) rfl (by decide) (by decide) rfl) (fun h180 hT181 E182 => ?_)
          refine yT.inc (pc' := 67) g135 rfl rfl rfl rfl ⟨by decide, by have := i32_rng x133; omega⟩ (fun x183 e184 => ?_)
          refine yT.p (pc' := 25) rfl rfl (fun _ _ _ _ => rfl) ?_
          exact ih139 _ _ x183 hT181 (xg_ne g134 rfl) xg_eq (by omega) (by have := i32_rng x183; omega)
  exact L129 _ _ _ x127 hT124 (xg_ne g0 rfl) xg_eq (by omega) (Nat.lt_succ_self _)
-- rX3_joiningSign
set_option maxRecDepth 100000 in
set_option maxHeartbeats 4000000 in
theorem c40 {ks : List cT} {σ : Nat → Nat → Int32} {ρ : Nat → xE} {h : List xE} (hT : HT ks σ ρ h) (x0 : Int32) : yM 40 (0) 0 [.int x0] h (CQ ks σ ρ (0, 0, 0) yT0) := by
  refine yM.st xM_40 rfl rfl (fun lv g => ?_)
  have g0 := g 0 _ rfl
  refine yT.iln (pc' := 1) g0 rfl rfl ?_
  by_cases c101 : x0.toInt = 37
  · refine yT.tswK 0 (t := 128) rfl rfl (by omega) rfl rfl ?_
    refine yT.kI (pc' := 129) rfl rfl (by decide) (fun x102 e103 => ?_)
    exact yT.retI rfl rfl (qI hT trivial)
  · by_cases c104 : x0.toInt = 42
    · refine yT.tswK 5 (t := 124) rfl rfl (by omega) rfl rfl ?_
      refine yT.kI (pc' := 125) rfl rfl (by decide) (fun x105 e106 => ?_)
      exact yT.retI rfl rfl (qI hT trivial)
    · by_cases c107 : x0.toInt = 43
      · refine yT.tswK 6 (t := 120) rfl rfl (by omega) rfl rfl ?_
        refine yT.kI (pc' := 121) rfl rfl (by decide) (fun x108 e109 => ?_)
        exact yT.retI rfl rfl (qI hT trivial)
      · by_cases c110 : x0.toInt = 45
        · refine yT.tswK 8 (t := 122) rfl rfl (by omega) rfl rfl ?_
          refine yT.kI (pc' := 123) rfl rfl (by decide) (fun x111 e112 => ?_)
          exact yT.retI rfl rfl (qI hT trivial)
        · by_cases c113 : x0.toInt = 47
          · refine yT.tswK 10 (t := 126) rfl rfl (by omega) rfl rfl ?_
            refine yT.kI (pc' := 127) rfl rfl (by decide) (fun x114 e115 => ?_)
            exact yT.retI rfl rfl (qI hT trivial)
          · by_cases c116 : x0.toInt = 60
            · refine yT.tswK 23 (t := 130) rfl rfl (by omega) rfl rfl ?_
              refine yT.kI (pc' := 131) rfl rfl (by decide) (fun x117 e118 => ?_)
              exact yT.retI rfl rfl (qI hT trivial)
            · by_cases c119 : x0.toInt = 61
              · refine yT.tswK 24 (t := 132) rfl rfl (by omega) rfl rfl ?_
                refine yT.kb (pc' := 134) rfl rfl (by decide) (fun x120 e121 => ?_)
                exact yT.retI rfl rfl (qI hT trivial)
              · by_cases c122 : x0.toInt = 62
                · refine yT.tswK 25 (t := 135) rfl rfl (by omega) rfl rfl ?_
                  refine yT.kb (pc' := 137) rfl rfl (by decide) (fun x123 e124 => ?_)
                  exact yT.retI rfl rfl (qI hT trivial)
                · refine yT.tswJ (t := 138) ?_ ?_
                  · intro J144
                    by_cases c145 : x0.toInt = 38
                    · exact yT.tswK 1 (t := 138) rfl rfl (by omega) rfl rfl J144
                    by_cases c146 : x0.toInt = 39
                    · exact yT.tswK 2 (t := 138) rfl rfl (by omega) rfl rfl J144
                    by_cases c147 : x0.toInt = 40
                    · exact yT.tswK 3 (t := 138) rfl rfl (by omega) rfl rfl J144
                    by_cases c148 : x0.toInt = 41
                    · exact yT.tswK 4 (t := 138) rfl rfl (by omega) rfl rfl J144
                    by_cases c149 : x0.toInt = 44
                    · exact yT.tswK 7 (t := 138) rfl rfl (by omega) rfl rfl J144
                    by_cases c150 : x0.toInt = 46
                    · exact yT.tswK 9 (t := 138) rfl rfl (by omega) rfl rfl J144
                    by_cases c151 : x0.toInt = 48
                    · exact yT.tswK 11 (t := 138) rfl rfl (by omega) rfl rfl J144
                    by_cases c152 : x0.toInt = 49
                    · exact yT.tswK 12 (t := 138) rfl rfl (by omega) rfl rfl J144
                    by_cases c153 : x0.toInt = 50
                    · exact yT.tswK 13 (t := 138) rfl rfl (by omega) rfl rfl J144
                    by_cases c154 : x0.toInt = 51
                    · exact yT.tswK 14 (t := 138) rfl rfl (by omega) rfl rfl J144
                    by_cases c155 : x0.toInt = 52
                    · exact yT.tswK 15 (t := 138) rfl rfl (by omega) rfl rfl J144
                    by_cases c156 : x0.toInt = 53
                    · exact yT.tswK 16 (t := 138) rfl rfl (by omega) rfl rfl J144
                    by_cases c157 : x0.toInt = 54
                    · exact yT.tswK 17 (t := 138) rfl rfl (by omega) rfl rfl J144
                    by_cases c158 : x0.toInt = 55
                    · exact yT.tswK 18 (t := 138) rfl rfl (by omega) rfl rfl J144
                    by_cases c159 : x0.toInt = 56
                    · exact yT.tswK 19 (t := 138) rfl rfl (by omega) rfl rfl J144
                    by_cases c160 : x0.toInt = 57
                    · exact yT.tswK 20 (t := 138) rfl rfl (by omega) rfl rfl J144
                    by_cases c161 : x0.toInt = 58
                    · exact yT.tswK 21 (t := 138) rfl rfl (by omega) rfl rfl J144
                    by_cases c162 : x0.toInt = 59
                    · exact yT.tswK 22 (t := 138) rfl rfl (by omega) rfl rfl J144
                    exact yT.tswD (t := 138) rfl rfl rfl (by omega) J144
                  · refine yT.kI (pc' := 139) rfl rfl (by decide) (fun x163 e164 => ?_)
                    exact yT.retI rfl rfl (qI hT trivial)
-- rX3_level
set_option maxRecDepth 100000 in
set_option maxHeartbeats 4000000 in
theorem c41 {ks : List cT} {σ : Nat → Nat → Int32} {ρ : Nat → xE} {h : List xE} (hT : HT ks σ ρ h) (x0 : Int32) : yM 41 (0) 0 [.int x0] h (CQ ks σ ρ (0, 0, 0) yT0) := by
  refine yM.st xM_41 rfl rfl (fun lv g => ?_)
  have g0 := g 0 _ rfl
  refine yT.iln (pc' := 1) g0 rfl rfl ?_
  by_cases c101 : x0.toInt = 0
  · refine yT.tswK 0 (t := 50) rfl rfl (by omega) rfl rfl ?_
    refine yT.kI (pc' := 51) rfl rfl (by decide) (fun x102 e103 => ?_)
    exact yT.retI rfl rfl (qI hT trivial)
  · by_cases c104 : x0.toInt = 1
    · refine yT.tswK 1 (t := 50) rfl rfl (by omega) rfl rfl ?_
      refine yT.kI (pc' := 51) rfl rfl (by decide) (fun x105 e106 => ?_)
      exact yT.retI rfl rfl (qI hT trivial)
    · by_cases c107 : x0.toInt = 2
      · refine yT.tswK 2 (t := 48) rfl rfl (by omega) rfl rfl ?_
        refine yT.kI (pc' := 49) rfl rfl (by decide) (fun x108 e109 => ?_)
        exact yT.retI rfl rfl (qI hT trivial)
      · by_cases c110 : x0.toInt = 3
        · refine yT.tswK 3 (t := 48) rfl rfl (by omega) rfl rfl ?_
          refine yT.kI (pc' := 49) rfl rfl (by decide) (fun x111 e112 => ?_)
          exact yT.retI rfl rfl (qI hT trivial)
        · by_cases c113 : x0.toInt = 4
          · refine yT.tswK 4 (t := 48) rfl rfl (by omega) rfl rfl ?_
            refine yT.kI (pc' := 49) rfl rfl (by decide) (fun x114 e115 => ?_)
            exact yT.retI rfl rfl (qI hT trivial)
          · by_cases c116 : x0.toInt = 5
            · refine yT.tswK 5 (t := 52) rfl rfl (by omega) rfl rfl ?_
              refine yT.kI (pc' := 53) rfl rfl (by decide) (fun x117 e118 => ?_)
              exact yT.retI rfl rfl (qI hT trivial)
            · by_cases c119 : x0.toInt = 6
              · refine yT.tswK 6 (t := 52) rfl rfl (by omega) rfl rfl ?_
                refine yT.kI (pc' := 53) rfl rfl (by decide) (fun x120 e121 => ?_)
                exact yT.retI rfl rfl (qI hT trivial)
              · by_cases c122 : x0.toInt = 7
                · refine yT.tswK 7 (t := 52) rfl rfl (by omega) rfl rfl ?_
                  refine yT.kI (pc' := 53) rfl rfl (by decide) (fun x123 e124 => ?_)
                  exact yT.retI rfl rfl (qI hT trivial)
                · refine yT.tswD (t := 54) rfl rfl rfl (by omega) ?_
                  refine yT.kI (pc' := 55) rfl rfl (by decide) (fun x125 e126 => ?_)
                  exact yT.retI rfl rfl (qI hT trivial)
-- rX4_insert
set_option maxRecDepth 100000 in
set_option maxHeartbeats 4000000 in
theorem c52 {ks : List cT} {σ : Nat → Nat → Int32} {ρ : Nat → xE} {h : List xE} (hT : HT ks σ ρ h) {q0 N : Nat} (o0 : xnth ks q0 = some (14, N)) (hN : N ≤ 750) (x1 : Int32) (x2 : Int32) : yM 52 (0) 0 [.ref (q0 + 1), .int x1, .int x2] h (CQ ks σ ρ (9, 0, 0) yT0) := by
  refine yM.st xM_52 rfl rfl (fun lv g => ?_)
  have g0 := g 0 _ rfl
  have g1 := g 1 _ rfl
  have g2 := g 2 _ rfl
  refine yT.iln (pc' := 1) g1 rfl rfl ?_
  refine yT.if1 (t := 24) (pc' := 4) rfl rfl rfl (c1_lt rfl) (fun c101 => ?_) (fun c101 => ?_)
  · exact yT.retV rfl rfl (qV hT trivial)
  · refine yT.iln (pc' := 5) g1 rfl rfl ?_
    refine yT.aan (pc' := 6) g0 rfl rfl rfl ?_
    refine yT.cgS (pc' := 9) rfl rfl hT o0 rfl rfl (fun x103 w102 i104 i105 => ?_)
    refine yT.if2 (t := 24) (pc' := 12) rfl rfl rfl (c2_gt rfl rfl) (fun c106 => ?_) (fun c106 => ?_)
    · exact yT.retV rfl rfl (qV hT trivial)
    · refine yT.aan (pc' := 13) g0 rfl rfl rfl ?_
      refine yT.cgk (pc' := 16) rfl rfl w102 ?_
      refine yT.aan (pc' := 17) g0 rfl rfl rfl ?_
      refine yT.cgR (pc' := 20) rfl rfl hT o0 rfl rfl (fun q108 w107 o109 => ?_)
      refine yT.cal (pc' := 21) rfl rfl hT o109 rfl (by omega) (fun x110 e111 => ?_)
      refine yT.if2 (t := 25) (pc' := 24) rfl rfl rfl (c2_lt rfl e111) (fun c112 => ?_) (fun c112 => ?_)
      · refine yT.aan (pc' := 26) g0 rfl rfl rfl ?_
        refine yT.cgk (pc' := 29) rfl rfl w102 ?_
        refine yT.p (pc' := 30) (lv' := xst1 _ 3 (.int x103)) rfl rfl (fun _ _ _ _ => rfl) ?_
        have L113 : ∀ (n125 : Nat) (lv114 : xLv) (h115 : List xE) (x117 : Int32), HT ks σ ρ h115 → xget lv114 0 = some (.ref (q0 + 1)) → xget lv114 1 = some (.int x1) → xget lv114 2 = some (.int x2) → xget lv114 3 = some (.int x117) → FV h115 q0 4 1 (.int x103) → x117.toInt ≤ 749 → x117.toInt ≤ x103.toInt → (x117.toInt + 2147483648).toNat < n125 → yT 0 [] rX4_insert (0) 0 30 lv114 [] h115 (CQ ks σ ρ (9, 0, 0) yT0) := by
          intro n125
          induction n125 with
          | zero => intro lv114 h115 x117 hT116 g118 g119 g120 g121 w122 i123 i124 m126; exact absurd m126 (Nat.not_lt_zero _)
          | succ n125 ih127 =>
            intro lv114 h115 x117 hT116 g118 g119 g120 g121 w122 i123 i124 m126
            refine yT.iln (pc' := 31) g121 rfl rfl ?_
            refine yT.iln (pc' := 32) g119 rfl rfl ?_
            refine yT.if2 (t := 55) (pc' := 35) rfl rfl rfl (c2_le rfl rfl) (fun c128 => ?_) (fun c128 => ?_)
            · refine yT.aan (pc' := 56) g118 rfl rfl rfl ?_
              refine yT.cgR (pc' := 59) rfl rfl hT116 o0 rfl rfl (fun q130 w129 o131 => ?_)
              refine yT.iln (pc' := 60) g119 rfl rfl ?_
              refine yT.iln (pc' := 61) g120 rfl rfl ?_
              refine yT.cis (pc' := 62) rfl rfl hT116 o131 rfl (by omega) (fun h132 hT133 fv134 => ?_)
              refine yT.aan (pc' := 63) g118 rfl rfl rfl ?_
              refine yT.p (pc' := 64) rfl rfl (fun _ _ _ _ => rfl) ?_
              refine yT.cgk (pc' := 67) rfl rfl (fv134 _ _ _ _ w122) ?_
              refine yT.kI (pc' := 68) rfl rfl (by decide) (fun x135 e136 => ?_)
              refine yT.ad (pc' := 69) rfl e136 rfl rfl (by have := i32_rng x1; have := i32_rng x103; omega) (fun x137 e138 => ?_)
              refine yT.cpS (pc' := 72) rfl rfl hT133 o0 rfl rfl rfl e138 (by omega) (fun h139 hT140 w141 fv142 => ?_)
              exact yT.retV rfl rfl (qV hT140 trivial)
            · refine yT.aan (pc' := 36) g118 rfl rfl rfl ?_
              refine yT.cgR (pc' := 39) rfl rfl hT116 o0 rfl rfl (fun q144 w143 o145 => ?_)
              refine yT.iln (pc' := 40) g121 rfl rfl ?_
              refine yT.aan (pc' := 41) g118 rfl rfl rfl ?_
              refine yT.cgk (pc' := 44) rfl rfl w143 ?_
              refine yT.iln (pc' := 45) g121 rfl rfl ?_
              refine yT.kI (pc' := 46) rfl rfl (by decide) (fun x146 e147 => ?_)
              refine yT.sb (pc' := 47) rfl e147 rfl rfl (by have := i32_rng x1; have := i32_rng x117; omega) (fun x148 e149 => ?_)
              refine yT.cia (pc' := 48) rfl rfl hT116 o145 e149 (by omega) (fun x150 => ?_)
              refine yT.cis (pc' := 49) rfl rfl hT116 o145 rfl (by omega) (fun h151 hT152 fv153 => ?_)
              refine yT.inc (pc' := 52) g121 rfl rfl rfl rfl ⟨by decide, by have := i32_rng x1; have := i32_rng x117; omega⟩ (fun x154 e155 => ?_)
              refine yT.p (pc' := 30) rfl rfl (fun _ _ _ _ => rfl) ?_
              exact ih127 _ _ x154 hT152 (xg_ne g118 rfl) (xg_ne g119 rfl) (xg_ne g120 rfl) xg_eq (fv153 _ _ _ _ w122) (by omega) (by omega) (by have := i32_rng x154; omega)
        exact L113 _ _ _ x103 hT (xg_ne g0 rfl) (xg_ne g1 rfl) (xg_ne g2 rfl) xg_eq w102 (by omega) (by omega) (Nat.lt_succ_self _)
      · exact yT.retV rfl rfl (qV hT trivial)
-- rX3_gather
set_option maxRecDepth 100000 in
set_option maxHeartbeats 4000000 in
theorem c33 {ks : List cT} {σ : Nat → Nat → Int32} {ρ : Nat → xE} {h : List xE} (hT : HT ks σ ρ h) {q0 : Nat} (o0 : xnth ks q0 = some (13, 0)) (x1 : Int32) : yM 33 (2) 0 [.ref (q0 + 1), .int x1] h (CQ ks σ ρ (9, 0, 0) yT0) := by
  refine yM.st xM_33 rfl rfl (fun lv g => ?_)
  have g0 := g 0 _ rfl
  have g1 := g 1 _ rfl
  refine yT.kI (pc' := 1) rfl rfl (by decide) (fun x101 e102 => ?_)
  refine yT.p (pc' := 2) (lv' := xst1 _ 2 (.int x101)) rfl rfl (fun _ _ _ _ => rfl) ?_
  have L103 : ∀ (n112 : Nat) (lv104 : xLv) (h105 : List xE) (x107 : Int32), HT ks σ ρ h105 → xget lv104 0 = some (.ref (q0 + 1)) → xget lv104 1 = some (.int x1) → xget lv104 2 = some (.int x107) → 0 ≤ x107.toInt → (2147483647 - x107.toInt).toNat < n112 → yT 0 [] rX3_gather (2) 0 2 lv104 [] h105 (CQ ks σ ρ (9, 0, 0) yT0) := by
    intro n112
    induction n112 with
    | zero => intro lv104 h105 x107 hT106 g108 g109 g110 i111 m113; exact absurd m113 (Nat.not_lt_zero _)
    | succ n112 ih114 =>
      intro lv104 h105 x107 hT106 g108 g109 g110 i111 m113
      refine yT.iln (pc' := 3) g110 rfl rfl ?_
      refine yT.ks (pc' := 6) rfl rfl (by decide) (fun x115 e116 => ?_)
      refine yT.if2 (t := 84) (pc' := 9) rfl rfl rfl (c2_ge rfl e116) (fun c117 => ?_) (fun c117 => ?_)
      · exact yT.retV rfl rfl (qV hT106 trivial)
      · refine yT.aan (pc' := 10) g108 rfl rfl rfl ?_
        refine yT.cgR (pc' := 13) rfl rfl hT106 o0 rfl rfl (fun q119 w118 o120 => ?_)
        refine kI (yT.cc (G2 := 0) (pc' := 16) rfl rfl rfl hT106 o120 xM_47 (c47 hT106 o120 (by decide)) rfl (by decide) (by decide) rfl) (fun h121 x124 hT122 E123 => ?_)
        refine kI (yT.cst (G2 := 0) (pc' := 19) rfl rfl xM_41 (c41 hT122 x124) rfl (by decide) (by decide) rfl) (fun h125 x128 hT126 E127 => ?_)
        refine yT.iln (pc' := 20) g109 rfl rfl ?_
        refine yT.if2 (t := 84) (pc' := 23) rfl rfl rfl (c2_lt rfl rfl) (fun c129 => ?_) (fun c129 => ?_)
        · exact yT.retV rfl rfl (qV hT126 trivial)
        · refine yT.aan (pc' := 24) g108 rfl rfl rfl ?_
          refine yT.cgZ (pc' := 27) rfl rfl hT126 o0 rfl rfl (fun x131 w130 b132 => ?_)
          have i133 := b01i b132
          refine yT.if1 (t := 84) (pc' := 30) rfl rfl rfl (c1_ne rfl) (fun c134 => ?_) (fun c134 => ?_)
          · exact yT.retV rfl rfl (qV hT126 trivial)
          · refine yT.aan (pc' := 31) g108 rfl rfl rfl ?_
            refine yT.aan (pc' := 32) g108 rfl rfl rfl ?_
            refine yT.cgR (pc' := 35) rfl rfl hT126 o0 rfl rfl (fun q136 w135 o137 => ?_)
            refine kI (yT.cc (G2 := 0) (pc' := 38) rfl rfl rfl hT126 o137 xM_47 (c47 hT126 o137 (by decide)) rfl (by decide) (by decide) rfl) (fun h138 x141 hT139 E140 => ?_)
            refine yT.kI (pc' := 39) rfl rfl (by decide) (fun x142 e143 => ?_)
            refine kV (yT.cc (G2 := 0) (pc' := 42) rfl rfl rfl hT139 o0 xM_39 (c39 hT139 o0 x141 x142) rfl (by decide) (by decide) rfl) (fun h144 hT145 E146 => ?_)
            refine yT.aan (pc' := 43) g108 rfl rfl rfl ?_
            refine kV (yT.cc (G2 := 0) (pc' := 46) rfl rfl rfl hT145 o0 xM_37 (c37 hT145 o0) rfl (by decide) (by decide) rfl) (fun h147 hT148 E149 => ?_)
            refine yT.aan (pc' := 47) g108 rfl rfl rfl ?_
            refine yT.cgR (pc' := 50) rfl rfl hT148 o0 rfl rfl (fun q151 w150 o152 => ?_)
            refine kV (yT.cc (G2 := 0) (pc' := 53) rfl rfl rfl hT148 o152 xM_53 (c53 hT148 o152 (by decide)) rfl (by decide) (by decide) rfl) (fun h153 hT154 E155 => ?_)
            refine yT.aan (pc' := 54) g108 rfl rfl rfl ?_
            refine yT.cgR (pc' := 57) rfl rfl hT154 o0 rfl rfl (fun q157 w156 o158 => ?_)
            refine yT.aan (pc' := 58) g108 rfl rfl rfl ?_
            refine yT.cgR (pc' := 61) rfl rfl hT154 o0 rfl rfl (fun q160 w159 o161 => ?_)
            refine kI (yT.cc (G2 := 0) (pc' := 64) rfl rfl rfl hT154 o161 xM_47 (c47 hT154 o161 (by decide)) rfl (by decide) (by decide) rfl) (fun h162 x165 hT163 E164 => ?_)
            refine yT.kb (pc' := 66) rfl rfl (by decide) (fun x166 e167 => ?_)
            refine kV (yT.cc (G2 := 0) (pc' := 69) rfl rfl rfl hT163 o158 xM_52 (c52 hT163 o158 (by decide) x165 x166) rfl (by decide) (by decide) rfl) (fun h168 hT169 E170 => ?_)
            refine yT.aan (pc' := 70) g108 rfl rfl rfl ?_
            refine yT.cgR (pc' := 73) rfl rfl hT169 o0 rfl rfl (fun q172 w171 o173 => ?_)
            refine yT.kb (pc' := 75) rfl rfl (by decide) (fun x174 e175 => ?_)
            refine kV (yT.cc (G2 := 0) (pc' := 78) rfl rfl rfl hT169 o173 xM_50 (c50 hT169 o173 (by decide) x174) rfl (by decide) (by decide) rfl) (fun h176 hT177 E178 => ?_)
            refine yT.inc (pc' := 81) g110 rfl rfl rfl rfl ⟨by decide, by have := i32_rng x107; omega⟩ (fun x179 e180 => ?_)
            refine yT.p (pc' := 2) rfl rfl (fun _ _ _ _ => rfl) ?_
            exact ih114 _ _ x179 hT177 (xg_ne g108 rfl) (xg_ne g109 rfl) xg_eq (by omega) (by have := i32_rng x179; omega)
  exact L103 _ _ _ x101 hT (xg_ne g0 rfl) (xg_ne g1 rfl) xg_eq (by omega) (Nat.lt_succ_self _)
-- rX3_awaited
set_option maxRecDepth 100000 in
set_option maxHeartbeats 4000000 in
theorem c42 {ks : List cT} {σ : Nat → Nat → Int32} {ρ : Nat → xE} {h : List xE} (hT : HT ks σ ρ h) (x0 : Int32) : yM 42 (0) 0 [.int x0] h (CQ ks σ ρ (0, 0, 0) yT0) := by
  refine yM.st xM_42 rfl rfl (fun lv g => ?_)
  have g0 := g 0 _ rfl
  refine yT.iln (pc' := 1) g0 rfl rfl ?_
  by_cases c101 : x0.toInt = 21
  · refine yT.tswK 0 (t := 32) rfl rfl (by omega) rfl rfl ?_
    refine yT.kb (pc' := 34) rfl rfl (by decide) (fun x102 e103 => ?_)
    exact yT.retI rfl rfl (qI hT trivial)
  · by_cases c104 : x0.toInt = 22
    · refine yT.tswK 1 (t := 35) rfl rfl (by omega) rfl rfl ?_
      refine yT.kb (pc' := 37) rfl rfl (by decide) (fun x105 e106 => ?_)
      exact yT.retI rfl rfl (qI hT trivial)
    · by_cases c107 : x0.toInt = 23
      · refine yT.tswK 2 (t := 38) rfl rfl (by omega) rfl rfl ?_
        refine yT.kb (pc' := 40) rfl rfl (by decide) (fun x108 e109 => ?_)
        exact yT.retI rfl rfl (qI hT trivial)
      · by_cases c110 : x0.toInt = 24
        · refine yT.tswK 3 (t := 41) rfl rfl (by omega) rfl rfl ?_
          refine yT.kb (pc' := 43) rfl rfl (by decide) (fun x111 e112 => ?_)
          exact yT.retI rfl rfl (qI hT trivial)
        · refine yT.tswD (t := 44) rfl rfl rfl (by omega) ?_
          refine yT.kb (pc' := 46) rfl rfl (by decide) (fun x113 e114 => ?_)
          exact yT.retI rfl rfl (qI hT trivial)
-- rX3_choose
set_option maxRecDepth 100000 in
set_option maxHeartbeats 4000000 in
theorem c35 {ks : List cT} {σ : Nat → Nat → Int32} {ρ : Nat → xE} {h : List xE} (hT : HT ks σ ρ h) {q0 : Nat} (o0 : xnth ks q0 = some (13, 0)) (x1 : Int32) (x2 : Int32) : yM 35 (2) 0 [.ref (q0 + 1), .int x1, .int x2] h (CQ ks σ ρ (9, 0, 0) yT0) := by
  refine yM.st xM_35 rfl rfl (fun lv g => ?_)
  have g0 := g 0 _ rfl
  have g1 := g 1 _ rfl
  have g2 := g 2 _ rfl
  refine yT.aan (pc' := 1) g0 rfl rfl rfl ?_
  refine yT.cgR (pc' := 4) rfl rfl hT o0 rfl rfl (fun q102 w101 o103 => ?_)
  refine kV (yT.cc (G2 := 0) (pc' := 7) rfl rfl rfl hT o103 xM_53 (c53 hT o103 (by decide)) rfl (by decide) (by decide) rfl) (fun h104 hT105 E106 => ?_)
  refine yT.aan (pc' := 8) g0 rfl rfl rfl ?_
  refine yT.iln (pc' := 9) g1 rfl rfl ?_
  refine yT.kI (pc' := 10) rfl rfl (by decide) (fun x107 e108 => ?_)
  refine kV (yT.cc (G2 := 0) (pc' := 13) rfl rfl rfl hT105 o0 xM_39 (c39 hT105 o0 x1 x107) rfl (by decide) (by decide) rfl) (fun h109 hT110 E111 => ?_)
  refine yT.aan (pc' := 14) g0 rfl rfl rfl ?_
  refine yT.cgR (pc' := 17) rfl rfl hT110 o0 rfl rfl (fun q113 w112 o114 => ?_)
  refine yT.aan (pc' := 18) g0 rfl rfl rfl ?_
  refine yT.cgR (pc' := 21) rfl rfl hT110 o0 rfl rfl (fun q116 w115 o117 => ?_)
  refine kI (yT.cc (G2 := 0) (pc' := 24) rfl rfl rfl hT110 o117 xM_47 (c47 hT110 o117 (by decide)) rfl (by decide) (by decide) rfl) (fun h118 x121 hT119 E120 => ?_)
  refine yT.aan (pc' := 25) g0 rfl rfl rfl ?_
  refine yT.cgR (pc' := 28) rfl rfl hT119 o0 rfl rfl (fun q123 w122 o124 => ?_)
  refine kS (yT.cc (G2 := 0) (pc' := 31) rfl rfl rfl hT119 o124 xM_44 (c44 hT119 o124 (by decide)) rfl (by decide) (by decide) rfl) (fun h125 x128 hT126 E127 i129 i130 => ?_)
  refine kV (yT.cc (G2 := 0) (pc' := 34) rfl rfl rfl hT126 o114 xM_51 (c51 hT126 o114 (by decide) x121 x128) rfl (by decide) (by decide) rfl) (fun h131 hT132 E133 => ?_)
  refine yT.aan (pc' := 35) g0 rfl rfl rfl ?_
  refine yT.cgR (pc' := 38) rfl rfl hT132 o0 rfl rfl (fun q135 w134 o136 => ?_)
  refine yT.aan (pc' := 39) g0 rfl rfl rfl ?_
  refine yT.cgk (pc' := 42) rfl rfl w134 ?_
  refine kS (yT.cc (G2 := 0) (pc' := 45) rfl rfl rfl hT132 o136 xM_44 (c44 hT132 o136 (by decide)) rfl (by decide) (by decide) rfl) (fun h137 x140 hT138 E139 i141 i142 => ?_)
  refine yT.kI (pc' := 46) rfl rfl (by decide) (fun x143 e144 => ?_)
  refine yT.sb (pc' := 47) rfl e144 rfl rfl (by have := i32_rng x140; omega) (fun x145 e146 => ?_)
  refine yT.aan (pc' := 48) g0 rfl rfl rfl ?_
  refine yT.cgR (pc' := 51) rfl rfl hT138 o0 rfl rfl (fun q148 w147 o149 => ?_)
  refine kS (yT.cc (G2 := 0) (pc' := 54) rfl rfl rfl hT138 o149 xM_44 (c44 hT138 o149 (by decide)) rfl (by decide) (by decide) rfl) (fun h150 x153 hT151 E152 i154 i155 => ?_)
  refine yT.kI (pc' := 55) rfl rfl (by decide) (fun x156 e157 => ?_)
  refine yT.sb (pc' := 56) rfl e157 rfl rfl (by have := i32_rng x153; omega) (fun x158 e159 => ?_)
  refine kV (yT.cc (G2 := 0) (pc' := 59) rfl rfl rfl hT151 o136 xM_51 (c51 hT151 o136 (by decide) x145 x158) rfl (by decide) (by decide) rfl) (fun h160 hT161 E162 => ?_)
  refine yT.aan (pc' := 60) g0 rfl rfl rfl ?_
  refine yT.cgR (pc' := 63) rfl rfl hT161 o0 rfl rfl (fun q164 w163 o165 => ?_)
  refine yT.aan (pc' := 64) g0 rfl rfl rfl ?_
  refine yT.cgk (pc' := 67) rfl rfl w163 ?_
  refine kS (yT.cc (G2 := 0) (pc' := 70) rfl rfl rfl hT161 o165 xM_44 (c44 hT161 o165 (by decide)) rfl (by decide) (by decide) rfl) (fun h166 x169 hT167 E168 i170 i171 => ?_)
  refine yT.kI (pc' := 71) rfl rfl (by decide) (fun x172 e173 => ?_)
  refine yT.sb (pc' := 72) rfl e173 rfl rfl (by have := i32_rng x169; omega) (fun x174 e175 => ?_)
  refine yT.iln (pc' := 73) g2 rfl rfl ?_
  refine kV (yT.cc (G2 := 0) (pc' := 76) rfl rfl rfl hT167 o165 xM_51 (c51 hT167 o165 (by decide) x174 x2) rfl (by decide) (by decide) rfl) (fun h176 hT177 E178 => ?_)
  refine yT.aan (pc' := 77) g0 rfl rfl rfl ?_
  refine yT.kI (pc' := 78) rfl rfl (by decide) (fun x179 e180 => ?_)
  refine yT.cpZ (pc' := 81) rfl rfl hT177 o0 rfl rfl rfl (b01 (by omega) (by omega)) (fun h181 hT182 w183 fv184 => ?_)
  exact yT.retV rfl rfl (qV hT182 trivial)
-- rX3_readBracketSign
set_option maxRecDepth 100000 in
set_option maxHeartbeats 4000000 in
theorem c34 {ks : List cT} {σ : Nat → Nat → Int32} {ρ : Nat → xE} {h : List xE} (hT : HT ks σ ρ h) {q0 : Nat} (o0 : xnth ks q0 = some (13, 0)) (x1 : Int32) : yM 34 (3) 0 [.ref (q0 + 1), .int x1] h (CQ ks σ ρ (9, 0, 0) yT0) := by
  refine yM.st xM_34 rfl rfl (fun lv g => ?_)
  have g0 := g 0 _ rfl
  have g1 := g 1 _ rfl
  refine yT.aan (pc' := 1) g0 rfl rfl rfl ?_
  refine yT.cgR (pc' := 4) rfl rfl hT o0 rfl rfl (fun q102 w101 o103 => ?_)
  refine kI (yT.cc (G2 := 0) (pc' := 7) rfl rfl rfl hT o103 xM_47 (c47 hT o103 (by decide)) rfl (by decide) (by decide) rfl) (fun h104 x107 hT105 E106 => ?_)
  refine yT.p (pc' := 8) (lv' := xst1 _ 2 (.int x107)) rfl rfl (fun _ _ _ _ => rfl) ?_
  refine yT.iln (pc' := 9) xg_eq rfl rfl ?_
  refine yT.kI (pc' := 10) rfl rfl (by decide) (fun x108 e109 => ?_)
  refine yT.if2 (t := 21) (pc' := 13) rfl rfl rfl (c2_eq rfl e109) (fun c110 => ?_) (fun c110 => ?_)
  · refine yT.aan (pc' := 22) (xg_ne g0 rfl) rfl rfl rfl ?_
    refine yT.aan (pc' := 23) (xg_ne g0 rfl) rfl rfl rfl ?_
    refine yT.cgI (pc' := 26) rfl rfl hT105 o0 rfl rfl (fun x112 w111 => ?_)
    refine yT.cpI (pc' := 29) rfl rfl hT105 o0 rfl rfl rfl (fun h113 hT114 w115 fv116 => ?_)
    exact yT.retV rfl rfl (qV hT114 trivial)
  · refine yT.iln (pc' := 14) (xg_ne g1 rfl) rfl rfl ?_
    refine yT.iln (pc' := 15) xg_eq rfl rfl ?_
    refine kI (yT.cst (G2 := 0) (pc' := 18) rfl rfl xM_42 (c42 hT105 x107) rfl (by decide) (by decide) rfl) (fun h117 x120 hT118 E119 => ?_)
    refine yT.if2 (t := 30) (pc' := 21) rfl rfl rfl (c2_eq rfl rfl) (fun c121 => ?_) (fun c121 => ?_)
    · refine yT.aan (pc' := 31) (xg_ne g0 rfl) rfl rfl rfl ?_
      refine yT.p (pc' := 32) rfl rfl (fun _ _ _ _ => rfl) ?_
      refine yT.cgI (pc' := 35) rfl rfl hT118 o0 rfl rfl (fun x123 w122 => ?_)
      refine yT.kI (pc' := 36) rfl rfl (by decide) (fun x124 e125 => ?_)
      refine yT.fi (pc' := 37) rfl rfl (fun _ _ _ _ => rfl) (fun x126 => ?_)
      refine yT.cpI (pc' := 40) rfl rfl hT118 o0 rfl rfl rfl (fun h127 hT128 w129 fv130 => ?_)
      refine yT.iln (pc' := 41) xg_eq rfl rfl ?_
      refine yT.kb (pc' := 43) rfl rfl (by decide) (fun x131 e132 => ?_)
      have J133 : ∀ (lv134 : xLv) (h135 : List xE), HT ks σ ρ h135 → xget lv134 0 = some (.ref (q0 + 1)) → xget lv134 2 = some (.int x107) → yT 0 [] rX3_readBracketSign (3) 0 54 lv134 [] h135 (CQ ks σ ρ (9, 0, 0) yT0) := by
        intro lv134 h135 hT136 g137 g138
        refine yT.iln (pc' := 55) g138 rfl rfl ?_
        by_cases c139 : x107.toInt = 21
        · refine yT.tswK 0 (t := 88) rfl rfl (by omega) rfl rfl ?_
          refine yT.aan (pc' := 89) g137 rfl rfl rfl ?_
          refine yT.kb (pc' := 91) rfl rfl (by decide) (fun x140 e141 => ?_)
          refine yT.kb (pc' := 93) rfl rfl (by decide) (fun x142 e143 => ?_)
          refine kV (yT.cc (G2 := 0) (pc' := 96) rfl rfl rfl hT136 o0 xM_35 (c35 hT136 o0 x140 x142) rfl (by decide) (by decide) rfl) (fun h144 hT145 E146 => ?_)
          refine yT.p (pc' := 204) rfl rfl (fun _ _ _ _ => rfl) ?_
          exact yT.retV rfl rfl (qV hT145 trivial)
        · by_cases c147 : x107.toInt = 22
          · refine yT.tswK 1 (t := 99) rfl rfl (by omega) rfl rfl ?_
            refine yT.aan (pc' := 100) g137 rfl rfl rfl ?_
            refine yT.kb (pc' := 102) rfl rfl (by decide) (fun x148 e149 => ?_)
            refine yT.kb (pc' := 104) rfl rfl (by decide) (fun x150 e151 => ?_)
            refine kV (yT.cc (G2 := 0) (pc' := 107) rfl rfl rfl hT136 o0 xM_35 (c35 hT136 o0 x148 x150) rfl (by decide) (by decide) rfl) (fun h152 hT153 E154 => ?_)
            refine yT.p (pc' := 204) rfl rfl (fun _ _ _ _ => rfl) ?_
            exact yT.retV rfl rfl (qV hT153 trivial)
          · by_cases c155 : x107.toInt = 23
            · refine yT.tswK 2 (t := 110) rfl rfl (by omega) rfl rfl ?_
              refine yT.aan (pc' := 111) g137 rfl rfl rfl ?_
              refine yT.cgR (pc' := 114) rfl rfl hT136 o0 rfl rfl (fun q157 w156 o158 => ?_)
              refine yT.aan (pc' := 115) g137 rfl rfl rfl ?_
              refine yT.cgR (pc' := 118) rfl rfl hT136 o0 rfl rfl (fun q160 w159 o161 => ?_)
              refine kI (yT.cc (G2 := 0) (pc' := 121) rfl rfl rfl hT136 o161 xM_47 (c47 hT136 o161 (by decide)) rfl (by decide) (by decide) rfl) (fun h162 x165 hT163 E164 => ?_)
              refine yT.aan (pc' := 122) g137 rfl rfl rfl ?_
              refine yT.cgR (pc' := 125) rfl rfl hT163 o0 rfl rfl (fun q167 w166 o168 => ?_)
              refine kS (yT.cc (G2 := 0) (pc' := 128) rfl rfl rfl hT163 o168 xM_44 (c44 hT163 o168 (by decide)) rfl (by decide) (by decide) rfl) (fun h169 x172 hT170 E171 i173 i174 => ?_)
              refine kV (yT.cc (G2 := 0) (pc' := 131) rfl rfl rfl hT170 o158 xM_51 (c51 hT170 o158 (by decide) x165 x172) rfl (by decide) (by decide) rfl) (fun h175 hT176 E177 => ?_)
              refine yT.aan (pc' := 132) g137 rfl rfl rfl ?_
              refine kV (yT.cc (G2 := 0) (pc' := 135) rfl rfl rfl hT176 o0 xM_38 (c38 hT176 o0) rfl (by decide) (by decide) rfl) (fun h178 hT179 E180 => ?_)
              refine yT.aan (pc' := 136) g137 rfl rfl rfl ?_
              refine yT.kI (pc' := 137) rfl rfl (by decide) (fun x181 e182 => ?_)
              refine yT.cpZ (pc' := 140) rfl rfl hT179 o0 rfl rfl rfl (b01 (by omega) (by omega)) (fun h183 hT184 w185 fv186 => ?_)
              refine yT.p (pc' := 204) rfl rfl (fun _ _ _ _ => rfl) ?_
              exact yT.retV rfl rfl (qV hT184 trivial)
            · by_cases c187 : x107.toInt = 24
              · refine yT.tswK 3 (t := 143) rfl rfl (by omega) rfl rfl ?_
                refine yT.aan (pc' := 144) g137 rfl rfl rfl ?_
                refine yT.cgR (pc' := 147) rfl rfl hT136 o0 rfl rfl (fun q189 w188 o190 => ?_)
                refine yT.aan (pc' := 148) g137 rfl rfl rfl ?_
                refine yT.cgk (pc' := 151) rfl rfl w188 ?_
                refine kS (yT.cc (G2 := 0) (pc' := 154) rfl rfl rfl hT136 o190 xM_44 (c44 hT136 o190 (by decide)) rfl (by decide) (by decide) rfl) (fun h191 x194 hT192 E193 i195 i196 => ?_)
                refine yT.kI (pc' := 155) rfl rfl (by decide) (fun x197 e198 => ?_)
                refine yT.sb (pc' := 156) rfl e198 rfl rfl (by have := i32_rng x194; omega) (fun x199 e200 => ?_)
                refine yT.kb (pc' := 158) rfl rfl (by decide) (fun x201 e202 => ?_)
                refine kV (yT.cc (G2 := 0) (pc' := 161) rfl rfl rfl hT192 o190 xM_51 (c51 hT192 o190 (by decide) x199 x201) rfl (by decide) (by decide) rfl) (fun h203 hT204 E205 => ?_)
                refine yT.aan (pc' := 162) g137 rfl rfl rfl ?_
                refine yT.kI (pc' := 163) rfl rfl (by decide) (fun x206 e207 => ?_)
                refine yT.cpZ (pc' := 166) rfl rfl hT204 o0 rfl rfl rfl (b01 (by omega) (by omega)) (fun h208 hT209 w210 fv211 => ?_)
                refine yT.p (pc' := 204) rfl rfl (fun _ _ _ _ => rfl) ?_
                exact yT.retV rfl rfl (qV hT209 trivial)
              · by_cases c212 : x107.toInt = 25
                · refine yT.tswK 4 (t := 169) rfl rfl (by omega) rfl rfl ?_
                  refine yT.aan (pc' := 170) g137 rfl rfl rfl ?_
                  refine yT.kb (pc' := 172) rfl rfl (by decide) (fun x213 e214 => ?_)
                  refine yT.kI (pc' := 173) rfl rfl (by decide) (fun x215 e216 => ?_)
                  refine kV (yT.cc (G2 := 0) (pc' := 176) rfl rfl rfl hT136 o0 xM_39 (c39 hT136 o0 x213 x215) rfl (by decide) (by decide) rfl) (fun h217 hT218 E219 => ?_)
                  refine yT.aan (pc' := 177) g137 rfl rfl rfl ?_
                  refine yT.cgR (pc' := 180) rfl rfl hT218 o0 rfl rfl (fun q221 w220 o222 => ?_)
                  refine kV (yT.cc (G2 := 0) (pc' := 183) rfl rfl rfl hT218 o222 xM_53 (c53 hT218 o222 (by decide)) rfl (by decide) (by decide) rfl) (fun h223 hT224 E225 => ?_)
                  refine yT.aan (pc' := 184) g137 rfl rfl rfl ?_
                  refine kV (yT.cc (G2 := 0) (pc' := 187) rfl rfl rfl hT224 o0 xM_38 (c38 hT224 o0) rfl (by decide) (by decide) rfl) (fun h226 hT227 E228 => ?_)
                  refine yT.aan (pc' := 188) g137 rfl rfl rfl ?_
                  refine yT.kI (pc' := 189) rfl rfl (by decide) (fun x229 e230 => ?_)
                  refine yT.cpZ (pc' := 192) rfl rfl hT227 o0 rfl rfl rfl (b01 (by omega) (by omega)) (fun h231 hT232 w233 fv234 => ?_)
                  refine yT.p (pc' := 204) rfl rfl (fun _ _ _ _ => rfl) ?_
                  exact yT.retV rfl rfl (qV hT232 trivial)
                · refine yT.tswD (t := 195) rfl rfl rfl (by omega) ?_
                  refine yT.aan (pc' := 196) g137 rfl rfl rfl ?_
                  refine kV (yT.cc (G2 := 0) (pc' := 199) rfl rfl rfl hT136 o0 xM_37 (c37 hT136 o0) rfl (by decide) (by decide) rfl) (fun h235 hT236 E237 => ?_)
                  refine yT.aan (pc' := 200) g137 rfl rfl rfl ?_
                  refine yT.kI (pc' := 201) rfl rfl (by decide) (fun x238 e239 => ?_)
                  refine yT.cpZ (pc' := 204) rfl rfl hT236 o0 rfl rfl rfl (b01 (by omega) (by omega)) (fun h240 hT241 w242 fv243 => ?_)
                  exact yT.retV rfl rfl (qV hT241 trivial)
      refine yT.if2 (t := 54) (pc' := 46) rfl rfl rfl (c2_eq rfl e132) (fun c244 => ?_) (fun c244 => ?_)
      · exact J133 _ _ hT128 (xg_ne g0 rfl) xg_eq
      · refine yT.aan (pc' := 47) (xg_ne g0 rfl) rfl rfl rfl ?_
        refine yT.cgR (pc' := 50) rfl rfl hT128 o0 rfl rfl (fun q246 w245 o247 => ?_)
        refine yT.iln (pc' := 51) (xg_ne g1 rfl) rfl rfl ?_
        refine kV (yT.cc (G2 := 0) (pc' := 54) rfl rfl rfl hT128 o247 xM_50 (c50 hT128 o247 (by decide) x1) rfl (by decide) (by decide) rfl) (fun h248 hT249 E250 => ?_)
        exact J133 _ _ hT249 (xg_ne g0 rfl) xg_eq
    · refine yT.aan (pc' := 22) (xg_ne g0 rfl) rfl rfl rfl ?_
      refine yT.aan (pc' := 23) (xg_ne g0 rfl) rfl rfl rfl ?_
      refine yT.cgI (pc' := 26) rfl rfl hT118 o0 rfl rfl (fun x252 w251 => ?_)
      refine yT.cpI (pc' := 29) rfl rfl hT118 o0 rfl rfl rfl (fun h253 hT254 w255 fv256 => ?_)
      exact yT.retV rfl rfl (qV hT254 trivial)
-- rX3_readSign
set_option maxRecDepth 100000 in
set_option maxHeartbeats 4000000 in
theorem c32 {ks : List cT} {σ : Nat → Nat → Int32} {ρ : Nat → xE} {h : List xE} (hT : HT ks σ ρ h) {q0 : Nat} (o0 : xnth ks q0 = some (13, 0)) (x1 : Int32) : yM 32 (4) 0 [.ref (q0 + 1), .int x1] h (CQ ks σ ρ (9, 0, 0) yT0) := by
  refine yM.st xM_32 rfl rfl (fun lv g => ?_)
  have g0 := g 0 _ rfl
  have g1 := g 1 _ rfl
  refine yT.iln (pc' := 1) g1 rfl rfl ?_
  refine kI (yT.cst (G2 := 0) (pc' := 4) rfl rfl xM_40 (c40 hT x1) rfl (by decide) (by decide) rfl) (fun h101 x104 hT102 E103 => ?_)
  refine yT.p (pc' := 5) (lv' := xst1 _ 2 (.int x104)) rfl rfl (fun _ _ _ _ => rfl) ?_
  refine yT.iln (pc' := 6) xg_eq rfl rfl ?_
  refine yT.kI (pc' := 7) rfl rfl (by decide) (fun x105 e106 => ?_)
  refine yT.if2 (t := 21) (pc' := 10) rfl rfl rfl (c2_ne rfl e106) (fun c107 => ?_) (fun c107 => ?_)
  · refine yT.iln (pc' := 22) xg_eq rfl rfl ?_
    refine kI (yT.cst (G2 := 0) (pc' := 25) rfl rfl xM_41 (c41 hT102 x104) rfl (by decide) (by decide) rfl) (fun h108 x111 hT109 E110 => ?_)
    refine yT.p (pc' := 26) (lv' := xst1 _ 3 (.int x111)) rfl rfl (fun _ _ _ _ => rfl) ?_
    refine yT.aan (pc' := 27) (xg_ne (xg_ne g0 rfl) rfl) rfl rfl rfl ?_
    refine yT.iln (pc' := 28) xg_eq rfl rfl ?_
    refine yT.kI (pc' := 29) rfl rfl (by decide) (fun x112 e113 => ?_)
    refine yT.mx (pc' := 32) rfl rfl (by decide) rfl (fun x114 i115 => ?_)
    have i116 : x114.toInt = x111.toInt ∨ x114.toInt = 2 := by rcases i115 with rfl | rfl; exact Or.inl rfl; exact Or.inr e113
    refine kV (yT.cc (G2 := 0) (pc' := 35) rfl rfl rfl hT109 o0 xM_33 (c33 hT109 o0 x114) rfl (by decide) (by decide) rfl) (fun h117 hT118 E119 => ?_)
    refine yT.iln (pc' := 36) xg_eq rfl rfl ?_
    refine yT.kI (pc' := 37) rfl rfl (by decide) (fun x120 e121 => ?_)
    have J122 : ∀ (lv123 : xLv) (h124 : List xE), HT ks σ ρ h124 → xget lv123 0 = some (.ref (q0 + 1)) → xget lv123 1 = some (.int x1) → xget lv123 2 = some (.int x104) → yT 0 [] rX3_readSign (4) 0 63 lv123 [] h124 (CQ ks σ ρ (9, 0, 0) yT0) := by
      intro lv123 h124 hT125 g126 g127 g128
      refine yT.aan (pc' := 64) g126 rfl rfl rfl ?_
      refine yT.iln (pc' := 65) g128 rfl rfl ?_
      refine kV (yT.cc (G2 := 0) (pc' := 68) rfl rfl rfl hT125 o0 xM_36 (c36 hT125 o0 x104) rfl (by decide) (by decide) rfl) (fun h129 hT130 E131 => ?_)
      refine yT.aan (pc' := 69) g126 rfl rfl rfl ?_
      refine yT.cgR (pc' := 72) rfl rfl hT130 o0 rfl rfl (fun q133 w132 o134 => ?_)
      refine yT.iln (pc' := 73) g127 rfl rfl ?_
      refine kV (yT.cc (G2 := 0) (pc' := 76) rfl rfl rfl hT130 o134 xM_50 (c50 hT130 o134 (by decide) x1) rfl (by decide) (by decide) rfl) (fun h135 hT136 E137 => ?_)
      refine yT.aan (pc' := 77) g126 rfl rfl rfl ?_
      refine yT.p (pc' := 78) rfl rfl (fun _ _ _ _ => rfl) ?_
      refine yT.cgI (pc' := 81) rfl rfl hT136 o0 rfl rfl (fun x139 w138 => ?_)
      refine yT.kI (pc' := 82) rfl rfl (by decide) (fun x140 e141 => ?_)
      refine yT.fi (pc' := 83) rfl rfl (fun _ _ _ _ => rfl) (fun x142 => ?_)
      refine yT.cpI (pc' := 86) rfl rfl hT136 o0 rfl rfl rfl (fun h143 hT144 w145 fv146 => ?_)
      refine yT.aan (pc' := 87) g126 rfl rfl rfl ?_
      refine yT.kI (pc' := 88) rfl rfl (by decide) (fun x147 e148 => ?_)
      refine yT.cpZ (pc' := 91) rfl rfl hT144 o0 rfl rfl rfl (b01 (by omega) (by omega)) (fun h149 hT150 w151 fv152 => ?_)
      exact yT.retV rfl rfl (qV hT150 trivial)
    refine yT.if2 (t := 63) (pc' := 40) rfl rfl rfl (c2_ne rfl e121) (fun c153 => ?_) (fun c153 => ?_)
    · exact J122 _ _ hT118 (xg_ne (xg_ne g0 rfl) rfl) (xg_ne (xg_ne g1 rfl) rfl) (xg_ne xg_eq rfl)
    · refine yT.aan (pc' := 41) (xg_ne (xg_ne g0 rfl) rfl) rfl rfl rfl ?_
      refine yT.cgR (pc' := 44) rfl rfl hT118 o0 rfl rfl (fun q155 w154 o156 => ?_)
      refine kI (yT.cc (G2 := 0) (pc' := 47) rfl rfl rfl hT118 o156 xM_47 (c47 hT118 o156 (by decide)) rfl (by decide) (by decide) rfl) (fun h157 x160 hT158 E159 => ?_)
      refine kI (yT.cst (G2 := 0) (pc' := 50) rfl rfl xM_41 (c41 hT158 x160) rfl (by decide) (by decide) rfl) (fun h161 x164 hT162 E163 => ?_)
      refine yT.kI (pc' := 51) rfl rfl (by decide) (fun x165 e166 => ?_)
      refine yT.if2 (t := 63) (pc' := 54) rfl rfl rfl (c2_ne rfl e166) (fun c167 => ?_) (fun c167 => ?_)
      · exact J122 _ _ hT162 (xg_ne (xg_ne g0 rfl) rfl) (xg_ne (xg_ne g1 rfl) rfl) (xg_ne xg_eq rfl)
      · refine yT.aan (pc' := 55) (xg_ne (xg_ne g0 rfl) rfl) rfl rfl rfl ?_
        refine yT.aan (pc' := 56) (xg_ne (xg_ne g0 rfl) rfl) rfl rfl rfl ?_
        refine yT.cgI (pc' := 59) rfl rfl hT162 o0 rfl rfl (fun x169 w168 => ?_)
        refine yT.cpI (pc' := 62) rfl rfl hT162 o0 rfl rfl rfl (fun h170 hT171 w172 fv173 => ?_)
        exact yT.retV rfl rfl (qV hT171 trivial)
  · refine yT.aan (pc' := 11) (xg_ne g0 rfl) rfl rfl rfl ?_
    refine yT.kI (pc' := 12) rfl rfl (by decide) (fun x174 e175 => ?_)
    refine kV (yT.cc (G2 := 0) (pc' := 15) rfl rfl rfl hT102 o0 xM_33 (c33 hT102 o0 x174) rfl (by decide) (by decide) rfl) (fun h176 hT177 E178 => ?_)
    refine yT.aan (pc' := 16) (xg_ne g0 rfl) rfl rfl rfl ?_
    refine yT.iln (pc' := 17) (xg_ne g1 rfl) rfl rfl ?_
    refine kV (yT.cc (G2 := 0) (pc' := 20) rfl rfl rfl hT177 o0 xM_34 (c34 hT177 o0 x1) rfl (by decide) (by decide) rfl) (fun h179 hT180 E181 => ?_)
    exact yT.retV rfl rfl (qV hT180 trivial)
-- rX4_counted
set_option maxRecDepth 100000 in
set_option maxHeartbeats 4000000 in
theorem c45 {ks : List cT} {σ : Nat → Nat → Int32} {ρ : Nat → xE} {h : List xE} (hT : HT ks σ ρ h) {q0 N : Nat} (o0 : xnth ks q0 = some (14, N)) (hN : N ≤ 750) : yM 45 (0) 0 [.ref (q0 + 1)] h (CQ ks σ ρ (0, 0, 0) yT0) := by
  refine yM.st xM_45 rfl rfl (fun lv g => ?_)
  have g0 := g 0 _ rfl
  refine yT.aan (pc' := 1) g0 rfl rfl rfl ?_
  refine yT.cgI (pc' := 4) rfl rfl hT o0 rfl rfl (fun x102 w101 => ?_)
  exact yT.retI rfl rfl (qI hT trivial)
-- rX4_has
set_option maxRecDepth 100000 in
set_option maxHeartbeats 4000000 in
theorem c49 {ks : List cT} {σ : Nat → Nat → Int32} {ρ : Nat → xE} {h : List xE} (hT : HT ks σ ρ h) {q0 N : Nat} (o0 : xnth ks q0 = some (14, N)) (hN : N ≤ 750) (x1 : Int32) : yM 49 (0) 0 [.ref (q0 + 1), .int x1] h (CQ ks σ ρ (1, 0, 0) yT0) := by
  refine yM.st xM_49 rfl rfl (fun lv g => ?_)
  have g0 := g 0 _ rfl
  have g1 := g 1 _ rfl
  refine yT.kI (pc' := 1) rfl rfl (by decide) (fun x101 e102 => ?_)
  refine yT.p (pc' := 2) (lv' := xst1 _ 2 (.int x101)) rfl rfl (fun _ _ _ _ => rfl) ?_
  have L103 : ∀ (n110 : Nat) (lv104 : xLv) (x105 : Int32), xget lv104 0 = some (.ref (q0 + 1)) → xget lv104 1 = some (.int x1) → xget lv104 2 = some (.int x105) → 0 ≤ x105.toInt → (2147483647 - x105.toInt).toNat < n110 → yT 0 [] rX4_has (0) 0 2 lv104 [] h (CQ ks σ ρ (1, 0, 0) yT0) := by
    intro n110
    induction n110 with
    | zero => intro lv104 x105 g106 g107 g108 i109 m111; exact absurd m111 (Nat.not_lt_zero _)
    | succ n110 ih112 =>
      intro lv104 x105 g106 g107 g108 i109 m111
      refine yT.iln (pc' := 3) g108 rfl rfl ?_
      refine yT.aan (pc' := 4) g106 rfl rfl rfl ?_
      refine yT.cgS (pc' := 7) rfl rfl hT o0 rfl rfl (fun x114 w113 i115 i116 => ?_)
      refine yT.if2 (t := 37) (pc' := 10) rfl rfl rfl (c2_ge rfl rfl) (fun c117 => ?_) (fun c117 => ?_)
      · refine yT.kI (pc' := 38) rfl rfl (by decide) (fun x118 e119 => ?_)
        exact yT.retZ rfl rfl (b01 (by omega) (by omega)) (qZ hT trivial (b01 (by omega) (by omega)))
      · refine yT.iln (pc' := 11) g108 rfl rfl ?_
        refine yT.aan (pc' := 12) g106 rfl rfl rfl ?_
        refine yT.cgR (pc' := 15) rfl rfl hT o0 rfl rfl (fun q121 w120 o122 => ?_)
        refine yT.cal (pc' := 16) rfl rfl hT o122 rfl (by omega) (fun x123 e124 => ?_)
        refine yT.if2 (t := 37) (pc' := 19) rfl rfl rfl (c2_ge rfl e124) (fun c125 => ?_) (fun c125 => ?_)
        · refine yT.kI (pc' := 38) rfl rfl (by decide) (fun x126 e127 => ?_)
          exact yT.retZ rfl rfl (b01 (by omega) (by omega)) (qZ hT trivial (b01 (by omega) (by omega)))
        · refine yT.aan (pc' := 20) g106 rfl rfl rfl ?_
          refine yT.cgk (pc' := 23) rfl rfl w120 ?_
          refine yT.iln (pc' := 24) g108 rfl rfl ?_
          refine yT.cia (pc' := 25) rfl rfl hT o122 rfl (by omega) (fun x128 => ?_)
          refine yT.iln (pc' := 26) g107 rfl rfl ?_
          refine yT.if2 (t := 31) (pc' := 29) rfl rfl rfl (c2_ne rfl rfl) (fun c129 => ?_) (fun c129 => ?_)
          · refine yT.inc (pc' := 34) g108 rfl rfl rfl rfl ⟨by decide, by have := i32_rng x105; have := i32_rng x114; omega⟩ (fun x130 e131 => ?_)
            refine yT.p (pc' := 2) rfl rfl (fun _ _ _ _ => rfl) ?_
            exact ih112 _ x130 (xg_ne g106 rfl) (xg_ne g107 rfl) xg_eq (by omega) (by have := i32_rng x130; omega)
          · refine yT.kI (pc' := 30) rfl rfl (by decide) (fun x132 e133 => ?_)
            exact yT.retZ rfl rfl (b01 (by omega) (by omega)) (qZ hT trivial (b01 (by omega) (by omega)))
  exact L103 _ _ x101 (xg_ne g0 rfl) (xg_ne g1 rfl) xg_eq (by omega) (Nat.lt_succ_self _)
-- rX4_drop
set_option maxRecDepth 100000 in
set_option maxHeartbeats 4000000 in
theorem c54 {ks : List cT} {σ : Nat → Nat → Int32} {ρ : Nat → xE} {h : List xE} (hT : HT ks σ ρ h) {q0 N : Nat} (o0 : xnth ks q0 = some (14, N)) (hN : N ≤ 750) (x1 : Int32) : yM 54 (0) 0 [.ref (q0 + 1), .int x1] h (CQ ks σ ρ (9, 0, 0) yT0) := by
  refine yM.st xM_54 rfl rfl (fun lv g => ?_)
  have g0 := g 0 _ rfl
  have g1 := g 1 _ rfl
  refine yT.kI (pc' := 1) rfl rfl (by decide) (fun x101 e102 => ?_)
  refine yT.p (pc' := 2) (lv' := xst1 _ 2 (.int x101)) rfl rfl (fun _ _ _ _ => rfl) ?_
  refine yT.kI (pc' := 3) rfl rfl (by decide) (fun x103 e104 => ?_)
  refine yT.p (pc' := 4) (lv' := xst1 _ 3 (.int x103)) rfl rfl (fun _ _ _ _ => rfl) ?_
  have L105 : ∀ (n119 : Nat) (lv106 : xLv) (h107 : List xE) (x109 : Int32) (x110 : Int32), HT ks σ ρ h107 → xget lv106 0 = some (.ref (q0 + 1)) → xget lv106 1 = some (.int x1) → xget lv106 2 = some (.int x109) → xget lv106 3 = some (.int x110) → 0 ≤ x110.toInt → 0 ≤ x109.toInt → x109.toInt ≤ x110.toInt → x110.toInt ≤ (N : Int) → (2147483647 - x110.toInt).toNat < n119 → yT 0 [] rX4_drop (0) 0 4 lv106 [] h107 (CQ ks σ ρ (9, 0, 0) yT0) := by
    intro n119
    induction n119 with
    | zero => intro lv106 h107 x109 x110 hT108 g111 g112 g113 g114 i115 i116 i117 i118 m120; exact absurd m120 (Nat.not_lt_zero _)
    | succ n119 ih121 =>
      intro lv106 h107 x109 x110 hT108 g111 g112 g113 g114 i115 i116 i117 i118 m120
      refine yT.iln (pc' := 5) g114 rfl rfl ?_
      refine yT.aan (pc' := 6) g111 rfl rfl rfl ?_
      refine yT.cgS (pc' := 9) rfl rfl hT108 o0 rfl rfl (fun x123 w122 i124 i125 => ?_)
      refine yT.if2 (t := 52) (pc' := 12) rfl rfl rfl (c2_ge rfl rfl) (fun c126 => ?_) (fun c126 => ?_)
      · refine yT.aan (pc' := 53) g111 rfl rfl rfl ?_
        refine yT.iln (pc' := 54) g113 rfl rfl ?_
        refine yT.cpS (pc' := 57) rfl rfl hT108 o0 rfl rfl rfl rfl (by omega) (fun h127 hT128 w129 fv130 => ?_)
        exact yT.retV rfl rfl (qV hT128 trivial)
      · refine yT.iln (pc' := 13) g114 rfl rfl ?_
        refine yT.aan (pc' := 14) g111 rfl rfl rfl ?_
        refine yT.cgR (pc' := 17) rfl rfl hT108 o0 rfl rfl (fun q132 w131 o133 => ?_)
        refine yT.cal (pc' := 18) rfl rfl hT108 o133 rfl (by omega) (fun x134 e135 => ?_)
        refine yT.if2 (t := 52) (pc' := 21) rfl rfl rfl (c2_ge rfl e135) (fun c136 => ?_) (fun c136 => ?_)
        · refine yT.aan (pc' := 53) g111 rfl rfl rfl ?_
          refine yT.iln (pc' := 54) g113 rfl rfl ?_
          refine yT.cpS (pc' := 57) rfl rfl hT108 o0 rfl rfl rfl rfl (by omega) (fun h137 hT138 w139 fv140 => ?_)
          exact yT.retV rfl rfl (qV hT138 trivial)
        · refine yT.aan (pc' := 22) g111 rfl rfl rfl ?_
          refine yT.cgk (pc' := 25) rfl rfl w131 ?_
          refine yT.iln (pc' := 26) g114 rfl rfl ?_
          refine yT.cia (pc' := 27) rfl rfl hT108 o133 rfl (by omega) (fun x141 => ?_)
          refine yT.iln (pc' := 28) g112 rfl rfl ?_
          refine yT.if2 (t := 46) (pc' := 31) rfl rfl rfl (c2_eq rfl rfl) (fun c142 => ?_) (fun c142 => ?_)
          · refine yT.inc (pc' := 49) g114 rfl rfl rfl rfl ⟨by decide, by have := i32_rng x110; have := i32_rng x123; omega⟩ (fun x143 e144 => ?_)
            refine yT.p (pc' := 4) rfl rfl (fun _ _ _ _ => rfl) ?_
            exact ih121 _ _ x109 x143 hT108 (xg_ne g111 rfl) (xg_ne g112 rfl) (xg_ne g113 rfl) xg_eq (by omega) (by omega) (by omega) (by omega) (by have := i32_rng x143; omega)
          · refine yT.aan (pc' := 32) g111 rfl rfl rfl ?_
            refine yT.cgk (pc' := 35) rfl rfl w131 ?_
            refine yT.iln (pc' := 36) g113 rfl rfl ?_
            refine yT.aan (pc' := 37) g111 rfl rfl rfl ?_
            refine yT.cgk (pc' := 40) rfl rfl w131 ?_
            refine yT.iln (pc' := 41) g114 rfl rfl ?_
            refine yT.cia (pc' := 42) rfl rfl hT108 o133 rfl (by omega) (fun x145 => ?_)
            refine yT.cis (pc' := 43) rfl rfl hT108 o133 rfl (by omega) (fun h146 hT147 fv148 => ?_)
            refine yT.inc (pc' := 46) g113 rfl rfl rfl rfl ⟨by decide, by have := i32_rng x109; omega⟩ (fun x149 e150 => ?_)
            refine yT.inc (pc' := 49) (xg_ne g114 rfl) rfl rfl rfl rfl ⟨by decide, by have := i32_rng x110; have := i32_rng x123; omega⟩ (fun x151 e152 => ?_)
            refine yT.p (pc' := 4) rfl rfl (fun _ _ _ _ => rfl) ?_
            exact ih121 _ _ x149 x151 hT147 (xg_ne (xg_ne g111 rfl) rfl) (xg_ne (xg_ne g112 rfl) rfl) (xg_ne xg_eq rfl) xg_eq (by omega) (by omega) (by omega) (by omega) (by have := i32_rng x151; omega)
  exact L105 _ _ _ x101 x103 hT (xg_ne (xg_ne g0 rfl) rfl) (xg_ne (xg_ne g1 rfl) rfl) (xg_ne xg_eq rfl) xg_eq (by omega) (by omega) (by omega) (by omega) (Nat.lt_succ_self _)
-- rX5_checkReads
set_option maxRecDepth 100000 in
set_option maxHeartbeats 4000000 in
theorem c68 {ks : List cT} {σ : Nat → Nat → Int32} {ρ : Nat → xE} {h : List xE} (hT : HT ks σ ρ h) {q0 : Nat} (o0 : xnth ks q0 = some (15, 0)) {q1 : Nat} (o1 : xnth ks q1 = some (11, 0)) (x2 : Int32) (ix2 : 0 ≤ x2.toInt ∧ x2.toInt ≤ 24) {m : Nat} (R : ∀ {h : List xE}, HT ks σ ρ h → ∀ (x y : Int32), y.toInt = x2.toInt + 1 → yM 67 (8 * m + 192) 0 [.ref (q0 + 1), .int x, .int y] h (CQ ks σ ρ (9, 0, 0) yT0)) : yM 68 (8 * m + 194) 0 [.ref (q0 + 1), .ref (q1 + 1), .int x2] h (CQ ks σ ρ (9, 0, 0) yT0) := by
  refine yM.st xM_68 rfl rfl (fun lv g => ?_)
  have g0 := g 0 _ rfl
  have g1 := g 1 _ rfl
  have g2 := g 2 _ rfl
  refine yT.kI (pc' := 1) rfl rfl (by decide) (fun x101 e102 => ?_)
  refine yT.p (pc' := 2) (lv' := xst1 _ 3 (.int x101)) rfl rfl (fun _ _ _ _ => rfl) ?_
  have L103 : ∀ (n113 : Nat) (lv104 : xLv) (h105 : List xE) (x107 : Int32), HT ks σ ρ h105 → xget lv104 0 = some (.ref (q0 + 1)) → xget lv104 1 = some (.ref (q1 + 1)) → xget lv104 2 = some (.int x2) → xget lv104 3 = some (.int x107) → 0 ≤ x107.toInt → (2147483647 - x107.toInt).toNat < n113 → yT 0 [] rX5_checkReads (8 * m + 194) 0 2 lv104 [] h105 (CQ ks σ ρ (9, 0, 0) yT0) := by
    intro n113
    induction n113 with
    | zero => intro lv104 h105 x107 hT106 g108 g109 g110 g111 i112 m114; exact absurd m114 (Nat.not_lt_zero _)
    | succ n113 ih115 =>
      intro lv104 h105 x107 hT106 g108 g109 g110 g111 i112 m114
      refine yT.iln (pc' := 3) g111 rfl rfl ?_
      refine yT.aan (pc' := 4) g109 rfl rfl rfl ?_
      refine yT.cgR (pc' := 7) rfl rfl hT106 o1 rfl rfl (fun q117 w116 o118 => ?_)
      refine kS (yT.cc (G2 := 0) (pc' := 10) rfl rfl rfl hT106 o118 xM_44 (c44 hT106 o118 (by decide)) rfl (by omega) (by decide) rfl) (fun h119 x122 hT120 E121 i123 i124 => ?_)
      refine yT.if2 (t := 71) (pc' := 13) rfl rfl rfl (c2_ge rfl rfl) (fun c125 => ?_) (fun c125 => ?_)
      · refine yT.aan (pc' := 72) g109 rfl rfl rfl ?_
        refine yT.cgI (pc' := 75) rfl rfl hT120 o1 rfl rfl (fun x127 w126 => ?_)
        refine yT.kI (pc' := 76) rfl rfl (by decide) (fun x128 e129 => ?_)
        refine yT.if2 (t := 84) (pc' := 79) rfl rfl rfl (c2_ne rfl e129) (fun c130 => ?_) (fun c130 => ?_)
        · exact yT.retV rfl rfl (qV hT120 trivial)
        · refine yT.aan (pc' := 80) g109 rfl rfl rfl ?_
          refine yT.kI (pc' := 81) rfl rfl (by decide) (fun x131 e132 => ?_)
          refine yT.cpI (pc' := 84) rfl rfl hT120 o1 rfl rfl rfl (fun h133 hT134 w135 fv136 => ?_)
          exact yT.retV rfl rfl (qV hT134 trivial)
      · refine yT.aan (pc' := 14) g109 rfl rfl rfl ?_
        refine yT.cgI (pc' := 17) rfl rfl hT120 o1 rfl rfl (fun x138 w137 => ?_)
        refine yT.kI (pc' := 18) rfl rfl (by decide) (fun x139 e140 => ?_)
        refine yT.if2 (t := 71) (pc' := 21) rfl rfl rfl (c2_ne rfl e140) (fun c141 => ?_) (fun c141 => ?_)
        · refine yT.aan (pc' := 72) g109 rfl rfl rfl ?_
          refine yT.cgk (pc' := 75) rfl rfl w137 ?_
          refine yT.kI (pc' := 76) rfl rfl (by decide) (fun x142 e143 => ?_)
          refine yT.if2 (t := 84) (pc' := 79) rfl rfl rfl (c2_ne rfl e143) (fun c144 => ?_) (fun c144 => ?_)
          · exact yT.retV rfl rfl (qV hT120 trivial)
          · refine yT.aan (pc' := 80) g109 rfl rfl rfl ?_
            refine yT.kI (pc' := 81) rfl rfl (by decide) (fun x145 e146 => ?_)
            refine yT.cpI (pc' := 84) rfl rfl hT120 o1 rfl rfl rfl (fun h147 hT148 w149 fv150 => ?_)
            exact yT.retV rfl rfl (qV hT148 trivial)
        · refine yT.aan (pc' := 22) g109 rfl rfl rfl ?_
          refine yT.cgR (pc' := 25) rfl rfl hT120 o1 rfl rfl (fun q152 w151 o153 => ?_)
          refine yT.iln (pc' := 26) g111 rfl rfl ?_
          refine kI (yT.cc (G2 := 0) (pc' := 29) rfl rfl rfl hT120 o153 xM_46 (c46 hT120 o153 (by decide) x107) rfl (by omega) (by decide) rfl) (fun h154 x157 hT155 E156 => ?_)
          refine yT.p (pc' := 31) (lv' := xst1 _ 4 (.int x157)) rfl rfl (fun _ _ _ _ => rfl) ?_
          refine yT.aan (pc' := 32) (xg_ne g108 rfl) rfl rfl rfl ?_
          refine yT.cgR (pc' := 35) rfl rfl hT155 o0 rfl rfl (fun q159 w158 o160 => ?_)
          refine yT.il (pc' := 37) xg_eq rfl rfl ?_
          refine kN (yT.cc (G2 := 0) (pc' := 40) rfl rfl rfl hT155 o160 xM_87 (c87 hT155 o160 x157) rfl (by omega) (by decide) rfl) (fun h161 hT162 E163 => ?_) (fun h161 q164 hT162 E163 o165 => ?_)
          · refine yT.p (pc' := 42) (lv' := xst1 _ 5 (.null)) rfl rfl (fun _ _ _ _ => rfl) ?_
            refine yT.aa_ (pc' := 44) xg_eq rfl rfl rfl ?_
            refine yT.p (pc' := 65) rfl rfl (fun _ _ _ _ => rfl) ?_
            refine yT.inc (pc' := 68) (xg_ne (xg_ne g111 rfl) rfl) rfl rfl rfl rfl ⟨by decide, by have := i32_rng x107; have := i32_rng x122; omega⟩ (fun x166 e167 => ?_)
            refine yT.p (pc' := 2) rfl rfl (fun _ _ _ _ => rfl) ?_
            exact ih115 _ _ x166 hT162 (xg_ne (xg_ne (xg_ne g108 rfl) rfl) rfl) (xg_ne (xg_ne (xg_ne g109 rfl) rfl) rfl) (xg_ne (xg_ne (xg_ne g110 rfl) rfl) rfl) xg_eq (by omega) (by have := i32_rng x166; omega)
          · have i168 : 0 ≤ x157.toInt ∧ x157.toInt < 24 := (show _ ∨ _ from E163).elim (fun e => by cases e) id
            refine yT.p (pc' := 42) (lv' := xst1 _ 5 (.ref (q164 + 1))) rfl rfl (fun _ _ _ _ => rfl) ?_
            refine yT.aa_ (pc' := 44) xg_eq rfl rfl rfl ?_
            refine yT.p (pc' := 47) rfl rfl (fun _ _ _ _ => rfl) ?_
            refine yT.aa_ (pc' := 49) xg_eq rfl rfl rfl ?_
            refine yT.cgI (pc' := 52) rfl rfl hT162 o165 rfl rfl (fun x170 w169 => ?_)
            refine yT.kI (pc' := 53) rfl rfl (by decide) (fun x171 e172 => ?_)
            refine yT.if2 (t := 65) (pc' := 56) rfl rfl rfl (c2_ne rfl e172) (fun c173 => ?_) (fun c173 => ?_)
            · refine yT.inc (pc' := 68) (xg_ne (xg_ne g111 rfl) rfl) rfl rfl rfl rfl ⟨by decide, by have := i32_rng x107; have := i32_rng x122; omega⟩ (fun x174 e175 => ?_)
              refine yT.p (pc' := 2) rfl rfl (fun _ _ _ _ => rfl) ?_
              exact ih115 _ _ x174 hT162 (xg_ne (xg_ne (xg_ne g108 rfl) rfl) rfl) (xg_ne (xg_ne (xg_ne g109 rfl) rfl) rfl) (xg_ne (xg_ne (xg_ne g110 rfl) rfl) rfl) xg_eq (by omega) (by have := i32_rng x174; omega)
            · refine yT.aan (pc' := 57) (xg_ne (xg_ne g108 rfl) rfl) rfl rfl rfl ?_
              refine yT.il (pc' := 59) (xg_ne xg_eq rfl) rfl rfl ?_
              refine yT.iln (pc' := 60) (xg_ne (xg_ne g110 rfl) rfl) rfl rfl ?_
              refine yT.kI (pc' := 61) rfl rfl (by decide) (fun x176 e177 => ?_)
              refine yT.ad (pc' := 62) rfl e177 rfl rfl (by have := i32_rng x2; omega) (fun x178 e179 => ?_)
              refine kV (yT.cc (G2 := 0) (pc' := 65) rfl rfl rfl hT162 o0 xM_67 (R hT162 x157 x178 (by omega)) rfl (by omega) (by decide) rfl) (fun h180 hT181 E182 => ?_)
              refine yT.inc (pc' := 68) (xg_ne (xg_ne g111 rfl) rfl) rfl rfl rfl rfl ⟨by decide, by have := i32_rng x107; have := i32_rng x122; omega⟩ (fun x183 e184 => ?_)
              refine yT.p (pc' := 2) rfl rfl (fun _ _ _ _ => rfl) ?_
              exact ih115 _ _ x183 hT181 (xg_ne (xg_ne (xg_ne g108 rfl) rfl) rfl) (xg_ne (xg_ne (xg_ne g109 rfl) rfl) rfl) (xg_ne (xg_ne (xg_ne g110 rfl) rfl) rfl) xg_eq (by omega) (by have := i32_rng x183; omega)
  exact L103 _ _ _ x101 hT (xg_ne g0 rfl) (xg_ne g1 rfl) (xg_ne g2 rfl) xg_eq (by omega) (Nat.lt_succ_self _)
-- rX7_clearReads
set_option maxRecDepth 100000 in
set_option maxHeartbeats 4000000 in
theorem c94 {ks : List cT} {σ : Nat → Nat → Int32} {ρ : Nat → xE} {h : List xE} (hT : HT ks σ ρ h) {q0 : Nat} (o0 : xnth ks q0 = some (17, 0)) (x1 : Int32) : yM 94 (1) 0 [.ref (q0 + 1), .int x1] h (CQ ks σ ρ (9, 0, 0) yT0) := by
  refine yM.st xM_94 rfl rfl (fun lv g => ?_)
  have g0 := g 0 _ rfl
  have g1 := g 1 _ rfl
  refine yT.aan (pc' := 1) g0 rfl rfl rfl ?_
  refine yT.iln (pc' := 2) g1 rfl rfl ?_
  refine kN (yT.cc (G2 := 0) (pc' := 5) rfl rfl rfl hT o0 xM_87 (c87 hT o0 x1) rfl (by decide) (by decide) rfl) (fun h101 hT102 E103 => ?_) (fun h101 q104 hT102 E103 o105 => ?_)
  · refine yT.p (pc' := 6) (lv' := xst1 _ 2 (.null)) rfl rfl (fun _ _ _ _ => rfl) ?_
    refine yT.aan (pc' := 7) xg_eq rfl rfl rfl ?_
    refine yT.p (pc' := 10) rfl rfl (fun _ _ _ _ => rfl) ?_
    exact yT.retV rfl rfl (qV hT102 trivial)
  · have i106 : 0 ≤ x1.toInt ∧ x1.toInt < 24 := (show _ ∨ _ from E103).elim (fun e => by cases e) id
    refine yT.p (pc' := 6) (lv' := xst1 _ 2 (.ref (q104 + 1))) rfl rfl (fun _ _ _ _ => rfl) ?_
    refine yT.aan (pc' := 7) xg_eq rfl rfl rfl ?_
    refine yT.p (pc' := 11) rfl rfl (fun _ _ _ _ => rfl) ?_
    refine yT.kI (pc' := 12) rfl rfl (by decide) (fun x107 e108 => ?_)
    refine yT.p (pc' := 13) (lv' := xst1 _ 3 (.int x107)) rfl rfl (fun _ _ _ _ => rfl) ?_
    have L109 : ∀ (n119 : Nat) (lv110 : xLv) (h111 : List xE) (x113 : Int32), HT ks σ ρ h111 → xget lv110 0 = some (.ref (q0 + 1)) → xget lv110 1 = some (.int x1) → xget lv110 2 = some (.ref (q104 + 1)) → xget lv110 3 = some (.int x113) → 0 ≤ x113.toInt → (2147483647 - x113.toInt).toNat < n119 → yT 0 [] rX7_clearReads (1) 0 13 lv110 [] h111 (CQ ks σ ρ (9, 0, 0) yT0) := by
      intro n119
      induction n119 with
      | zero => intro lv110 h111 x113 hT112 g114 g115 g116 g117 i118 m120; exact absurd m120 (Nat.not_lt_zero _)
      | succ n119 ih121 =>
        intro lv110 h111 x113 hT112 g114 g115 g116 g117 i118 m120
        refine yT.iln (pc' := 14) g117 rfl rfl ?_
        refine yT.aan (pc' := 15) g116 rfl rfl rfl ?_
        refine yT.cgR (pc' := 18) rfl rfl hT112 o105 rfl rfl (fun q123 w122 o124 => ?_)
        refine kS (yT.cc (G2 := 0) (pc' := 21) rfl rfl rfl hT112 o124 xM_44 (c44 hT112 o124 (by decide)) rfl (by decide) (by decide) rfl) (fun h125 x128 hT126 E127 i129 i130 => ?_)
        refine yT.if2 (t := 70) (pc' := 24) rfl rfl rfl (c2_ge rfl rfl) (fun c131 => ?_) (fun c131 => ?_)
        · refine yT.aan (pc' := 71) g116 rfl rfl rfl ?_
          refine yT.cgR (pc' := 74) rfl rfl hT126 o105 rfl rfl (fun q133 w132 o134 => ?_)
          refine kV (yT.cc (G2 := 0) (pc' := 77) rfl rfl rfl hT126 o134 xM_55 (c55 hT126 o134 (by decide)) rfl (by decide) (by decide) rfl) (fun h135 hT136 E137 => ?_)
          obtain ⟨x138, e139, w140⟩ := E137
          exact yT.retV rfl rfl (qV hT136 trivial)
        · refine yT.aan (pc' := 25) g116 rfl rfl rfl ?_
          refine yT.cgR (pc' := 28) rfl rfl hT126 o105 rfl rfl (fun q142 w141 o143 => ?_)
          refine yT.iln (pc' := 29) g117 rfl rfl ?_
          refine kI (yT.cc (G2 := 0) (pc' := 32) rfl rfl rfl hT126 o143 xM_46 (c46 hT126 o143 (by decide) x113) rfl (by decide) (by decide) rfl) (fun h144 x147 hT145 E146 => ?_)
          refine yT.p (pc' := 34) (lv' := xst1 _ 4 (.int x147)) rfl rfl (fun _ _ _ _ => rfl) ?_
          refine yT.il (pc' := 36) xg_eq rfl rfl ?_
          refine yT.if1 (t := 64) (pc' := 39) rfl rfl rfl (c1_lt rfl) (fun c148 => ?_) (fun c148 => ?_)
          · refine yT.inc (pc' := 67) (xg_ne g117 rfl) rfl rfl rfl rfl ⟨by decide, by have := i32_rng x113; have := i32_rng x128; omega⟩ (fun x149 e150 => ?_)
            refine yT.p (pc' := 13) rfl rfl (fun _ _ _ _ => rfl) ?_
            exact ih121 _ _ x149 hT145 (xg_ne (xg_ne g114 rfl) rfl) (xg_ne (xg_ne g115 rfl) rfl) (xg_ne (xg_ne g116 rfl) rfl) xg_eq (by omega) (by have := i32_rng x149; omega)
          · refine yT.il (pc' := 41) xg_eq rfl rfl ?_
            refine yT.aan (pc' := 42) (xg_ne g114 rfl) rfl rfl rfl ?_
            refine yT.cgR (pc' := 45) rfl rfl hT145 o0 rfl rfl (fun q152 w151 o153 => ?_)
            refine yT.cal (pc' := 46) rfl rfl hT145 o153 rfl (by omega) (fun x154 e155 => ?_)
            refine yT.if2 (t := 64) (pc' := 49) rfl rfl rfl (c2_ge rfl e155) (fun c156 => ?_) (fun c156 => ?_)
            · refine yT.inc (pc' := 67) (xg_ne g117 rfl) rfl rfl rfl rfl ⟨by decide, by have := i32_rng x113; have := i32_rng x128; omega⟩ (fun x157 e158 => ?_)
              refine yT.p (pc' := 13) rfl rfl (fun _ _ _ _ => rfl) ?_
              exact ih121 _ _ x157 hT145 (xg_ne (xg_ne g114 rfl) rfl) (xg_ne (xg_ne g115 rfl) rfl) (xg_ne (xg_ne g116 rfl) rfl) xg_eq (by omega) (by have := i32_rng x157; omega)
            · refine yT.aan (pc' := 50) (xg_ne g114 rfl) rfl rfl rfl ?_
              refine yT.cgk (pc' := 53) rfl rfl w151 ?_
              refine yT.il (pc' := 55) xg_eq rfl rfl ?_
              refine yT.p (pc' := 56) rfl rfl (fun _ _ _ _ => rfl) ?_
              refine yT.cia (pc' := 57) rfl rfl hT145 o153 rfl (by omega) (fun x159 => ?_)
              refine yT.kI (pc' := 58) rfl rfl (by decide) (fun x160 e161 => ?_)
              refine yT.iln (pc' := 59) (xg_ne g115 rfl) rfl rfl ?_
              refine yT.fi (pc' := 60) rfl rfl (fun _ _ _ _ => rfl) (fun x162 => ?_)
              refine yT.kI (pc' := 61) rfl rfl (by decide) (fun x163 e164 => ?_)
              refine yT.fi (pc' := 62) rfl rfl (fun _ _ _ _ => rfl) (fun x165 => ?_)
              refine yT.fi (pc' := 63) rfl rfl (fun _ _ _ _ => rfl) (fun x166 => ?_)
              refine yT.cis (pc' := 64) rfl rfl hT145 o153 rfl (by omega) (fun h167 hT168 fv169 => ?_)
              refine yT.inc (pc' := 67) (xg_ne g117 rfl) rfl rfl rfl rfl ⟨by decide, by have := i32_rng x113; have := i32_rng x128; omega⟩ (fun x170 e171 => ?_)
              refine yT.p (pc' := 13) rfl rfl (fun _ _ _ _ => rfl) ?_
              exact ih121 _ _ x170 hT168 (xg_ne (xg_ne g114 rfl) rfl) (xg_ne (xg_ne g115 rfl) rfl) (xg_ne (xg_ne g116 rfl) rfl) xg_eq (by omega) (by have := i32_rng x170; omega)
    exact L109 _ _ _ x107 hT102 (xg_ne (xg_ne g0 rfl) rfl) (xg_ne (xg_ne g1 rfl) rfl) (xg_ne xg_eq rfl) xg_eq (by omega) (Nat.lt_succ_self _)
-- rX7_ownedBy
set_option maxRecDepth 100000 in
set_option maxHeartbeats 4000000 in
theorem c92 {ks : List cT} {σ : Nat → Nat → Int32} {ρ : Nat → xE} {h : List xE} (hT : HT ks σ ρ h) {q0 : Nat} (o0 : xnth ks q0 = some (17, 0)) (x1 : Int32) : yM 92 (0) 0 [.ref (q0 + 1), .int x1] h (CQ ks σ ρ (0, 0, 0) yT0) := by
  refine yM.st xM_92 rfl rfl (fun lv g => ?_)
  have g0 := g 0 _ rfl
  have g1 := g 1 _ rfl
  refine yT.kI (pc' := 1) rfl rfl (by decide) (fun x101 e102 => ?_)
  refine yT.p (pc' := 2) (lv' := xst1 _ 2 (.int x101)) rfl rfl (fun _ _ _ _ => rfl) ?_
  refine yT.kI (pc' := 3) rfl rfl (by decide) (fun x103 e104 => ?_)
  refine yT.p (pc' := 4) (lv' := xst1 _ 3 (.int x103)) rfl rfl (fun _ _ _ _ => rfl) ?_
  have L105 : ∀ (n114 : Nat) (lv106 : xLv) (x107 : Int32) (x108 : Int32), xget lv106 0 = some (.ref (q0 + 1)) → xget lv106 1 = some (.int x1) → xget lv106 2 = some (.int x107) → xget lv106 3 = some (.int x108) → 0 ≤ x108.toInt → (2147483647 - x108.toInt).toNat < n114 → yT 0 [] rX7_ownedBy (0) 0 4 lv106 [] h (CQ ks σ ρ (0, 0, 0) yT0) := by
    intro n114
    induction n114 with
    | zero => intro lv106 x107 x108 g109 g110 g111 g112 i113 m115; exact absurd m115 (Nat.not_lt_zero _)
    | succ n114 ih116 =>
      intro lv106 x107 x108 g109 g110 g111 g112 i113 m115
      refine yT.iln (pc' := 5) g112 rfl rfl ?_
      refine yT.aan (pc' := 6) g109 rfl rfl rfl ?_
      refine yT.cgI (pc' := 9) rfl rfl hT o0 rfl rfl (fun x118 w117 => ?_)
      refine yT.if2 (t := 63) (pc' := 12) rfl rfl rfl (c2_ge rfl rfl) (fun c119 => ?_) (fun c119 => ?_)
      · refine yT.iln (pc' := 64) g111 rfl rfl ?_
        exact yT.retI rfl rfl (qI hT trivial)
      · refine yT.iln (pc' := 13) g112 rfl rfl ?_
        refine yT.aan (pc' := 14) g109 rfl rfl rfl ?_
        refine yT.cgR (pc' := 17) rfl rfl hT o0 rfl rfl (fun q121 w120 o122 => ?_)
        refine yT.cal (pc' := 18) rfl rfl hT o122 rfl (by omega) (fun x123 e124 => ?_)
        refine yT.if2 (t := 63) (pc' := 21) rfl rfl rfl (c2_ge rfl e124) (fun c125 => ?_) (fun c125 => ?_)
        · refine yT.iln (pc' := 64) g111 rfl rfl ?_
          exact yT.retI rfl rfl (qI hT trivial)
        · refine yT.aan (pc' := 22) g109 rfl rfl rfl ?_
          refine yT.cgk (pc' := 25) rfl rfl w120 ?_
          refine yT.iln (pc' := 26) g112 rfl rfl ?_
          refine yT.cca (pc' := 27) rfl rfl hT o122 rfl (by omega) ?_ (fun q126 o127 => ?_)
          · refine yT.p (pc' := 29) (lv' := xst1 _ 4 (.null)) rfl rfl (fun _ _ _ _ => rfl) ?_
            refine yT.aa_ (pc' := 31) xg_eq rfl rfl rfl ?_
            refine yT.p (pc' := 57) rfl rfl (fun _ _ _ _ => rfl) ?_
            refine yT.inc (pc' := 60) (xg_ne g112 rfl) rfl rfl rfl rfl ⟨by decide, by have := i32_rng x108; have := i32_rng x118; omega⟩ (fun x128 e129 => ?_)
            refine yT.p (pc' := 4) rfl rfl (fun _ _ _ _ => rfl) ?_
            exact ih116 _ x107 x128 (xg_ne (xg_ne g109 rfl) rfl) (xg_ne (xg_ne g110 rfl) rfl) (xg_ne (xg_ne g111 rfl) rfl) xg_eq (by omega) (by have := i32_rng x128; omega)
          · refine yT.p (pc' := 29) (lv' := xst1 _ 4 (.ref (q126 + 1))) rfl rfl (fun _ _ _ _ => rfl) ?_
            refine yT.aa_ (pc' := 31) xg_eq rfl rfl rfl ?_
            refine yT.p (pc' := 34) rfl rfl (fun _ _ _ _ => rfl) ?_
            refine yT.aa_ (pc' := 36) xg_eq rfl rfl rfl ?_
            refine yT.cgZ (pc' := 39) rfl rfl hT o127 rfl rfl (fun x131 w130 b132 => ?_)
            have i133 := b01i b132
            refine yT.if1 (t := 57) (pc' := 42) rfl rfl rfl (c1_ne rfl) (fun c134 => ?_) (fun c134 => ?_)
            · refine yT.inc (pc' := 60) (xg_ne g112 rfl) rfl rfl rfl rfl ⟨by decide, by have := i32_rng x108; have := i32_rng x118; omega⟩ (fun x135 e136 => ?_)
              refine yT.p (pc' := 4) rfl rfl (fun _ _ _ _ => rfl) ?_
              exact ih116 _ x107 x135 (xg_ne (xg_ne g109 rfl) rfl) (xg_ne (xg_ne g110 rfl) rfl) (xg_ne (xg_ne g111 rfl) rfl) xg_eq (by omega) (by have := i32_rng x135; omega)
            · refine yT.aa_ (pc' := 44) xg_eq rfl rfl rfl ?_
              refine yT.cgI (pc' := 47) rfl rfl hT o127 rfl rfl (fun x138 w137 => ?_)
              refine yT.iln (pc' := 48) (xg_ne g110 rfl) rfl rfl ?_
              refine yT.if2 (t := 57) (pc' := 51) rfl rfl rfl (c2_ne rfl rfl) (fun c139 => ?_) (fun c139 => ?_)
              · refine yT.inc (pc' := 60) (xg_ne g112 rfl) rfl rfl rfl rfl ⟨by decide, by have := i32_rng x108; have := i32_rng x118; omega⟩ (fun x140 e141 => ?_)
                refine yT.p (pc' := 4) rfl rfl (fun _ _ _ _ => rfl) ?_
                exact ih116 _ x107 x140 (xg_ne (xg_ne g109 rfl) rfl) (xg_ne (xg_ne g110 rfl) rfl) (xg_ne (xg_ne g111 rfl) rfl) xg_eq (by omega) (by have := i32_rng x140; omega)
              · refine yT.iln (pc' := 52) (xg_ne g111 rfl) rfl rfl ?_
                refine yT.kI (pc' := 53) rfl rfl (by decide) (fun x142 e143 => ?_)
                refine yT.iln (pc' := 54) (xg_ne g112 rfl) rfl rfl ?_
                refine yT.fi (pc' := 55) rfl rfl (fun _ _ _ _ => rfl) (fun x144 => ?_)
                refine yT.fi (pc' := 56) rfl rfl (fun _ _ _ _ => rfl) (fun x145 => ?_)
                refine yT.p (pc' := 57) (lv' := xst1 _ 2 (.int x145)) rfl rfl (fun _ _ _ _ => rfl) ?_
                refine yT.inc (pc' := 60) (xg_ne (xg_ne g112 rfl) rfl) rfl rfl rfl rfl ⟨by decide, by have := i32_rng x108; have := i32_rng x118; omega⟩ (fun x146 e147 => ?_)
                refine yT.p (pc' := 4) rfl rfl (fun _ _ _ _ => rfl) ?_
                exact ih116 _ x145 x146 (xg_ne (xg_ne (xg_ne g109 rfl) rfl) rfl) (xg_ne (xg_ne (xg_ne g110 rfl) rfl) rfl) (xg_ne xg_eq rfl) xg_eq (by omega) (by have := i32_rng x146; omega)
  exact L105 _ _ x101 x103 (xg_ne (xg_ne g0 rfl) rfl) (xg_ne (xg_ne g1 rfl) rfl) (xg_ne xg_eq rfl) xg_eq (by omega) (Nat.lt_succ_self _)
-- rX7_readersOf
set_option maxRecDepth 100000 in
set_option maxHeartbeats 4000000 in
theorem c95 {ks : List cT} {σ : Nat → Nat → Int32} {ρ : Nat → xE} {h : List xE} (hT : HT ks σ ρ h) {q0 : Nat} (o0 : xnth ks q0 = some (17, 0)) (x1 : Int32) : yM 95 (0) 0 [.ref (q0 + 1), .int x1] h (CQ ks σ ρ (0, 0, 0) yT0) := by
  refine yM.st xM_95 rfl rfl (fun lv g => ?_)
  have g0 := g 0 _ rfl
  have g1 := g 1 _ rfl
  refine yT.iln (pc' := 1) g1 rfl rfl ?_
  refine yT.if1 (t := 22) (pc' := 4) rfl rfl rfl (c1_lt rfl) (fun c101 => ?_) (fun c101 => ?_)
  · refine yT.kI (pc' := 23) rfl rfl (by decide) (fun x102 e103 => ?_)
    exact yT.retI rfl rfl (qI hT trivial)
  · refine yT.iln (pc' := 5) g1 rfl rfl ?_
    refine yT.aan (pc' := 6) g0 rfl rfl rfl ?_
    refine yT.cgR (pc' := 9) rfl rfl hT o0 rfl rfl (fun q105 w104 o106 => ?_)
    refine yT.cal (pc' := 10) rfl rfl hT o106 rfl (by omega) (fun x107 e108 => ?_)
    refine yT.if2 (t := 22) (pc' := 13) rfl rfl rfl (c2_ge rfl e108) (fun c109 => ?_) (fun c109 => ?_)
    · refine yT.kI (pc' := 23) rfl rfl (by decide) (fun x110 e111 => ?_)
      exact yT.retI rfl rfl (qI hT trivial)
    · refine yT.aan (pc' := 14) g0 rfl rfl rfl ?_
      refine yT.cgk (pc' := 17) rfl rfl w104 ?_
      refine yT.iln (pc' := 18) g1 rfl rfl ?_
      refine yT.cia (pc' := 19) rfl rfl hT o106 rfl (by omega) (fun x112 => ?_)
      refine yT.p (pc' := 23) rfl rfl (fun _ _ _ _ => rfl) ?_
      exact yT.retI rfl rfl (qI hT trivial)
-- rX7_furtherReadersOf
set_option maxRecDepth 100000 in
set_option maxHeartbeats 4000000 in
theorem c96 {ks : List cT} {σ : Nat → Nat → Int32} {ρ : Nat → xE} {h : List xE} (hT : HT ks σ ρ h) {q0 : Nat} (o0 : xnth ks q0 = some (17, 0)) (x1 : Int32) : yM 96 (1) 0 [.ref (q0 + 1), .int x1] h (CQ ks σ ρ (0, 0, 0) yT0) := by
  refine yM.st xM_96 rfl rfl (fun lv g => ?_)
  have g0 := g 0 _ rfl
  have g1 := g 1 _ rfl
  refine yT.kI (pc' := 1) rfl rfl (by decide) (fun x101 e102 => ?_)
  refine yT.p (pc' := 2) (lv' := xst1 _ 2 (.int x101)) rfl rfl (fun _ _ _ _ => rfl) ?_
  refine yT.aan (pc' := 3) (xg_ne g0 rfl) rfl rfl rfl ?_
  refine yT.iln (pc' := 4) (xg_ne g1 rfl) rfl rfl ?_
  refine kI (yT.cc (G2 := 0) (pc' := 7) rfl rfl rfl hT o0 xM_95 (c95 hT o0 x1) rfl (by decide) (by decide) rfl) (fun h103 x106 hT104 E105 => ?_)
  refine yT.p (pc' := 8) (lv' := xst1 _ 3 (.int x106)) rfl rfl (fun _ _ _ _ => rfl) ?_
  refine yT.kI (pc' := 9) rfl rfl (by decide) (fun x107 e108 => ?_)
  refine yT.p (pc' := 11) (lv' := xst1 _ 4 (.int x107)) rfl rfl (fun _ _ _ _ => rfl) ?_
  have L109 : ∀ (n119 : Nat) (lv110 : xLv) (x111 : Int32) (x112 : Int32) (x113 : Int32), xget lv110 0 = some (.ref (q0 + 1)) → xget lv110 2 = some (.int x111) → xget lv110 3 = some (.int x112) → xget lv110 4 = some (.int x113) → 0 ≤ x113.toInt → (2147483647 - x113.toInt).toNat < n119 → yT 0 [] rX7_furtherReadersOf (1) 0 11 lv110 [] h103 (CQ ks σ ρ (0, 0, 0) yT0) := by
    intro n119
    induction n119 with
    | zero => intro lv110 x111 x112 x113 g114 g115 g116 g117 i118 m120; exact absurd m120 (Nat.not_lt_zero _)
    | succ n119 ih121 =>
      intro lv110 x111 x112 x113 g114 g115 g116 g117 i118 m120
      refine yT.il (pc' := 13) g117 rfl rfl ?_
      refine yT.kb (pc' := 15) rfl rfl (by decide) (fun x122 e123 => ?_)
      refine yT.if2 (t := 83) (pc' := 18) rfl rfl rfl (c2_gt rfl e123) (fun c124 => ?_) (fun c124 => ?_)
      · refine yT.iln (pc' := 84) g115 rfl rfl ?_
        exact yT.retI rfl rfl (qI hT104 trivial)
      · refine yT.iln (pc' := 19) g116 rfl rfl ?_
        refine yT.if1 (t := 83) (pc' := 22) rfl rfl rfl (c1_eq rfl) (fun c125 => ?_) (fun c125 => ?_)
        · refine yT.iln (pc' := 84) g115 rfl rfl ?_
          exact yT.retI rfl rfl (qI hT104 trivial)
        · refine yT.kI (pc' := 23) rfl rfl (by decide) (fun x126 e127 => ?_)
          refine yT.p (pc' := 25) (lv' := xst1 _ 5 (.int x126)) rfl rfl (fun _ _ _ _ => rfl) ?_
          refine yT.kI (pc' := 26) rfl rfl (by decide) (fun x128 e129 => ?_)
          refine yT.p (pc' := 28) (lv' := xst1 _ 6 (.int x128)) rfl rfl (fun _ _ _ _ => rfl) ?_
          have L130 : ∀ (n141 : Nat) (lv131 : xLv) (x132 : Int32) (x133 : Int32), xget lv131 0 = some (.ref (q0 + 1)) → xget lv131 2 = some (.int x111) → xget lv131 3 = some (.int x112) → xget lv131 4 = some (.int x113) → xget lv131 5 = some (.int x132) → xget lv131 6 = some (.int x133) → 0 ≤ x133.toInt → (2147483647 - x133.toInt).toNat < n141 → yT 0 [] rX7_furtherReadersOf (1) 0 28 lv131 [] h103 (CQ ks σ ρ (0, 0, 0) yT0) := by
            intro n141
            induction n141 with
            | zero => intro lv131 x132 x133 g134 g135 g136 g137 g138 g139 i140 m142; exact absurd m142 (Nat.not_lt_zero _)
            | succ n141 ih143 =>
              intro lv131 x132 x133 g134 g135 g136 g137 g138 g139 i140 m142
              refine yT.il (pc' := 30) g139 rfl rfl ?_
              refine yT.aan (pc' := 31) g134 rfl rfl rfl ?_
              refine yT.cgR (pc' := 34) rfl rfl hT104 o0 rfl rfl (fun q145 w144 o146 => ?_)
              refine yT.cal (pc' := 35) rfl rfl hT104 o146 rfl (by omega) (fun x147 e148 => ?_)
              refine yT.if2 (t := 65) (pc' := 38) rfl rfl rfl (c2_ge rfl e148) (fun c149 => ?_) (fun c149 => ?_)
              · refine yT.il (pc' := 67) g138 rfl rfl ?_
                refine yT.iln (pc' := 68) g135 rfl rfl ?_
                refine yT.kI (pc' := 69) rfl rfl (by decide) (fun x150 e151 => ?_)
                refine yT.fi (pc' := 70) rfl rfl (fun _ _ _ _ => rfl) (fun x152 => ?_)
                refine yT.fi (pc' := 71) rfl rfl (fun _ _ _ _ => rfl) (fun x153 => ?_)
                refine yT.p (pc' := 72) (lv' := xst1 _ 3 (.int x153)) rfl rfl (fun _ _ _ _ => rfl) ?_
                refine yT.iln (pc' := 73) (xg_ne g135 rfl) rfl rfl ?_
                refine yT.il (pc' := 75) (xg_ne g138 rfl) rfl rfl ?_
                refine yT.fi (pc' := 76) rfl rfl (fun _ _ _ _ => rfl) (fun x154 => ?_)
                refine yT.p (pc' := 77) (lv' := xst1 _ 2 (.int x154)) rfl rfl (fun _ _ _ _ => rfl) ?_
                refine yT.inc (pc' := 80) (xg_ne (xg_ne g137 rfl) rfl) rfl rfl rfl rfl ⟨by decide, by have := i32_rng x113; omega⟩ (fun x155 e156 => ?_)
                refine yT.p (pc' := 11) rfl rfl (fun _ _ _ _ => rfl) ?_
                exact ih121 _ x154 x153 x155 (xg_ne (xg_ne (xg_ne g134 rfl) rfl) rfl) (xg_ne xg_eq rfl) (xg_ne (xg_ne xg_eq rfl) rfl) xg_eq (by omega) (by have := i32_rng x155; omega)
              · refine yT.iln (pc' := 39) g136 rfl rfl ?_
                refine yT.il (pc' := 41) g139 rfl rfl ?_
                refine yT.fi (pc' := 42) rfl rfl (fun _ _ _ _ => rfl) (fun x157 => ?_)
                refine yT.kI (pc' := 43) rfl rfl (by decide) (fun x158 e159 => ?_)
                refine yT.fi (pc' := 44) rfl rfl (fun _ _ _ _ => rfl) (fun x160 => ?_)
                refine yT.if1 (t := 59) (pc' := 47) rfl rfl rfl (c1_eq rfl) (fun c161 => ?_) (fun c161 => ?_)
                · refine yT.inc (pc' := 62) g139 rfl rfl rfl rfl ⟨by decide, by have := i32_rng x133; omega⟩ (fun x162 e163 => ?_)
                  refine yT.p (pc' := 28) rfl rfl (fun _ _ _ _ => rfl) ?_
                  exact ih143 _ x132 x162 (xg_ne g134 rfl) (xg_ne g135 rfl) (xg_ne g136 rfl) (xg_ne g137 rfl) (xg_ne g138 rfl) xg_eq (by omega) (by have := i32_rng x162; omega)
                · refine yT.il (pc' := 49) g138 rfl rfl ?_
                  refine yT.aan (pc' := 50) g134 rfl rfl rfl ?_
                  refine yT.cgk (pc' := 53) rfl rfl w144 ?_
                  refine yT.il (pc' := 55) g139 rfl rfl ?_
                  refine yT.cia (pc' := 56) rfl rfl hT104 o146 rfl (by omega) (fun x164 => ?_)
                  refine yT.fi (pc' := 57) rfl rfl (fun _ _ _ _ => rfl) (fun x165 => ?_)
                  refine yT.p (pc' := 59) (lv' := xst1 _ 5 (.int x165)) rfl rfl (fun _ _ _ _ => rfl) ?_
                  refine yT.inc (pc' := 62) (xg_ne g139 rfl) rfl rfl rfl rfl ⟨by decide, by have := i32_rng x133; omega⟩ (fun x166 e167 => ?_)
                  refine yT.p (pc' := 28) rfl rfl (fun _ _ _ _ => rfl) ?_
                  exact ih143 _ x165 x166 (xg_ne (xg_ne g134 rfl) rfl) (xg_ne (xg_ne g135 rfl) rfl) (xg_ne (xg_ne g136 rfl) rfl) (xg_ne (xg_ne g137 rfl) rfl) (xg_ne xg_eq rfl) xg_eq (by omega) (by have := i32_rng x166; omega)
          exact L130 _ _ x126 x128 (xg_ne (xg_ne g114 rfl) rfl) (xg_ne (xg_ne g115 rfl) rfl) (xg_ne (xg_ne g116 rfl) rfl) (xg_ne (xg_ne g117 rfl) rfl) (xg_ne xg_eq rfl) xg_eq (by omega) (Nat.lt_succ_self _)
  exact L109 _ _ x101 x106 x107 (xg_ne (xg_ne (xg_ne g0 rfl) rfl) rfl) (xg_ne (xg_ne xg_eq rfl) rfl) (xg_ne xg_eq rfl) xg_eq (by omega) (Nat.lt_succ_self _)
-- rX7_count
set_option maxRecDepth 100000 in
set_option maxHeartbeats 4000000 in
theorem c85 {ks : List cT} {σ : Nat → Nat → Int32} {ρ : Nat → xE} {h : List xE} (hT : HT ks σ ρ h) {q0 : Nat} (o0 : xnth ks q0 = some (17, 0)) : yM 85 (0) 0 [.ref (q0 + 1)] h (CQ ks σ ρ (0, 0, 0) yT0) := by
  refine yM.st xM_85 rfl rfl (fun lv g => ?_)
  have g0 := g 0 _ rfl
  refine yT.aan (pc' := 1) g0 rfl rfl rfl ?_
  refine yT.cgI (pc' := 4) rfl rfl hT o0 rfl rfl (fun x102 w101 => ?_)
  exact yT.retI rfl rfl (qI hT trivial)
-- rX5_colour
set_option maxRecDepth 100000 in
set_option maxHeartbeats 4000000 in
theorem c66 {ks : List cT} {σ : Nat → Nat → Int32} {ρ : Nat → xE} {h : List xE} (hT : HT ks σ ρ h) {q0 : Nat} (o0 : xnth ks q0 = some (15, 0)) (x1 : Int32) (x2 : Int32) : yM 66 (1) 0 [.ref (q0 + 1), .int x1, .int x2] h (CQ ks σ ρ (9, 0, 0) yT0) := by
  refine yM.st xM_66 rfl rfl (fun lv g => ?_)
  have g0 := g 0 _ rfl
  have g1 := g 1 _ rfl
  have g2 := g 2 _ rfl
  refine yT.kI (pc' := 1) rfl rfl (by decide) (fun x101 e102 => ?_)
  refine yT.p (pc' := 2) (lv' := xst1 _ 3 (.int x101)) rfl rfl (fun _ _ _ _ => rfl) ?_
  have L103 : ∀ (n113 : Nat) (lv104 : xLv) (h105 : List xE) (x107 : Int32), HT ks σ ρ h105 → xget lv104 0 = some (.ref (q0 + 1)) → xget lv104 1 = some (.int x1) → xget lv104 2 = some (.int x2) → xget lv104 3 = some (.int x107) → 0 ≤ x107.toInt → (2147483647 - x107.toInt).toNat < n113 → yT 0 [] rX5_colour (1) 0 2 lv104 [] h105 (CQ ks σ ρ (9, 0, 0) yT0) := by
    intro n113
    induction n113 with
    | zero => intro lv104 h105 x107 hT106 g108 g109 g110 g111 i112 m114; exact absurd m114 (Nat.not_lt_zero _)
    | succ n113 ih115 =>
      intro lv104 h105 x107 hT106 g108 g109 g110 g111 i112 m114
      refine yT.iln (pc' := 3) g109 rfl rfl ?_
      refine yT.iln (pc' := 4) g110 rfl rfl ?_
      refine yT.fi (pc' := 5) rfl rfl (fun _ _ _ _ => rfl) (fun x116 => ?_)
      refine yT.iln (pc' := 6) g111 rfl rfl ?_
      refine yT.fi (pc' := 7) rfl rfl (fun _ _ _ _ => rfl) (fun x117 => ?_)
      refine yT.if1 (t := 129) (pc' := 10) rfl rfl rfl (c1_eq rfl) (fun c118 => ?_) (fun c118 => ?_)
      · exact yT.retV rfl rfl (qV hT106 trivial)
      · refine yT.iln (pc' := 11) g111 rfl rfl ?_
        refine yT.aan (pc' := 12) g108 rfl rfl rfl ?_
        refine yT.cgR (pc' := 15) rfl rfl hT106 o0 rfl rfl (fun q120 w119 o121 => ?_)
        refine kI (yT.cc (G2 := 0) (pc' := 18) rfl rfl rfl hT106 o121 xM_85 (c85 hT106 o121) rfl (by decide) (by decide) rfl) (fun h122 x125 hT123 E124 => ?_)
        refine yT.if2 (t := 129) (pc' := 21) rfl rfl rfl (c2_ge rfl rfl) (fun c126 => ?_) (fun c126 => ?_)
        · exact yT.retV rfl rfl (qV hT123 trivial)
        · refine yT.aan (pc' := 22) g108 rfl rfl rfl ?_
          refine yT.cgR (pc' := 25) rfl rfl hT123 o0 rfl rfl (fun q128 w127 o129 => ?_)
          refine yT.iln (pc' := 26) g111 rfl rfl ?_
          refine kN (yT.cc (G2 := 0) (pc' := 29) rfl rfl rfl hT123 o129 xM_87 (c87 hT123 o129 x107) rfl (by decide) (by decide) rfl) (fun h130 hT131 E132 => ?_) (fun h130 q133 hT131 E132 o134 => ?_)
          · refine yT.p (pc' := 31) (lv' := xst1 _ 4 (.null)) rfl rfl (fun _ _ _ _ => rfl) ?_
            refine yT.aa_ (pc' := 33) xg_eq rfl rfl rfl ?_
            refine yT.p (pc' := 36) rfl rfl (fun _ _ _ _ => rfl) ?_
            refine yT.p (pc' := 123) rfl rfl (fun _ _ _ _ => rfl) ?_
            refine yT.inc (pc' := 126) (xg_ne g111 rfl) rfl rfl rfl rfl ⟨by decide, by have := i32_rng x107; have := i32_rng x125; omega⟩ (fun x135 e136 => ?_)
            refine yT.p (pc' := 2) rfl rfl (fun _ _ _ _ => rfl) ?_
            exact ih115 _ _ x135 hT131 (xg_ne (xg_ne g108 rfl) rfl) (xg_ne (xg_ne g109 rfl) rfl) (xg_ne (xg_ne g110 rfl) rfl) xg_eq (by omega) (by have := i32_rng x135; omega)
          · have i137 : 0 ≤ x107.toInt ∧ x107.toInt < 24 := (show _ ∨ _ from E132).elim (fun e => by cases e) id
            refine yT.p (pc' := 31) (lv' := xst1 _ 4 (.ref (q133 + 1))) rfl rfl (fun _ _ _ _ => rfl) ?_
            refine yT.aa_ (pc' := 33) xg_eq rfl rfl rfl ?_
            refine yT.p (pc' := 39) rfl rfl (fun _ _ _ _ => rfl) ?_
            refine yT.aa_ (pc' := 41) xg_eq rfl rfl rfl ?_
            refine yT.cgI (pc' := 44) rfl rfl hT131 o134 rfl rfl (fun x139 w138 => ?_)
            refine yT.if1 (t := 51) (pc' := 47) rfl rfl rfl (c1_ne rfl) (fun c140 => ?_) (fun c140 => ?_)
            · refine yT.kI (pc' := 52) rfl rfl (by decide) (fun x141 e142 => ?_)
              refine yT.p (pc' := 54) (lv' := xst1 _ 5 (.int x141)) rfl rfl (fun _ _ _ _ => rfl) ?_
              refine yT.iln (pc' := 55) (xg_ne (xg_ne g109 rfl) rfl) rfl rfl ?_
              refine yT.iln (pc' := 56) (xg_ne (xg_ne g111 rfl) rfl) rfl rfl ?_
              refine yT.fi (pc' := 57) rfl rfl (fun _ _ _ _ => rfl) (fun x143 => ?_)
              refine yT.kI (pc' := 58) rfl rfl (by decide) (fun x144 e145 => ?_)
              refine yT.fi (pc' := 59) rfl rfl (fun _ _ _ _ => rfl) (fun x146 => ?_)
              have J147 : ∀ (lv148 : xLv) (h149 : List xE), HT ks σ ρ h149 → xget lv148 0 = some (.ref (q0 + 1)) → xget lv148 1 = some (.int x1) → xget lv148 2 = some (.int x2) → xget lv148 3 = some (.int x107) → xget lv148 4 = some (.ref (q133 + 1)) → xget lv148 5 = some (.int x141) → yT 0 [] rX5_colour (1) 0 90 lv148 [] h149 (CQ ks σ ρ (9, 0, 0) yT0) := by
                intro lv148 h149 hT150 g151 g152 g153 g154 g155 g156
                refine yT.aa_ (pc' := 92) g155 rfl rfl rfl ?_
                refine yT.cgI (pc' := 95) rfl rfl hT150 o134 rfl rfl (fun x158 w157 => ?_)
                refine yT.kI (pc' := 96) rfl rfl (by decide) (fun x159 e160 => ?_)
                refine yT.if2 (t := 123) (pc' := 99) rfl rfl rfl (c2_ne rfl e160) (fun c161 => ?_) (fun c161 => ?_)
                · refine yT.inc (pc' := 126) g154 rfl rfl rfl rfl ⟨by decide, by have := i32_rng x107; have := i32_rng x125; omega⟩ (fun x162 e163 => ?_)
                  refine yT.p (pc' := 2) rfl rfl (fun _ _ _ _ => rfl) ?_
                  exact ih115 _ _ x162 hT150 (xg_ne g151 rfl) (xg_ne g152 rfl) (xg_ne g153 rfl) xg_eq (by omega) (by have := i32_rng x162; omega)
                · refine yT.il (pc' := 101) g156 rfl rfl ?_
                  refine yT.if1 (t := 123) (pc' := 104) rfl rfl rfl (c1_eq e142) (fun c164 => ?_) (fun c164 => by omega)
                  refine yT.inc (pc' := 126) g154 rfl rfl rfl rfl ⟨by decide, by have := i32_rng x107; have := i32_rng x125; omega⟩ (fun x165 e166 => ?_)
                  refine yT.p (pc' := 2) rfl rfl (fun _ _ _ _ => rfl) ?_
                  exact ih115 _ _ x165 hT150 (xg_ne g151 rfl) (xg_ne g152 rfl) (xg_ne g153 rfl) xg_eq (by omega) (by have := i32_rng x165; omega)
              refine yT.if1 (t := 71) (pc' := 62) rfl rfl rfl (c1_eq rfl) (fun c167 => ?_) (fun c167 => ?_)
              · refine yT.il (pc' := 73) xg_eq rfl rfl ?_
                refine yT.if1 (t := 90) (pc' := 76) rfl rfl rfl (c1_eq e142) (fun c168 => ?_) (fun c168 => by omega)
                exact J147 _ _ hT131 (xg_ne (xg_ne g108 rfl) rfl) (xg_ne (xg_ne g109 rfl) rfl) (xg_ne (xg_ne g110 rfl) rfl) (xg_ne (xg_ne g111 rfl) rfl) (xg_ne xg_eq rfl) xg_eq
              · refine yT.aa_ (pc' := 64) (xg_ne xg_eq rfl) rfl rfl rfl ?_
                refine yT.kI (pc' := 65) rfl rfl (by decide) (fun x169 e170 => ?_)
                refine yT.cpI (pc' := 68) rfl rfl hT131 o134 rfl rfl rfl (fun h171 hT172 w173 fv174 => ?_)
                refine yT.p (pc' := 90) rfl rfl (fun _ _ _ _ => rfl) ?_
                exact J147 _ _ hT172 (xg_ne (xg_ne g108 rfl) rfl) (xg_ne (xg_ne g109 rfl) rfl) (xg_ne (xg_ne g110 rfl) rfl) (xg_ne (xg_ne g111 rfl) rfl) (xg_ne xg_eq rfl) xg_eq
            · refine yT.kI (pc' := 48) rfl rfl (by decide) (fun x175 e176 => ?_)
              refine yT.p (pc' := 52) rfl rfl (fun _ _ _ _ => rfl) ?_
              refine yT.p (pc' := 54) (lv' := xst1 _ 5 (.int x175)) rfl rfl (fun _ _ _ _ => rfl) ?_
              refine yT.iln (pc' := 55) (xg_ne (xg_ne g109 rfl) rfl) rfl rfl ?_
              refine yT.iln (pc' := 56) (xg_ne (xg_ne g111 rfl) rfl) rfl rfl ?_
              refine yT.fi (pc' := 57) rfl rfl (fun _ _ _ _ => rfl) (fun x177 => ?_)
              refine yT.kI (pc' := 58) rfl rfl (by decide) (fun x178 e179 => ?_)
              refine yT.fi (pc' := 59) rfl rfl (fun _ _ _ _ => rfl) (fun x180 => ?_)
              have J181 : ∀ (lv182 : xLv) (h183 : List xE), HT ks σ ρ h183 → xget lv182 0 = some (.ref (q0 + 1)) → xget lv182 1 = some (.int x1) → xget lv182 2 = some (.int x2) → xget lv182 3 = some (.int x107) → xget lv182 4 = some (.ref (q133 + 1)) → xget lv182 5 = some (.int x175) → yT 0 [] rX5_colour (1) 0 90 lv182 [] h183 (CQ ks σ ρ (9, 0, 0) yT0) := by
                intro lv182 h183 hT184 g185 g186 g187 g188 g189 g190
                refine yT.aa_ (pc' := 92) g189 rfl rfl rfl ?_
                refine yT.cgI (pc' := 95) rfl rfl hT184 o134 rfl rfl (fun x192 w191 => ?_)
                refine yT.kI (pc' := 96) rfl rfl (by decide) (fun x193 e194 => ?_)
                refine yT.if2 (t := 123) (pc' := 99) rfl rfl rfl (c2_ne rfl e194) (fun c195 => ?_) (fun c195 => ?_)
                · refine yT.inc (pc' := 126) g188 rfl rfl rfl rfl ⟨by decide, by have := i32_rng x107; have := i32_rng x125; omega⟩ (fun x196 e197 => ?_)
                  refine yT.p (pc' := 2) rfl rfl (fun _ _ _ _ => rfl) ?_
                  exact ih115 _ _ x196 hT184 (xg_ne g185 rfl) (xg_ne g186 rfl) (xg_ne g187 rfl) xg_eq (by omega) (by have := i32_rng x196; omega)
                · refine yT.il (pc' := 101) g190 rfl rfl ?_
                  refine yT.if1 (t := 123) (pc' := 104) rfl rfl rfl (c1_eq e176) (fun c198 => by omega) (fun c198 => ?_)
                  refine yT.aa_ (pc' := 106) g189 rfl rfl rfl ?_
                  refine yT.cgI (pc' := 109) rfl rfl hT184 o134 rfl rfl (fun x200 w199 => ?_)
                  refine yT.if1 (t := 123) (pc' := 112) rfl rfl rfl (c1_eq rfl) (fun c201 => ?_) (fun c201 => ?_)
                  · refine yT.inc (pc' := 126) g188 rfl rfl rfl rfl ⟨by decide, by have := i32_rng x107; have := i32_rng x125; omega⟩ (fun x202 e203 => ?_)
                    refine yT.p (pc' := 2) rfl rfl (fun _ _ _ _ => rfl) ?_
                    exact ih115 _ _ x202 hT184 (xg_ne g185 rfl) (xg_ne g186 rfl) (xg_ne g187 rfl) xg_eq (by omega) (by have := i32_rng x202; omega)
                  · refine yT.aan (pc' := 113) g185 rfl rfl rfl ?_
                    refine yT.cgR (pc' := 116) rfl rfl hT184 o0 rfl rfl (fun q205 w204 o206 => ?_)
                    refine yT.cgR (pc' := 119) rfl rfl hT184 o206 rfl rfl (fun q208 w207 o209 => ?_)
                    refine yT.iln (pc' := 120) g188 rfl rfl ?_
                    refine kV (yT.cc (G2 := 0) (pc' := 123) rfl rfl rfl hT184 o209 xM_50 (c50 hT184 o209 (by decide) x107) rfl (by decide) (by decide) rfl) (fun h210 hT211 E212 => ?_)
                    refine yT.inc (pc' := 126) g188 rfl rfl rfl rfl ⟨by decide, by have := i32_rng x107; have := i32_rng x125; omega⟩ (fun x213 e214 => ?_)
                    refine yT.p (pc' := 2) rfl rfl (fun _ _ _ _ => rfl) ?_
                    exact ih115 _ _ x213 hT211 (xg_ne g185 rfl) (xg_ne g186 rfl) (xg_ne g187 rfl) xg_eq (by omega) (by have := i32_rng x213; omega)
              refine yT.if1 (t := 71) (pc' := 62) rfl rfl rfl (c1_eq rfl) (fun c215 => ?_) (fun c215 => ?_)
              · refine yT.il (pc' := 73) xg_eq rfl rfl ?_
                refine yT.if1 (t := 90) (pc' := 76) rfl rfl rfl (c1_eq e176) (fun c216 => by omega) (fun c216 => ?_)
                refine yT.iln (pc' := 77) (xg_ne (xg_ne g110 rfl) rfl) rfl rfl ?_
                refine yT.iln (pc' := 78) (xg_ne (xg_ne g111 rfl) rfl) rfl rfl ?_
                refine yT.fi (pc' := 79) rfl rfl (fun _ _ _ _ => rfl) (fun x217 => ?_)
                refine yT.kI (pc' := 80) rfl rfl (by decide) (fun x218 e219 => ?_)
                refine yT.fi (pc' := 81) rfl rfl (fun _ _ _ _ => rfl) (fun x220 => ?_)
                refine yT.if1 (t := 90) (pc' := 84) rfl rfl rfl (c1_eq rfl) (fun c221 => ?_) (fun c221 => ?_)
                · exact J181 _ _ hT131 (xg_ne (xg_ne g108 rfl) rfl) (xg_ne (xg_ne g109 rfl) rfl) (xg_ne (xg_ne g110 rfl) rfl) (xg_ne (xg_ne g111 rfl) rfl) (xg_ne xg_eq rfl) xg_eq
                · refine yT.aa_ (pc' := 86) (xg_ne xg_eq rfl) rfl rfl rfl ?_
                  refine yT.kI (pc' := 87) rfl rfl (by decide) (fun x222 e223 => ?_)
                  refine yT.cpI (pc' := 90) rfl rfl hT131 o134 rfl rfl rfl (fun h224 hT225 w226 fv227 => ?_)
                  exact J181 _ _ hT225 (xg_ne (xg_ne g108 rfl) rfl) (xg_ne (xg_ne g109 rfl) rfl) (xg_ne (xg_ne g110 rfl) rfl) (xg_ne (xg_ne g111 rfl) rfl) (xg_ne xg_eq rfl) xg_eq
              · refine yT.aa_ (pc' := 64) (xg_ne xg_eq rfl) rfl rfl rfl ?_
                refine yT.kI (pc' := 65) rfl rfl (by decide) (fun x228 e229 => ?_)
                refine yT.cpI (pc' := 68) rfl rfl hT131 o134 rfl rfl rfl (fun h230 hT231 w232 fv233 => ?_)
                refine yT.p (pc' := 90) rfl rfl (fun _ _ _ _ => rfl) ?_
                exact J181 _ _ hT231 (xg_ne (xg_ne g108 rfl) rfl) (xg_ne (xg_ne g109 rfl) rfl) (xg_ne (xg_ne g110 rfl) rfl) (xg_ne (xg_ne g111 rfl) rfl) (xg_ne xg_eq rfl) xg_eq
  exact L103 _ _ _ x101 hT (xg_ne g0 rfl) (xg_ne g1 rfl) (xg_ne g2 rfl) xg_eq (by omega) (Nat.lt_succ_self _)
-- rX5_letGo
set_option maxRecDepth 100000 in
set_option maxHeartbeats 4000000 in
theorem c65 {ks : List cT} {σ : Nat → Nat → Int32} {ρ : Nat → xE} {h : List xE} (hT : HT ks σ ρ h) {q0 : Nat} (o0 : xnth ks q0 = some (15, 0)) (x1 : Int32) : yM 65 (2) 0 [.ref (q0 + 1), .int x1] h (CQ ks σ ρ (9, 0, 0) yT0) := by
  refine yM.st xM_65 rfl rfl (fun lv g => ?_)
  have g0 := g 0 _ rfl
  have g1 := g 1 _ rfl
  refine yT.aan (pc' := 1) g0 rfl rfl rfl ?_
  refine yT.cgR (pc' := 4) rfl rfl hT o0 rfl rfl (fun q102 w101 o103 => ?_)
  refine yT.iln (pc' := 5) g1 rfl rfl ?_
  refine kN (yT.cc (G2 := 0) (pc' := 8) rfl rfl rfl hT o103 xM_87 (c87 hT o103 x1) rfl (by decide) (by decide) rfl) (fun h104 hT105 E106 => ?_) (fun h104 q107 hT105 E106 o108 => ?_)
  · refine yT.p (pc' := 9) (lv' := xst1 _ 2 (.null)) rfl rfl (fun _ _ _ _ => rfl) ?_
    refine yT.aan (pc' := 10) xg_eq rfl rfl rfl ?_
    refine yT.p (pc' := 13) rfl rfl (fun _ _ _ _ => rfl) ?_
    exact yT.retV rfl rfl (qV hT105 trivial)
  · have i109 : 0 ≤ x1.toInt ∧ x1.toInt < 24 := (show _ ∨ _ from E106).elim (fun e => by cases e) id
    refine yT.p (pc' := 9) (lv' := xst1 _ 2 (.ref (q107 + 1))) rfl rfl (fun _ _ _ _ => rfl) ?_
    refine yT.aan (pc' := 10) xg_eq rfl rfl rfl ?_
    refine yT.p (pc' := 14) rfl rfl (fun _ _ _ _ => rfl) ?_
    refine yT.aan (pc' := 15) xg_eq rfl rfl rfl ?_
    refine yT.kI (pc' := 16) rfl rfl (by decide) (fun x110 e111 => ?_)
    refine yT.cpZ (pc' := 19) rfl rfl hT105 o108 rfl rfl rfl (b01 (by omega) (by omega)) (fun h112 hT113 w114 fv115 => ?_)
    refine yT.aan (pc' := 20) xg_eq rfl rfl rfl ?_
    refine yT.kI (pc' := 21) rfl rfl (by decide) (fun x116 e117 => ?_)
    refine yT.cpI (pc' := 24) rfl rfl hT113 o108 rfl rfl rfl (fun h118 hT119 w120 fv121 => ?_)
    refine yT.aan (pc' := 25) (xg_ne g0 rfl) rfl rfl rfl ?_
    refine yT.cgR (pc' := 28) rfl rfl hT119 o0 rfl rfl (fun q123 w122 o124 => ?_)
    refine yT.iln (pc' := 29) (xg_ne g1 rfl) rfl rfl ?_
    refine kV (yT.cc (G2 := 0) (pc' := 32) rfl rfl rfl hT119 o124 xM_94 (c94 hT119 o124 x1) rfl (by decide) (by decide) rfl) (fun h125 hT126 E127 => ?_)
    refine yT.aan (pc' := 33) (xg_ne g0 rfl) rfl rfl rfl ?_
    refine yT.cgR (pc' := 36) rfl rfl hT126 o0 rfl rfl (fun q129 w128 o130 => ?_)
    refine yT.cgR (pc' := 39) rfl rfl hT126 o130 rfl rfl (fun q132 w131 o133 => ?_)
    refine yT.iln (pc' := 40) (xg_ne g1 rfl) rfl rfl ?_
    refine kV (yT.cc (G2 := 0) (pc' := 43) rfl rfl rfl hT126 o133 xM_54 (c54 hT126 o133 (by decide) x1) rfl (by decide) (by decide) rfl) (fun h134 hT135 E136 => ?_)
    refine yT.aan (pc' := 44) (xg_ne g0 rfl) rfl rfl rfl ?_
    refine yT.cgR (pc' := 47) rfl rfl hT135 o0 rfl rfl (fun q138 w137 o139 => ?_)
    refine yT.cgR (pc' := 50) rfl rfl hT135 o139 rfl rfl (fun q141 w140 o142 => ?_)
    refine yT.iln (pc' := 51) (xg_ne g1 rfl) rfl rfl ?_
    refine kV (yT.cc (G2 := 0) (pc' := 54) rfl rfl rfl hT135 o142 xM_50 (c50 hT135 o142 (by decide) x1) rfl (by decide) (by decide) rfl) (fun h143 hT144 E145 => ?_)
    refine yT.aan (pc' := 55) (xg_ne g0 rfl) rfl rfl rfl ?_
    refine yT.aan (pc' := 56) (xg_ne g0 rfl) rfl rfl rfl ?_
    refine yT.cgR (pc' := 59) rfl rfl hT144 o0 rfl rfl (fun q147 w146 o148 => ?_)
    refine yT.iln (pc' := 60) (xg_ne g1 rfl) rfl rfl ?_
    refine kI (yT.cc (G2 := 0) (pc' := 63) rfl rfl rfl hT144 o148 xM_95 (c95 hT144 o148 x1) rfl (by decide) (by decide) rfl) (fun h149 x152 hT150 E151 => ?_)
    refine yT.aan (pc' := 64) (xg_ne g0 rfl) rfl rfl rfl ?_
    refine yT.cgR (pc' := 67) rfl rfl hT150 o0 rfl rfl (fun q154 w153 o155 => ?_)
    refine yT.iln (pc' := 68) (xg_ne g1 rfl) rfl rfl ?_
    refine kI (yT.cc (G2 := 0) (pc' := 71) rfl rfl rfl hT150 o155 xM_96 (c96 hT150 o155 x1) rfl (by decide) (by decide) rfl) (fun h156 x159 hT157 E158 => ?_)
    refine kV (yT.cc (G2 := 0) (pc' := 74) rfl rfl rfl hT157 o0 xM_66 (c66 hT157 o0 x152 x159) rfl (by decide) (by decide) rfl) (fun h160 hT161 E162 => ?_)
    exact yT.retV rfl rfl (qV hT161 trivial)
-- rX5_disposeOwnedr
set_option maxRecDepth 100000 in
set_option maxHeartbeats 4000000 in
theorem c64r {ks : List cT} {σ : Nat → Nat → Int32} {ρ : Nat → xE} {h : List xE} (hT : HT ks σ ρ h) {q0 : Nat} (o0 : xnth ks q0 = some (15, 0)) (x1 : Int32) (x2 : Int32) (ix2 : 0 ≤ x2.toInt ∧ x2.toInt ≤ 25) {m : Nat} (hm : x2.toInt + (m : Int) = 25) (R : x2.toInt ≤ 24 → ∀ {h : List xE}, HT ks σ ρ h → ∀ (x y : Int32), y.toInt = x2.toInt + 1 → yM 64 (4 * m + 4) 0 [.ref (q0 + 1), .int x, .int y] h (CQ ks σ ρ (9, 0, 0) yT0)) : yM 64 (4 * m + 8) 0 [.ref (q0 + 1), .int x1, .int x2] h (CQ ks σ ρ (9, 0, 0) yT0) := by
  refine yM.st xM_64 rfl rfl (fun lv g => ?_)
  have g0 := g 0 _ rfl
  have g1 := g 1 _ rfl
  have g2 := g 2 _ rfl
  refine yT.iln (pc' := 1) g2 rfl rfl ?_
  refine yT.kb (pc' := 3) rfl rfl (by decide) (fun x101 e102 => ?_)
  refine yT.if2 (t := 10) (pc' := 6) rfl rfl rfl (c2_le rfl e102) (fun c103 => ?_) (fun c103 => ?_)
  · refine yT.aan (pc' := 11) g0 rfl rfl rfl ?_
    refine yT.cgR (pc' := 14) rfl rfl hT o0 rfl rfl (fun q105 w104 o106 => ?_)
    refine yT.iln (pc' := 15) g1 rfl rfl ?_
    refine kI (yT.cc (G2 := 0) (pc' := 18) rfl rfl rfl hT o106 xM_92 (c92 hT o106 x1) rfl (by omega) (by decide) rfl) (fun h107 x110 hT108 E109 => ?_)
    refine yT.p (pc' := 19) (lv' := xst1 _ 3 (.int x110)) rfl rfl (fun _ _ _ _ => rfl) ?_
    refine yT.kb (pc' := 21) rfl rfl (by decide) (fun x111 e112 => ?_)
    refine yT.p (pc' := 23) (lv' := xst1 _ 4 (.int x111)) rfl rfl (fun _ _ _ _ => rfl) ?_
    have L113 : ∀ (n123 : Nat) (lv114 : xLv) (h115 : List xE) (x117 : Int32), HT ks σ ρ h115 → xget lv114 0 = some (.ref (q0 + 1)) → xget lv114 2 = some (.int x2) → xget lv114 3 = some (.int x110) → xget lv114 4 = some (.int x117) → x117.toInt ≤ 23 → (x117.toInt + 2147483648).toNat < n123 → yT 0 [] rX5_disposeOwned (4 * m + 8) 0 23 lv114 [] h115 (CQ ks σ ρ (9, 0, 0) yT0) := by
      intro n123
      induction n123 with
      | zero => intro lv114 h115 x117 hT116 g118 g119 g120 g121 i122 m124; exact absurd m124 (Nat.not_lt_zero _)
      | succ n123 ih125 =>
        intro lv114 h115 x117 hT116 g118 g119 g120 g121 i122 m124
        refine yT.il (pc' := 25) g121 rfl rfl ?_
        refine yT.if1 (t := 62) (pc' := 28) rfl rfl rfl (c1_lt rfl) (fun c126 => ?_) (fun c126 => ?_)
        · exact yT.retV rfl rfl (qV hT116 trivial)
        · refine yT.iln (pc' := 29) g120 rfl rfl ?_
          refine yT.if1 (t := 62) (pc' := 32) rfl rfl rfl (c1_eq rfl) (fun c127 => ?_) (fun c127 => ?_)
          · exact yT.retV rfl rfl (qV hT116 trivial)
          · refine yT.iln (pc' := 33) g120 rfl rfl ?_
            refine yT.il (pc' := 35) g121 rfl rfl ?_
            refine yT.fi (pc' := 36) rfl rfl (fun _ _ _ _ => rfl) (fun x128 => ?_)
            refine yT.kI (pc' := 37) rfl rfl (by decide) (fun x129 e130 => ?_)
            refine yT.fi (pc' := 38) rfl rfl (fun _ _ _ _ => rfl) (fun x131 => ?_)
            refine yT.if1 (t := 56) (pc' := 41) rfl rfl rfl (c1_eq rfl) (fun c132 => ?_) (fun c132 => ?_)
            · refine yT.inc (pc' := 59) g121 rfl rfl rfl rfl ⟨by decide, by have := i32_rng x117; omega⟩ (fun x133 e134 => ?_)
              refine yT.p (pc' := 23) rfl rfl (fun _ _ _ _ => rfl) ?_
              exact ih125 _ _ x133 hT116 (xg_ne g118 rfl) (xg_ne g119 rfl) (xg_ne g120 rfl) xg_eq (by omega) (by have := i32_rng x133; omega)
            · refine yT.aan (pc' := 42) g118 rfl rfl rfl ?_
              refine yT.il (pc' := 44) g121 rfl rfl ?_
              refine yT.iln (pc' := 45) g119 rfl rfl ?_
              refine yT.kI (pc' := 46) rfl rfl (by decide) (fun x135 e136 => ?_)
              refine yT.ad (pc' := 47) rfl e136 rfl rfl (by have := i32_rng x2; omega) (fun x137 e138 => ?_)
              refine kV (yT.cc (G2 := 0) (pc' := 50) rfl rfl rfl hT116 o0 xM_64 (R (by omega) hT116 x117 x137 (by omega)) rfl (by omega) (by decide) rfl) (fun h139 hT140 E141 => ?_)
              refine yT.aan (pc' := 51) g118 rfl rfl rfl ?_
              refine yT.il (pc' := 53) g121 rfl rfl ?_
              refine kV (yT.cc (G2 := 0) (pc' := 56) rfl rfl rfl hT140 o0 xM_65 (c65 hT140 o0 x117) rfl (by omega) (by decide) rfl) (fun h142 hT143 E144 => ?_)
              refine yT.inc (pc' := 59) g121 rfl rfl rfl rfl ⟨by decide, by have := i32_rng x117; omega⟩ (fun x145 e146 => ?_)
              refine yT.p (pc' := 23) rfl rfl (fun _ _ _ _ => rfl) ?_
              exact ih125 _ _ x145 hT143 (xg_ne g118 rfl) (xg_ne g119 rfl) (xg_ne g120 rfl) xg_eq (by omega) (by have := i32_rng x145; omega)
    exact L113 _ _ _ x111 hT108 (xg_ne (xg_ne g0 rfl) rfl) (xg_ne (xg_ne g2 rfl) rfl) (xg_ne xg_eq rfl) xg_eq (by omega) (Nat.lt_succ_self _)
  · refine yT.kI (pc' := 7) rfl rfl (by decide) (fun x147 e148 => ?_)
    refine yT.p (pc' := 18) rfl rfl (fun _ _ _ _ => rfl) ?_
    refine yT.p (pc' := 19) (lv' := xst1 _ 3 (.int x147)) rfl rfl (fun _ _ _ _ => rfl) ?_
    refine yT.kb (pc' := 21) rfl rfl (by decide) (fun x149 e150 => ?_)
    refine yT.p (pc' := 23) (lv' := xst1 _ 4 (.int x149)) rfl rfl (fun _ _ _ _ => rfl) ?_
    have L151 : ∀ (n161 : Nat) (lv152 : xLv) (h153 : List xE) (x155 : Int32), HT ks σ ρ h153 → xget lv152 0 = some (.ref (q0 + 1)) → xget lv152 2 = some (.int x2) → xget lv152 3 = some (.int x147) → xget lv152 4 = some (.int x155) → x155.toInt ≤ 23 → (x155.toInt + 2147483648).toNat < n161 → yT 0 [] rX5_disposeOwned (4 * m + 8) 0 23 lv152 [] h153 (CQ ks σ ρ (9, 0, 0) yT0) := by
      intro n161
      induction n161 with
      | zero => intro lv152 h153 x155 hT154 g156 g157 g158 g159 i160 m162; exact absurd m162 (Nat.not_lt_zero _)
      | succ n161 ih163 =>
        intro lv152 h153 x155 hT154 g156 g157 g158 g159 i160 m162
        refine yT.il (pc' := 25) g159 rfl rfl ?_
        refine yT.if1 (t := 62) (pc' := 28) rfl rfl rfl (c1_lt rfl) (fun c164 => ?_) (fun c164 => ?_)
        · exact yT.retV rfl rfl (qV hT154 trivial)
        · refine yT.iln (pc' := 29) g158 rfl rfl ?_
          refine yT.if1 (t := 62) (pc' := 32) rfl rfl rfl (c1_eq e148) (fun c165 => ?_) (fun c165 => by omega)
          exact yT.retV rfl rfl (qV hT154 trivial)
    exact L151 _ _ _ x149 hT (xg_ne (xg_ne g0 rfl) rfl) (xg_ne (xg_ne g2 rfl) rfl) (xg_ne xg_eq rfl) xg_eq (by omega) (Nat.lt_succ_self _)
-- rX5_disposeOwned
set_option maxRecDepth 100000 in
set_option maxHeartbeats 4000000 in
theorem c64 {ks : List cT} {σ : Nat → Nat → Int32} {ρ : Nat → xE} {q0 : Nat} (o0 : xnth ks q0 = some (15, 0)) : ∀ (m : Nat) {h : List xE}, HT ks σ ρ h → ∀ (x y : Int32), (0 ≤ y.toInt ∧ y.toInt + (m : Int) = 25) → yM 64 (4 * m + 8) 0 [.ref (q0 + 1), .int x, .int y] h (CQ ks σ ρ (9, 0, 0) yT0)
  | 0, h, hT, x, y, hy => c64r hT o0 x y (by omega) (m := 0) (by omega) (fun h => absurd h (by omega))
  | m + 1, h, hT, x, y, hy => c64r hT o0 x y (by omega) (m := m + 1) (by omega) (fun _ h' hT' x' y' e => by
    have k := c64 o0 m hT' x' y' (by omega)
    rw [show 4 * (m + 1) + 4 = 4 * m + 8 by omega]
    exact k)
set_option maxRecDepth 100000 in
set_option maxHeartbeats 4000000 in
theorem c64z {ks : List cT} {σ : Nat → Nat → Int32} {ρ : Nat → xE} {h : List xE} (hT : HT ks σ ρ h) {q0 : Nat} (o0 : xnth ks q0 = some (15, 0)) (x1 x2 : Int32) (e : x2.toInt = 0) : yM 64 108 0 [.ref (q0 + 1), .int x1, .int x2] h (CQ ks σ ρ (9, 0, 0) yT0) := c64 o0 25 hT x1 x2 (by omega)
-- rX7_addRead
set_option maxRecDepth 100000 in
set_option maxHeartbeats 4000000 in
theorem c93 {ks : List cT} {σ : Nat → Nat → Int32} {ρ : Nat → xE} {h : List xE} (hT : HT ks σ ρ h) {q0 : Nat} (o0 : xnth ks q0 = some (17, 0)) (x1 : Int32) (x2 : Int32) : yM 93 (1) 0 [.ref (q0 + 1), .int x1, .int x2] h (CQ ks σ ρ (9, 0, 0) yT0) := by
  refine yM.st xM_93 rfl rfl (fun lv g => ?_)
  have g0 := g 0 _ rfl
  have g1 := g 1 _ rfl
  have g2 := g 2 _ rfl
  refine yT.aan (pc' := 1) g0 rfl rfl rfl ?_
  refine yT.iln (pc' := 2) g1 rfl rfl ?_
  refine kN (yT.cc (G2 := 0) (pc' := 5) rfl rfl rfl hT o0 xM_87 (c87 hT o0 x1) rfl (by decide) (by decide) rfl) (fun h101 hT102 E103 => ?_) (fun h101 q104 hT102 E103 o105 => ?_)
  · refine yT.p (pc' := 6) (lv' := xst1 _ 3 (.null)) rfl rfl (fun _ _ _ _ => rfl) ?_
    refine yT.aan (pc' := 7) xg_eq rfl rfl rfl ?_
    refine yT.p (pc' := 36) rfl rfl (fun _ _ _ _ => rfl) ?_
    exact yT.retV rfl rfl (qV hT102 trivial)
  · have i106 : 0 ≤ x1.toInt ∧ x1.toInt < 24 := (show _ ∨ _ from E103).elim (fun e => by cases e) id
    refine yT.p (pc' := 6) (lv' := xst1 _ 3 (.ref (q104 + 1))) rfl rfl (fun _ _ _ _ => rfl) ?_
    refine yT.aan (pc' := 7) xg_eq rfl rfl rfl ?_
    refine yT.p (pc' := 10) rfl rfl (fun _ _ _ _ => rfl) ?_
    refine yT.iln (pc' := 11) (xg_ne g2 rfl) rfl rfl ?_
    refine yT.if1 (t := 36) (pc' := 14) rfl rfl rfl (c1_lt rfl) (fun c107 => ?_) (fun c107 => ?_)
    · exact yT.retV rfl rfl (qV hT102 trivial)
    · refine yT.iln (pc' := 15) (xg_ne g2 rfl) rfl rfl ?_
      refine yT.aan (pc' := 16) (xg_ne g0 rfl) rfl rfl rfl ?_
      refine yT.cgR (pc' := 19) rfl rfl hT102 o0 rfl rfl (fun q109 w108 o110 => ?_)
      refine yT.cal (pc' := 20) rfl rfl hT102 o110 rfl (by omega) (fun x111 e112 => ?_)
      refine yT.if2 (t := 36) (pc' := 23) rfl rfl rfl (c2_ge rfl e112) (fun c113 => ?_) (fun c113 => ?_)
      · exact yT.retV rfl rfl (qV hT102 trivial)
      · refine yT.aan (pc' := 24) (xg_ne g0 rfl) rfl rfl rfl ?_
        refine yT.cgk (pc' := 27) rfl rfl w108 ?_
        refine yT.iln (pc' := 28) (xg_ne g2 rfl) rfl rfl ?_
        refine yT.cia (pc' := 29) rfl rfl hT102 o110 rfl (by omega) (fun x114 => ?_)
        refine yT.iln (pc' := 30) (xg_ne g1 rfl) rfl rfl ?_
        refine yT.fi (pc' := 31) rfl rfl (fun _ _ _ _ => rfl) (fun x115 => ?_)
        refine yT.kI (pc' := 32) rfl rfl (by decide) (fun x116 e117 => ?_)
        refine yT.fi (pc' := 33) rfl rfl (fun _ _ _ _ => rfl) (fun x118 => ?_)
        refine yT.if1 (t := 37) (pc' := 36) rfl rfl rfl (c1_eq rfl) (fun c119 => ?_) (fun c119 => ?_)
        · refine yT.aan (pc' := 38) xg_eq rfl rfl rfl ?_
          refine yT.cgR (pc' := 41) rfl rfl hT102 o105 rfl rfl (fun q121 w120 o122 => ?_)
          refine yT.iln (pc' := 42) (xg_ne g2 rfl) rfl rfl ?_
          refine kV (yT.cc (G2 := 0) (pc' := 45) rfl rfl rfl hT102 o122 xM_50 (c50 hT102 o122 (by decide) x2) rfl (by decide) (by decide) rfl) (fun h123 hT124 E125 => ?_)
          refine yT.aan (pc' := 46) (xg_ne g0 rfl) rfl rfl rfl ?_
          refine yT.cgR (pc' := 49) rfl rfl hT124 o0 rfl rfl (fun q127 w126 o128 => ?_)
          refine yT.iln (pc' := 50) (xg_ne g2 rfl) rfl rfl ?_
          refine yT.p (pc' := 51) rfl rfl (fun _ _ _ _ => rfl) ?_
          refine yT.cia (pc' := 52) rfl rfl hT124 o128 rfl (by omega) (fun x129 => ?_)
          refine yT.kI (pc' := 53) rfl rfl (by decide) (fun x130 e131 => ?_)
          refine yT.iln (pc' := 54) (xg_ne g1 rfl) rfl rfl ?_
          refine yT.fi (pc' := 55) rfl rfl (fun _ _ _ _ => rfl) (fun x132 => ?_)
          refine yT.fi (pc' := 56) rfl rfl (fun _ _ _ _ => rfl) (fun x133 => ?_)
          refine yT.cis (pc' := 57) rfl rfl hT124 o128 rfl (by omega) (fun h134 hT135 fv136 => ?_)
          exact yT.retV rfl rfl (qV hT135 trivial)
        · exact yT.retV rfl rfl (qV hT102 trivial)
-- rX5_outcomeRead
set_option maxRecDepth 100000 in
set_option maxHeartbeats 4000000 in
theorem c70 {ks : List cT} {σ : Nat → Nat → Int32} {ρ : Nat → xE} {h : List xE} (hT : HT ks σ ρ h) {q0 : Nat} (o0 : xnth ks q0 = some (15, 0)) {q1 : Nat} (o1 : xnth ks q1 = some (11, 0)) (x2 : Int32) (x3 : Int32) (x4 : Int32) (ix4 : 0 ≤ x4.toInt ∧ x4.toInt ≤ 24) {m : Nat} (R : ∀ {h : List xE}, HT ks σ ρ h → ∀ (x y : Int32), y.toInt = x4.toInt + 1 → yM 67 (8 * m + 192) 0 [.ref (q0 + 1), .int x, .int y] h (CQ ks σ ρ (9, 0, 0) yT0)) : yM 70 (8 * m + 194) 0 [.ref (q0 + 1), .ref (q1 + 1), .int x2, .int x3, .int x4] h (CQ ks σ ρ (2, 0, 0) yT0) := by
  refine yM.st xM_70 rfl rfl (fun lv g => ?_)
  have g0 := g 0 _ rfl
  have g1 := g 1 _ rfl
  have g2 := g 2 _ rfl
  have g3 := g 3 _ rfl
  have g4 := g 4 _ rfl
  refine yT.aan (pc' := 1) g0 rfl rfl rfl ?_
  refine yT.cgR (pc' := 4) rfl rfl hT o0 rfl rfl (fun q102 w101 o103 => ?_)
  refine yT.iln (pc' := 5) g3 rfl rfl ?_
  refine kN (yT.cc (G2 := 0) (pc' := 8) rfl rfl rfl hT o103 xM_87 (c87 hT o103 x3) rfl (by omega) (by decide) rfl) (fun h104 hT105 E106 => ?_) (fun h104 q107 hT105 E106 o108 => ?_)
  · refine yT.p (pc' := 10) (lv' := xst1 _ 5 (.null)) rfl rfl (fun _ _ _ _ => rfl) ?_
    refine yT.aan (pc' := 11) (xg_ne g1 rfl) rfl rfl rfl ?_
    refine yT.cgN (pc' := 14) rfl rfl hT105 o1 rfl rfl (fun w109 => ?_) (fun q110 w109 o111 => ?_)
    · refine yT.p (pc' := 16) (lv' := xst1 _ 6 (.null)) rfl rfl (fun _ _ _ _ => rfl) ?_
      refine yT.aa_ (pc' := 18) (xg_ne xg_eq rfl) rfl rfl rfl ?_
      refine yT.p (pc' := 34) rfl rfl (fun _ _ _ _ => rfl) ?_
      refine yT.fl (pc' := 37) rfl rfl (fun _ _ _ _ => rfl) (fun x112 => ?_)
      exact yT.retL rfl rfl (qL hT105 trivial)
    · refine yT.p (pc' := 16) (lv' := xst1 _ 6 (.ref (q110 + 1))) rfl rfl (fun _ _ _ _ => rfl) ?_
      refine yT.aa_ (pc' := 18) (xg_ne xg_eq rfl) rfl rfl rfl ?_
      refine yT.p (pc' := 34) rfl rfl (fun _ _ _ _ => rfl) ?_
      refine yT.fl (pc' := 37) rfl rfl (fun _ _ _ _ => rfl) (fun x113 => ?_)
      exact yT.retL rfl rfl (qL hT105 trivial)
  · have i114 : 0 ≤ x3.toInt ∧ x3.toInt < 24 := (show _ ∨ _ from E106).elim (fun e => by cases e) id
    refine yT.p (pc' := 10) (lv' := xst1 _ 5 (.ref (q107 + 1))) rfl rfl (fun _ _ _ _ => rfl) ?_
    refine yT.aan (pc' := 11) (xg_ne g1 rfl) rfl rfl rfl ?_
    refine yT.cgN (pc' := 14) rfl rfl hT105 o1 rfl rfl (fun w115 => ?_) (fun q116 w115 o117 => ?_)
    · refine yT.p (pc' := 16) (lv' := xst1 _ 6 (.null)) rfl rfl (fun _ _ _ _ => rfl) ?_
      refine yT.aa_ (pc' := 18) (xg_ne xg_eq rfl) rfl rfl rfl ?_
      refine yT.p (pc' := 21) rfl rfl (fun _ _ _ _ => rfl) ?_
      refine yT.aa_ (pc' := 23) xg_eq rfl rfl rfl ?_
      refine yT.p (pc' := 34) rfl rfl (fun _ _ _ _ => rfl) ?_
      refine yT.fl (pc' := 37) rfl rfl (fun _ _ _ _ => rfl) (fun x118 => ?_)
      exact yT.retL rfl rfl (qL hT105 trivial)
    · refine yT.p (pc' := 16) (lv' := xst1 _ 6 (.ref (q116 + 1))) rfl rfl (fun _ _ _ _ => rfl) ?_
      refine yT.aa_ (pc' := 18) (xg_ne xg_eq rfl) rfl rfl rfl ?_
      refine yT.p (pc' := 21) rfl rfl (fun _ _ _ _ => rfl) ?_
      refine yT.aa_ (pc' := 23) xg_eq rfl rfl rfl ?_
      refine yT.p (pc' := 26) rfl rfl (fun _ _ _ _ => rfl) ?_
      refine yT.aa_ (pc' := 28) (xg_ne xg_eq rfl) rfl rfl rfl ?_
      refine kZ (yT.cc (G2 := 0) (pc' := 31) rfl rfl rfl hT105 o108 xM_9 (c9 hT105 o108) rfl (by omega) (by decide) rfl) (fun h119 x122 hT120 E121 b123 => ?_)
      have i124 := b01i b123
      refine yT.if1 (t := 38) (pc' := 34) rfl rfl rfl (c1_ne rfl) (fun c125 => ?_) (fun c125 => ?_)
      · refine yT.aa_ (pc' := 40) xg_eq rfl rfl rfl ?_
        refine kZ (yT.cc (G2 := 0) (pc' := 43) rfl rfl rfl hT120 o117 xM_13 (c13 hT120 o117) rfl (by omega) (by decide) rfl) (fun h126 x129 hT127 E128 b130 => ?_)
        have i131 := b01i b130
        have J132 : ∀ (lv133 : xLv) (h134 : List xE), HT ks σ ρ h134 → xget lv133 0 = some (.ref (q0 + 1)) → xget lv133 3 = some (.int x3) → xget lv133 4 = some (.int x4) → xget lv133 5 = some (.ref (q107 + 1)) → yT 0 [] rX5_outcomeRead (8 * m + 194) 0 60 lv133 [] h134 (CQ ks σ ρ (2, 0, 0) yT0) := by
          intro lv133 h134 hT135 g136 g137 g138 g139
          refine yT.aa_ (pc' := 62) g139 rfl rfl rfl ?_
          refine yT.cgZ (pc' := 65) rfl rfl hT135 o108 rfl rfl (fun x141 w140 b142 => ?_)
          have i143 := b01i b142
          refine yT.if1 (t := 72) (pc' := 68) rfl rfl rfl (c1_eq rfl) (fun c144 => ?_) (fun c144 => ?_)
          · refine yT.aa_ (pc' := 74) g139 rfl rfl rfl ?_
            refine yT.cgI (pc' := 77) rfl rfl hT135 o108 rfl rfl (fun x146 w145 => ?_)
            refine yT.kI (pc' := 78) rfl rfl (by decide) (fun x147 e148 => ?_)
            refine yT.if2 (t := 90) (pc' := 81) rfl rfl rfl (c2_ne rfl e148) (fun c149 => ?_) (fun c149 => ?_)
            · refine yT.aa_ (pc' := 92) g139 rfl rfl rfl ?_
              refine yT.cgL (pc' := 95) rfl rfl hT135 o108 rfl rfl (fun x151 w150 => ?_)
              exact yT.retL rfl rfl (qL hT135 trivial)
            · refine yT.aan (pc' := 82) g136 rfl rfl rfl ?_
              refine yT.iln (pc' := 83) g137 rfl rfl ?_
              refine yT.il (pc' := 85) g138 rfl rfl ?_
              refine yT.kI (pc' := 86) rfl rfl (by decide) (fun x152 e153 => ?_)
              refine yT.ad (pc' := 87) rfl e153 rfl rfl (by have := i32_rng x4; omega) (fun x154 e155 => ?_)
              refine kV (yT.cc (G2 := 0) (pc' := 90) rfl rfl rfl hT135 o0 xM_67 (R hT135 x3 x154 (by omega)) rfl (by omega) (by decide) rfl) (fun h156 hT157 E158 => ?_)
              refine yT.aa_ (pc' := 92) g139 rfl rfl rfl ?_
              refine yT.cgL (pc' := 95) rfl rfl hT157 o108 rfl rfl (fun x160 w159 => ?_)
              exact yT.retL rfl rfl (qL hT157 trivial)
          · refine yT.fl (pc' := 71) rfl rfl (fun _ _ _ _ => rfl) (fun x161 => ?_)
            exact yT.retL rfl rfl (qL hT135 trivial)
        refine yT.if1 (t := 60) (pc' := 46) rfl rfl rfl (c1_eq rfl) (fun c162 => ?_) (fun c162 => ?_)
        · exact J132 _ _ hT127 (xg_ne (xg_ne g0 rfl) rfl) (xg_ne (xg_ne g3 rfl) rfl) (xg_ne (xg_ne g4 rfl) rfl) (xg_ne xg_eq rfl)
        · refine yT.iln (pc' := 47) (xg_ne (xg_ne g3 rfl) rfl) rfl rfl ?_
          refine yT.iln (pc' := 48) (xg_ne (xg_ne g2 rfl) rfl) rfl rfl ?_
          refine yT.if2 (t := 60) (pc' := 51) rfl rfl rfl (c2_eq rfl rfl) (fun c163 => ?_) (fun c163 => ?_)
          · exact J132 _ _ hT127 (xg_ne (xg_ne g0 rfl) rfl) (xg_ne (xg_ne g3 rfl) rfl) (xg_ne (xg_ne g4 rfl) rfl) (xg_ne xg_eq rfl)
          · refine yT.aan (pc' := 52) (xg_ne (xg_ne g0 rfl) rfl) rfl rfl rfl ?_
            refine yT.cgR (pc' := 55) rfl rfl hT127 o0 rfl rfl (fun q165 w164 o166 => ?_)
            refine yT.iln (pc' := 56) (xg_ne (xg_ne g2 rfl) rfl) rfl rfl ?_
            refine yT.iln (pc' := 57) (xg_ne (xg_ne g3 rfl) rfl) rfl rfl ?_
            refine kV (yT.cc (G2 := 0) (pc' := 60) rfl rfl rfl hT127 o166 xM_93 (c93 hT127 o166 x2 x3) rfl (by omega) (by decide) rfl) (fun h167 hT168 E169 => ?_)
            exact J132 _ _ hT168 (xg_ne (xg_ne g0 rfl) rfl) (xg_ne (xg_ne g3 rfl) rfl) (xg_ne (xg_ne g4 rfl) rfl) (xg_ne xg_eq rfl)
      · refine yT.fl (pc' := 37) rfl rfl (fun _ _ _ _ => rfl) (fun x170 => ?_)
        exact yT.retL rfl rfl (qL hT120 trivial)
-- rX7_addToLog
set_option maxRecDepth 100000 in
set_option maxHeartbeats 4000000 in
theorem c101 {ks : List cT} {σ : Nat → Nat → Int32} {ρ : Nat → xE} {h : List xE} (hT : HT ks σ ρ h) {q0 : Nat} (o0 : xnth ks q0 = some (17, 0)) (x1 : Int32) (x2 : Int64) : yM 101 (1) 0 [.ref (q0 + 1), .int x1, .long x2] h (CQ ks σ ρ (9, 0, 0) yT0) := by
  refine yM.st xM_101 rfl rfl (fun lv g => ?_)
  have g0 := g 0 _ rfl
  have g1 := g 1 _ rfl
  have g2 := g 2 _ rfl
  refine yT.aan (pc' := 1) g0 rfl rfl rfl ?_
  refine yT.cgR (pc' := 4) rfl rfl hT o0 rfl rfl (fun q102 w101 o103 => ?_)
  refine kS (yT.cc (G2 := 0) (pc' := 7) rfl rfl rfl hT o103 xM_44 (c44 hT o103 (by decide)) rfl (by decide) (by decide) rfl) (fun h104 x107 hT105 E106 i108 i109 => ?_)
  refine yT.p (pc' := 9) (lv' := xst1 _ 4 (.int x107)) rfl rfl (fun _ _ _ _ => rfl) ?_
  refine yT.il (pc' := 11) xg_eq rfl rfl ?_
  refine yT.if1 (t := 32) (pc' := 14) rfl rfl rfl (c1_lt rfl) (fun c110 => by omega) (fun c110 => ?_)
  refine yT.il (pc' := 16) xg_eq rfl rfl ?_
  refine yT.aan (pc' := 17) (xg_ne g0 rfl) rfl rfl rfl ?_
  refine yT.cgR (pc' := 20) rfl rfl hT105 o0 rfl rfl (fun q112 w111 o113 => ?_)
  refine yT.cal (pc' := 21) rfl rfl hT105 o113 rfl (by omega) (fun x114 e115 => ?_)
  refine yT.if2 (t := 32) (pc' := 24) rfl rfl rfl (c2_ge rfl e115) (fun c116 => ?_) (fun c116 => ?_)
  · refine yT.aan (pc' := 33) (xg_ne g0 rfl) rfl rfl rfl ?_
    refine yT.cgR (pc' := 36) rfl rfl hT105 o0 rfl rfl (fun q118 w117 o119 => ?_)
    refine yT.iln (pc' := 37) (xg_ne g1 rfl) rfl rfl ?_
    refine kV (yT.cc (G2 := 0) (pc' := 40) rfl rfl rfl hT105 o119 xM_50 (c50 hT105 o119 (by decide) x1) rfl (by decide) (by decide) rfl) (fun h120 hT121 E122 => ?_)
    exact yT.retV rfl rfl (qV hT121 trivial)
  · refine yT.aan (pc' := 25) (xg_ne g0 rfl) rfl rfl rfl ?_
    refine yT.cgk (pc' := 28) rfl rfl w111 ?_
    refine yT.il (pc' := 30) xg_eq rfl rfl ?_
    refine yT.lln (pc' := 31) (xg_ne g2 rfl) rfl rfl ?_
    refine yT.cls (pc' := 32) rfl rfl hT105 o113 rfl (by omega) (fun h123 hT124 fv125 => ?_)
    refine yT.aan (pc' := 33) (xg_ne g0 rfl) rfl rfl rfl ?_
    refine yT.cgR (pc' := 36) rfl rfl hT124 o0 rfl rfl (fun q127 w126 o128 => ?_)
    refine yT.iln (pc' := 37) (xg_ne g1 rfl) rfl rfl ?_
    refine kV (yT.cc (G2 := 0) (pc' := 40) rfl rfl rfl hT124 o128 xM_50 (c50 hT124 o128 (by decide) x1) rfl (by decide) (by decide) rfl) (fun h129 hT130 E131 => ?_)
    exact yT.retV rfl rfl (qV hT130 trivial)
