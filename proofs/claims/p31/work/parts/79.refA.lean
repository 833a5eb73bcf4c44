-- rX9_image
set_option maxRecDepth 100000 in
set_option maxHeartbeats 4000000 in
theorem r266 {ks : List cT} {B0 : Nat} (K : KE KS0 ks B0) {σ : sg} {ρ : Nat → xE} {h : List xE} (hT : HT ks σ ρ h) {k : Nat} (p0 : RI k σ) : yM 266 (1) 0 [.ref (60 + 1)] h (RQI ks ρ (fun σ' r => r.toInt = 1 ∧ S3 k σ σ')) := by
  refine yM.st xM_266 rfl rfl (fun lv g => ?_)
  have g0 := g 0 _ rfl
  refine yT.aan (pc' := 1) g0 rfl rfl rfl ?_
  refine yT.cg8 (pc' := 4) rfl rfl hT (K.up rfl) rfl rfl (fun _ => ?_)
  refine yT.aan (pc' := 5) g0 rfl rfl rfl ?_
  refine yT.cg8 (pc' := 8) rfl rfl hT (K.up rfl) rfl rfl (fun _ => ?_)
  refine kSV (yT.cst (G2 := 0) (pc' := 11) rfl rfl xM_264 (r264 (p := 61) (q := 64) hT (K.up rfl) (K.up rfl) rfl rfl) rfl (by omega) (by decide) rfl) (fun h101 hT102 => ?_)
  refine yT.aan (pc' := 12) g0 rfl rfl rfl ?_
  refine yT.cg8 (pc' := 15) rfl rfl hT102 (K.up rfl) rfl rfl (fun _ => ?_)
  refine yT.aan (pc' := 16) g0 rfl rfl rfl ?_
  refine yT.cg8 (pc' := 19) rfl rfl hT102 (K.up rfl) rfl rfl (fun _ => ?_)
  refine kSV (yT.cst (G2 := 0) (pc' := 22) rfl rfl xM_265 (r265 (p := 62) (q := 65) hT102 (K.up rfl) (K.up rfl) rfl) rfl (by omega) (by decide) rfl) (fun h103 hT104 => ?_)
  refine yT.aan (pc' := 23) g0 rfl rfl rfl ?_
  refine yT.cg8 (pc' := 26) rfl rfl hT104 (K.up rfl) rfl rfl (fun _ => ?_)
  refine yT.aan (pc' := 27) g0 rfl rfl rfl ?_
  refine yT.cg8 (pc' := 30) rfl rfl hT104 (K.up rfl) rfl rfl (fun _ => ?_)
  refine kSV (yT.cst (G2 := 0) (pc' := 33) rfl rfl xM_265 (r265 (p := 63) (q := 66) hT104 (K.up rfl) (K.up rfl) rfl) rfl (by omega) (by decide) rfl) (fun h105 hT106 => ?_)
  refine yT.aan (pc' := 34) g0 rfl rfl rfl ?_
  refine yT.cg8 (pc' := 37) rfl rfl hT106 (K.up rfl) rfl rfl (fun _ => ?_)
  refine yT.aan (pc' := 38) g0 rfl rfl rfl ?_
  refine yT.cg8 (pc' := 41) rfl rfl hT106 (K.up rfl) rfl rfl (fun _ => ?_)
  refine kSV (yT.cst (G2 := 0) (pc' := 44) rfl rfl xM_264 (r264i (p := 68) (q := 69) hT106 (K.up rfl) (K.up rfl) rfl rfl) rfl (by omega) (by decide) rfl) (fun h107 hT108 => ?_)
  refine yT.aan (pc' := 45) g0 rfl rfl rfl ?_
  refine yT.kI (pc' := 46) rfl rfl (by decide) (fun x109 e110 => ?_)
  refine yT.cpX (c := x109) (pc' := 49) rfl rfl hT108 (K.up rfl) rfl rfl (by rw [i32_ext (show x109.toInt = (1 : Int32).toInt from e110)]; rfl) e110 (by omega) rfl (fun h111 hT112 _ _ => ?_)
  have f113 : fl (us (cpy σ 61 64 6918) 60 6 x109) 6 = 1 := fl_at.trans e110
  refine yT.kI (pc' := 50) rfl rfl (by decide) (fun x114 e115 => ?_)
  exact yT.retI rfl rfl ⟨_, hT112, _, rfl, ⟨by omega, S3.img p0 (by omega)⟩⟩
-- rX9_back
set_option maxRecDepth 100000 in
set_option maxHeartbeats 4000000 in
theorem r267 {ks : List cT} {B0 : Nat} (K : KE KS0 ks B0) {σ : sg} {ρ : Nat → xE} {h : List xE} (hT : HT ks σ ρ h) {k : Nat} (p0 : RI k σ) : yM 267 (1) 0 [.ref (60 + 1)] h (RQI ks ρ (fun σ' r => (fl σ 6 = 0 ∧ r.toInt = -5 ∧ S0 k σ σ') ∨ (fl σ 6 ≠ 0 ∧ r.toInt = 1 ∧ BK k σ σ'))) := by
  refine yM.st xM_267 rfl rfl (fun lv g => ?_)
  have g0 := g 0 _ rfl
  refine yT.aan (pc' := 1) g0 rfl rfl rfl ?_
  refine yT.cgX (pc' := 4) rfl rfl hT (K.up rfl) rfl rfl (fun x101 _ i102 j103 z104 => ?_)
  have e105 : x101.toInt = fl σ 6 := congrArg Int32.toInt z104
  refine yT.if1 (t := 14) (pc' := 7) rfl rfl rfl (c1_ne e105) (fun c106 => ?_) (fun c106 => ?_)
  · refine yT.aan (pc' := 15) g0 rfl rfl rfl ?_
    refine yT.cg8 (pc' := 18) rfl rfl hT (K.up rfl) rfl rfl (fun _ => ?_)
    refine yT.aan (pc' := 19) g0 rfl rfl rfl ?_
    refine yT.cg8 (pc' := 22) rfl rfl hT (K.up rfl) rfl rfl (fun _ => ?_)
    refine kSV (yT.cst (G2 := 0) (pc' := 25) rfl rfl xM_264 (r264 (p := 64) (q := 61) hT (K.up rfl) (K.up rfl) rfl rfl) rfl (by omega) (by decide) rfl) (fun h107 hT108 => ?_)
    have hBK := BK.in p0
    refine yT.aan (pc' := 26) g0 rfl rfl rfl ?_
    refine yT.cg8 (pc' := 29) rfl rfl hT108 (K.up rfl) rfl rfl (fun _ => ?_)
    refine yT.aan (pc' := 30) g0 rfl rfl rfl ?_
    refine yT.cg8 (pc' := 33) rfl rfl hT108 (K.up rfl) rfl rfl (fun _ => ?_)
    refine kSV (yT.cst (G2 := 0) (pc' := 36) rfl rfl xM_265 (r265 (p := 65) (q := 62) hT108 (K.up rfl) (K.up rfl) rfl) rfl (by omega) (by decide) rfl) (fun h109 hT110 => ?_)
    refine yT.aan (pc' := 37) g0 rfl rfl rfl ?_
    refine yT.cg8 (pc' := 40) rfl rfl hT110 (K.up rfl) rfl rfl (fun _ => ?_)
    refine yT.aan (pc' := 41) g0 rfl rfl rfl ?_
    refine yT.cg8 (pc' := 44) rfl rfl hT110 (K.up rfl) rfl rfl (fun _ => ?_)
    refine kSV (yT.cst (G2 := 0) (pc' := 47) rfl rfl xM_265 (r265 (p := 66) (q := 63) hT110 (K.up rfl) (K.up rfl) rfl) rfl (by omega) (by decide) rfl) (fun h111 hT112 => ?_)
    refine yT.aan (pc' := 48) g0 rfl rfl rfl ?_
    refine yT.cg8 (pc' := 51) rfl rfl hT112 (K.up rfl) rfl rfl (fun _ => ?_)
    refine yT.aan (pc' := 52) g0 rfl rfl rfl ?_
    refine yT.cg8 (pc' := 55) rfl rfl hT112 (K.up rfl) rfl rfl (fun _ => ?_)
    refine kSV (yT.cst (G2 := 0) (pc' := 58) rfl rfl xM_264 (r264i (p := 69) (q := 68) hT112 (K.up rfl) (K.up rfl) rfl rfl) rfl (by omega) (by decide) rfl) (fun h113 hT114 => ?_)
    refine yT.kI (pc' := 59) rfl rfl (by decide) (fun x115 e116 => ?_)
    refine yT.p (pc' := 60) (lv' := xst1 _ 1 (.int x115)) rfl rfl (fun _ _ _ _ => rfl) ?_
    have L117 : ∀ (n128 : Nat) (lv118 : xLv) (σ119 : sg) (h120 : List xE) (s123 : Nat) (x122 : Int32), HT ks σ119 ρ h120 → x122.toInt = (s123 : Int) → xget lv118 0 = some (.ref (60 + 1)) → xget lv118 1 = some (.int x122) → BK k σ σ119 → 8 - (s123) < n128 → yT 0 [] rX9_back (1) 0 60 lv118 [] h120 (RQI ks ρ (fun σ' r => (fl σ 6 = 0 ∧ r.toInt = -5 ∧ S0 k σ σ') ∨ (fl σ 6 ≠ 0 ∧ r.toInt = 1 ∧ BK k σ σ'))) := by
      intro n128
      induction n128 with
      | zero => intro lv118 σ119 h120 s123 x122 hT121 e124 g125 g126 i127 m129; exact absurd m129 (Nat.not_lt_zero _)
      | succ n128 ih130 =>
        intro lv118 σ119 h120 s123 x122 hT121 e124 g125 g126 i127 m129
        have hBK := i127
        have hcm1 := hBK.1.1.1.1.1
        refine yT.iln (pc' := 61) g126 rfl rfl ?_
        refine yT.kb (pc' := 63) rfl rfl (by decide) (fun x131 e132 => ?_)
        refine yT.if2 (t := 108) (pc' := 66) rfl rfl rfl (c2_ge e124 e132) (fun c133 => ?_) (fun c133 => ?_)
        · refine yT.kI (pc' := 109) rfl rfl (by decide) (fun x134 e135 => ?_)
          exact yT.retI rfl rfl ⟨_, hT121, _, rfl, (Or.inr ⟨by omega, by omega, i127⟩)⟩
        · refine yT.aan (pc' := 67) g125 rfl rfl rfl ?_
          refine yT.cg8 (pc' := 70) rfl rfl hT121 (K.up rfl) rfl rfl (fun _ => ?_)
          refine yT.iln (pc' := 71) g126 rfl rfl ?_
          refine yT.aan (pc' := 72) g125 rfl rfl rfl ?_
          refine yT.cg8 (pc' := 75) rfl rfl hT121 (K.up rfl) rfl rfl (fun _ => ?_)
          refine yT.iln (pc' := 76) g126 rfl rfl ?_
          refine yT.tia (s123) (pc' := 77) rfl rfl hT121 (K.up rfl) e124 (by omega) (fun x136 z138 => ?_)
          have e137 : x136.toInt = (σ119 76 (s123)).toInt := congrArg Int32.toInt z138
          refine yT.kb (pc' := 79) rfl rfl (by decide) (fun x139 e140 => ?_)
          refine yT.aan (pc' := 80) g125 rfl rfl rfl ?_
          refine yT.cg8 (pc' := 83) rfl rfl hT121 (K.up rfl) rfl rfl (fun _ => ?_)
          refine yT.ks (pc' := 86) rfl rfl (by decide) (fun x141 e142 => ?_)
          refine yT.tia (6768) (pc' := 87) rfl rfl hT121 (K.up rfl) e142 (by omega) (fun x143 z145 => ?_)
          have e144 : x143.toInt = nw σ119 (6768) := congrArg Int32.toInt z145
          refine yT.ad2 (pc' := 88) (Z := (nw σ119 (6768)) + 10) e140 e144 rfl rfl (by omega) (fun x146 e147 => ?_)
          refine yT.if2 (t := 95) (pc' := 91) rfl rfl rfl (c2_lt e137 e147) (fun c148 => ?_) (fun c148 => ?_)
          · refine yT.aan (pc' := 96) g125 rfl rfl rfl ?_
            refine yT.cg8 (pc' := 99) rfl rfl hT121 (K.up rfl) rfl rfl (fun _ => ?_)
            refine yT.iln (pc' := 100) g126 rfl rfl ?_
            refine yT.tia (s123) (pc' := 101) rfl rfl hT121 (K.up rfl) e124 (by omega) (fun x149 z151 => ?_)
            have e150 : x149.toInt = (σ119 76 (s123)).toInt := congrArg Int32.toInt z151
            refine yT.tis (s123) (pc' := 102) rfl rfl hT121 (K.up rfl) e124 (by omega) (fun h152 hT153 => ?_)
            refine yT.inc2 (pc' := 105) (Z := (s123 : Int) + 1) g126 e124 rfl rfl rfl ⟨by decide, by omega⟩ (fun x154 e155 => ?_)
            refine yT.p (pc' := 60) rfl rfl (fun _ _ _ _ => rfl) ?_
            exact ih130 _ (us σ119 76 (s123) x149) _ (s123 + 1) x154 hT153 (by omega) (xg_ne g125 rfl) xg_eq (BK.st hBK (by omega) (by omega)) (by omega)
          · refine yT.kI (pc' := 92) rfl rfl (by decide) (fun x156 e157 => ?_)
            refine yT.p (pc' := 101) rfl rfl (fun _ _ _ _ => rfl) ?_
            refine yT.tis (s123) (pc' := 102) rfl rfl hT121 (K.up rfl) e124 (by omega) (fun h158 hT159 => ?_)
            refine yT.inc2 (pc' := 105) (Z := (s123 : Int) + 1) g126 e124 rfl rfl rfl ⟨by decide, by omega⟩ (fun x160 e161 => ?_)
            refine yT.p (pc' := 60) rfl rfl (fun _ _ _ _ => rfl) ?_
            exact ih130 _ (us σ119 76 (s123) x156) _ (s123 + 1) x160 hT159 (by omega) (xg_ne g125 rfl) xg_eq (BK.st hBK (by omega) (by omega)) (by omega)
    exact L117 _ _ (cpy σ 64 61 6918) _ (0) x115 hT114 (by omega) (xg_ne g0 rfl) xg_eq hBK (Nat.lt_succ_self _)
  · refine yT.aan (pc' := 8) g0 rfl rfl rfl ?_
    refine yT.kb (pc' := 10) rfl rfl (by decide) (fun x162 e163 => ?_)
    refine kSI (yT.cc (G2 := 0) (pc' := 13) rfl rfl rfl hT (K.up rfl : xnth ks 60 = some (19, 0)) xM_164 (r164  K hT x162 (by omega)) rfl (by omega) (by decide) rfl) (fun h164 x167 hT165 E166 => ?_)
    exact yT.retI rfl rfl ⟨_, hT165, _, rfl, (Or.inl ⟨by omega, by omega, S0.rf p0⟩)⟩
-- rX9_signs
set_option maxRecDepth 100000 in
set_option maxHeartbeats 4000000 in
theorem r255 {ks : List cT} {B0 : Nat} (K : KE KS0 ks B0) {σ : sg} {ρ : Nat → xE} {h : List xE} (hT : HT ks σ ρ h) (x1 : Int32) (x2 : Int32) (x3 : Int32) : yM 255 (9) 0 [.ref (60 + 1), .int x1, .int x2, .int x3] h (SQI ks σ ρ (fun r => True)) := by
  refine yM.st xM_255 rfl rfl (fun lv g => ?_)
  have g0 := g 0 _ rfl
  have g1 := g 1 _ rfl
  have g2 := g 2 _ rfl
  have g3 := g 3 _ rfl
  refine yT.kI (pc' := 1) rfl rfl (by decide) (fun x101 e102 => ?_)
  refine yT.p (pc' := 3) (lv' := xst1 _ 4 (.int x101)) rfl rfl (fun _ _ _ _ => rfl) ?_
  refine yT.kI (pc' := 4) rfl rfl (by decide) (fun x103 e104 => ?_)
  refine yT.p (pc' := 6) (lv' := xst1 _ 5 (.int x103)) rfl rfl (fun _ _ _ _ => rfl) ?_
  have L105 : ∀ (n118 : Nat) (lv106 : xLv) (h107 : List xE) (x109 : Int32) (k111 : Nat) (x110 : Int32), HT ks σ ρ h107 → x110.toInt = (k111 : Int) → xget lv106 1 = some (.int x1) → xget lv106 2 = some (.int x2) → xget lv106 3 = some (.int x3) → xget lv106 4 = some (.int x109) → xget lv106 5 = some (.int x110) → 8 - (k111) < n118 → yT 0 [] rX9_signs (9) 0 6 lv106 [] h107 (SQI ks σ ρ (fun r => True)) := by
    intro n118
    induction n118 with
    | zero => intro lv106 h107 x109 k111 x110 hT108 e112 g113 g114 g115 g116 g117 m119; exact absurd m119 (Nat.not_lt_zero _)
    | succ n118 ih120 =>
      intro lv106 h107 x109 k111 x110 hT108 e112 g113 g114 g115 g116 g117 m119
      refine yT.il (pc' := 8) g117 rfl rfl ?_
      refine yT.kb (pc' := 10) rfl rfl (by decide) (fun x121 e122 => ?_)
      refine yT.if2 (t := 48) (pc' := 13) rfl rfl rfl (c2_ge e112 e122) (fun c123 => ?_) (fun c123 => ?_)
      · refine yT.il (pc' := 50) g116 rfl rfl ?_
        exact yT.retI rfl rfl ⟨hT108, _, rfl, trivial⟩
      · obtain ⟨c, hsg⟩ := sgn_some (k := (k111)) (by omega)
        refine yT.il (pc' := 15) g116 rfl rfl ?_
        refine yT.il (pc' := 17) g117 rfl rfl ?_
        refine kSI (yT.cst (G2 := 0) (pc' := 20) rfl rfl xM_254 (r254 hT108 e112 (by omega) hsg) rfl (by omega) (by decide) rfl) (fun h124 x126 hT125 E127 => ?_)
        refine yT.iln (pc' := 21) g113 rfl rfl ?_
        refine yT.iln (pc' := 22) g114 rfl rfl ?_
        refine kSL (yT.cst (G2 := 0) (pc' := 25) rfl rfl xM_172 (r172  K hT125 x126 x1 x2) rfl (by omega) (by decide) rfl) (fun h128 x131 hT129 E130 => ?_)
        refine yT.iln (pc' := 26) g115 rfl rfl ?_
        refine yT.i2l2 (pc' := 27) (X := x3.toInt) rfl rfl rfl (fun y132 e133 => ?_)
        refine yT.cmp2 (pc' := 28) (U := x131.toInt) (V := x3.toInt) rfl e133 rfl rfl (fun x134 c135 => ?_)
        refine yT.if1 (t := 38) (pc' := 31) rfl rfl rfl (c1_ne rfl) (fun c136 => ?_) (fun c136 => ?_)
        · refine yT.kI (pc' := 39) rfl rfl (by decide) (fun x137 e138 => ?_)
          refine yT.or2 (pc' := 40) rfl rfl (fun x139 u140 => ?_)
          refine yT.p (pc' := 42) (lv' := xst1 _ 4 (.int x139)) rfl rfl (fun _ _ _ _ => rfl) ?_
          refine yT.inc2 (pc' := 45) (Z := (k111 : Int) + 1) (xg_ne g117 rfl) e112 rfl rfl rfl ⟨by decide, by omega⟩ (fun x141 e142 => ?_)
          refine yT.p (pc' := 6) rfl rfl (fun _ _ _ _ => rfl) ?_
          exact ih120 _ _ x139 (k111 + 1) x141 hT129 (by omega) (xg_ne (xg_ne g113 rfl) rfl) (xg_ne (xg_ne g114 rfl) rfl) (xg_ne (xg_ne g115 rfl) rfl) (xg_ne xg_eq rfl) xg_eq (by omega)
        · refine yT.kI (pc' := 32) rfl rfl (by decide) (fun x143 e144 => ?_)
          refine yT.il (pc' := 34) g117 rfl rfl ?_
          refine yT.fi (pc' := 35) rfl rfl (fun _ _ _ _ => rfl) (fun x145 => ?_)
          refine yT.p (pc' := 39) rfl rfl (fun _ _ _ _ => rfl) ?_
          refine yT.or2 (pc' := 40) rfl rfl (fun x146 u147 => ?_)
          refine yT.p (pc' := 42) (lv' := xst1 _ 4 (.int x146)) rfl rfl (fun _ _ _ _ => rfl) ?_
          refine yT.inc2 (pc' := 45) (Z := (k111 : Int) + 1) (xg_ne g117 rfl) e112 rfl rfl rfl ⟨by decide, by omega⟩ (fun x148 e149 => ?_)
          refine yT.p (pc' := 6) rfl rfl (fun _ _ _ _ => rfl) ?_
          exact ih120 _ _ x146 (k111 + 1) x148 hT129 (by omega) (xg_ne (xg_ne g113 rfl) rfl) (xg_ne (xg_ne g114 rfl) rfl) (xg_ne (xg_ne g115 rfl) rfl) (xg_ne xg_eq rfl) xg_eq (by omega)
  exact L105 _ _ _ x101 (0) x103 hT (by omega) (xg_ne (xg_ne g1 rfl) rfl) (xg_ne (xg_ne g2 rfl) rfl) (xg_ne (xg_ne g3 rfl) rfl) (xg_ne xg_eq rfl) xg_eq (Nat.lt_succ_self _)
