-- rX9_row
set_option maxRecDepth 100000 in
set_option maxHeartbeats 4000000 in
theorem r212 {ks : List cT} {B0 : Nat} (K : KE KS0 ks B0) {σ : sg} {ρ : Nat → xE} {h : List xE} (hT : HT ks σ ρ h) (x1 : Int32) (x2 : Int32) (x3 : Int32) {k : Nat} (p0 : RI k σ) : yM 212 (2) 0 [.ref (60 + 1), .int x1, .int x2, .int x3] h (RQI ks ρ (fun σ' r => (((0 ≤ x1.toInt ∧ x1.toInt ≤ 7) ∧ (0 ≤ x2.toInt ∧ x2.toInt ≤ 4) ∧ (0 ≤ x3.toInt ∧ x3.toInt ≤ 40)) ∧ r.toInt = 1 ∨ ¬ ((0 ≤ x1.toInt ∧ x1.toInt ≤ 7) ∧ (0 ≤ x2.toInt ∧ x2.toInt ≤ 4) ∧ (0 ≤ x3.toInt ∧ x3.toInt ≤ 40)) ∧ r.toInt = -2) ∧ S0 k σ σ')) := by
  refine yM.st xM_212 rfl rfl (fun lv g => ?_)
  have g0 := g 0 _ rfl
  have g1 := g 1 _ rfl
  have g2 := g 2 _ rfl
  have g3 := g 3 _ rfl
  refine yT.iln (pc' := 1) g1 rfl rfl ?_
  refine kSI (yT.cst (G2 := 0) (pc' := 4) rfl rfl xM_211 (r211  K hT x1) rfl (by omega) (by decide) rfl) (fun h101 x104 hT102 E103 => ?_)
  refine yT.if1 (t := 31) (pc' := 7) rfl rfl rfl (c1_eq rfl) (fun c105 => ?_) (fun c105 => ?_)
  · refine yT.aan (pc' := 32) g0 rfl rfl rfl ?_
    refine yT.kb (pc' := 34) rfl rfl (by decide) (fun x106 e107 => ?_)
    refine kSI (yT.cc (G2 := 0) (pc' := 37) rfl rfl rfl hT102 (K.up rfl : xnth ks 60 = some (19, 0)) xM_164 (r164  K hT102 x106 (by omega)) rfl (by omega) (by decide) rfl) (fun h108 x111 hT109 E110 => ?_)
    exact yT.retI rfl rfl ⟨_, hT109, _, rfl, ⟨Or.inr ⟨by omega, by omega⟩, S0.rf p0⟩⟩
  · refine yT.iln (pc' := 8) g2 rfl rfl ?_
    refine yT.i2l2 (pc' := 9) (X := x2.toInt) rfl rfl rfl (fun y112 e113 => ?_)
    refine yT.lc2 (pc' := 10) (X := 0) rfl rfl rfl (fun y114 e115 => ?_)
    refine yT.ld2 (pc' := 13) (X := 4) rfl rfl rfl (by decide) (fun y116 e117 => ?_)
    refine kSI (yT.cst (G2 := 0) (pc' := 16) rfl rfl xM_163 (r163 (v := x2.toInt) (lo := 0) (hi := 4) K hT102 e113 e115 e117) rfl (by omega) (by decide) rfl) (fun h118 x121 hT119 E120 => ?_)
    refine yT.if1 (t := 31) (pc' := 19) rfl rfl rfl (c1_eq rfl) (fun c122 => ?_) (fun c122 => ?_)
    · refine yT.aan (pc' := 32) g0 rfl rfl rfl ?_
      refine yT.kb (pc' := 34) rfl rfl (by decide) (fun x123 e124 => ?_)
      refine kSI (yT.cc (G2 := 0) (pc' := 37) rfl rfl rfl hT119 (K.up rfl : xnth ks 60 = some (19, 0)) xM_164 (r164  K hT119 x123 (by omega)) rfl (by omega) (by decide) rfl) (fun h125 x128 hT126 E127 => ?_)
      exact yT.retI rfl rfl ⟨_, hT126, _, rfl, ⟨Or.inr ⟨by omega, by omega⟩, S0.rf p0⟩⟩
    · refine yT.iln (pc' := 20) g3 rfl rfl ?_
      refine yT.i2l2 (pc' := 21) (X := x3.toInt) rfl rfl rfl (fun y129 e130 => ?_)
      refine yT.lc2 (pc' := 22) (X := 0) rfl rfl rfl (fun y131 e132 => ?_)
      refine yT.ld2 (pc' := 25) (X := 40) rfl rfl rfl (by decide) (fun y133 e134 => ?_)
      refine kSI (yT.cst (G2 := 0) (pc' := 28) rfl rfl xM_163 (r163 (v := x3.toInt) (lo := 0) (hi := 40) K hT119 e130 e132 e134) rfl (by omega) (by decide) rfl) (fun h135 x138 hT136 E137 => ?_)
      refine yT.if1 (t := 38) (pc' := 31) rfl rfl rfl (c1_ne rfl) (fun c139 => ?_) (fun c139 => ?_)
      · refine yT.aan (pc' := 39) g0 rfl rfl rfl ?_
        refine yT.cg8 (pc' := 42) rfl rfl hT136 (K.up rfl) rfl rfl (fun _ => ?_)
        refine yT.iln (pc' := 43) g1 rfl rfl ?_
        refine yT.iln (pc' := 44) g2 rfl rfl ?_
        refine yT.tis ((x1.toInt).toNat) (pc' := 45) rfl rfl hT136 (K.up rfl) rfl (by omega) (fun h140 hT141 => ?_)
        refine yT.aan (pc' := 46) g0 rfl rfl rfl ?_
        refine yT.cg8 (pc' := 49) rfl rfl hT141 (K.up rfl) rfl rfl (fun _ => ?_)
        refine yT.iln (pc' := 50) g1 rfl rfl ?_
        refine yT.iln (pc' := 51) g3 rfl rfl ?_
        refine yT.tis ((x1.toInt).toNat) (pc' := 52) rfl rfl hT141 (K.up rfl) rfl (by omega) (fun h142 hT143 => ?_)
        have hS := S0.row p0 (s := (x1.toInt).toNat) (u := x2) (v := x3) (by omega) (by omega) (by omega)
        refine yT.kI (pc' := 53) rfl rfl (by decide) (fun x144 e145 => ?_)
        refine yT.p (pc' := 55) (lv' := xst1 _ 4 (.int x144)) rfl rfl (fun _ _ _ _ => rfl) ?_
        have L146 : ∀ (n156 : Nat) (lv147 : xLv) (h148 : List xE) (k151 : Nat) (x150 : Int32), HT ks (us (us σ 76 ((x1.toInt).toNat) x2) 77 ((x1.toInt).toNat) x3) ρ h148 → x150.toInt = (k151 : Int) → xget lv147 0 = some (.ref (60 + 1)) → xget lv147 1 = some (.int x1) → xget lv147 4 = some (.int x150) → 40 - (k151) < n156 → yT 0 [] rX9_row (2) 0 55 lv147 [] h148 (RQI ks ρ (fun σ' r => (((0 ≤ x1.toInt ∧ x1.toInt ≤ 7) ∧ (0 ≤ x2.toInt ∧ x2.toInt ≤ 4) ∧ (0 ≤ x3.toInt ∧ x3.toInt ≤ 40)) ∧ r.toInt = 1 ∨ ¬ ((0 ≤ x1.toInt ∧ x1.toInt ≤ 7) ∧ (0 ≤ x2.toInt ∧ x2.toInt ≤ 4) ∧ (0 ≤ x3.toInt ∧ x3.toInt ≤ 40)) ∧ r.toInt = -2) ∧ S0 k σ σ')) := by
          intro n156
          induction n156 with
          | zero => intro lv147 h148 k151 x150 hT149 e152 g153 g154 g155 m157; exact absurd m157 (Nat.not_lt_zero _)
          | succ n156 ih158 =>
            intro lv147 h148 k151 x150 hT149 e152 g153 g154 g155 m157
            refine yT.il (pc' := 57) g155 rfl rfl ?_
            refine yT.kb (pc' := 59) rfl rfl (by decide) (fun x159 e160 => ?_)
            refine yT.if2 (t := 81) (pc' := 62) rfl rfl rfl (c2_ge e152 e160) (fun c161 => ?_) (fun c161 => ?_)
            · refine yT.kI (pc' := 82) rfl rfl (by decide) (fun x162 e163 => ?_)
              exact yT.retI rfl rfl ⟨_, hT149, _, rfl, ⟨Or.inl ⟨by omega, by omega⟩, hS⟩⟩
            · refine yT.aan (pc' := 63) g153 rfl rfl rfl ?_
              refine yT.cg8 (pc' := 66) rfl rfl hT149 (K.up rfl) rfl rfl (fun _ => ?_)
              refine yT.kb (pc' := 68) rfl rfl (by decide) (fun x164 e165 => ?_)
              refine yT.iln (pc' := 69) g154 rfl rfl ?_
              refine yT.ml2 (pc' := 70) (Z := 40 * x1.toInt) e165 rfl rfl rfl (by omega) (fun x166 e167 => ?_)
              refine yT.il (pc' := 72) g155 rfl rfl ?_
              refine yT.ad2 (pc' := 73) (Z := 40 * x1.toInt + (k151 : Int)) e167 e152 rfl rfl (by omega) (fun x168 e169 => ?_)
              refine yT.lc2 (pc' := 74) (X := 0) rfl rfl rfl (fun y170 e171 => ?_)
              refine yT.cls (pc' := 75) rfl rfl hT149 (K.up rfl) e169 (by omega) (fun h172 hT173 _ => ?_)
              refine yT.inc2 (pc' := 78) (Z := (k151 : Int) + 1) g155 e152 rfl rfl rfl ⟨by decide, by omega⟩ (fun x174 e175 => ?_)
              refine yT.p (pc' := 55) rfl rfl (fun _ _ _ _ => rfl) ?_
              exact ih158 _ _ (k151 + 1) x174 hT173 (by omega) (xg_ne g153 rfl) (xg_ne g154 rfl) xg_eq (by omega)
        exact L146 _ _ _ (0) x144 hT143 (by omega) (xg_ne g0 rfl) (xg_ne g1 rfl) xg_eq (Nat.lt_succ_self _)
      · refine yT.aan (pc' := 32) g0 rfl rfl rfl ?_
        refine yT.kb (pc' := 34) rfl rfl (by decide) (fun x176 e177 => ?_)
        refine kSI (yT.cc (G2 := 0) (pc' := 37) rfl rfl rfl hT136 (K.up rfl : xnth ks 60 = some (19, 0)) xM_164 (r164  K hT136 x176 (by omega)) rfl (by omega) (by decide) rfl) (fun h178 x181 hT179 E180 => ?_)
        exact yT.retI rfl rfl ⟨_, hT179, _, rfl, ⟨Or.inr ⟨by omega, by omega⟩, S0.rf p0⟩⟩
-- rX9_show
set_option maxRecDepth 100000 in
set_option maxHeartbeats 4000000 in
theorem r218 {ks : List cT} {B0 : Nat} (K : KE KS0 ks B0) {σ : sg} {ρ : Nat → xE} {h : List xE} (hT : HT ks σ ρ h) (x1 : Int32) (x2 : Int32) {k : Nat} (p0 : RI k σ) : yM 218 (2) 0 [.ref (60 + 1), .int x1, .int x2] h (RQI ks ρ (fun σ' r => S0 k σ σ')) := by
  refine yM.st xM_218 rfl rfl (fun lv g => ?_)
  have g0 := g 0 _ rfl
  have g1 := g 1 _ rfl
  have g2 := g 2 _ rfl
  have hRO := p0.1.1.1
  have hcm := hRO.1
  have hG := p0.1.2.2.1
  have hL := p0.1.2.1
  have hB := p0.1.2.2.2.1
  refine yT.iln (pc' := 1) g1 rfl rfl ?_
  refine kSI (yT.cst (G2 := 0) (pc' := 4) rfl rfl xM_211 (r211  K hT x1) rfl (by omega) (by decide) rfl) (fun h101 x104 hT102 E103 => ?_)
  refine yT.if1 (t := 20) (pc' := 7) rfl rfl rfl (c1_eq rfl) (fun c105 => ?_) (fun c105 => ?_)
  · refine yT.aan (pc' := 21) g0 rfl rfl rfl ?_
    refine yT.kb (pc' := 23) rfl rfl (by decide) (fun x106 e107 => ?_)
    refine kSI (yT.cc (G2 := 0) (pc' := 26) rfl rfl rfl hT102 (K.up rfl : xnth ks 60 = some (19, 0)) xM_164 (r164  K hT102 x106 (by omega)) rfl (by omega) (by decide) rfl) (fun h108 x111 hT109 E110 => ?_)
    exact yT.retI rfl rfl ⟨_, hT109, _, rfl, (S0.rf p0)⟩
  · refine yT.iln (pc' := 8) g2 rfl rfl ?_
    refine yT.kI (pc' := 9) rfl rfl (by decide) (fun x112 e113 => ?_)
    refine yT.if2 (t := 27) (pc' := 12) rfl rfl rfl (c2_eq rfl e113) (fun c114 => ?_) (fun c114 => ?_)
    · refine yT.aan (pc' := 28) g0 rfl rfl rfl ?_
      refine yT.cg8 (pc' := 31) rfl rfl hT102 (K.up rfl) rfl rfl (fun _ => ?_)
      refine yT.iln (pc' := 32) g1 rfl rfl ?_
      refine yT.iln (pc' := 33) g2 rfl rfl ?_
      refine yT.kI (pc' := 34) rfl rfl (by decide) (fun x115 e116 => ?_)
      refine yT.if2 (t := 41) (pc' := 37) rfl rfl rfl (c2_ne rfl e116) (fun c117 => ?_) (fun c117 => ?_)
      · refine yT.kb (pc' := 43) rfl rfl (by decide) (fun x118 e119 => ?_)
        refine yT.iln (pc' := 44) g2 rfl rfl ?_
        refine yT.ad2 (pc' := 45) (Z := x2.toInt + 10) e119 rfl rfl rfl (by omega) (fun x120 e121 => ?_)
        refine yT.tis ((x1.toInt).toNat) (pc' := 46) rfl rfl hT102 (K.up rfl) rfl (by omega) (fun h122 hT123 => ?_)
        refine yT.kI (pc' := 47) rfl rfl (by decide) (fun x124 e125 => ?_)
        exact yT.retI rfl rfl ⟨_, hT123, _, rfl, (S0.shw p0 (by omega) (by omega))⟩
      · refine yT.kI (pc' := 38) rfl rfl (by decide) (fun x126 e127 => ?_)
        refine yT.p (pc' := 45) rfl rfl (fun _ _ _ _ => rfl) ?_
        refine yT.tis ((x1.toInt).toNat) (pc' := 46) rfl rfl hT102 (K.up rfl) rfl (by omega) (fun h128 hT129 => ?_)
        refine yT.kI (pc' := 47) rfl rfl (by decide) (fun x130 e131 => ?_)
        exact yT.retI rfl rfl ⟨_, hT129, _, rfl, (S0.shw p0 (by omega) (by omega))⟩
    · refine yT.aan (pc' := 13) g0 rfl rfl rfl ?_
      refine yT.iln (pc' := 14) g2 rfl rfl ?_
      refine kSI (yT.cc (G2 := 0) (pc' := 17) rfl rfl rfl hT102 (K.up rfl : xnth ks 60 = some (19, 0)) xM_168 (r168  K hT102 x2 (by omega)) rfl (by omega) (by decide) rfl) (fun h132 x135 hT133 E134 => ?_)
      refine yT.if1 (t := 27) (pc' := 20) rfl rfl rfl (c1_ne rfl) (fun c136 => ?_) (fun c136 => ?_)
      · refine yT.aan (pc' := 28) g0 rfl rfl rfl ?_
        refine yT.cg8 (pc' := 31) rfl rfl hT133 (K.up rfl) rfl rfl (fun _ => ?_)
        refine yT.iln (pc' := 32) g1 rfl rfl ?_
        refine yT.iln (pc' := 33) g2 rfl rfl ?_
        refine yT.kI (pc' := 34) rfl rfl (by decide) (fun x137 e138 => ?_)
        refine yT.if2 (t := 41) (pc' := 37) rfl rfl rfl (c2_ne rfl e138) (fun c139 => ?_) (fun c139 => ?_)
        · refine yT.kb (pc' := 43) rfl rfl (by decide) (fun x140 e141 => ?_)
          refine yT.iln (pc' := 44) g2 rfl rfl ?_
          refine yT.ad2 (pc' := 45) (Z := x2.toInt + 10) e141 rfl rfl rfl (by omega) (fun x142 e143 => ?_)
          refine yT.tis ((x1.toInt).toNat) (pc' := 46) rfl rfl hT133 (K.up rfl) rfl (by omega) (fun h144 hT145 => ?_)
          refine yT.kI (pc' := 47) rfl rfl (by decide) (fun x146 e147 => ?_)
          exact yT.retI rfl rfl ⟨_, hT145, _, rfl, (S0.shw p0 (by omega) (by omega))⟩
        · refine yT.kI (pc' := 38) rfl rfl (by decide) (fun x148 e149 => ?_)
          refine yT.p (pc' := 45) rfl rfl (fun _ _ _ _ => rfl) ?_
          refine yT.tis ((x1.toInt).toNat) (pc' := 46) rfl rfl hT133 (K.up rfl) rfl (by omega) (fun h150 hT151 => ?_)
          refine yT.kI (pc' := 47) rfl rfl (by decide) (fun x152 e153 => ?_)
          exact yT.retI rfl rfl ⟨_, hT151, _, rfl, (S0.shw p0 (by omega) (by omega))⟩
      · refine yT.aan (pc' := 21) g0 rfl rfl rfl ?_
        refine yT.kb (pc' := 23) rfl rfl (by decide) (fun x154 e155 => ?_)
        refine kSI (yT.cc (G2 := 0) (pc' := 26) rfl rfl rfl hT133 (K.up rfl : xnth ks 60 = some (19, 0)) xM_164 (r164  K hT133 x154 (by omega)) rfl (by omega) (by decide) rfl) (fun h156 x159 hT157 E158 => ?_)
        exact yT.retI rfl rfl ⟨_, hT157, _, rfl, (S0.rf p0)⟩
-- rX9_feed
set_option maxRecDepth 100000 in
set_option maxHeartbeats 4000000 in
theorem r222 {ks : List cT} {B0 : Nat} (K : KE KS0 ks B0) {σ : sg} {ρ : Nat → xE} {h : List xE} (hT : HT ks σ ρ h) (x1 : Int32) {k : Nat} (p0 : RI k σ) : yM 222 (1) 0 [.ref (60 + 1), .int x1] h (RQI ks ρ (fun σ' r => ((x1.toInt < 0 ∨ 255 < x1.toInt) ∧ r.toInt = -2 ∧ fl σ' 12 = fl σ 12 ∨ (0 ≤ x1.toInt ∧ x1.toInt ≤ 255) ∧ fl σ 12 = 250 ∧ r.toInt = -6 ∧ fl σ' 12 = fl σ 12 ∨ (0 ≤ x1.toInt ∧ x1.toInt ≤ 255) ∧ fl σ 12 ≠ 250 ∧ r.toInt = fl σ 12 + 1 ∧ fl σ' 12 = fl σ 12 + 1) ∧ S1 k σ σ')) := by
  refine yM.st xM_222 rfl rfl (fun lv g => ?_)
  have g0 := g 0 _ rfl
  have g1 := g 1 _ rfl
  refine yT.iln (pc' := 1) g1 rfl rfl ?_
  refine yT.i2l2 (pc' := 2) (X := x1.toInt) rfl rfl rfl (fun y101 e102 => ?_)
  refine yT.lc2 (pc' := 3) (X := 0) rfl rfl rfl (fun y103 e104 => ?_)
  refine yT.ld2 (pc' := 6) (X := 255) rfl rfl rfl (by decide) (fun y105 e106 => ?_)
  refine kSI (yT.cst (G2 := 0) (pc' := 9) rfl rfl xM_163 (r163 (v := x1.toInt) (lo := 0) (hi := 255) K hT e102 e104 e106) rfl (by omega) (by decide) rfl) (fun h107 x110 hT108 E109 => ?_)
  refine yT.if1 (t := 19) (pc' := 12) rfl rfl rfl (c1_ne rfl) (fun c111 => ?_) (fun c111 => ?_)
  · refine yT.aan (pc' := 20) g0 rfl rfl rfl ?_
    refine yT.cgX (pc' := 23) rfl rfl hT108 (K.up rfl) rfl rfl (fun x112 _ i113 j114 z115 => ?_)
    have e116 : x112.toInt = fl σ 12 := congrArg Int32.toInt z115
    refine yT.ks (pc' := 26) rfl rfl (by decide) (fun x117 e118 => ?_)
    refine yT.if2 (t := 36) (pc' := 29) rfl rfl rfl (c2_ne e116 e118) (fun c119 => ?_) (fun c119 => ?_)
    · refine yT.aan (pc' := 37) g0 rfl rfl rfl ?_
      refine yT.cg8 (pc' := 40) rfl rfl hT108 (K.up rfl) rfl rfl (fun _ => ?_)
      refine yT.aan (pc' := 41) g0 rfl rfl rfl ?_
      refine yT.cgX (pc' := 44) rfl rfl hT108 (K.up rfl) rfl rfl (fun x120 _ i121 j122 z123 => ?_)
      have e124 : x120.toInt = fl σ 12 := congrArg Int32.toInt z123
      refine yT.iln (pc' := 45) g1 rfl rfl ?_
      refine yT.tis ((fl σ 12).toNat) (pc' := 46) rfl rfl hT108 (K.up rfl) e124 (by omega) (fun h125 hT126 => ?_)
      have f12 : fl (us σ 71 ((fl σ 12).toNat) x1) 12 = fl σ 12 := fl_eq (us_nq (by decide))
      refine yT.aan (pc' := 47) g0 rfl rfl rfl ?_
      refine yT.p (pc' := 48) rfl rfl (fun _ _ _ _ => rfl) ?_
      refine yT.cgX (pc' := 51) rfl rfl hT126 (K.up rfl) rfl rfl (fun x127 _ i128 j129 z130 => ?_)
      have e131 : x127.toInt = fl (us σ 71 ((fl σ 12).toNat) x1) 12 := congrArg Int32.toInt z130
      refine yT.kI (pc' := 52) rfl rfl (by decide) (fun x132 e133 => ?_)
      refine yT.ad2 (pc' := 53) (Z := (fl (us σ 71 ((fl σ 12).toNat) x1) 12) + 1) e131 e133 rfl rfl (by omega) (fun x134 e135 => ?_)
      refine yT.cpX (c := x134) (pc' := 56) rfl rfl hT126 (K.up rfl) rfl rfl rfl e135 (by omega) rfl (fun h136 hT137 _ _ => ?_)
      have f138 : fl (us (us σ 71 ((fl σ 12).toNat) x1) 60 12 x134) 12 = (fl (us σ 71 ((fl σ 12).toNat) x1) 12) + 1 := fl_at.trans e135
      refine yT.aan (pc' := 57) g0 rfl rfl rfl ?_
      refine yT.cgX (pc' := 60) rfl rfl hT137 (K.up rfl) rfl rfl (fun x139 _ i140 j141 z142 => ?_)
      have e143 : x139.toInt = (fl (us σ 71 ((fl σ 12).toNat) x1) 12) + 1 := (congrArg Int32.toInt z142).trans f138
      exact yT.retI rfl rfl ⟨_, hT137, _, rfl, ⟨Or.inr (Or.inr ⟨by omega, by omega, by omega, (S1.feed p0 (by omega)).2⟩), (S1.feed p0 (by omega)).1⟩⟩
    · refine yT.aan (pc' := 30) g0 rfl rfl rfl ?_
      refine yT.kb (pc' := 32) rfl rfl (by decide) (fun x144 e145 => ?_)
      refine kSI (yT.cc (G2 := 0) (pc' := 35) rfl rfl rfl hT108 (K.up rfl : xnth ks 60 = some (19, 0)) xM_164 (r164  K hT108 x144 (by omega)) rfl (by omega) (by decide) rfl) (fun h146 x149 hT147 E148 => ?_)
      exact yT.retI rfl rfl ⟨_, hT147, _, rfl, ⟨Or.inr (Or.inl ⟨by omega, by omega, by omega, rfl⟩), (S0.rf p0).s1⟩⟩
  · refine yT.aan (pc' := 13) g0 rfl rfl rfl ?_
    refine yT.kb (pc' := 15) rfl rfl (by decide) (fun x150 e151 => ?_)
    refine kSI (yT.cc (G2 := 0) (pc' := 18) rfl rfl rfl hT108 (K.up rfl : xnth ks 60 = some (19, 0)) xM_164 (r164  K hT108 x150 (by omega)) rfl (by omega) (by decide) rfl) (fun h152 x155 hT153 E154 => ?_)
    exact yT.retI rfl rfl ⟨_, hT153, _, rfl, ⟨Or.inl ⟨by omega, by omega, rfl⟩, (S0.rf p0).s1⟩⟩
-- rX9_wipe
set_option maxRecDepth 100000 in
set_option maxHeartbeats 4000000 in
theorem r223 {ks : List cT} {B0 : Nat} (K : KE KS0 ks B0) {σ : sg} {ρ : Nat → xE} {h : List xE} (hT : HT ks σ ρ h) {k : Nat} (p0 : RI k σ) : yM 223 (0) 0 [.ref (60 + 1)] h (RQI ks ρ (fun σ' r => (r.toInt = fl σ 12 ∧ fl σ' 12 = 0) ∧ S1 k σ σ')) := by
  refine yM.st xM_223 rfl rfl (fun lv g => ?_)
  have g0 := g 0 _ rfl
  refine yT.aan (pc' := 1) g0 rfl rfl rfl ?_
  refine yT.cgX (pc' := 4) rfl rfl hT (K.up rfl) rfl rfl (fun x101 _ i102 j103 z104 => ?_)
  have e105 : x101.toInt = fl σ 12 := congrArg Int32.toInt z104
  refine yT.p (pc' := 5) (lv' := xst1 _ 1 (.int x101)) rfl rfl (fun _ _ _ _ => rfl) ?_
  refine yT.aan (pc' := 6) (xg_ne g0 rfl) rfl rfl rfl ?_
  refine yT.kI (pc' := 7) rfl rfl (by decide) (fun x106 e107 => ?_)
  refine yT.cpX (c := x106) (pc' := 10) rfl rfl hT (K.up rfl) rfl rfl rfl e107 (by omega) rfl (fun h108 hT109 _ _ => ?_)
  have f110 : fl (us σ 60 12 x106) 12 = 0 := fl_at.trans e107
  refine yT.iln (pc' := 11) xg_eq rfl rfl ?_
  exact yT.retI rfl rfl ⟨_, hT109, _, rfl, ⟨⟨by omega, (S1.wipe p0 (by omega)).2⟩, (S1.wipe p0 (by omega)).1⟩⟩
-- rX9_begin
set_option maxRecDepth 100000 in
set_option maxHeartbeats 4000000 in
theorem r237 {ks : List cT} {B0 : Nat} (K : KE KS0 ks B0) {σ : sg} {ρ : Nat → xE} {h : List xE} (hT : HT ks σ ρ h) {k : Nat} (p0 : RI k σ) (p1 : k ≤ 512) : yM 237 (0) 0 [.ref (60 + 1)] h (RQI ks ρ (fun σ' r => (r.toInt = nw σ 6769 + 1 ∧ nw σ' 6769 = nw σ 6769 + 1) ∧ S2 k σ σ')) := by
  refine yM.st xM_237 rfl rfl (fun lv g => ?_)
  have g0 := g 0 _ rfl
  have hRO := p0.1.1.1
  have hcm := hRO.1
  have hG := p0.1.2.2.1
  have hL := p0.1.2.1
  have hB := p0.1.2.2.2.1
  refine yT.aan (pc' := 1) g0 rfl rfl rfl ?_
  refine yT.cg8 (pc' := 4) rfl rfl hT (K.up rfl) rfl rfl (fun _ => ?_)
  refine yT.ks (pc' := 7) rfl rfl (by decide) (fun x101 e102 => ?_)
  refine yT.p (pc' := 8) rfl rfl (fun _ _ _ _ => rfl) ?_
  refine yT.tia (6769) (pc' := 9) rfl rfl hT (K.up rfl) e102 (by omega) (fun x103 z105 => ?_)
  have e104 : x103.toInt = nw σ (6769) := congrArg Int32.toInt z105
  refine yT.kI (pc' := 10) rfl rfl (by decide) (fun x106 e107 => ?_)
  refine yT.ad2 (pc' := 11) (Z := (nw σ (6769)) + 1) e104 e107 rfl rfl (by omega) (fun x108 e109 => ?_)
  refine yT.tis (6769) (pc' := 12) rfl rfl hT (K.up rfl) e102 (by omega) (fun h110 hT111 => ?_)
  have hb : nw (us σ 61 (6769) x108) 6769 = nw σ 6769 + 1 := nw_at.trans e109
  refine yT.aan (pc' := 13) g0 rfl rfl rfl ?_
  refine yT.cg8 (pc' := 16) rfl rfl hT111 (K.up rfl) rfl rfl (fun _ => ?_)
  refine yT.ks (pc' := 19) rfl rfl (by decide) (fun x112 e113 => ?_)
  refine yT.tia (6769) (pc' := 20) rfl rfl hT111 (K.up rfl) e113 (by omega) (fun x114 z116 => ?_)
  have e115 : x114.toInt = nw (us σ 61 (6769) x108) (6769) := congrArg Int32.toInt z116
  exact yT.retI rfl rfl ⟨_, hT111, _, rfl, ⟨⟨by omega, hb⟩, S2.beg p0 (by omega)⟩⟩
-- rX9_end
set_option maxRecDepth 100000 in
set_option maxHeartbeats 4000000 in
theorem r238 {ks : List cT} {B0 : Nat} (K : KE KS0 ks B0) {σ : sg} {ρ : Nat → xE} {h : List xE} (hT : HT ks σ ρ h) {k : Nat} (p0 : RI k σ) (p1 : k ≤ 512) : yM 238 (1572) 0 [.ref (60 + 1)] h (RQI ks ρ (fun σ' r => (nw σ 6769 = 0 ∧ r.toInt = -5 ∧ nw σ' 6769 = nw σ 6769 ∨ nw σ 6769 ≠ 0 ∧ r.toInt = nw σ 6769 - 1 ∧ nw σ' 6769 = nw σ 6769 - 1) ∧ S2 k σ σ')) := by
  refine yM.st xM_238 rfl rfl (fun lv g => ?_)
  have g0 := g 0 _ rfl
  have hRO := p0.1.1.1
  have hcm := hRO.1
  have hG := p0.1.2.2.1
  have hL := p0.1.2.1
  have hB := p0.1.2.2.2.1
  refine yT.aan (pc' := 1) g0 rfl rfl rfl ?_
  refine yT.cg8 (pc' := 4) rfl rfl hT (K.up rfl) rfl rfl (fun _ => ?_)
  refine yT.ks (pc' := 7) rfl rfl (by decide) (fun x101 e102 => ?_)
  refine yT.tia (6769) (pc' := 8) rfl rfl hT (K.up rfl) e102 (by omega) (fun x103 z105 => ?_)
  have e104 : x103.toInt = nw σ (6769) := congrArg Int32.toInt z105
  refine yT.if1 (t := 18) (pc' := 11) rfl rfl rfl (c1_ne e104) (fun c106 => ?_) (fun c106 => ?_)
  · refine yT.aan (pc' := 19) g0 rfl rfl rfl ?_
    refine yT.cg8 (pc' := 22) rfl rfl hT (K.up rfl) rfl rfl (fun _ => ?_)
    refine yT.ks (pc' := 25) rfl rfl (by decide) (fun x107 e108 => ?_)
    refine yT.p (pc' := 26) rfl rfl (fun _ _ _ _ => rfl) ?_
    refine yT.tia (6769) (pc' := 27) rfl rfl hT (K.up rfl) e108 (by omega) (fun x109 z111 => ?_)
    have e110 : x109.toInt = nw σ (6769) := congrArg Int32.toInt z111
    refine yT.kI (pc' := 28) rfl rfl (by decide) (fun x112 e113 => ?_)
    refine yT.sb2 (pc' := 29) (Z := (nw σ (6769)) - 1) e110 e113 rfl rfl (by omega) (fun x114 e115 => ?_)
    refine yT.tis (6769) (pc' := 30) rfl rfl hT (K.up rfl) e108 (by omega) (fun h116 hT117 => ?_)
    have hR : RI k (us σ 61 (6769) x114) := RX.dwn p0 (by omega) (by omega)
    obtain ⟨f0, f1, f2, f3, f4, f5, f6⟩ := RX.flu hR (by omega) (by omega)
    refine yT.aan (pc' := 31) g0 rfl rfl rfl ?_
    refine kRV (yT.cc (G2 := 0) (pc' := 34) rfl rfl rfl hT117 (K.up rfl : xnth ks 60 = some (19, 0)) xM_191 (r191  K hT117 f0 f1 f2 f3 f4 f5 f6) rfl (by omega) (by decide) rfl) (fun h118 σ122 hT119 E120 => ?_)
    have hE := S2.dwn p0 (by omega) (by omega) E120
    have hE2 := hE.2
    refine yT.aan (pc' := 35) g0 rfl rfl rfl ?_
    refine yT.cg8 (pc' := 38) rfl rfl hT119 (K.up rfl) rfl rfl (fun _ => ?_)
    refine yT.ks (pc' := 41) rfl rfl (by decide) (fun x123 e124 => ?_)
    refine yT.tia (6769) (pc' := 42) rfl rfl hT119 (K.up rfl) e124 (by omega) (fun x125 z127 => ?_)
    have e126 : x125.toInt = nw σ122 (6769) := congrArg Int32.toInt z127
    exact yT.retI rfl rfl ⟨_, hT119, _, rfl, ⟨Or.inr ⟨by omega, by omega, hE2⟩, hE.1⟩⟩
  · refine yT.aan (pc' := 12) g0 rfl rfl rfl ?_
    refine yT.kb (pc' := 14) rfl rfl (by decide) (fun x128 e129 => ?_)
    refine kSI (yT.cc (G2 := 0) (pc' := 17) rfl rfl rfl hT (K.up rfl : xnth ks 60 = some (19, 0)) xM_164 (r164  K hT x128 (by omega)) rfl (by omega) (by decide) rfl) (fun h130 x133 hT131 E132 => ?_)
    exact yT.retI rfl rfl ⟨_, hT131, _, rfl, ⟨Or.inl ⟨by omega, by omega, rfl⟩, (S0.rf p0).s2⟩⟩
-- rX9_seed
set_option maxRecDepth 100000 in
set_option maxHeartbeats 4000000 in
theorem r263 {ks : List cT} {B0 : Nat} (K : KE KS0 ks B0) {σ : sg} {ρ : Nat → xE} {h : List xE} (hT : HT ks σ ρ h) (x1 : Int32) {k : Nat} (p0 : RI k σ) : yM 263 (0) 0 [.ref (60 + 1), .int x1] h (RQI ks ρ (fun σ' r => S0 k σ σ')) := by
  refine yM.st xM_263 rfl rfl (fun lv g => ?_)
  have g0 := g 0 _ rfl
  have g1 := g 1 _ rfl
  have hRO := p0.1.1.1
  have hcm := hRO.1
  have hG := p0.1.2.2.1
  have hL := p0.1.2.1
  have hB := p0.1.2.2.2.1
  have hEF : EF 0 σ σ := EF.rf hRO hG.1 (by decide)
  refine yT.aan (pc' := 1) g0 rfl rfl rfl ?_
  refine yT.cg8 (pc' := 4) rfl rfl hT (K.up rfl) rfl rfl (fun _ => ?_)
  refine yT.ks (pc' := 7) rfl rfl (by decide) (fun x101 e102 => ?_)
  refine yT.tia (6917) (pc' := 8) rfl rfl hT (K.up rfl) e102 (by omega) (fun x103 z105 => ?_)
  have e104 : x103.toInt = nw σ (6917) := congrArg Int32.toInt z105
  refine yT.p (pc' := 9) (lv' := xst1 _ 2 (.int x103)) rfl rfl (fun _ _ _ _ => rfl) ?_
  refine yT.aan (pc' := 10) (xg_ne g0 rfl) rfl rfl rfl ?_
  refine yT.cg8 (pc' := 13) rfl rfl hT (K.up rfl) rfl rfl (fun _ => ?_)
  refine yT.ks (pc' := 16) rfl rfl (by decide) (fun x106 e107 => ?_)
  refine yT.iln (pc' := 17) (xg_ne g1 rfl) rfl rfl ?_
  refine yT.tis (6917) (pc' := 18) rfl rfl hT (K.up rfl) e107 (by omega) (fun h108 hT109 => ?_)
  refine yT.iln (pc' := 19) xg_eq rfl rfl ?_
  exact yT.retI rfl rfl ⟨_, hT109, _, rfl, (S0.ef p0 hEF.sed (by decide))⟩
-- rX9_draw
set_option maxRecDepth 100000 in
set_option maxHeartbeats 4000000 in
theorem r261 {ks : List cT} {B0 : Nat} (K : KE KS0 ks B0) {σ : sg} {ρ : Nat → xE} {h : List xE} (hT : HT ks σ ρ h) (x1 : Int32) (p0 : 0 < x1.toInt) : yM 261 (0) 0 [.ref (60 + 1), .int x1] h (RQI ks ρ (fun σ' r => DRW σ σ' ∧ 0 ≤ r.toInt ∧ r.toInt < x1.toInt)) := by
  refine yM.st xM_261 rfl rfl (fun lv g => ?_)
  have g0 := g 0 _ rfl
  have g1 := g 1 _ rfl
  refine yT.aan (pc' := 1) g0 rfl rfl rfl ?_
  refine yT.cg8 (pc' := 4) rfl rfl hT (K.up rfl) rfl rfl (fun _ => ?_)
  refine yT.ks (pc' := 7) rfl rfl (by decide) (fun x101 e102 => ?_)
  refine yT.aan (pc' := 8) g0 rfl rfl rfl ?_
  refine yT.cg8 (pc' := 11) rfl rfl hT (K.up rfl) rfl rfl (fun _ => ?_)
  refine yT.ks (pc' := 14) rfl rfl (by decide) (fun x103 e104 => ?_)
  refine yT.tia (6917) (pc' := 15) rfl rfl hT (K.up rfl) e104 (by omega) (fun x105 z107 => ?_)
  have e106 : x105.toInt = nw σ (6917) := congrArg Int32.toInt z107
  refine yT.fi (pc' := 18) rfl rfl (fun _ _ _ _ => rfl) (fun x108 => ?_)
  refine yT.fi (pc' := 19) rfl rfl (fun _ _ _ _ => rfl) (fun x109 => ?_)
  refine yT.ks (pc' := 22) rfl rfl (by decide) (fun x110 e111 => ?_)
  refine yT.fi (pc' := 23) rfl rfl (fun _ _ _ _ => rfl) (fun x112 => ?_)
  refine yT.tis (6917) (pc' := 24) rfl rfl hT (K.up rfl) e102 (by omega) (fun h113 hT114 => ?_)
  refine yT.aan (pc' := 25) g0 rfl rfl rfl ?_
  refine yT.cg8 (pc' := 28) rfl rfl hT114 (K.up rfl) rfl rfl (fun _ => ?_)
  refine yT.ks (pc' := 31) rfl rfl (by decide) (fun x115 e116 => ?_)
  refine yT.tia (6917) (pc' := 32) rfl rfl hT114 (K.up rfl) e116 (by omega) (fun x117 z119 => ?_)
  have e118 : x117.toInt = nw (us σ 61 (6917) x112) (6917) := congrArg Int32.toInt z119
  refine yT.kb (pc' := 34) rfl rfl (by decide) (fun x120 e121 => ?_)
  refine yT.ush16 (pc' := 35) e121 rfl rfl (fun x122 u123 => ?_)
  refine yT.iln (pc' := 36) g1 rfl rfl ?_
  refine yT.rem2 (pc' := 37) rfl rfl (by omega) (by omega) rfl rfl (fun x124 u125 => ?_)
  exact yT.retI rfl rfl ⟨_, hT114, _, rfl, ⟨⟨_, rfl⟩, by omega, by omega⟩⟩
-- rX9_isWritten
set_option maxRecDepth 100000 in
set_option maxHeartbeats 4000000 in
theorem r234 {ks : List cT} {B0 : Nat} (K : KE KS0 ks B0) {σ : sg} {ρ : Nat → xE} {h : List xE} (hT : HT ks σ ρ h) {c : Nat} {x1 : Int32} (e1 : x1.toInt = (c : Int)) (x2 : Int32) (p0 : c < 24) (p1 : RO σ) : yM 234 (3) 0 [.ref (60 + 1), .int x1, .int x2] h (RQI ks ρ (fun σ' r => PF σ σ')) := by
  refine yM.st xM_234 rfl rfl (fun lv g => ?_)
  have g0 := g 0 _ rfl
  have g1 := g 1 _ rfl
  have g2 := g 2 _ rfl
  refine yT.aan (pc' := 1) g0 rfl rfl rfl ?_
  refine yT.cg8 (pc' := 4) rfl rfl hT (K.up rfl) rfl rfl (fun _ => ?_)
  refine yT.iln (pc' := 5) g1 rfl rfl ?_
  refine yT.cla (pc' := 6) rfl rfl hT (K.up rfl) e1 (by omega) (fun y101 => ?_)
  refine yT.iln (pc' := 7) g2 rfl rfl ?_
  refine yT.i2l2 (pc' := 8) (X := x2.toInt) rfl rfl rfl (fun y102 e103 => ?_)
  refine yT.cmp2 (pc' := 9) (U := y101.toInt) (V := x2.toInt) rfl e103 rfl rfl (fun x104 c105 => ?_)
  refine yT.if1 (t := 14) (pc' := 12) rfl rfl rfl (c1_ne rfl) (fun c106 => ?_) (fun c106 => ?_)
  · refine yT.aan (pc' := 15) g0 rfl rfl rfl ?_
    refine yT.cg8 (pc' := 18) rfl rfl hT (K.up rfl) rfl rfl (fun _ => ?_)
    refine yT.iln (pc' := 19) g1 rfl rfl ?_
    refine yT.iln (pc' := 20) g2 rfl rfl ?_
    refine yT.i2l2 (pc' := 21) (X := x2.toInt) rfl rfl rfl (fun y107 e108 => ?_)
    refine yT.cls (pc' := 22) rfl rfl hT (K.up rfl) e1 (by omega) (fun h109 hT110 _ => ?_)
    refine yT.aan (pc' := 23) g0 rfl rfl rfl ?_
    refine yT.iln (pc' := 24) g1 rfl rfl ?_
    refine yT.kI (pc' := 25) rfl rfl (by decide) (fun x111 e112 => ?_)
    refine yT.aan (pc' := 26) g0 rfl rfl rfl ?_
    refine yT.iln (pc' := 27) g1 rfl rfl ?_
    refine yT.kI (pc' := 28) rfl rfl (by decide) (fun x113 e114 => ?_)
    refine kSI (yT.cc (G2 := 0) (pc' := 31) rfl rfl rfl hT110 (K.up rfl : xnth ks 60 = some (19, 0)) xM_166 (r166 (c := c) (w := 4) K hT110 e1 (by omega) (by omega)) rfl (by omega) (by decide) rfl) (fun h115 x118 hT116 E117 => ?_)
    refine yT.kI (pc' := 32) rfl rfl (by decide) (fun x119 e120 => ?_)
    refine yT.fi (pc' := 33) rfl rfl (fun _ _ _ _ => rfl) (fun x121 => ?_)
    refine kRV (yT.cc (G2 := 0) (pc' := 36) rfl rfl rfl hT116 (K.up rfl : xnth ks 60 = some (19, 0)) xM_167 (r167 (c := c) (w := 4) K hT116 e1 (by omega) x121 (by omega)) rfl (by omega) (by decide) rfl) (fun h122 σ126 hT123 E124 => ?_)
    have ee := E124
    have hPF : PF σ σ126 := by rw [ee]; exact (PF.rf p1).s3 p0 (by decide)
    refine yT.aan (pc' := 37) g0 rfl rfl rfl ?_
    refine yT.iln (pc' := 38) g1 rfl rfl ?_
    refine yT.kI (pc' := 39) rfl rfl (by decide) (fun x127 e128 => ?_)
    refine kRV (yT.cc (G2 := 0) (pc' := 42) rfl rfl rfl hT123 (K.up rfl : xnth ks 60 = some (19, 0)) xM_188 (r188  K hT123 x1 x127 hPF.2.2.2.2.1 hPF.2.2.2.2.2.1 hPF.2.2.2.2.rd) rfl (by omega) (by decide) rfl) (fun h129 σ133 hT130 E131 => ?_)
    have hPF := hPF.mk E131
    refine yT.kI (pc' := 43) rfl rfl (by decide) (fun x134 e135 => ?_)
    exact yT.retZ rfl rfl (b01 (by omega) (by omega)) ⟨_, hT130, _, rfl, hPF⟩
  · refine yT.kI (pc' := 13) rfl rfl (by decide) (fun x136 e137 => ?_)
    exact yT.retZ rfl rfl (b01 (by omega) (by omega)) ⟨_, hT, _, rfl, (PF.rf p1)⟩
