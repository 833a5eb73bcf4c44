-- rX9_spelled
set_option maxRecDepth 100000 in
set_option maxHeartbeats 4000000 in
theorem r210 {ks : List cT} {B0 : Nat} (K : KE KS0 ks B0) {σ : sg} {ρ : Nat → xE} {h : List xE} (hT : HT ks σ ρ h) (x1 : Int32) (x2 : Int32) (p0 : 0 ≤ nw σ 6768 ∧ nw σ 6768 ≤ 24) (p1 : FO σ) : yM 210 (508) 0 [.ref (60 + 1), .int x1, .int x2] h (RQI ks ρ (fun σ' r => TJ σ σ')) := by
  refine yM.st xM_210 rfl rfl (fun lv g => ?_)
  have g0 := g 0 _ rfl
  have g1 := g 1 _ rfl
  have g2 := g 2 _ rfl
  refine yT.aan (pc' := 1) g0 rfl rfl rfl ?_
  refine yT.iln (pc' := 2) g1 rfl rfl ?_
  refine kSI (yT.cc (G2 := 0) (pc' := 5) rfl rfl rfl hT (K.up rfl : xnth ks 60 = some (19, 0)) xM_168 (r168  K hT x1 (by omega)) rfl (by omega) (by decide) rfl) (fun h101 x104 hT102 E103 => ?_)
  refine yT.if1 (t := 16) (pc' := 8) rfl rfl rfl (c1_eq rfl) (fun c105 => ?_) (fun c105 => ?_)
  · refine yT.aan (pc' := 17) g0 rfl rfl rfl ?_
    refine yT.kb (pc' := 19) rfl rfl (by decide) (fun x106 e107 => ?_)
    refine kSI (yT.cc (G2 := 0) (pc' := 22) rfl rfl rfl hT102 (K.up rfl : xnth ks 60 = some (19, 0)) xM_164 (r164  K hT102 x106 (by omega)) rfl (by omega) (by decide) rfl) (fun h108 x111 hT109 E110 => ?_)
    exact yT.retI rfl rfl ⟨_, hT109, _, rfl, TJ.rf⟩
  · refine yT.aan (pc' := 9) g0 rfl rfl rfl ?_
    refine yT.iln (pc' := 10) g1 rfl rfl ?_
    refine kSI (yT.cc (G2 := 0) (pc' := 13) rfl rfl rfl hT102 (K.up rfl : xnth ks 60 = some (19, 0)) xM_169 (r169 (c := (x1.toInt).toNat) K hT102 (by omega) (by omega)) rfl (by omega) (by decide) rfl) (fun h112 x115 hT113 E114 => ?_)
    refine yT.if1 (t := 23) (pc' := 16) rfl rfl rfl (c1_ne rfl) (fun c116 => ?_) (fun c116 => ?_)
    · refine yT.aan (pc' := 24) g0 rfl rfl rfl ?_
      refine yT.kI (pc' := 25) rfl rfl (by decide) (fun x117 e118 => ?_)
      refine yT.cpX (c := x117) (pc' := 28) rfl rfl hT113 (K.up rfl) rfl rfl rfl e118 (by omega) rfl (fun h119 hT120 _ _ => ?_)
      have f121 : fl (us σ 60 16 x117) 16 = 0 := fl_at.trans e118
      refine yT.aan (pc' := 29) g0 rfl rfl rfl ?_
      refine yT.kI (pc' := 30) rfl rfl (by decide) (fun x122 e123 => ?_)
      refine yT.cpX (c := x122) (pc' := 33) rfl rfl hT120 (K.up rfl) rfl rfl rfl e123 (by omega) rfl (fun h124 hT125 _ _ => ?_)
      have f126 : fl (us (us σ 60 16 x117) 60 25 x122) 16 = 0 := (fl_o (by decide)).trans f121
      have f127 : fl (us (us σ 60 16 x117) 60 25 x122) 25 = 0 := fl_at.trans e123
      refine yT.aan (pc' := 34) g0 rfl rfl rfl ?_
      refine yT.iln (pc' := 35) g1 rfl rfl ?_
      refine kRV (yT.cc (G2 := 0) (pc' := 38) rfl rfl rfl hT125 (K.up rfl : xnth ks 60 = some (19, 0)) xM_206 (r206 (c := (x1.toInt).toNat) K hT125 (by omega) (by omega) (by omega) (by omega) (((p1 _ (by omega)).o (by decide)).o (by decide)) (by rw [nw_o (by decide), nw_o (by decide)]; omega)) rfl (by omega) (by decide) rfl) (fun h128 σ132 hT129 E130 => ?_)
      have hTJ := E130
      have hb := hTJ.2
      refine yT.iln (pc' := 39) g2 rfl rfl ?_
      refine yT.i2l2 (pc' := 40) (X := x2.toInt) rfl rfl rfl (fun y133 e134 => ?_)
      refine yT.lc2 (pc' := 41) (X := 0) rfl rfl rfl (fun y135 e136 => ?_)
      refine yT.aan (pc' := 42) g0 rfl rfl rfl ?_
      refine yT.cgX (pc' := 45) rfl rfl hT129 (K.up rfl) rfl rfl (fun x137 _ i138 j139 z140 => ?_)
      have e141 : x137.toInt = fl σ132 25 := congrArg Int32.toInt z140
      refine yT.kI (pc' := 46) rfl rfl (by decide) (fun x142 e143 => ?_)
      refine yT.sb2 (pc' := 47) (Z := (fl σ132 25) - 1) e141 e143 rfl rfl (by omega) (fun x144 e145 => ?_)
      refine yT.i2l2 (pc' := 48) (X := (fl σ132 25) - 1) e145 rfl rfl (fun y146 e147 => ?_)
      refine kSI (yT.cst (G2 := 0) (pc' := 51) rfl rfl xM_163 (r163 (v := x2.toInt) (lo := 0) (hi := (fl σ132 25) - 1) K hT129 e134 e136 e147) rfl (by omega) (by decide) rfl) (fun h148 x151 hT149 E150 => ?_)
      refine yT.if1 (t := 63) (pc' := 54) rfl rfl rfl (c1_eq rfl) (fun c152 => ?_) (fun c152 => ?_)
      · refine yT.kI (pc' := 64) rfl rfl (by decide) (fun x153 e154 => ?_)
        exact yT.retI rfl rfl ⟨_, hT149, _, rfl, ((TJ.rf.us (Or.inl rfl)).us (Or.inr rfl)).tr hTJ.1⟩
      · refine yT.aan (pc' := 55) g0 rfl rfl rfl ?_
        refine yT.cg8 (pc' := 58) rfl rfl hT149 (K.up rfl) rfl rfl (fun _ => ?_)
        refine yT.iln (pc' := 59) g2 rfl rfl ?_
        refine yT.cia (pc' := 60) rfl rfl hT149 (K.up rfl) rfl (by omega) (fun x155 => ?_)
        refine yT.p (pc' := 64) rfl rfl (fun _ _ _ _ => rfl) ?_
        exact yT.retI rfl rfl ⟨_, hT149, _, rfl, ((TJ.rf.us (Or.inl rfl)).us (Or.inr rfl)).tr hTJ.1⟩
    · refine yT.aan (pc' := 17) g0 rfl rfl rfl ?_
      refine yT.kb (pc' := 19) rfl rfl (by decide) (fun x158 e159 => ?_)
      refine kSI (yT.cc (G2 := 0) (pc' := 22) rfl rfl rfl hT113 (K.up rfl : xnth ks 60 = some (19, 0)) xM_164 (r164  K hT113 x158 (by omega)) rfl (by omega) (by decide) rfl) (fun h160 x163 hT161 E162 => ?_)
      exact yT.retI rfl rfl ⟨_, hT161, _, rfl, TJ.rf⟩
