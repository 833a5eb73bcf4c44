-- rX9_byteAt
set_option maxRecDepth 100000 in
set_option maxHeartbeats 4000000 in
theorem r195 {ks : List cT} {B0 : Nat} (K : KE KS0 ks B0) {σ : sg} {ρ : Nat → xE} {h : List xE} (hT : HT ks σ ρ h) {k : Nat} {x1 : Int32} (e1 : x1.toInt = (k : Int)) : yM 195 (0) 0 [.ref (60 + 1), .int x1] h (SQI ks σ ρ (fun r => r.toInt = tp σ k)) := by
  refine yM.st xM_195 rfl rfl (fun lv g => ?_)
  have g0 := g 0 _ rfl
  have g1 := g 1 _ rfl
  refine yT.iln (pc' := 1) g1 rfl rfl ?_
  refine yT.aan (pc' := 2) g0 rfl rfl rfl ?_
  refine yT.cgX (pc' := 5) rfl rfl hT (K.up rfl) rfl rfl (fun x101 _ i102 j103 z104 => ?_)
  have e105 : x101.toInt = fl σ 12 := congrArg Int32.toInt z104
  refine yT.if2 (t := 17) (pc' := 8) rfl rfl rfl (c2_ge e1 e105) (fun c106 => ?_) (fun c106 => ?_)
  · refine yT.kI (pc' := 18) rfl rfl (by decide) (fun x107 e108 => ?_)
    exact yT.retI rfl rfl ⟨hT, _, rfl, (by unfold tp; split <;> omega)⟩
  · refine yT.aan (pc' := 9) g0 rfl rfl rfl ?_
    refine yT.cg8 (pc' := 12) rfl rfl hT (K.up rfl) rfl rfl (fun _ => ?_)
    refine yT.iln (pc' := 13) g1 rfl rfl ?_
    refine yT.tia (k) (pc' := 14) rfl rfl hT (K.up rfl) e1 (by omega) (fun x109 z111 => ?_)
    have e110 : x109.toInt = (σ 71 (k)).toInt := congrArg Int32.toInt z111
    refine yT.p (pc' := 18) rfl rfl (fun _ _ _ _ => rfl) ?_
    exact yT.retI rfl rfl ⟨hT, _, rfl, (by unfold tp; split <;> omega)⟩
-- rX9_sign
set_option maxRecDepth 100000 in
set_option maxHeartbeats 4000000 in
theorem r196 {ks : List cT} {B0 : Nat} (K : KE KS0 ks B0) {σ : sg} {ρ : Nat → xE} {h : List xE} {v0 : Int32} {p : Nat} (hT : HT ks (us σ 60 22 v0) ρ h) (hv : v0.toInt = (p : Int)) {L : LT} {T : Nat} (tl : TL σ L T) (hp : p ≤ T) (x1 : Int32) (p0 : x1.toInt ≠ -1) : yM 196 (1) 0 [.ref (60 + 1), .int x1] h (RCI ks ρ σ (fun p' r => (r.toInt = 0 ∨ r.toInt = 1) ∧ p ≤ p' ∧ p' ≤ T ∧ (r.toInt = 1 → L.1 p = x1.toInt ∧ p' = p + 1))) := by
  refine yM.st xM_196 rfl rfl (fun lv g => ?_)
  have g0 := g 0 _ rfl
  have g1 := g 1 _ rfl
  have f101 : fl (us σ 60 22 v0) 22 = (p : Int) := fl_at.trans hv
  have f102 : fl (us σ 60 22 v0) 12 = (T : Int) := (fl_o rfl).trans tl.2.1
  have hTb := tl.2.2
  refine yT.aan (pc' := 1) g0 rfl rfl rfl ?_
  refine yT.aan (pc' := 2) g0 rfl rfl rfl ?_
  refine yT.cgX (pc' := 5) rfl rfl hT (K.up rfl) rfl rfl (fun x103 _ i104 j105 z106 => ?_)
  have e107 : x103.toInt = (p : Int) := (congrArg Int32.toInt z106).trans f101
  refine kSI (yT.cc (G2 := 0) (pc' := 8) rfl rfl rfl hT (K.up rfl : xnth ks 60 = some (19, 0)) xM_195 (r195 (k := p) K hT e107) rfl (by omega) (by decide) rfl) (fun h108 x111 hT109 E110 => ?_)
  have e112 : x111.toInt = L.1 (p) := E110.trans (tp_us.trans (tl.1 _))
  refine yT.iln (pc' := 9) g1 rfl rfl ?_
  refine yT.if2 (t := 14) (pc' := 12) rfl rfl rfl (c2_eq e112 rfl) (fun c113 => ?_) (fun c113 => ?_)
  · have hlt := tl.in (j := p) (by omega)
    refine yT.aan (pc' := 15) g0 rfl rfl rfl ?_
    refine yT.p (pc' := 16) rfl rfl (fun _ _ _ _ => rfl) ?_
    refine yT.cgX (pc' := 19) rfl rfl hT109 (K.up rfl) rfl rfl (fun x114 _ i115 j116 z117 => ?_)
    have e118 : x114.toInt = (p : Int) := (congrArg Int32.toInt z117).trans f101
    refine yT.kI (pc' := 20) rfl rfl (by decide) (fun x119 e120 => ?_)
    refine yT.ad2 (pc' := 21) (Z := (p : Int) + 1) e118 e120 rfl rfl (by omega) (fun x121 e122 => ?_)
    refine yT.cpX (c := x121) (pc' := 24) rfl rfl hT109 (K.up rfl) rfl rfl rfl e122 (by omega) rfl (fun h123 hT124 _ _ => ?_)
    rw [us_us] at hT124
    have f125 : fl (us σ 60 22 x121) 22 = (p : Int) + 1 := fl_at.trans e122
    have f126 : fl (us σ 60 22 x121) 12 = (T : Int) := (fl_o rfl).trans tl.2.1
    refine yT.kI (pc' := 25) rfl rfl (by decide) (fun x127 e128 => ?_)
    exact yT.retZ rfl rfl (b01 (by omega) (by omega)) ⟨_, p + 1, _, hT124, (by omega), rfl, ⟨by omega, by omega, by omega, fun h => ⟨by omega, rfl⟩⟩⟩
  · refine yT.kI (pc' := 13) rfl rfl (by decide) (fun x129 e130 => ?_)
    exact yT.retZ rfl rfl (b01 (by omega) (by omega)) ⟨_, p, _, hT109, (by omega), rfl, ⟨by omega, by omega, by omega, fun h => by omega⟩⟩
-- rX9_isLetter
set_option maxRecDepth 100000 in
set_option maxHeartbeats 4000000 in
theorem r200 {ks : List cT} {B0 : Nat} (K : KE KS0 ks B0) {σ : sg} {ρ : Nat → xE} {h : List xE} {v0 : Int32} {p : Nat} (hT : HT ks (us σ 60 22 v0) ρ h) (hv : v0.toInt = (p : Int)) {L : LT} {T : Nat} (tl : TL σ L T) (hp : p ≤ T) (hcm : (0 ≤ nw σ 6768 ∧ nw σ 6768 ≤ 24) ∧ L.2 = nw σ 6768) : yM 200 (2) 0 [.ref (60 + 1)] h (RCI ks ρ σ (fun p' r => (r.toInt = 0 ∨ r.toInt = 1) ∧ p ≤ p' ∧ p' ≤ T ∧ (r.toInt = 1 → (97 ≤ L.1 p ∧ L.1 p ≤ 120 ∧ L.1 p ≤ 96 + L.2) ∧ p' = p + 1))) := by
  refine yM.st xM_200 rfl rfl (fun lv g => ?_)
  have g0 := g 0 _ rfl
  have f101 : fl (us σ 60 22 v0) 22 = (p : Int) := fl_at.trans hv
  have f102 : fl (us σ 60 22 v0) 12 = (T : Int) := (fl_o rfl).trans tl.2.1
  have hTb := tl.2.2
  have hm : nw (us σ 60 22 v0) 6768 = L.2 := by rw [nw_o (by decide)]; exact hcm.2.symm
  refine yT.aan (pc' := 1) g0 rfl rfl rfl ?_
  refine yT.aan (pc' := 2) g0 rfl rfl rfl ?_
  refine yT.cgX (pc' := 5) rfl rfl hT (K.up rfl) rfl rfl (fun x103 _ i104 j105 z106 => ?_)
  have e107 : x103.toInt = (p : Int) := (congrArg Int32.toInt z106).trans f101
  refine kSI (yT.cc (G2 := 0) (pc' := 8) rfl rfl rfl hT (K.up rfl : xnth ks 60 = some (19, 0)) xM_195 (r195 (k := p) K hT e107) rfl (by omega) (by decide) rfl) (fun h108 x111 hT109 E110 => ?_)
  have e112 : x111.toInt = L.1 (p) := E110.trans (tp_us.trans (tl.1 _))
  refine yT.p (pc' := 9) (lv' := xst1 _ 1 (.int x111)) rfl rfl (fun _ _ _ _ => rfl) ?_
  refine yT.iln (pc' := 10) xg_eq rfl rfl ?_
  refine yT.i2l2 (pc' := 11) (X := (L.1 (p))) e112 rfl rfl (fun y113 e114 => ?_)
  refine yT.ld2 (pc' := 14) (X := 97) rfl rfl rfl (by decide) (fun y115 e116 => ?_)
  refine yT.ld2 (pc' := 17) (X := 120) rfl rfl rfl (by decide) (fun y117 e118 => ?_)
  refine kSI (yT.cst (G2 := 0) (pc' := 20) rfl rfl xM_163 (r163 (v := (L.1 (p))) (lo := 97) (hi := 120) K hT109 e114 e116 e118) rfl (by omega) (by decide) rfl) (fun h119 x122 hT120 E121 => ?_)
  refine yT.if1 (t := 34) (pc' := 23) rfl rfl rfl (c1_eq rfl) (fun c123 => ?_) (fun c123 => ?_)
  · refine yT.kI (pc' := 35) rfl rfl (by decide) (fun x124 e125 => ?_)
    exact yT.retZ rfl rfl (b01 (by omega) (by omega)) ⟨_, p, _, hT120, (by omega), rfl, ⟨by omega, by omega, by omega, fun h => by omega⟩⟩
  · refine yT.aan (pc' := 24) (xg_ne g0 rfl) rfl rfl rfl ?_
    refine yT.iln (pc' := 25) xg_eq rfl rfl ?_
    refine yT.kb (pc' := 27) rfl rfl (by decide) (fun x126 e127 => ?_)
    refine yT.sb2 (pc' := 28) (Z := (L.1 (p)) - 97) e112 e127 rfl rfl (by omega) (fun x128 e129 => ?_)
    refine kSI (yT.cc (G2 := 0) (pc' := 31) rfl rfl rfl hT120 (K.up rfl : xnth ks 60 = some (19, 0)) xM_168 (r168  K hT120 x128 (by rw [nw_o (by decide)]; exact hcm.1)) rfl (by omega) (by decide) rfl) (fun h130 x133 hT131 E132 => ?_)
    refine yT.if1 (t := 36) (pc' := 34) rfl rfl rfl (c1_ne rfl) (fun c134 => ?_) (fun c134 => ?_)
    · have hlt := tl.in (j := p) (by omega)
      refine yT.aan (pc' := 37) (xg_ne g0 rfl) rfl rfl rfl ?_
      refine yT.p (pc' := 38) rfl rfl (fun _ _ _ _ => rfl) ?_
      refine yT.cgX (pc' := 41) rfl rfl hT131 (K.up rfl) rfl rfl (fun x135 _ i136 j137 z138 => ?_)
      have e139 : x135.toInt = (p : Int) := (congrArg Int32.toInt z138).trans f101
      refine yT.kI (pc' := 42) rfl rfl (by decide) (fun x140 e141 => ?_)
      refine yT.ad2 (pc' := 43) (Z := (p : Int) + 1) e139 e141 rfl rfl (by omega) (fun x142 e143 => ?_)
      refine yT.cpX (c := x142) (pc' := 46) rfl rfl hT131 (K.up rfl) rfl rfl rfl e143 (by omega) rfl (fun h144 hT145 _ _ => ?_)
      rw [us_us] at hT145
      have f146 : fl (us σ 60 22 x142) 22 = (p : Int) + 1 := fl_at.trans e143
      have f147 : fl (us σ 60 22 x142) 12 = (T : Int) := (fl_o rfl).trans tl.2.1
      refine yT.kI (pc' := 47) rfl rfl (by decide) (fun x148 e149 => ?_)
      exact yT.retZ rfl rfl (b01 (by omega) (by omega)) ⟨_, p + 1, _, hT145, (by omega), rfl, ⟨by omega, by omega, by omega, fun h => ⟨by omega, rfl⟩⟩⟩
    · refine yT.kI (pc' := 35) rfl rfl (by decide) (fun x150 e151 => ?_)
      exact yT.retZ rfl rfl (b01 (by omega) (by omega)) ⟨_, p, _, hT131, (by omega), rfl, ⟨by omega, by omega, by omega, fun h => by omega⟩⟩
