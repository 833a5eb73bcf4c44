-- rX9_plainOfr
set_option maxRecDepth 100000 in
set_option maxHeartbeats 4000000 in
theorem r193r {ks : List cT} {B0 : Nat} (K : KE KS0 ks B0) {σ : sg} {ρ : Nat → xE} {h : List xE} (hT : HT ks σ ρ h) {y : Nat} {x1 : Int32} (e1 : x1.toInt = (y : Int)) {Fr s : Nat} (hRp : ps σ y = 0 → WQ ks ρ B0 (PX y σ) Fr) (p0 : y < 24) (p1 : nw σ (282 * y + 0) = 1 ∨ nw σ (282 * y + 0) = 3 ∨ nw σ (282 * y + 0) = 4) (p2 : fl σ 13 = 1) (p3 : ps σ y = 0 → nw σ (282 * y + 31) = (s : Int) ∧ s ≤ 250 ∧ (nw σ (282 * y + 0) ≠ 1 → PK (lt σ y) 0 0 s)) (p4 : KO σ) : yM 193 (Fr + (2 * s + 13)) 0 [.ref (60 + 1), .int x1] h (RQL ks ρ (fun σ' r => LF σ σ')) := by
  refine yM.st xM_193 rfl rfl (fun lv g => ?_)
  have g0 := g 0 _ rfl
  have g1 := g 1 _ rfl
  have hLF := LF.rf (σ := σ)
  refine yT.aan (pc' := 1) g0 rfl rfl rfl ?_
  refine yT.iln (pc' := 2) g1 rfl rfl ?_
  refine yT.kI (pc' := 3) rfl rfl (by decide) (fun x101 e102 => ?_)
  refine kSI (yT.cc (G2 := 0) (pc' := 6) rfl rfl rfl hT (K.up rfl : xnth ks 60 = some (19, 0)) xM_166 (r166 (c := y) (w := 0) K hT e1 (by omega) (by omega)) rfl (by omega) (by decide) rfl) (fun h103 x106 hT104 E105 => ?_)
  refine yT.kI (pc' := 7) rfl rfl (by decide) (fun x107 e108 => ?_)
  refine yT.if2 (t := 33) (pc' := 10) rfl rfl rfl (c2_ne E105 e108) (fun c109 => ?_) (fun c109 => ?_)
  · refine yT.aan (pc' := 34) g0 rfl rfl rfl ?_
    refine yT.cg8 (pc' := 37) rfl rfl hT104 (K.up rfl) rfl rfl (fun _ => ?_)
    refine yT.iln (pc' := 38) g1 rfl rfl ?_
    refine yT.tia (y) (pc' := 39) rfl rfl hT104 (K.up rfl) e1 (by omega) (fun x110 z112 => ?_)
    have e111 : x110.toInt = (σ 73 (y)).toInt := congrArg Int32.toInt z112
    refine yT.if1 (t := 67) (pc' := 42) rfl rfl rfl (c1_ne e111) (fun c113 => ?_) (fun c113 => ?_)
    · refine yT.aan (pc' := 68) g0 rfl rfl rfl ?_
      refine yT.cg8 (pc' := 71) rfl rfl hT104 (K.up rfl) rfl rfl (fun _ => ?_)
      refine yT.iln (pc' := 72) g1 rfl rfl ?_
      refine yT.tia (y) (pc' := 73) rfl rfl hT104 (K.up rfl) e1 (by omega) (fun x114 z116 => ?_)
      have e115 : x114.toInt = (σ 73 (y)).toInt := congrArg Int32.toInt z116
      refine yT.kI (pc' := 74) rfl rfl (by decide) (fun x117 e118 => ?_)
      refine yT.if2 (t := 83) (pc' := 77) rfl rfl rfl (c2_ne e115 e118) (fun c119 => ?_) (fun c119 => ?_)
      · refine yT.aan (pc' := 84) g0 rfl rfl rfl ?_
        refine yT.cg8 (pc' := 87) rfl rfl hT104 (K.up rfl) rfl rfl (fun _ => ?_)
        refine yT.iln (pc' := 88) g1 rfl rfl ?_
        refine yT.cla (pc' := 89) rfl rfl hT104 (K.up rfl) e1 (by omega) (fun y120 => ?_)
        exact yT.retL rfl rfl ⟨_, hT104, _, rfl, hLF⟩
      · refine yT.fl (pc' := 80) rfl rfl (fun _ _ _ _ => rfl) (fun y121 => ?_)
        refine yT.p (pc' := 89) rfl rfl (fun _ _ _ _ => rfl) ?_
        exact yT.retL rfl rfl ⟨_, hT104, _, rfl, hLF⟩
    · have hz : ps σ y = 0 := show (σ 73 (y)).toInt = 0 by omega
      have Rp : WQ ks ρ B0 (PX y σ) Fr := hRp hz
      obtain ⟨q0, q1, q2⟩ := p3 hz
      refine yT.aan (pc' := 43) g0 rfl rfl rfl ?_
      refine yT.cg8 (pc' := 46) rfl rfl hT104 (K.up rfl) rfl rfl (fun _ => ?_)
      refine yT.iln (pc' := 47) g1 rfl rfl ?_
      refine yT.kI (pc' := 48) rfl rfl (by decide) (fun x122 e123 => ?_)
      refine yT.tis (y) (pc' := 49) rfl rfl hT104 (K.up rfl) e1 (by omega) (fun h124 hT125 => ?_)
      have hX : PX y σ (us σ 73 (y) x122) := PX.in p2 (by omega)
      have hLF : LF σ (us σ 73 (y) x122) := LF.rf.s7 (by omega)
      refine yT.aan (pc' := 50) g0 rfl rfl rfl ?_
      refine yT.cg8 (pc' := 53) rfl rfl hT125 (K.up rfl) rfl rfl (fun _ => ?_)
      refine yT.iln (pc' := 54) g1 rfl rfl ?_
      refine yT.aan (pc' := 55) g0 rfl rfl rfl ?_
      refine yT.iln (pc' := 56) g1 rfl rfl ?_
      refine kRL (yT.cc (G2 := 0) (pc' := 59) rfl rfl rfl hT125 (K.up rfl : xnth ks 60 = some (19, 0)) xM_179 (r179p (c := y) K hT125 e1 Rp (by omega) hX ((nw_o (by decide)).trans q0) q1 (by rw [lt_e (us_nq (by decide))]; exact q2 (by omega)) (p4.e (us_nq (by decide)))) rfl (by omega) (by decide) rfl) (fun h126 σ130 x129 hT127 E128 => ?_)
      have hLF := hLF.tr E128
      refine yT.cls (pc' := 60) rfl rfl hT127 (K.up rfl) e1 (by omega) (fun h131 hT132 _ => ?_)
      refine yT.aan (pc' := 61) g0 rfl rfl rfl ?_
      refine yT.cg8 (pc' := 64) rfl rfl hT132 (K.up rfl) rfl rfl (fun _ => ?_)
      refine yT.iln (pc' := 65) g1 rfl rfl ?_
      refine yT.kI (pc' := 66) rfl rfl (by decide) (fun x133 e134 => ?_)
      refine yT.tis (y) (pc' := 67) rfl rfl hT132 (K.up rfl) e1 (by omega) (fun h135 hT136 => ?_)
      have hLF : LF σ (us σ130 73 (y) x133) := hLF.s7 (by omega)
      refine yT.aan (pc' := 68) g0 rfl rfl rfl ?_
      refine yT.cg8 (pc' := 71) rfl rfl hT136 (K.up rfl) rfl rfl (fun _ => ?_)
      refine yT.iln (pc' := 72) g1 rfl rfl ?_
      refine yT.tia (y) (pc' := 73) rfl rfl hT136 (K.up rfl) e1 (by omega) (fun x137 z139 => ?_)
      have e138 : x137.toInt = ((us σ130 73 (y) x133) 73 (y)).toInt := congrArg Int32.toInt z139
      refine yT.kI (pc' := 74) rfl rfl (by decide) (fun x140 e141 => ?_)
      refine yT.if2 (t := 83) (pc' := 77) rfl rfl rfl (c2_ne e138 e141) (fun c142 => ?_) (fun c142 => ?_)
      · refine yT.aan (pc' := 84) g0 rfl rfl rfl ?_
        refine yT.cg8 (pc' := 87) rfl rfl hT136 (K.up rfl) rfl rfl (fun _ => ?_)
        refine yT.iln (pc' := 88) g1 rfl rfl ?_
        refine yT.cla (pc' := 89) rfl rfl hT136 (K.up rfl) e1 (by omega) (fun y143 => ?_)
        exact yT.retL rfl rfl ⟨_, hT136, _, rfl, hLF⟩
      · refine yT.fl (pc' := 80) rfl rfl (fun _ _ _ _ => rfl) (fun y144 => ?_)
        refine yT.p (pc' := 89) rfl rfl (fun _ _ _ _ => rfl) ?_
        exact yT.retL rfl rfl ⟨_, hT136, _, rfl, hLF⟩
  · refine yT.iln (pc' := 11) g1 rfl rfl ?_
    refine yT.aan (pc' := 12) g0 rfl rfl rfl ?_
    refine yT.cgI (pc' := 15) rfl rfl hT104 (K.up rfl) rfl rfl (fun x145 _ => ?_)
    refine yT.if2 (t := 26) (pc' := 18) rfl rfl rfl (c2_ne e1 rfl) (fun c146 => ?_) (fun c146 => ?_)
    · refine yT.aan (pc' := 27) g0 rfl rfl rfl ?_
      refine yT.cg8 (pc' := 30) rfl rfl hT104 (K.up rfl) rfl rfl (fun _ => ?_)
      refine yT.iln (pc' := 31) g1 rfl rfl ?_
      refine yT.cla (pc' := 32) rfl rfl hT104 (K.up rfl) e1 (by omega) (fun y147 => ?_)
      exact yT.retL rfl rfl ⟨_, hT104, _, rfl, hLF⟩
    · refine yT.aan (pc' := 19) g0 rfl rfl rfl ?_
      refine yT.cgI (pc' := 22) rfl rfl hT104 (K.up rfl) rfl rfl (fun x148 _ => ?_)
      refine yT.i2l2 (pc' := 23) (X := x148.toInt) rfl rfl rfl (fun y149 e150 => ?_)
      refine yT.p (pc' := 32) rfl rfl (fun _ _ _ _ => rfl) ?_
      exact yT.retL rfl rfl ⟨_, hT104, _, rfl, hLF⟩
