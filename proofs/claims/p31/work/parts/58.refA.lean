-- rX9_plainByp
set_option maxRecDepth 100000 in
set_option maxHeartbeats 4000000 in
theorem r192p {ks : List cT} {B0 : Nat} (K : KE KS0 ks B0) {σ : sg} {ρ : Nat → xE} {h : List xE} (hT : HT ks σ ρ h) {y : Nat} {x1 : Int32} (e1 : x1.toInt = (y : Int)) {Fr : Nat} (Rp : ∀ {σ1 : sg} {h1 : List xE} {y2 : Nat} {z : Int32}, KE KS0 ks B0 → HT ks σ1 ρ h1 → z.toInt = (y2 : Int) → y2 = y → LF σ σ1 → nw σ1 (282 * y + 0) = 1 ∨ nw σ1 (282 * y + 0) = 3 → yM 193 Fr 0 [.ref (60 + 1), .int z] h1 (RQL ks ρ (fun σ2 _ => LF σ1 σ2))) (p0 : y < 24) (p1 : nw σ (282 * y + 0) = 1 ∨ nw σ (282 * y + 0) = 3 ∨ nw σ (282 * y + 0) = 4 ∨ nw σ (282 * y + 0) = 5) : yM 192 (Fr + 3) 0 [.ref (60 + 1), .int x1] h (RQL ks ρ (fun σ' r => LF σ σ')) := by
  refine yM.st xM_192 rfl rfl (fun lv g => ?_)
  have g0 := g 0 _ rfl
  have g1 := g 1 _ rfl
  refine yT.aan (pc' := 1) g0 rfl rfl rfl ?_
  refine yT.iln (pc' := 2) g1 rfl rfl ?_
  refine yT.kI (pc' := 3) rfl rfl (by decide) (fun x101 e102 => ?_)
  refine kSI (yT.cc (G2 := 0) (pc' := 6) rfl rfl rfl hT (K.up rfl : xnth ks 60 = some (19, 0)) xM_166 (r166 (c := y) (w := 2) K hT e1 (by omega) (by omega)) rfl (by omega) (by decide) rfl) (fun h103 x106 hT104 E105 => ?_)
  refine yT.kI (pc' := 7) rfl rfl (by decide) (fun x107 e108 => ?_)
  refine yT.if2 (t := 30) (pc' := 10) rfl rfl rfl (c2_eq E105 e108) (fun c109 => ?_) (fun c109 => ?_)
  · refine yT.fl (pc' := 33) rfl rfl (fun _ _ _ _ => rfl) (fun y110 => ?_)
    exact yT.retL rfl rfl ⟨_, hT104, _, rfl, LF.rf⟩
  · refine yT.aan (pc' := 11) g0 rfl rfl rfl ?_
    refine yT.iln (pc' := 12) g1 rfl rfl ?_
    refine yT.kI (pc' := 13) rfl rfl (by decide) (fun x111 e112 => ?_)
    refine kSI (yT.cc (G2 := 0) (pc' := 16) rfl rfl rfl hT104 (K.up rfl : xnth ks 60 = some (19, 0)) xM_166 (r166 (c := y) (w := 0) K hT104 e1 (by omega) (by omega)) rfl (by omega) (by decide) rfl) (fun h113 x116 hT114 E115 => ?_)
    refine yT.kI (pc' := 17) rfl rfl (by decide) (fun x117 e118 => ?_)
    refine yT.if2 (t := 30) (pc' := 20) rfl rfl rfl (c2_eq E115 e118) (fun c119 => ?_) (fun c119 => ?_)
    · refine yT.fl (pc' := 33) rfl rfl (fun _ _ _ _ => rfl) (fun y120 => ?_)
      exact yT.retL rfl rfl ⟨_, hT114, _, rfl, LF.rf⟩
    · refine yT.aan (pc' := 21) g0 rfl rfl rfl ?_
      refine yT.iln (pc' := 22) g1 rfl rfl ?_
      refine yT.kI (pc' := 23) rfl rfl (by decide) (fun x121 e122 => ?_)
      refine kSI (yT.cc (G2 := 0) (pc' := 26) rfl rfl rfl hT114 (K.up rfl : xnth ks 60 = some (19, 0)) xM_166 (r166 (c := y) (w := 0) K hT114 e1 (by omega) (by omega)) rfl (by omega) (by decide) rfl) (fun h123 x126 hT124 E125 => ?_)
      refine yT.kI (pc' := 27) rfl rfl (by decide) (fun x127 e128 => ?_)
      refine yT.if2 (t := 34) (pc' := 30) rfl rfl rfl (c2_ne E125 e128) (fun c129 => ?_) (fun c129 => ?_)
      · refine yT.aan (pc' := 35) g0 rfl rfl rfl ?_
        refine yT.iln (pc' := 36) g1 rfl rfl ?_
        refine kRL (yT.cc (G2 := 0) (pc' := 39) rfl rfl rfl hT124 (K.up rfl : xnth ks 60 = some (19, 0)) xM_193 (Rp (y2 := y) K hT124 e1 (by omega) LF.rf (by omega)) rfl (by omega) (by decide) rfl) (fun h130 σ134 x133 hT131 E132 => ?_)
        exact yT.retL rfl rfl ⟨_, hT131, _, rfl, E132⟩
      · refine yT.fl (pc' := 33) rfl rfl (fun _ _ _ _ => rfl) (fun y135 => ?_)
        exact yT.retL rfl rfl ⟨_, hT124, _, rfl, LF.rf⟩
-- rX9_askedp
set_option maxRecDepth 100000 in
set_option maxHeartbeats 4000000 in
theorem r178p {ks : List cT} {B0 : Nat} (K : KE KS0 ks B0) {σ : sg} {ρ : Nat → xE} {h : List xE} (hT : HT ks σ ρ h) {x : Nat} {x1 : Int32} (e1 : x1.toInt = (x : Int)) {y : Nat} {x2 : Int32} (e2 : x2.toInt = (y : Int)) {x3 : Int32} (e3 : x3.toInt = 0 ∨ x3.toInt = 1) {Fr : Nat} (Rp : ∀ {σ1 : sg} {h1 : List xE} {y2 : Nat} {z : Int32}, KE KS0 ks B0 → HT ks σ1 ρ h1 → z.toInt = (y2 : Int) → y2 = y → LF σ σ1 → nw σ1 (282 * y + 0) = 1 ∨ nw σ1 (282 * y + 0) = 3 → yM 193 Fr 0 [.ref (60 + 1), .int z] h1 (RQL ks ρ (fun σ2 _ => LF σ1 σ2))) (p0 : y < 24) (p1 : nw σ (282 * y + 0) = 1 ∨ nw σ (282 * y + 0) = 3 ∨ nw σ (282 * y + 0) = 4 ∨ nw σ (282 * y + 0) = 5) (p2 : fl σ 13 = 1) : yM 178 (Fr + 4) 0 [.ref (60 + 1), .int x1, .int x2, .int x3] h (RQL ks ρ (fun σ' r => LF σ σ' ∧ fl σ' 16 = fl σ 16)) := by
  refine yM.st xM_178 rfl rfl (fun lv g => ?_)
  have g0 := g 0 _ rfl
  have g1 := g 1 _ rfl
  have g2 := g 2 _ rfl
  have g3 := g 3 _ rfl
  refine yT.aan (pc' := 1) g0 rfl rfl rfl ?_
  refine yT.cgX (pc' := 4) rfl rfl hT (K.up rfl) rfl rfl (fun x101 _ i102 j103 z104 => ?_)
  have e105 : x101.toInt = fl σ 16 := congrArg Int32.toInt z104
  refine yT.p (pc' := 6) (lv' := xst1 _ 4 (.int x101)) rfl rfl (fun _ _ _ _ => rfl) ?_
  refine yT.aan (pc' := 7) (xg_ne g0 rfl) rfl rfl rfl ?_
  refine yT.cgX (pc' := 10) rfl rfl hT (K.up rfl) rfl rfl (fun x106 _ i107 j108 z109 => ?_)
  have e110 : x106.toInt = fl σ 13 := congrArg Int32.toInt z109
  refine yT.if1 (t := 23) (pc' := 13) rfl rfl rfl (c1_ne e110) (fun c111 => ?_) (fun c111 => by omega)
  refine yT.aan (pc' := 24) (xg_ne g0 rfl) rfl rfl rfl ?_
  refine yT.iln (pc' := 25) (xg_ne g2 rfl) rfl rfl ?_
  refine kRL (yT.cc (G2 := 0) (pc' := 28) rfl rfl rfl hT (K.up rfl : xnth ks 60 = some (19, 0)) xM_192 (r192p (y := y) K hT e2 Rp (by omega) p1) rfl (by omega) (by decide) rfl) (fun h112 σ116 x115 hT113 E114 => ?_)
  have hLF := E114
  refine yT.p (pc' := 30) (lv' := xst2 _ 5 (.long x115)) rfl rfl (fun _ _ _ _ => rfl) ?_
  refine yT.aan (pc' := 31) (xg2_ne (xg_ne g0 rfl) rfl) rfl rfl rfl ?_
  refine yT.il (pc' := 33) (xg2_ne xg_eq rfl) rfl rfl ?_
  refine yT.cpX (c := x101) (pc' := 36) rfl rfl hT113 (K.up rfl) rfl rfl rfl e105 (by omega) rfl (fun h117 hT118 _ _ => ?_)
  have f119 : fl (us σ116 60 16 x101) 16 = (fl σ 16) := fl_at.trans e105
  refine yT.ll (pc' := 38) xg2_eq rfl rfl ?_
  exact yT.retL rfl rfl ⟨_, hT118, _, rfl, ⟨hLF.at, by omega⟩⟩
