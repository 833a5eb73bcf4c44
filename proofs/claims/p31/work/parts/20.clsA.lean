-- rX7_cell
set_option maxRecDepth 100000 in
set_option maxHeartbeats 4000000 in
theorem c87 {ks : List cT} {σ : Nat → Nat → Int32} {ρ : Nat → xE} {h : List xE} (hT : HT ks σ ρ h) {q0 : Nat} (o0 : xnth ks q0 = some (17, 0)) (x1 : Int32) : yM 87 (0) 0 [.ref (q0 + 1), .int x1] h (CQ ks σ ρ (4, 11, 0) (fun _ r => r = some .null ∨ (0 ≤ x1.toInt ∧ x1.toInt < 24))) := by
  refine yM.st xM_87 rfl rfl (fun lv g => ?_)
  have g0 := g 0 _ rfl
  have g1 := g 1 _ rfl
  refine yT.iln (pc' := 1) g1 rfl rfl ?_
  refine yT.if1 (t := 30) (pc' := 4) rfl rfl rfl (c1_lt rfl) (fun c101 => ?_) (fun c101 => ?_)
  · refine yT.p (pc' := 31) rfl rfl (fun _ _ _ _ => rfl) ?_
    exact yT.retA rfl rfl rfl (qN0 hT (Or.inl rfl))
  · refine yT.iln (pc' := 5) g1 rfl rfl ?_
    refine yT.aan (pc' := 6) g0 rfl rfl rfl ?_
    refine yT.cgI (pc' := 9) rfl rfl hT o0 rfl rfl (fun x103 w102 => ?_)
    refine yT.if2 (t := 30) (pc' := 12) rfl rfl rfl (c2_ge rfl rfl) (fun c104 => ?_) (fun c104 => ?_)
    · refine yT.p (pc' := 31) rfl rfl (fun _ _ _ _ => rfl) ?_
      exact yT.retA rfl rfl rfl (qN0 hT (Or.inl rfl))
    · refine yT.iln (pc' := 13) g1 rfl rfl ?_
      refine yT.aan (pc' := 14) g0 rfl rfl rfl ?_
      refine yT.cgR (pc' := 17) rfl rfl hT o0 rfl rfl (fun q106 w105 o107 => ?_)
      refine yT.cal (pc' := 18) rfl rfl hT o107 rfl (by omega) (fun x108 e109 => ?_)
      refine yT.if2 (t := 30) (pc' := 21) rfl rfl rfl (c2_ge rfl e109) (fun c110 => ?_) (fun c110 => ?_)
      · refine yT.p (pc' := 31) rfl rfl (fun _ _ _ _ => rfl) ?_
        exact yT.retA rfl rfl rfl (qN0 hT (Or.inl rfl))
      · refine yT.aan (pc' := 22) g0 rfl rfl rfl ?_
        refine yT.cgk (pc' := 25) rfl rfl w105 ?_
        refine yT.iln (pc' := 26) g1 rfl rfl ?_
        refine yT.cca (pc' := 27) rfl rfl hT o107 rfl (by omega) ?_ (fun q111 o112 => ?_)
        · refine yT.p (pc' := 31) rfl rfl (fun _ _ _ _ => rfl) ?_
          exact yT.retA rfl rfl rfl (qN0 hT (Or.inl rfl))
        · refine yT.p (pc' := 31) rfl rfl (fun _ _ _ _ => rfl) ?_
          exact yT.retA rfl rfl rfl (qN hT (Or.inr ⟨by omega, by omega⟩) o112 rfl)
-- rX4_clear
set_option maxRecDepth 100000 in
set_option maxHeartbeats 4000000 in
theorem c55 {ks : List cT} {σ : Nat → Nat → Int32} {ρ : Nat → xE} {h : List xE} (hT : HT ks σ ρ h) {q0 N : Nat} (o0 : xnth ks q0 = some (14, N)) (hN : N ≤ 750) : yM 55 (0) 0 [.ref (q0 + 1)] h (CQ ks σ ρ (9, 0, 0) (fun h' _ => ∃ z : Int32, z.toInt = 0 ∧ FV h' q0 4 1 (.int z))) := by
  refine yM.st xM_55 rfl rfl (fun lv g => ?_)
  have g0 := g 0 _ rfl
  refine yT.aan (pc' := 1) g0 rfl rfl rfl ?_
  refine yT.kI (pc' := 2) rfl rfl (by decide) (fun x101 e102 => ?_)
  refine yT.cpS (pc' := 5) rfl rfl hT o0 rfl rfl rfl e102 (by omega) (fun h103 hT104 w105 fv106 => ?_)
  refine yT.aan (pc' := 6) g0 rfl rfl rfl ?_
  refine yT.kI (pc' := 7) rfl rfl (by decide) (fun x107 e108 => ?_)
  refine yT.cpI (pc' := 10) rfl rfl hT104 o0 rfl rfl rfl (fun h109 hT110 w111 fv112 => ?_)
  exact yT.retV rfl rfl (qV hT110 ⟨_, e102, (fv112 _ _ _ _ rfl w105)⟩)
-- rX2_start
set_option maxRecDepth 100000 in
set_option maxHeartbeats 4000000 in
theorem c14 {ks : List cT} {σ : Nat → Nat → Int32} {ρ : Nat → xE} {h : List xE} (hT : HT ks σ ρ h) {q0 : Nat} (o0 : xnth ks q0 = some (12, 0)) : yM 14 (1) 0 [.ref (q0 + 1)] h (CQ ks σ ρ (9, 0, 0) yT0) := by
  refine yM.st xM_14 rfl rfl (fun lv g => ?_)
  have g0 := g 0 _ rfl
  refine yT.aan (pc' := 1) g0 rfl rfl rfl ?_
  refine yT.kI (pc' := 2) rfl rfl (by decide) (fun x101 e102 => ?_)
  refine yT.cpI (pc' := 5) rfl rfl hT o0 rfl rfl rfl (fun h103 hT104 w105 fv106 => ?_)
  refine yT.aan (pc' := 6) g0 rfl rfl rfl ?_
  refine yT.fl (pc' := 7) rfl rfl (fun _ _ _ _ => rfl) (fun x107 => ?_)
  refine yT.cpL (pc' := 10) rfl rfl hT104 o0 rfl rfl rfl (fun h108 hT109 w110 fv111 => ?_)
  refine yT.aan (pc' := 11) g0 rfl rfl rfl ?_
  refine yT.cgA (pc' := 14) rfl rfl hT109 o0 rfl rfl (fun q113 N115 w112 o114 hN116 => ?_)
  refine kV (yT.cc (G2 := 0) (pc' := 17) rfl rfl rfl hT109 o114 xM_55 (c55 hT109 o114 hN116) rfl (by decide) (by decide) rfl) (fun h117 hT118 E119 => ?_)
  obtain ⟨x120, e121, w122⟩ := E119
  exact yT.retV rfl rfl (qV hT118 trivial)
-- rX4_size
set_option maxRecDepth 100000 in
set_option maxHeartbeats 4000000 in
theorem c44 {ks : List cT} {σ : Nat → Nat → Int32} {ρ : Nat → xE} {h : List xE} (hT : HT ks σ ρ h) {q0 N : Nat} (o0 : xnth ks q0 = some (14, N)) (hN : N ≤ 750) : yM 44 (0) 0 [.ref (q0 + 1)] h (CQ ks σ ρ (6, 0, N) yT0) := by
  refine yM.st xM_44 rfl rfl (fun lv g => ?_)
  have g0 := g 0 _ rfl
  refine yT.aan (pc' := 1) g0 rfl rfl rfl ?_
  refine yT.cgS (pc' := 4) rfl rfl hT o0 rfl rfl (fun x102 w101 i103 i104 => ?_)
  exact yT.retI rfl rfl (qS hT trivial (by omega) (by omega))
-- rX4_sizet
set_option maxRecDepth 100000 in
set_option maxHeartbeats 4000000 in
theorem c44t {ks : List cT} {σ : Nat → Nat → Int32} {ρ : Nat → xE} {h : List xE} (hT : HT ks σ ρ h) {q0 : Nat} (o0 : xnth ks q0 = some (9, 0)) : yM 44 (0) 0 [.ref (q0 + 1)] h (CQ ks σ ρ (6, 0, 250) yT0) := by
  refine yM.st xM_44 rfl rfl (fun lv g => ?_)
  have g0 := g 0 _ rfl
  refine yT.aan (pc' := 1) g0 rfl rfl rfl ?_
  refine yT.cgX (pc' := 4) rfl rfl hT o0 rfl rfl (fun x102 w101 i103 i104 z105 => ?_)
  exact yT.retI rfl rfl (qS hT trivial (by omega) (by omega))
-- rX4_at
set_option maxRecDepth 100000 in
set_option maxHeartbeats 4000000 in
theorem c46 {ks : List cT} {σ : Nat → Nat → Int32} {ρ : Nat → xE} {h : List xE} (hT : HT ks σ ρ h) {q0 N : Nat} (o0 : xnth ks q0 = some (14, N)) (hN : N ≤ 750) (x1 : Int32) : yM 46 (0) 0 [.ref (q0 + 1), .int x1] h (CQ ks σ ρ (0, 0, 0) yT0) := by
  refine yM.st xM_46 rfl rfl (fun lv g => ?_)
  have g0 := g 0 _ rfl
  have g1 := g 1 _ rfl
  refine yT.iln (pc' := 1) g1 rfl rfl ?_
  refine yT.if1 (t := 30) (pc' := 4) rfl rfl rfl (c1_lt rfl) (fun c101 => ?_) (fun c101 => ?_)
  · refine yT.kI (pc' := 31) rfl rfl (by decide) (fun x102 e103 => ?_)
    exact yT.retI rfl rfl (qI hT trivial)
  · refine yT.iln (pc' := 5) g1 rfl rfl ?_
    refine yT.aan (pc' := 6) g0 rfl rfl rfl ?_
    refine yT.cgS (pc' := 9) rfl rfl hT o0 rfl rfl (fun x105 w104 i106 i107 => ?_)
    refine yT.if2 (t := 30) (pc' := 12) rfl rfl rfl (c2_ge rfl rfl) (fun c108 => ?_) (fun c108 => ?_)
    · refine yT.kI (pc' := 31) rfl rfl (by decide) (fun x109 e110 => ?_)
      exact yT.retI rfl rfl (qI hT trivial)
    · refine yT.iln (pc' := 13) g1 rfl rfl ?_
      refine yT.aan (pc' := 14) g0 rfl rfl rfl ?_
      refine yT.cgR (pc' := 17) rfl rfl hT o0 rfl rfl (fun q112 w111 o113 => ?_)
      refine yT.cal (pc' := 18) rfl rfl hT o113 rfl (by omega) (fun x114 e115 => ?_)
      refine yT.if2 (t := 30) (pc' := 21) rfl rfl rfl (c2_ge rfl e115) (fun c116 => ?_) (fun c116 => ?_)
      · refine yT.kI (pc' := 31) rfl rfl (by decide) (fun x117 e118 => ?_)
        exact yT.retI rfl rfl (qI hT trivial)
      · refine yT.aan (pc' := 22) g0 rfl rfl rfl ?_
        refine yT.cgk (pc' := 25) rfl rfl w111 ?_
        refine yT.iln (pc' := 26) g1 rfl rfl ?_
        refine yT.cia (pc' := 27) rfl rfl hT o113 rfl (by omega) (fun x119 => ?_)
        refine yT.p (pc' := 31) rfl rfl (fun _ _ _ _ => rfl) ?_
        exact yT.retI rfl rfl (qI hT trivial)
-- rX4_att
set_option maxRecDepth 100000 in
set_option maxHeartbeats 4000000 in
theorem c46t {ks : List cT} {σ : Nat → Nat → Int32} {ρ : Nat → xE} {h : List xE} (hT : HT ks σ ρ h) {q0 : Nat} (o0 : xnth ks q0 = some (9, 0)) (x1 : Int32) : yM 46 (0) 0 [.ref (q0 + 1), .int x1] h (CQ ks σ ρ (0, 0, 0) yT0) := by
  refine yM.st xM_46 rfl rfl (fun lv g => ?_)
  have g0 := g 0 _ rfl
  have g1 := g 1 _ rfl
  refine yT.iln (pc' := 1) g1 rfl rfl ?_
  refine yT.if1 (t := 30) (pc' := 4) rfl rfl rfl (c1_lt rfl) (fun c101 => ?_) (fun c101 => ?_)
  · refine yT.kI (pc' := 31) rfl rfl (by decide) (fun x102 e103 => ?_)
    exact yT.retI rfl rfl (qI hT trivial)
  · refine yT.iln (pc' := 5) g1 rfl rfl ?_
    refine yT.aan (pc' := 6) g0 rfl rfl rfl ?_
    refine yT.cgX (pc' := 9) rfl rfl hT o0 rfl rfl (fun x105 w104 i106 i107 z108 => ?_)
    refine yT.if2 (t := 30) (pc' := 12) rfl rfl rfl (c2_ge rfl rfl) (fun c109 => ?_) (fun c109 => ?_)
    · refine yT.kI (pc' := 31) rfl rfl (by decide) (fun x110 e111 => ?_)
      exact yT.retI rfl rfl (qI hT trivial)
    · refine yT.iln (pc' := 13) g1 rfl rfl ?_
      refine yT.aan (pc' := 14) g0 rfl rfl rfl ?_
      refine yT.cgR (pc' := 17) rfl rfl hT o0 rfl rfl (fun q113 w112 o114 => ?_)
      refine yT.cal (pc' := 18) rfl rfl hT o114 rfl (by omega) (fun x115 e116 => ?_)
      refine yT.if2 (t := 30) (pc' := 21) rfl rfl rfl (c2_ge rfl e116) (fun c117 => by omega) (fun c117 => ?_)
      refine yT.aan (pc' := 22) g0 rfl rfl rfl ?_
      refine yT.cgk (pc' := 25) rfl rfl w112 ?_
      refine yT.iln (pc' := 26) g1 rfl rfl ?_
      refine yT.cia (pc' := 27) rfl rfl hT o114 rfl (by omega) (fun x118 => ?_)
      refine yT.p (pc' := 31) rfl rfl (fun _ _ _ _ => rfl) ?_
      exact yT.retI rfl rfl (qI hT trivial)
-- rX4_add
set_option maxRecDepth 100000 in
set_option maxHeartbeats 4000000 in
theorem c50 {ks : List cT} {σ : Nat → Nat → Int32} {ρ : Nat → xE} {h : List xE} (hT : HT ks σ ρ h) {q0 N : Nat} (o0 : xnth ks q0 = some (14, N)) (hN : N ≤ 750) (x1 : Int32) : yM 50 (0) 0 [.ref (q0 + 1), .int x1] h (CQ ks σ ρ (9, 0, 0) yT0) := by
  refine yM.st xM_50 rfl rfl (fun lv g => ?_)
  have g0 := g 0 _ rfl
  have g1 := g 1 _ rfl
  refine yT.aan (pc' := 1) g0 rfl rfl rfl ?_
  refine yT.p (pc' := 2) rfl rfl (fun _ _ _ _ => rfl) ?_
  refine yT.cgI (pc' := 5) rfl rfl hT o0 rfl rfl (fun x102 w101 => ?_)
  refine yT.kI (pc' := 6) rfl rfl (by decide) (fun x103 e104 => ?_)
  refine yT.fi (pc' := 7) rfl rfl (fun _ _ _ _ => rfl) (fun x105 => ?_)
  refine yT.cpI (pc' := 10) rfl rfl hT o0 rfl rfl rfl (fun h106 hT107 w108 fv109 => ?_)
  refine yT.aan (pc' := 11) g0 rfl rfl rfl ?_
  refine yT.cgS (pc' := 14) rfl rfl hT107 o0 rfl rfl (fun x111 w110 i112 i113 => ?_)
  refine yT.if1 (t := 49) (pc' := 17) rfl rfl rfl (c1_lt rfl) (fun c114 => by omega) (fun c114 => ?_)
  refine yT.aan (pc' := 18) g0 rfl rfl rfl ?_
  refine yT.cgk (pc' := 21) rfl rfl w110 ?_
  refine yT.aan (pc' := 22) g0 rfl rfl rfl ?_
  refine yT.cgR (pc' := 25) rfl rfl hT107 o0 rfl rfl (fun q116 w115 o117 => ?_)
  refine yT.cal (pc' := 26) rfl rfl hT107 o117 rfl (by omega) (fun x118 e119 => ?_)
  refine yT.if2 (t := 49) (pc' := 29) rfl rfl rfl (c2_ge rfl e119) (fun c120 => ?_) (fun c120 => ?_)
  · exact yT.retV rfl rfl (qV hT107 trivial)
  · refine yT.aan (pc' := 30) g0 rfl rfl rfl ?_
    refine yT.cgk (pc' := 33) rfl rfl w115 ?_
    refine yT.aan (pc' := 34) g0 rfl rfl rfl ?_
    refine yT.cgk (pc' := 37) rfl rfl w110 ?_
    refine yT.iln (pc' := 38) g1 rfl rfl ?_
    refine yT.cis (pc' := 39) rfl rfl hT107 o117 rfl (by omega) (fun h121 hT122 fv123 => ?_)
    refine yT.aan (pc' := 40) g0 rfl rfl rfl ?_
    refine yT.p (pc' := 41) rfl rfl (fun _ _ _ _ => rfl) ?_
    refine yT.cgk (pc' := 44) rfl rfl (fv123 _ _ _ _ w110) ?_
    refine yT.kI (pc' := 45) rfl rfl (by decide) (fun x124 e125 => ?_)
    refine yT.ad (pc' := 46) rfl e125 rfl rfl (by have := i32_rng x111; omega) (fun x126 e127 => ?_)
    refine yT.cpS (pc' := 49) rfl rfl hT122 o0 rfl rfl rfl e127 (by omega) (fun h128 hT129 w130 fv131 => ?_)
    exact yT.retV rfl rfl (qV hT129 trivial)
-- rX4_take
set_option maxRecDepth 100000 in
set_option maxHeartbeats 4000000 in
theorem c48 {ks : List cT} {σ : Nat → Nat → Int32} {ρ : Nat → xE} {h : List xE} (hT : HT ks σ ρ h) {q0 N : Nat} (o0 : xnth ks q0 = some (14, N)) (hN : N ≤ 750) : yM 48 (0) 0 [.ref (q0 + 1)] h (CQ ks σ ρ (0, 0, 0) yT0) := by
  refine yM.st xM_48 rfl rfl (fun lv g => ?_)
  have g0 := g 0 _ rfl
  refine yT.aan (pc' := 1) g0 rfl rfl rfl ?_
  refine yT.cgS (pc' := 4) rfl rfl hT o0 rfl rfl (fun x102 w101 i103 i104 => ?_)
  refine yT.if1 (t := 19) (pc' := 7) rfl rfl rfl (c1_le rfl) (fun c105 => ?_) (fun c105 => ?_)
  · refine yT.kI (pc' := 20) rfl rfl (by decide) (fun x106 e107 => ?_)
    exact yT.retI rfl rfl (qI hT trivial)
  · refine yT.aan (pc' := 8) g0 rfl rfl rfl ?_
    refine yT.cgk (pc' := 11) rfl rfl w101 ?_
    refine yT.aan (pc' := 12) g0 rfl rfl rfl ?_
    refine yT.cgR (pc' := 15) rfl rfl hT o0 rfl rfl (fun q109 w108 o110 => ?_)
    refine yT.cal (pc' := 16) rfl rfl hT o110 rfl (by omega) (fun x111 e112 => ?_)
    refine yT.if2 (t := 21) (pc' := 19) rfl rfl rfl (c2_le rfl e112) (fun c113 => ?_) (fun c113 => ?_)
    · refine yT.aan (pc' := 22) g0 rfl rfl rfl ?_
      refine yT.p (pc' := 23) rfl rfl (fun _ _ _ _ => rfl) ?_
      refine yT.cgk (pc' := 26) rfl rfl w101 ?_
      refine yT.kI (pc' := 27) rfl rfl (by decide) (fun x114 e115 => ?_)
      refine yT.sb (pc' := 28) rfl e115 rfl rfl (by have := i32_rng x102; omega) (fun x116 e117 => ?_)
      refine yT.cpS (pc' := 31) rfl rfl hT o0 rfl rfl rfl e117 (by omega) (fun h118 hT119 w120 fv121 => ?_)
      refine yT.aan (pc' := 32) g0 rfl rfl rfl ?_
      refine yT.cgk (pc' := 35) rfl rfl (fv121 _ _ _ _ rfl w108) ?_
      refine yT.aan (pc' := 36) g0 rfl rfl rfl ?_
      refine yT.cgk (pc' := 39) rfl rfl w120 ?_
      refine yT.cia (pc' := 40) rfl rfl hT119 o110 e117 (by omega) (fun x122 => ?_)
      exact yT.retI rfl rfl (qI hT119 trivial)
    · refine yT.kI (pc' := 20) rfl rfl (by decide) (fun x123 e124 => ?_)
      exact yT.retI rfl rfl (qI hT trivial)
-- rX8_joined
set_option maxRecDepth 100000 in
set_option maxHeartbeats 4000000 in
theorem c161 {ks : List cT} {σ : Nat → Nat → Int32} {ρ : Nat → xE} {h : List xE} (hT : HT ks σ ρ h) (x0 : Int32) (x1 : Int32) (x2 : Int32) : yM 161 (0) 0 [.int x0, .int x1, .int x2] h (CQ ks σ ρ (0, 0, 0) yT0) := by
  refine yM.st xM_161 rfl rfl (fun lv g => ?_)
  have g0 := g 0 _ rfl
  have g1 := g 1 _ rfl
  have g2 := g 2 _ rfl
  refine yT.iln (pc' := 1) g0 rfl rfl ?_
  by_cases c101 : x0.toInt = 0
  · refine yT.tswK 0 (t := 48) rfl rfl (by omega) rfl rfl ?_
    refine yT.iln (pc' := 49) g1 rfl rfl ?_
    refine yT.iln (pc' := 50) g2 rfl rfl ?_
    refine yT.fi (pc' := 51) rfl rfl (fun _ _ _ _ => rfl) (fun x102 => ?_)
    exact yT.retI rfl rfl (qI hT trivial)
  · by_cases c103 : x0.toInt = 1
    · refine yT.tswK 1 (t := 52) rfl rfl (by omega) rfl rfl ?_
      refine yT.iln (pc' := 53) g1 rfl rfl ?_
      refine yT.iln (pc' := 54) g2 rfl rfl ?_
      refine yT.fi (pc' := 55) rfl rfl (fun _ _ _ _ => rfl) (fun x104 => ?_)
      exact yT.retI rfl rfl (qI hT trivial)
    · by_cases c105 : x0.toInt = 2
      · refine yT.tswK 2 (t := 56) rfl rfl (by omega) rfl rfl ?_
        refine yT.iln (pc' := 57) g1 rfl rfl ?_
        refine yT.iln (pc' := 58) g2 rfl rfl ?_
        refine yT.fi (pc' := 59) rfl rfl (fun _ _ _ _ => rfl) (fun x106 => ?_)
        exact yT.retI rfl rfl (qI hT trivial)
      · by_cases c107 : x0.toInt = 3
        · refine yT.tswK 3 (t := 60) rfl rfl (by omega) rfl rfl ?_
          refine yT.iln (pc' := 61) g2 rfl rfl ?_
          refine yT.if1 (t := 68) (pc' := 64) rfl rfl rfl (c1_ne rfl) (fun c108 => ?_) (fun c108 => ?_)
          · refine yT.iln (pc' := 69) g1 rfl rfl ?_
            refine yT.iln (pc' := 70) g2 rfl rfl ?_
            refine yT.divF (pc' := 71) rfl (by omega) rfl rfl (fun x109 => ?_)
            exact yT.retI rfl rfl (qI hT trivial)
          · refine yT.kI (pc' := 65) rfl rfl (by decide) (fun x110 e111 => ?_)
            refine yT.p (pc' := 71) rfl rfl (fun _ _ _ _ => rfl) ?_
            exact yT.retI rfl rfl (qI hT trivial)
        · by_cases c112 : x0.toInt = 4
          · refine yT.tswK 4 (t := 72) rfl rfl (by omega) rfl rfl ?_
            refine yT.iln (pc' := 73) g2 rfl rfl ?_
            refine yT.if1 (t := 80) (pc' := 76) rfl rfl rfl (c1_ne rfl) (fun c113 => ?_) (fun c113 => ?_)
            · refine yT.iln (pc' := 81) g1 rfl rfl ?_
              refine yT.iln (pc' := 82) g2 rfl rfl ?_
              refine yT.remF (pc' := 83) rfl (by omega) rfl rfl (fun x114 => ?_)
              exact yT.retI rfl rfl (qI hT trivial)
            · refine yT.kI (pc' := 77) rfl rfl (by decide) (fun x115 e116 => ?_)
              refine yT.p (pc' := 83) rfl rfl (fun _ _ _ _ => rfl) ?_
              exact yT.retI rfl rfl (qI hT trivial)
          · by_cases c117 : x0.toInt = 5
            · refine yT.tswK 5 (t := 84) rfl rfl (by omega) rfl rfl ?_
              refine yT.iln (pc' := 85) g1 rfl rfl ?_
              refine yT.iln (pc' := 86) g2 rfl rfl ?_
              refine yT.if2 (t := 93) (pc' := 89) rfl rfl rfl (c2_ge rfl rfl) (fun c118 => ?_) (fun c118 => ?_)
              · refine yT.kI (pc' := 94) rfl rfl (by decide) (fun x119 e120 => ?_)
                exact yT.retI rfl rfl (qI hT trivial)
              · refine yT.kI (pc' := 90) rfl rfl (by decide) (fun x121 e122 => ?_)
                refine yT.p (pc' := 94) rfl rfl (fun _ _ _ _ => rfl) ?_
                exact yT.retI rfl rfl (qI hT trivial)
            · by_cases c123 : x0.toInt = 6
              · refine yT.tswK 6 (t := 95) rfl rfl (by omega) rfl rfl ?_
                refine yT.iln (pc' := 96) g1 rfl rfl ?_
                refine yT.iln (pc' := 97) g2 rfl rfl ?_
                refine yT.if2 (t := 104) (pc' := 100) rfl rfl rfl (c2_ne rfl rfl) (fun c124 => ?_) (fun c124 => ?_)
                · refine yT.kI (pc' := 105) rfl rfl (by decide) (fun x125 e126 => ?_)
                  exact yT.retI rfl rfl (qI hT trivial)
                · refine yT.kI (pc' := 101) rfl rfl (by decide) (fun x127 e128 => ?_)
                  refine yT.p (pc' := 105) rfl rfl (fun _ _ _ _ => rfl) ?_
                  exact yT.retI rfl rfl (qI hT trivial)
              · by_cases c129 : x0.toInt = 7
                · refine yT.tswK 7 (t := 106) rfl rfl (by omega) rfl rfl ?_
                  refine yT.iln (pc' := 107) g1 rfl rfl ?_
                  refine yT.iln (pc' := 108) g2 rfl rfl ?_
                  refine yT.if2 (t := 115) (pc' := 111) rfl rfl rfl (c2_le rfl rfl) (fun c130 => ?_) (fun c130 => ?_)
                  · refine yT.kI (pc' := 116) rfl rfl (by decide) (fun x131 e132 => ?_)
                    exact yT.retI rfl rfl (qI hT trivial)
                  · refine yT.kI (pc' := 112) rfl rfl (by decide) (fun x133 e134 => ?_)
                    refine yT.p (pc' := 116) rfl rfl (fun _ _ _ _ => rfl) ?_
                    exact yT.retI rfl rfl (qI hT trivial)
                · refine yT.tswD (t := 117) rfl rfl rfl (by omega) ?_
                  refine yT.iln (pc' := 118) g1 rfl rfl ?_
                  refine yT.iln (pc' := 119) g2 rfl rfl ?_
                  refine yT.if2 (t := 126) (pc' := 122) rfl rfl rfl (c2_le rfl rfl) (fun c135 => ?_) (fun c135 => ?_)
                  · refine yT.iln (pc' := 127) g2 rfl rfl ?_
                    exact yT.retI rfl rfl (qI hT trivial)
                  · refine yT.iln (pc' := 123) g1 rfl rfl ?_
                    refine yT.p (pc' := 127) rfl rfl (fun _ _ _ _ => rfl) ?_
                    exact yT.retI rfl rfl (qI hT trivial)
-- rX2_join
set_option maxRecDepth 100000 in
set_option maxHeartbeats 4000000 in
theorem c19 {ks : List cT} {σ : Nat → Nat → Int32} {ρ : Nat → xE} {h : List xE} (hT : HT ks σ ρ h) {q0 : Nat} (o0 : xnth ks q0 = some (12, 0)) (x1 : Int32) : yM 19 (1) 0 [.ref (q0 + 1), .int x1] h (CQ ks σ ρ (9, 0, 0) yT0) := by
  refine yM.st xM_19 rfl rfl (fun lv g => ?_)
  have g0 := g 0 _ rfl
  have g1 := g 1 _ rfl
  refine yT.aan (pc' := 1) g0 rfl rfl rfl ?_
  refine yT.cgA (pc' := 4) rfl rfl hT o0 rfl rfl (fun q102 N104 w101 o103 hN105 => ?_)
  refine kI (yT.cc (G2 := 0) (pc' := 7) rfl rfl rfl hT o103 xM_48 (c48 hT o103 hN105) rfl (by decide) (by decide) rfl) (fun h106 x109 hT107 E108 => ?_)
  refine yT.p (pc' := 8) (lv' := xst1 _ 2 (.int x109)) rfl rfl (fun _ _ _ _ => rfl) ?_
  refine yT.aan (pc' := 9) (xg_ne g0 rfl) rfl rfl rfl ?_
  refine yT.cgA (pc' := 12) rfl rfl hT107 o0 rfl rfl (fun q111 N113 w110 o112 hN114 => ?_)
  refine kI (yT.cc (G2 := 0) (pc' := 15) rfl rfl rfl hT107 o112 xM_48 (c48 hT107 o112 hN114) rfl (by decide) (by decide) rfl) (fun h115 x118 hT116 E117 => ?_)
  refine yT.p (pc' := 16) (lv' := xst1 _ 3 (.int x118)) rfl rfl (fun _ _ _ _ => rfl) ?_
  refine yT.iln (pc' := 17) (xg_ne xg_eq rfl) rfl rfl ?_
  refine yT.if1 (t := 40) (pc' := 20) rfl rfl rfl (c1_ne rfl) (fun c119 => ?_) (fun c119 => ?_)
  · refine yT.aan (pc' := 41) (xg_ne (xg_ne g0 rfl) rfl) rfl rfl rfl ?_
    refine yT.cgA (pc' := 44) rfl rfl hT116 o0 rfl rfl (fun q121 N123 w120 o122 hN124 => ?_)
    refine yT.iln (pc' := 45) (xg_ne (xg_ne g1 rfl) rfl) rfl rfl ?_
    refine yT.iln (pc' := 46) xg_eq rfl rfl ?_
    refine yT.iln (pc' := 47) (xg_ne xg_eq rfl) rfl rfl ?_
    refine kI (yT.cst (G2 := 0) (pc' := 50) rfl rfl xM_161 (c161 hT116 x1 x118 x109) rfl (by decide) (by decide) rfl) (fun h125 x128 hT126 E127 => ?_)
    refine kV (yT.cc (G2 := 0) (pc' := 53) rfl rfl rfl hT126 o122 xM_50 (c50 hT126 o122 hN124 x128) rfl (by decide) (by decide) rfl) (fun h129 hT130 E131 => ?_)
    exact yT.retV rfl rfl (qV hT130 trivial)
  · refine yT.iln (pc' := 21) (xg_ne (xg_ne g1 rfl) rfl) rfl rfl ?_
    refine yT.kI (pc' := 22) rfl rfl (by decide) (fun x132 e133 => ?_)
    refine yT.if2 (t := 30) (pc' := 25) rfl rfl rfl (c2_eq rfl e133) (fun c134 => ?_) (fun c134 => ?_)
    · refine yT.aan (pc' := 31) (xg_ne (xg_ne g0 rfl) rfl) rfl rfl rfl ?_
      refine yT.fl (pc' := 34) rfl rfl (fun _ _ _ _ => rfl) (fun x135 => ?_)
      refine yT.cpL (pc' := 37) rfl rfl hT116 o0 rfl rfl rfl (fun h136 hT137 w138 fv139 => ?_)
      refine yT.p (pc' := 53) rfl rfl (fun _ _ _ _ => rfl) ?_
      exact yT.retV rfl rfl (qV hT137 trivial)
    · refine yT.iln (pc' := 26) (xg_ne (xg_ne g1 rfl) rfl) rfl rfl ?_
      refine yT.kI (pc' := 27) rfl rfl (by decide) (fun x140 e141 => ?_)
      refine yT.if2 (t := 40) (pc' := 30) rfl rfl rfl (c2_ne rfl e141) (fun c142 => ?_) (fun c142 => ?_)
      · refine yT.aan (pc' := 41) (xg_ne (xg_ne g0 rfl) rfl) rfl rfl rfl ?_
        refine yT.cgA (pc' := 44) rfl rfl hT116 o0 rfl rfl (fun q144 N146 w143 o145 hN147 => ?_)
        refine yT.iln (pc' := 45) (xg_ne (xg_ne g1 rfl) rfl) rfl rfl ?_
        refine yT.iln (pc' := 46) xg_eq rfl rfl ?_
        refine yT.iln (pc' := 47) (xg_ne xg_eq rfl) rfl rfl ?_
        refine kI (yT.cst (G2 := 0) (pc' := 50) rfl rfl xM_161 (c161 hT116 x1 x118 x109) rfl (by decide) (by decide) rfl) (fun h148 x151 hT149 E150 => ?_)
        refine kV (yT.cc (G2 := 0) (pc' := 53) rfl rfl rfl hT149 o145 xM_50 (c50 hT149 o145 hN147 x151) rfl (by decide) (by decide) rfl) (fun h152 hT153 E154 => ?_)
        exact yT.retV rfl rfl (qV hT153 trivial)
      · refine yT.aan (pc' := 31) (xg_ne (xg_ne g0 rfl) rfl) rfl rfl rfl ?_
        refine yT.fl (pc' := 34) rfl rfl (fun _ _ _ _ => rfl) (fun x155 => ?_)
        refine yT.cpL (pc' := 37) rfl rfl hT116 o0 rfl rfl rfl (fun h156 hT157 w158 fv159 => ?_)
        refine yT.p (pc' := 53) rfl rfl (fun _ _ _ _ => rfl) ?_
        exact yT.retV rfl rfl (qV hT157 trivial)
-- rX2_takeStep
set_option maxRecDepth 100000 in
set_option maxHeartbeats 4000000 in
theorem c18 {ks : List cT} {σ : Nat → Nat → Int32} {ρ : Nat → xE} {h : List xE} (hT : HT ks σ ρ h) {q0 : Nat} (o0 : xnth ks q0 = some (12, 0)) (x1 : Int32) (x2 : Int32) : yM 18 (2) 0 [.ref (q0 + 1), .int x1, .int x2] h (CQ ks σ ρ (9, 0, 0) yT0) := by
  refine yM.st xM_18 rfl rfl (fun lv g => ?_)
  have g0 := g 0 _ rfl
  have g1 := g 1 _ rfl
  have g2 := g 2 _ rfl
  refine yT.iln (pc' := 1) g1 rfl rfl ?_
  by_cases c101 : x1.toInt = 9
  · refine yT.tswK 0 (t := 77) rfl rfl (by omega) rfl rfl ?_
    refine yT.aan (pc' := 78) g0 rfl rfl rfl ?_
    refine yT.cgA (pc' := 81) rfl rfl hT o0 rfl rfl (fun q103 N105 w102 o104 hN106 => ?_)
    refine yT.aan (pc' := 82) g0 rfl rfl rfl ?_
    refine yT.cgk (pc' := 85) rfl rfl w102 ?_
    refine kI (yT.cc (G2 := 0) (pc' := 88) rfl rfl rfl hT o104 xM_48 (c48 hT o104 hN106) rfl (by decide) (by decide) rfl) (fun h107 x110 hT108 E109 => ?_)
    refine yT.fi (pc' := 89) rfl rfl (fun _ _ _ _ => rfl) (fun x111 => ?_)
    refine kV (yT.cc (G2 := 0) (pc' := 92) rfl rfl rfl hT108 o104 xM_50 (c50 hT108 o104 hN106 x111) rfl (by decide) (by decide) rfl) (fun h112 hT113 E114 => ?_)
    refine yT.p (pc' := 100) rfl rfl (fun _ _ _ _ => rfl) ?_
    exact yT.retV rfl rfl (qV hT113 trivial)
  · by_cases c115 : x1.toInt = 10
    · refine yT.tswK 1 (t := 40) rfl rfl (by omega) rfl rfl ?_
      refine yT.aan (pc' := 41) g0 rfl rfl rfl ?_
      refine yT.cgA (pc' := 44) rfl rfl hT o0 rfl rfl (fun q117 N119 w116 o118 hN120 => ?_)
      refine yT.iln (pc' := 45) g2 rfl rfl ?_
      refine kV (yT.cc (G2 := 0) (pc' := 48) rfl rfl rfl hT o118 xM_50 (c50 hT o118 hN120 x2) rfl (by decide) (by decide) rfl) (fun h121 hT122 E123 => ?_)
      refine yT.p (pc' := 100) rfl rfl (fun _ _ _ _ => rfl) ?_
      exact yT.retV rfl rfl (qV hT122 trivial)
    · by_cases c124 : x1.toInt = 13
      · refine yT.tswK 4 (t := 51) rfl rfl (by omega) rfl rfl ?_
        refine yT.aan (pc' := 52) g0 rfl rfl rfl ?_
        refine yT.iln (pc' := 53) g2 rfl rfl ?_
        refine yT.cpI (pc' := 56) rfl rfl hT o0 rfl rfl rfl (fun h125 hT126 w127 fv128 => ?_)
        refine yT.p (pc' := 100) rfl rfl (fun _ _ _ _ => rfl) ?_
        exact yT.retV rfl rfl (qV hT126 trivial)
      · by_cases c129 : x1.toInt = 14
        · refine yT.tswK 5 (t := 59) rfl rfl (by omega) rfl rfl ?_
          refine yT.aan (pc' := 60) g0 rfl rfl rfl ?_
          refine yT.cgA (pc' := 63) rfl rfl hT o0 rfl rfl (fun q131 N133 w130 o132 hN134 => ?_)
          refine kI (yT.cc (G2 := 0) (pc' := 66) rfl rfl rfl hT o132 xM_48 (c48 hT o132 hN134) rfl (by decide) (by decide) rfl) (fun h135 x138 hT136 E137 => ?_)
          refine yT.if1 (t := 100) (pc' := 69) rfl rfl rfl (c1_ne rfl) (fun c139 => ?_) (fun c139 => ?_)
          · exact yT.retV rfl rfl (qV hT136 trivial)
          · refine yT.aan (pc' := 70) g0 rfl rfl rfl ?_
            refine yT.iln (pc' := 71) g2 rfl rfl ?_
            refine yT.cpI (pc' := 74) rfl rfl hT136 o0 rfl rfl rfl (fun h140 hT141 w142 fv143 => ?_)
            refine yT.p (pc' := 100) rfl rfl (fun _ _ _ _ => rfl) ?_
            exact yT.retV rfl rfl (qV hT141 trivial)
        · refine yT.tswJ (t := 95) ?_ ?_
          · intro J147
            by_cases c148 : x1.toInt = 11
            · exact yT.tswK 2 (t := 95) rfl rfl (by omega) rfl rfl J147
            by_cases c149 : x1.toInt = 12
            · exact yT.tswK 3 (t := 95) rfl rfl (by omega) rfl rfl J147
            exact yT.tswD (t := 95) rfl rfl rfl (by omega) J147
          · refine yT.aan (pc' := 96) g0 rfl rfl rfl ?_
            refine yT.iln (pc' := 97) g1 rfl rfl ?_
            refine kV (yT.cc (G2 := 0) (pc' := 100) rfl rfl rfl hT o0 xM_19 (c19 hT o0 x1) rfl (by decide) (by decide) rfl) (fun h150 hT151 E152 => ?_)
            exact yT.retV rfl rfl (qV hT151 trivial)
-- rX2_goesOn
set_option maxRecDepth 100000 in
set_option maxHeartbeats 4000000 in
theorem c15 {ks : List cT} {σ : Nat → Nat → Int32} {ρ : Nat → xE} {h : List xE} (hT : HT ks σ ρ h) {q0 : Nat} (o0 : xnth ks q0 = some (12, 0)) : yM 15 (3) 0 [.ref (q0 + 1)] h (CQ ks σ ρ (1, 0, 0) yT0) := by
  refine yM.st xM_15 rfl rfl (fun lv g => ?_)
  have g0 := g 0 _ rfl
  refine yT.kI (pc' := 1) rfl rfl (by decide) (fun x101 e102 => ?_)
  refine yT.p (pc' := 2) (lv' := xst1 _ 1 (.int x101)) rfl rfl (fun _ _ _ _ => rfl) ?_
  have L103 : ∀ (n111 : Nat) (lv104 : xLv) (h105 : List xE) (x107 : Int32), HT ks σ ρ h105 → xget lv104 0 = some (.ref (q0 + 1)) → xget lv104 1 = some (.int x107) → 0 ≤ x107.toInt → (2147483647 - x107.toInt).toNat < n111 → yT 0 [] rX2_goesOn (3) 0 2 lv104 [] h105 (CQ ks σ ρ (1, 0, 0) yT0) := by
    intro n111
    induction n111 with
    | zero => intro lv104 h105 x107 hT106 g108 g109 i110 m112; exact absurd m112 (Nat.not_lt_zero _)
    | succ n111 ih113 =>
      intro lv104 h105 x107 hT106 g108 g109 i110 m112
      refine yT.iln (pc' := 3) g109 rfl rfl ?_
      refine yT.ks (pc' := 6) rfl rfl (by decide) (fun x114 e115 => ?_)
      refine yT.if2 (t := 112) (pc' := 9) rfl rfl rfl (c2_ge rfl e115) (fun c116 => ?_) (fun c116 => ?_)
      · refine yT.kI (pc' := 113) rfl rfl (by decide) (fun x117 e118 => ?_)
        exact yT.retZ rfl rfl (b01 (by omega) (by omega)) (qZ hT106 trivial (b01 (by omega) (by omega)))
      · refine yT.aan (pc' := 10) g108 rfl rfl rfl ?_
        refine yT.cgI (pc' := 13) rfl rfl hT106 o0 rfl rfl (fun x120 w119 => ?_)
        refine yT.aan (pc' := 14) g108 rfl rfl rfl ?_
        refine yT.cgA (pc' := 17) rfl rfl hT106 o0 rfl rfl (fun q122 N124 w121 o123 hN125 => ?_)
        refine kS (yT.cc (G2 := 0) (pc' := 20) rfl rfl rfl hT106 o123 xM_44 (c44 hT106 o123 hN125) rfl (by decide) (by decide) rfl) (fun h126 x129 hT127 E128 i130 i131 => ?_)
        refine yT.if2 (t := 112) (pc' := 23) rfl rfl rfl (c2_ge rfl rfl) (fun c132 => ?_) (fun c132 => ?_)
        · refine yT.kI (pc' := 113) rfl rfl (by decide) (fun x133 e134 => ?_)
          exact yT.retZ rfl rfl (b01 (by omega) (by omega)) (qZ hT127 trivial (b01 (by omega) (by omega)))
        · refine yT.aan (pc' := 24) g108 rfl rfl rfl ?_
          refine yT.cgL (pc' := 27) rfl rfl hT127 o0 rfl rfl (fun x136 w135 => ?_)
          refine yT.fl (pc' := 28) rfl rfl (fun _ _ _ _ => rfl) (fun x137 => ?_)
          refine yT.fi (pc' := 29) rfl rfl (fun _ _ _ _ => rfl) (fun x138 => ?_)
          refine yT.if1 (t := 112) (pc' := 32) rfl rfl rfl (c1_ne rfl) (fun c139 => ?_) (fun c139 => ?_)
          · refine yT.kI (pc' := 113) rfl rfl (by decide) (fun x140 e141 => ?_)
            exact yT.retZ rfl rfl (b01 (by omega) (by omega)) (qZ hT127 trivial (b01 (by omega) (by omega)))
          · refine yT.aan (pc' := 33) g108 rfl rfl rfl ?_
            refine yT.cgA (pc' := 36) rfl rfl hT127 o0 rfl rfl (fun q143 N145 w142 o144 hN146 => ?_)
            refine yT.aan (pc' := 37) g108 rfl rfl rfl ?_
            refine yT.cgI (pc' := 40) rfl rfl hT127 o0 rfl rfl (fun x148 w147 => ?_)
            refine kI (yT.cc (G2 := 0) (pc' := 43) rfl rfl rfl hT127 o144 xM_46 (c46 hT127 o144 hN146 x148) rfl (by decide) (by decide) rfl) (fun h149 x152 hT150 E151 => ?_)
            refine yT.p (pc' := 44) (lv' := xst1 _ 2 (.int x152)) rfl rfl (fun _ _ _ _ => rfl) ?_
            refine yT.aan (pc' := 45) (xg_ne g108 rfl) rfl rfl rfl ?_
            refine yT.cgA (pc' := 48) rfl rfl hT150 o0 rfl rfl (fun q154 N156 w153 o155 hN157 => ?_)
            refine yT.aan (pc' := 49) (xg_ne g108 rfl) rfl rfl rfl ?_
            refine yT.cgI (pc' := 52) rfl rfl hT150 o0 rfl rfl (fun x159 w158 => ?_)
            refine kI (yT.cc (G2 := 0) (pc' := 55) rfl rfl rfl hT150 o155 xM_46 (c46 hT150 o155 hN157 x159) rfl (by decide) (by decide) rfl) (fun h160 x163 hT161 E162 => ?_)
            refine yT.p (pc' := 56) (lv' := xst1 _ 3 (.int x163)) rfl rfl (fun _ _ _ _ => rfl) ?_
            refine yT.aan (pc' := 57) (xg_ne (xg_ne g108 rfl) rfl) rfl rfl rfl ?_
            refine yT.p (pc' := 58) rfl rfl (fun _ _ _ _ => rfl) ?_
            refine yT.cgI (pc' := 61) rfl rfl hT161 o0 rfl rfl (fun x165 w164 => ?_)
            refine yT.kI (pc' := 62) rfl rfl (by decide) (fun x166 e167 => ?_)
            refine yT.fi (pc' := 63) rfl rfl (fun _ _ _ _ => rfl) (fun x168 => ?_)
            refine yT.cpI (pc' := 66) rfl rfl hT161 o0 rfl rfl rfl (fun h169 hT170 w171 fv172 => ?_)
            refine yT.iln (pc' := 67) (xg_ne xg_eq rfl) rfl rfl ?_
            refine yT.kb (pc' := 69) rfl rfl (by decide) (fun x173 e174 => ?_)
            refine yT.if2 (t := 78) (pc' := 72) rfl rfl rfl (c2_eq rfl e174) (fun c175 => ?_) (fun c175 => ?_)
            · refine yT.aan (pc' := 79) (xg_ne (xg_ne g108 rfl) rfl) rfl rfl rfl ?_
              refine yT.iln (pc' := 80) xg_eq rfl rfl ?_
              refine yT.cpI (pc' := 83) rfl rfl hT170 o0 rfl rfl rfl (fun h176 hT177 w178 fv179 => ?_)
              refine yT.aan (pc' := 84) (xg_ne (xg_ne g108 rfl) rfl) rfl rfl rfl ?_
              refine yT.iln (pc' := 85) (xg_ne xg_eq rfl) rfl rfl ?_
              refine yT.kb (pc' := 87) rfl rfl (by decide) (fun x180 e181 => ?_)
              refine yT.if2 (t := 94) (pc' := 90) rfl rfl rfl (c2_ne rfl e181) (fun c182 => by omega) (fun c182 => ?_)
              refine yT.kI (pc' := 91) rfl rfl (by decide) (fun x183 e184 => ?_)
              refine yT.p (pc' := 95) rfl rfl (fun _ _ _ _ => rfl) ?_
              refine yT.cpZ (pc' := 98) rfl rfl hT177 o0 rfl rfl rfl (b01 (by omega) (by omega)) (fun h185 hT186 w187 fv188 => ?_)
              refine yT.kI (pc' := 99) rfl rfl (by decide) (fun x189 e190 => ?_)
              exact yT.retZ rfl rfl (b01 (by omega) (by omega)) (qZ hT186 trivial (b01 (by omega) (by omega)))
            · refine yT.iln (pc' := 73) (xg_ne xg_eq rfl) rfl rfl ?_
              refine yT.kb (pc' := 75) rfl rfl (by decide) (fun x191 e192 => ?_)
              refine yT.if2 (t := 100) (pc' := 78) rfl rfl rfl (c2_ne rfl e192) (fun c193 => ?_) (fun c193 => ?_)
              · refine yT.aan (pc' := 101) (xg_ne (xg_ne g108 rfl) rfl) rfl rfl rfl ?_
                refine yT.iln (pc' := 102) (xg_ne xg_eq rfl) rfl rfl ?_
                refine yT.iln (pc' := 103) xg_eq rfl rfl ?_
                refine kV (yT.cc (G2 := 0) (pc' := 106) rfl rfl rfl hT170 o0 xM_18 (c18 hT170 o0 x152 x163) rfl (by decide) (by decide) rfl) (fun h194 hT195 E196 => ?_)
                refine yT.inc (pc' := 109) (xg_ne (xg_ne g109 rfl) rfl) rfl rfl rfl rfl ⟨by decide, by have := i32_rng x107; omega⟩ (fun x197 e198 => ?_)
                refine yT.p (pc' := 2) rfl rfl (fun _ _ _ _ => rfl) ?_
                exact ih113 _ _ x197 hT195 (xg_ne (xg_ne (xg_ne g108 rfl) rfl) rfl) xg_eq (by omega) (by have := i32_rng x197; omega)
              · refine yT.aan (pc' := 79) (xg_ne (xg_ne g108 rfl) rfl) rfl rfl rfl ?_
                refine yT.iln (pc' := 80) xg_eq rfl rfl ?_
                refine yT.cpI (pc' := 83) rfl rfl hT170 o0 rfl rfl rfl (fun h199 hT200 w201 fv202 => ?_)
                refine yT.aan (pc' := 84) (xg_ne (xg_ne g108 rfl) rfl) rfl rfl rfl ?_
                refine yT.iln (pc' := 85) (xg_ne xg_eq rfl) rfl rfl ?_
                refine yT.kb (pc' := 87) rfl rfl (by decide) (fun x203 e204 => ?_)
                refine yT.if2 (t := 94) (pc' := 90) rfl rfl rfl (c2_ne rfl e204) (fun c205 => ?_) (fun c205 => by omega)
                refine yT.kI (pc' := 95) rfl rfl (by decide) (fun x206 e207 => ?_)
                refine yT.cpZ (pc' := 98) rfl rfl hT200 o0 rfl rfl rfl (b01 (by omega) (by omega)) (fun h208 hT209 w210 fv211 => ?_)
                refine yT.kI (pc' := 99) rfl rfl (by decide) (fun x212 e213 => ?_)
                exact yT.retZ rfl rfl (b01 (by omega) (by omega)) (qZ hT209 trivial (b01 (by omega) (by omega)))
  exact L103 _ _ _ x101 hT (xg_ne g0 rfl) xg_eq (by omega) (Nat.lt_succ_self _)
-- rX2_asked
set_option maxRecDepth 100000 in
set_option maxHeartbeats 4000000 in
theorem c12 {ks : List cT} {σ : Nat → Nat → Int32} {ρ : Nat → xE} {h : List xE} (hT : HT ks σ ρ h) {q0 : Nat} (o0 : xnth ks q0 = some (12, 0)) : yM 12 (0) 0 [.ref (q0 + 1)] h (CQ ks σ ρ (0, 0, 0) yT0) := by
  refine yM.st xM_12 rfl rfl (fun lv g => ?_)
  have g0 := g 0 _ rfl
  refine yT.aan (pc' := 1) g0 rfl rfl rfl ?_
  refine yT.cgI (pc' := 4) rfl rfl hT o0 rfl rfl (fun x102 w101 => ?_)
  exact yT.retI rfl rfl (qI hT trivial)
-- rX1_isReadable
set_option maxRecDepth 100000 in
set_option maxHeartbeats 4000000 in
theorem c9 {ks : List cT} {σ : Nat → Nat → Int32} {ρ : Nat → xE} {h : List xE} (hT : HT ks σ ρ h) {q0 : Nat} (o0 : xnth ks q0 = some (11, 0)) : yM 9 (0) 0 [.ref (q0 + 1)] h (CQ ks σ ρ (1, 0, 0) yT0) := by
  refine yM.st xM_9 rfl rfl (fun lv g => ?_)
  have g0 := g 0 _ rfl
  refine yT.aan (pc' := 1) g0 rfl rfl rfl ?_
  refine yT.cgZ (pc' := 4) rfl rfl hT o0 rfl rfl (fun x102 w101 b103 => ?_)
  have i104 := b01i b103
  refine yT.if1 (t := 27) (pc' := 7) rfl rfl rfl (c1_ne rfl) (fun c105 => ?_) (fun c105 => ?_)
  · refine yT.kI (pc' := 28) rfl rfl (by decide) (fun x106 e107 => ?_)
    exact yT.retZ rfl rfl (b01 (by omega) (by omega)) (qZ hT trivial (b01 (by omega) (by omega)))
  · refine yT.aan (pc' := 8) g0 rfl rfl rfl ?_
    refine yT.cgI (pc' := 11) rfl rfl hT o0 rfl rfl (fun x109 w108 => ?_)
    refine yT.kI (pc' := 12) rfl rfl (by decide) (fun x110 e111 => ?_)
    refine yT.if2 (t := 23) (pc' := 15) rfl rfl rfl (c2_eq rfl e111) (fun c112 => ?_) (fun c112 => ?_)
    · refine yT.kI (pc' := 24) rfl rfl (by decide) (fun x113 e114 => ?_)
      refine yT.p (pc' := 28) rfl rfl (fun _ _ _ _ => rfl) ?_
      exact yT.retZ rfl rfl (b01 (by omega) (by omega)) (qZ hT trivial (b01 (by omega) (by omega)))
    · refine yT.aan (pc' := 16) g0 rfl rfl rfl ?_
      refine yT.cgk (pc' := 19) rfl rfl w108 ?_
      refine yT.kI (pc' := 20) rfl rfl (by decide) (fun x115 e116 => ?_)
      refine yT.if2 (t := 27) (pc' := 23) rfl rfl rfl (c2_ne rfl e116) (fun c117 => ?_) (fun c117 => ?_)
      · refine yT.kI (pc' := 28) rfl rfl (by decide) (fun x118 e119 => ?_)
        exact yT.retZ rfl rfl (b01 (by omega) (by omega)) (qZ hT trivial (b01 (by omega) (by omega)))
      · refine yT.kI (pc' := 24) rfl rfl (by decide) (fun x120 e121 => ?_)
        refine yT.p (pc' := 28) rfl rfl (fun _ _ _ _ => rfl) ?_
        exact yT.retZ rfl rfl (b01 (by omega) (by omega)) (qZ hT trivial (b01 (by omega) (by omega)))
-- rX0_outcomeRead
set_option maxRecDepth 100000 in
set_option maxHeartbeats 4000000 in
theorem c4 {ks : List cT} {σ : Nat → Nat → Int32} {ρ : Nat → xE} {h : List xE} (hT : HT ks σ ρ h) {q0 : Nat} (o0 : xnth ks q0 = some (10, 0)) (x1 : Int32) (x2 : Int32) (ix2 : 0 ≤ x2.toInt ∧ x2.toInt ≤ 24) {m : Nat} (R : ∀ {h : List xE}, HT ks σ ρ h → ∀ (x y : Int32), y.toInt = x2.toInt + 1 → yM 3 (4 * m + 16) 0 [.ref (q0 + 1), .int x, .int y] h (CQ ks σ ρ (2, 0, 0) yT0)) : yM 4 (4 * m + 17) 0 [.ref (q0 + 1), .int x1, .int x2] h (CQ ks σ ρ (2, 0, 0) yT0) := by
  refine yM.st xM_4 rfl rfl (fun lv g => ?_)
  have g0 := g 0 _ rfl
  have g1 := g 1 _ rfl
  have g2 := g 2 _ rfl
  refine yT.aan (pc' := 1) g0 rfl rfl rfl ?_
  refine yT.cgR (pc' := 4) rfl rfl hT o0 rfl rfl (fun q102 w101 o103 => ?_)
  refine yT.iln (pc' := 5) g1 rfl rfl ?_
  refine kN (yT.cc (G2 := 0) (pc' := 8) rfl rfl rfl hT o103 xM_87 (c87 hT o103 x1) rfl (by omega) (by decide) rfl) (fun h104 hT105 E106 => ?_) (fun h104 q107 hT105 E106 o108 => ?_)
  · refine yT.p (pc' := 9) (lv' := xst1 _ 3 (.null)) rfl rfl (fun _ _ _ _ => rfl) ?_
    refine yT.aan (pc' := 10) xg_eq rfl rfl rfl ?_
    refine yT.p (pc' := 31) rfl rfl (fun _ _ _ _ => rfl) ?_
    refine yT.fl (pc' := 34) rfl rfl (fun _ _ _ _ => rfl) (fun x109 => ?_)
    exact yT.retL rfl rfl (qL hT105 trivial)
  · have i110 : 0 ≤ x1.toInt ∧ x1.toInt < 24 := (show _ ∨ _ from E106).elim (fun e => by cases e) id
    refine yT.p (pc' := 9) (lv' := xst1 _ 3 (.ref (q107 + 1))) rfl rfl (fun _ _ _ _ => rfl) ?_
    refine yT.aan (pc' := 10) xg_eq rfl rfl rfl ?_
    refine yT.p (pc' := 13) rfl rfl (fun _ _ _ _ => rfl) ?_
    refine yT.aan (pc' := 14) xg_eq rfl rfl rfl ?_
    refine kZ (yT.cc (G2 := 0) (pc' := 17) rfl rfl rfl hT105 o108 xM_9 (c9 hT105 o108) rfl (by omega) (by decide) rfl) (fun h111 x114 hT112 E113 b115 => ?_)
    have i116 := b01i b115
    refine yT.if1 (t := 31) (pc' := 20) rfl rfl rfl (c1_eq rfl) (fun c117 => ?_) (fun c117 => ?_)
    · refine yT.fl (pc' := 34) rfl rfl (fun _ _ _ _ => rfl) (fun x118 => ?_)
      exact yT.retL rfl rfl (qL hT112 trivial)
    · refine yT.aan (pc' := 21) (xg_ne g0 rfl) rfl rfl rfl ?_
      refine yT.iln (pc' := 22) (xg_ne g1 rfl) rfl rfl ?_
      refine yT.iln (pc' := 23) (xg_ne g2 rfl) rfl rfl ?_
      refine yT.kI (pc' := 24) rfl rfl (by decide) (fun x119 e120 => ?_)
      refine yT.ad (pc' := 25) rfl e120 rfl rfl (by have := i32_rng x2; omega) (fun x121 e122 => ?_)
      refine kL (yT.cc (G2 := 0) (pc' := 28) rfl rfl rfl hT112 o0 xM_3 (R hT112 x1 x121 (by omega)) rfl (by omega) (by decide) rfl) (fun h123 x126 hT124 E125 => ?_)
      refine yT.p (pc' := 34) rfl rfl (fun _ _ _ _ => rfl) ?_
      exact yT.retL rfl rfl (qL hT124 trivial)
-- rX8_isFail
set_option maxRecDepth 100000 in
set_option maxHeartbeats 4000000 in
theorem c160 {ks : List cT} {σ : Nat → Nat → Int32} {ρ : Nat → xE} {h : List xE} (hT : HT ks σ ρ h) (x0 : Int64) : yM 160 (0) 0 [.long x0] h (CQ ks σ ρ (1, 0, 0) yT0) := by
  refine yM.st xM_160 rfl rfl (fun lv g => ?_)
  have g0 := g 0 _ rfl
  refine yT.lln (pc' := 1) g0 rfl rfl ?_
  refine yT.fl (pc' := 4) rfl rfl (fun _ _ _ _ => rfl) (fun x101 => ?_)
  refine yT.fi (pc' := 5) rfl rfl (fun _ _ _ _ => rfl) (fun x102 => ?_)
  refine yT.if1 (t := 12) (pc' := 8) rfl rfl rfl (c1_le rfl) (fun c103 => ?_) (fun c103 => ?_)
  · refine yT.kI (pc' := 13) rfl rfl (by decide) (fun x104 e105 => ?_)
    exact yT.retZ rfl rfl (b01 (by omega) (by omega)) (qZ hT trivial (b01 (by omega) (by omega)))
  · refine yT.kI (pc' := 9) rfl rfl (by decide) (fun x106 e107 => ?_)
    refine yT.p (pc' := 13) rfl rfl (fun _ _ _ _ => rfl) ?_
    exact yT.retZ rfl rfl (b01 (by omega) (by omega)) (qZ hT trivial (b01 (by omega) (by omega)))
-- rX2_give
set_option maxRecDepth 100000 in
set_option maxHeartbeats 4000000 in
theorem c16 {ks : List cT} {σ : Nat → Nat → Int32} {ρ : Nat → xE} {h : List xE} (hT : HT ks σ ρ h) {q0 : Nat} (o0 : xnth ks q0 = some (12, 0)) (x1 : Int64) : yM 16 (1) 0 [.ref (q0 + 1), .long x1] h (CQ ks σ ρ (9, 0, 0) yT0) := by
  refine yM.st xM_16 rfl rfl (fun lv g => ?_)
  have g0 := g 0 _ rfl
  have g1 := g 1 _ rfl
  refine yT.lln (pc' := 1) g1 rfl rfl ?_
  refine kZ (yT.cst (G2 := 0) (pc' := 4) rfl rfl xM_160 (c160 hT x1) rfl (by decide) (by decide) rfl) (fun h101 x104 hT102 E103 b105 => ?_)
  have i106 := b01i b105
  refine yT.if1 (t := 15) (pc' := 7) rfl rfl rfl (c1_eq rfl) (fun c107 => ?_) (fun c107 => ?_)
  · refine yT.aan (pc' := 16) g0 rfl rfl rfl ?_
    refine yT.cgA (pc' := 19) rfl rfl hT102 o0 rfl rfl (fun q109 N111 w108 o110 hN112 => ?_)
    refine yT.lln (pc' := 20) g1 rfl rfl ?_
    refine yT.fi (pc' := 21) rfl rfl (fun _ _ _ _ => rfl) (fun x113 => ?_)
    refine kV (yT.cc (G2 := 0) (pc' := 24) rfl rfl rfl hT102 o110 xM_50 (c50 hT102 o110 hN112 x113) rfl (by decide) (by decide) rfl) (fun h114 hT115 E116 => ?_)
    exact yT.retV rfl rfl (qV hT115 trivial)
  · refine yT.aan (pc' := 8) g0 rfl rfl rfl ?_
    refine yT.lln (pc' := 9) g1 rfl rfl ?_
    refine yT.cpL (pc' := 12) rfl rfl hT102 o0 rfl rfl rfl (fun h117 hT118 w119 fv120 => ?_)
    refine yT.p (pc' := 24) rfl rfl (fun _ _ _ _ => rfl) ?_
    exact yT.retV rfl rfl (qV hT118 trivial)
-- rX4_last
set_option maxRecDepth 100000 in
set_option maxHeartbeats 4000000 in
theorem c47 {ks : List cT} {σ : Nat → Nat → Int32} {ρ : Nat → xE} {h : List xE} (hT : HT ks σ ρ h) {q0 N : Nat} (o0 : xnth ks q0 = some (14, N)) (hN : N ≤ 750) : yM 47 (0) 0 [.ref (q0 + 1)] h (CQ ks σ ρ (0, 0, 0) yT0) := by
  refine yM.st xM_47 rfl rfl (fun lv g => ?_)
  have g0 := g 0 _ rfl
  refine yT.aan (pc' := 1) g0 rfl rfl rfl ?_
  refine yT.cgS (pc' := 4) rfl rfl hT o0 rfl rfl (fun x102 w101 i103 i104 => ?_)
  refine yT.if1 (t := 33) (pc' := 7) rfl rfl rfl (c1_le rfl) (fun c105 => ?_) (fun c105 => ?_)
  · refine yT.kI (pc' := 34) rfl rfl (by decide) (fun x106 e107 => ?_)
    exact yT.retI rfl rfl (qI hT trivial)
  · refine yT.aan (pc' := 8) g0 rfl rfl rfl ?_
    refine yT.cgk (pc' := 11) rfl rfl w101 ?_
    refine yT.aan (pc' := 12) g0 rfl rfl rfl ?_
    refine yT.cgR (pc' := 15) rfl rfl hT o0 rfl rfl (fun q109 w108 o110 => ?_)
    refine yT.cal (pc' := 16) rfl rfl hT o110 rfl (by omega) (fun x111 e112 => ?_)
    refine yT.if2 (t := 33) (pc' := 19) rfl rfl rfl (c2_gt rfl e112) (fun c113 => ?_) (fun c113 => ?_)
    · refine yT.kI (pc' := 34) rfl rfl (by decide) (fun x114 e115 => ?_)
      exact yT.retI rfl rfl (qI hT trivial)
    · refine yT.aan (pc' := 20) g0 rfl rfl rfl ?_
      refine yT.cgk (pc' := 23) rfl rfl w108 ?_
      refine yT.aan (pc' := 24) g0 rfl rfl rfl ?_
      refine yT.cgk (pc' := 27) rfl rfl w101 ?_
      refine yT.kI (pc' := 28) rfl rfl (by decide) (fun x116 e117 => ?_)
      refine yT.sb (pc' := 29) rfl e117 rfl rfl (by have := i32_rng x102; omega) (fun x118 e119 => ?_)
      refine yT.cia (pc' := 30) rfl rfl hT o110 e119 (by omega) (fun x120 => ?_)
      refine yT.p (pc' := 34) rfl rfl (fun _ _ _ _ => rfl) ?_
      exact yT.retI rfl rfl (qI hT trivial)
-- rX2_outcome
set_option maxRecDepth 100000 in
set_option maxHeartbeats 4000000 in
theorem c17 {ks : List cT} {σ : Nat → Nat → Int32} {ρ : Nat → xE} {h : List xE} (hT : HT ks σ ρ h) {q0 : Nat} (o0 : xnth ks q0 = some (12, 0)) : yM 17 (1) 0 [.ref (q0 + 1)] h (CQ ks σ ρ (2, 0, 0) yT0) := by
  refine yM.st xM_17 rfl rfl (fun lv g => ?_)
  have g0 := g 0 _ rfl
  refine yT.aan (pc' := 1) g0 rfl rfl rfl ?_
  refine yT.cgL (pc' := 4) rfl rfl hT o0 rfl rfl (fun x102 w101 => ?_)
  refine yT.fl (pc' := 5) rfl rfl (fun _ _ _ _ => rfl) (fun x103 => ?_)
  refine yT.fi (pc' := 6) rfl rfl (fun _ _ _ _ => rfl) (fun x104 => ?_)
  refine yT.if1 (t := 16) (pc' := 9) rfl rfl rfl (c1_eq rfl) (fun c105 => ?_) (fun c105 => ?_)
  · refine yT.aan (pc' := 17) g0 rfl rfl rfl ?_
    refine yT.cgA (pc' := 20) rfl rfl hT o0 rfl rfl (fun q107 N109 w106 o108 hN110 => ?_)
    refine kI (yT.cc (G2 := 0) (pc' := 23) rfl rfl rfl hT o108 xM_47 (c47 hT o108 hN110) rfl (by decide) (by decide) rfl) (fun h111 x114 hT112 E113 => ?_)
    refine yT.fl (pc' := 24) rfl rfl (fun _ _ _ _ => rfl) (fun x115 => ?_)
    exact yT.retL rfl rfl (qL hT112 trivial)
  · refine yT.aan (pc' := 10) g0 rfl rfl rfl ?_
    refine yT.cgk (pc' := 13) rfl rfl w101 ?_
    refine yT.p (pc' := 24) rfl rfl (fun _ _ _ _ => rfl) ?_
    exact yT.retL rfl rfl (qL hT trivial)
-- rX0_outcomeOfr
set_option maxRecDepth 100000 in
set_option maxHeartbeats 4000000 in
theorem c3r {ks : List cT} {σ : Nat → Nat → Int32} {ρ : Nat → xE} {h : List xE} (hT : HT ks σ ρ h) {q0 : Nat} (o0 : xnth ks q0 = some (10, 0)) (x1 : Int32) (x2 : Int32) (ix2 : 0 ≤ x2.toInt ∧ x2.toInt ≤ 25) {m : Nat} (hm : x2.toInt + (m : Int) = 25) (R : x2.toInt ≤ 24 → ∀ {h : List xE}, HT ks σ ρ h → ∀ (x y : Int32), y.toInt = x2.toInt + 1 → yM 3 (4 * m + 16) 0 [.ref (q0 + 1), .int x, .int y] h (CQ ks σ ρ (2, 0, 0) yT0)) : yM 3 (4 * m + 20) 0 [.ref (q0 + 1), .int x1, .int x2] h (CQ ks σ ρ (2, 0, 0) yT0) := by
  refine yM.st xM_3 rfl rfl (fun lv g => ?_)
  have g0 := g 0 _ rfl
  have g1 := g 1 _ rfl
  have g2 := g 2 _ rfl
  refine yT.aan (pc' := 1) g0 rfl rfl rfl ?_
  refine yT.cgR (pc' := 4) rfl rfl hT o0 rfl rfl (fun q102 w101 o103 => ?_)
  refine yT.iln (pc' := 5) g1 rfl rfl ?_
  refine kN (yT.cc (G2 := 0) (pc' := 8) rfl rfl rfl hT o103 xM_87 (c87 hT o103 x1) rfl (by omega) (by decide) rfl) (fun h104 hT105 E106 => ?_) (fun h104 q107 hT105 E106 o108 => ?_)
  · refine yT.p (pc' := 9) (lv' := xst1 _ 3 (.null)) rfl rfl (fun _ _ _ _ => rfl) ?_
    refine yT.aan (pc' := 10) xg_eq rfl rfl rfl ?_
    refine yT.p (pc' := 19) rfl rfl (fun _ _ _ _ => rfl) ?_
    refine yT.fl (pc' := 22) rfl rfl (fun _ _ _ _ => rfl) (fun x109 => ?_)
    exact yT.retL rfl rfl (qL hT105 trivial)
  · have i110 : 0 ≤ x1.toInt ∧ x1.toInt < 24 := (show _ ∨ _ from E106).elim (fun e => by cases e) id
    refine yT.p (pc' := 9) (lv' := xst1 _ 3 (.ref (q107 + 1))) rfl rfl (fun _ _ _ _ => rfl) ?_
    refine yT.aan (pc' := 10) xg_eq rfl rfl rfl ?_
    refine yT.p (pc' := 13) rfl rfl (fun _ _ _ _ => rfl) ?_
    refine yT.iln (pc' := 14) (xg_ne g2 rfl) rfl rfl ?_
    refine yT.kb (pc' := 16) rfl rfl (by decide) (fun x111 e112 => ?_)
    refine yT.if2 (t := 23) (pc' := 19) rfl rfl rfl (c2_le rfl e112) (fun c113 => ?_) (fun c113 => ?_)
    · refine yT.aan (pc' := 24) xg_eq rfl rfl rfl ?_
      refine yT.cgI (pc' := 27) rfl rfl hT105 o108 rfl rfl (fun x115 w114 => ?_)
      refine yT.kI (pc' := 28) rfl rfl (by decide) (fun x116 e117 => ?_)
      refine yT.if2 (t := 52) (pc' := 31) rfl rfl rfl (c2_ne rfl e117) (fun c118 => ?_) (fun c118 => ?_)
      · refine yT.aan (pc' := 53) xg_eq rfl rfl rfl ?_
        refine yT.cgN (pc' := 56) rfl rfl hT105 o108 rfl rfl (fun w119 => ?_) (fun q120 w119 o121 => ?_)
        · refine yT.p (pc' := 58) (lv' := xst1 _ 4 (.null)) rfl rfl (fun _ _ _ _ => rfl) ?_
          refine yT.aa_ (pc' := 60) xg_eq rfl rfl rfl ?_
          refine yT.p (pc' := 81) rfl rfl (fun _ _ _ _ => rfl) ?_
          refine yT.fl (pc' := 84) rfl rfl (fun _ _ _ _ => rfl) (fun x122 => ?_)
          exact yT.retL rfl rfl (qL hT105 trivial)
        · refine yT.p (pc' := 58) (lv' := xst1 _ 4 (.ref (q120 + 1))) rfl rfl (fun _ _ _ _ => rfl) ?_
          refine yT.aa_ (pc' := 60) xg_eq rfl rfl rfl ?_
          refine yT.p (pc' := 63) rfl rfl (fun _ _ _ _ => rfl) ?_
          refine yT.iln (pc' := 64) (xg_ne (xg_ne g1 rfl) rfl) rfl rfl ?_
          refine yT.aan (pc' := 65) (xg_ne (xg_ne g0 rfl) rfl) rfl rfl rfl ?_
          refine yT.cgR (pc' := 68) rfl rfl hT105 o0 rfl rfl (fun q124 w123 o125 => ?_)
          refine yT.cal (pc' := 69) rfl rfl hT105 o125 rfl (by omega) (fun x126 e127 => ?_)
          refine yT.if2 (t := 81) (pc' := 72) rfl rfl rfl (c2_ge rfl e127) (fun c128 => by omega) (fun c128 => ?_)
          refine yT.iln (pc' := 73) (xg_ne (xg_ne g1 rfl) rfl) rfl rfl ?_
          refine yT.aan (pc' := 74) (xg_ne (xg_ne g0 rfl) rfl) rfl rfl rfl ?_
          refine yT.cgR (pc' := 77) rfl rfl hT105 o0 rfl rfl (fun q130 w129 o131 => ?_)
          refine yT.cal (pc' := 78) rfl rfl hT105 o131 rfl (by omega) (fun x132 e133 => ?_)
          refine yT.if2 (t := 85) (pc' := 81) rfl rfl rfl (c2_lt rfl e133) (fun c134 => ?_) (fun c134 => by omega)
          refine yT.aan (pc' := 86) (xg_ne (xg_ne g0 rfl) rfl) rfl rfl rfl ?_
          refine yT.cgk (pc' := 89) rfl rfl w123 ?_
          refine yT.iln (pc' := 90) (xg_ne (xg_ne g1 rfl) rfl) rfl rfl ?_
          refine yT.cia (pc' := 91) rfl rfl hT105 o125 rfl (by omega) (fun x135 => ?_)
          refine yT.kI (pc' := 92) rfl rfl (by decide) (fun x136 e137 => ?_)
          refine yT.if2 (t := 99) (pc' := 95) rfl rfl rfl (c2_ne rfl e137) (fun c138 => ?_) (fun c138 => ?_)
          · refine yT.aan (pc' := 100) (xg_ne (xg_ne g0 rfl) rfl) rfl rfl rfl ?_
            refine yT.cgk (pc' := 103) rfl rfl w123 ?_
            refine yT.iln (pc' := 104) (xg_ne (xg_ne g1 rfl) rfl) rfl rfl ?_
            refine yT.cia (pc' := 105) rfl rfl hT105 o125 rfl (by omega) (fun x139 => ?_)
            refine yT.kI (pc' := 106) rfl rfl (by decide) (fun x140 e141 => ?_)
            refine yT.if2 (t := 116) (pc' := 109) rfl rfl rfl (c2_ne rfl e141) (fun c142 => ?_) (fun c142 => ?_)
            · refine yT.aan (pc' := 117) (xg_ne (xg_ne g0 rfl) rfl) rfl rfl rfl ?_
              refine yT.cgk (pc' := 120) rfl rfl w123 ?_
              refine yT.iln (pc' := 121) (xg_ne (xg_ne g1 rfl) rfl) rfl rfl ?_
              refine yT.kI (pc' := 122) rfl rfl (by decide) (fun x143 e144 => ?_)
              refine yT.cis (pc' := 123) rfl rfl hT105 o125 rfl (by omega) (fun h145 hT146 fv147 => ?_)
              refine yT.aa_ (pc' := 125) xg_eq rfl rfl rfl ?_
              refine kV (yT.cc (G2 := 0) (pc' := 128) rfl rfl rfl hT146 o121 xM_14 (c14 hT146 o121) rfl (by omega) (by decide) rfl) (fun h148 hT149 E150 => ?_)
              refine yT.kI (pc' := 129) rfl rfl (by decide) (fun x151 e152 => ?_)
              refine yT.p (pc' := 131) (lv' := xst1 _ 5 (.int x151)) rfl rfl (fun _ _ _ _ => rfl) ?_
              have L153 : ∀ (n164 : Nat) (lv154 : xLv) (h155 : List xE) (x157 : Int32), HT ks σ ρ h155 → xget lv154 0 = some (.ref (q0 + 1)) → xget lv154 1 = some (.int x1) → xget lv154 2 = some (.int x2) → xget lv154 4 = some (.ref (q120 + 1)) → xget lv154 5 = some (.int x157) → 0 ≤ x157.toInt → (2147483647 - x157.toInt).toNat < n164 → yT 0 [] rX0_outcomeOf (4 * m + 20) 0 131 lv154 [] h155 (CQ ks σ ρ (2, 0, 0) yT0) := by
                intro n164
                induction n164 with
                | zero => intro lv154 h155 x157 hT156 g158 g159 g160 g161 g162 i163 m165; exact absurd m165 (Nat.not_lt_zero _)
                | succ n164 ih166 =>
                  intro lv154 h155 x157 hT156 g158 g159 g160 g161 g162 i163 m165
                  refine yT.il (pc' := 133) g162 rfl rfl ?_
                  refine yT.ks (pc' := 136) rfl rfl (by decide) (fun x167 e168 => ?_)
                  have J169 : ∀ (lv170 : xLv) (h171 : List xE), HT ks σ ρ h171 → xget lv170 0 = some (.ref (q0 + 1)) → xget lv170 1 = some (.int x1) → xget lv170 4 = some (.ref (q120 + 1)) → yT 0 [] rX0_outcomeOf (4 * m + 20) 0 168 lv170 [] h171 (CQ ks σ ρ (2, 0, 0) yT0) := by
                    intro lv170 h171 hT172 g173 g174 g175
                    refine yT.aan (pc' := 169) g173 rfl rfl rfl ?_
                    refine yT.cgR (pc' := 172) rfl rfl hT172 o0 rfl rfl (fun q177 w176 o178 => ?_)
                    refine yT.iln (pc' := 173) g174 rfl rfl ?_
                    refine yT.kI (pc' := 174) rfl rfl (by decide) (fun x179 e180 => ?_)
                    refine yT.cis (pc' := 175) rfl rfl hT172 o178 rfl (by omega) (fun h181 hT182 fv183 => ?_)
                    refine yT.aan (pc' := 176) g173 rfl rfl rfl ?_
                    refine yT.cgR (pc' := 179) rfl rfl hT182 o0 rfl rfl (fun q185 w184 o186 => ?_)
                    refine yT.iln (pc' := 180) g174 rfl rfl ?_
                    refine yT.aa_ (pc' := 182) g175 rfl rfl rfl ?_
                    refine kL (yT.cc (G2 := 0) (pc' := 185) rfl rfl rfl hT182 o121 xM_17 (c17 hT182 o121) rfl (by omega) (by decide) rfl) (fun h187 x190 hT188 E189 => ?_)
                    refine yT.cls (pc' := 186) rfl rfl hT188 o186 rfl (by omega) (fun h191 hT192 fv193 => ?_)
                    refine yT.aan (pc' := 187) g173 rfl rfl rfl ?_
                    refine yT.cgR (pc' := 190) rfl rfl hT192 o0 rfl rfl (fun q195 w194 o196 => ?_)
                    refine yT.iln (pc' := 191) g174 rfl rfl ?_
                    refine yT.cla (pc' := 192) rfl rfl hT192 o196 rfl (by omega) (fun x197 => ?_)
                    exact yT.retL rfl rfl (qL hT192 trivial)
                  refine yT.if2 (t := 168) (pc' := 139) rfl rfl rfl (c2_ge rfl e168) (fun c198 => ?_) (fun c198 => ?_)
                  · exact J169 _ _ hT156 g158 g159 g161
                  · refine yT.aa_ (pc' := 141) g161 rfl rfl rfl ?_
                    refine kZ (yT.cc (G2 := 0) (pc' := 144) rfl rfl rfl hT156 o121 xM_15 (c15 hT156 o121) rfl (by omega) (by decide) rfl) (fun h199 x202 hT200 E201 b203 => ?_)
                    have i204 := b01i b203
                    refine yT.if1 (t := 168) (pc' := 147) rfl rfl rfl (c1_eq rfl) (fun c205 => ?_) (fun c205 => ?_)
                    · exact J169 _ _ hT200 g158 g159 g161
                    · refine yT.aa_ (pc' := 149) g161 rfl rfl rfl ?_
                      refine yT.aan (pc' := 150) g158 rfl rfl rfl ?_
                      refine yT.aa_ (pc' := 152) g161 rfl rfl rfl ?_
                      refine kI (yT.cc (G2 := 0) (pc' := 155) rfl rfl rfl hT200 o121 xM_12 (c12 hT200 o121) rfl (by omega) (by decide) rfl) (fun h206 x209 hT207 E208 => ?_)
                      refine yT.iln (pc' := 156) g160 rfl rfl ?_
                      refine kL (yT.cc (G2 := 0) (pc' := 159) rfl rfl rfl hT207 o0 xM_4 (c4 hT207 o0 x209 x2 (by omega) (R (by omega))) rfl (by omega) (by decide) rfl) (fun h210 x213 hT211 E212 => ?_)
                      refine kV (yT.cc (G2 := 0) (pc' := 162) rfl rfl rfl hT211 o121 xM_16 (c16 hT211 o121 x213) rfl (by omega) (by decide) rfl) (fun h214 hT215 E216 => ?_)
                      refine yT.inc (pc' := 165) g162 rfl rfl rfl rfl ⟨by decide, by have := i32_rng x157; omega⟩ (fun x217 e218 => ?_)
                      refine yT.p (pc' := 131) rfl rfl (fun _ _ _ _ => rfl) ?_
                      exact ih166 _ _ x217 hT215 (xg_ne g158 rfl) (xg_ne g159 rfl) (xg_ne g160 rfl) (xg_ne g161 rfl) xg_eq (by omega) (by have := i32_rng x217; omega)
              exact L153 _ _ _ x151 hT149 (xg_ne (xg_ne (xg_ne g0 rfl) rfl) rfl) (xg_ne (xg_ne (xg_ne g1 rfl) rfl) rfl) (xg_ne (xg_ne (xg_ne g2 rfl) rfl) rfl) (xg_ne xg_eq rfl) xg_eq (by omega) (Nat.lt_succ_self _)
            · refine yT.aan (pc' := 110) (xg_ne (xg_ne g0 rfl) rfl) rfl rfl rfl ?_
              refine yT.cgk (pc' := 113) rfl rfl w129 ?_
              refine yT.iln (pc' := 114) (xg_ne (xg_ne g1 rfl) rfl) rfl rfl ?_
              refine yT.cla (pc' := 115) rfl rfl hT105 o131 rfl (by omega) (fun x219 => ?_)
              exact yT.retL rfl rfl (qL hT105 trivial)
          · refine yT.fl (pc' := 98) rfl rfl (fun _ _ _ _ => rfl) (fun x220 => ?_)
            exact yT.retL rfl rfl (qL hT105 trivial)
      · refine yT.iln (pc' := 32) (xg_ne g1 rfl) rfl rfl ?_
        refine yT.aan (pc' := 33) (xg_ne g0 rfl) rfl rfl rfl ?_
        refine yT.cgI (pc' := 36) rfl rfl hT105 o0 rfl rfl (fun x222 w221 => ?_)
        refine yT.if2 (t := 47) (pc' := 39) rfl rfl rfl (c2_ne rfl rfl) (fun c223 => ?_) (fun c223 => ?_)
        · refine yT.aan (pc' := 48) xg_eq rfl rfl rfl ?_
          refine yT.cgL (pc' := 51) rfl rfl hT105 o108 rfl rfl (fun x225 w224 => ?_)
          exact yT.retL rfl rfl (qL hT105 trivial)
        · refine yT.aan (pc' := 40) (xg_ne g0 rfl) rfl rfl rfl ?_
          refine yT.cgI (pc' := 43) rfl rfl hT105 o0 rfl rfl (fun x227 w226 => ?_)
          refine yT.fl (pc' := 44) rfl rfl (fun _ _ _ _ => rfl) (fun x228 => ?_)
          refine yT.p (pc' := 51) rfl rfl (fun _ _ _ _ => rfl) ?_
          exact yT.retL rfl rfl (qL hT105 trivial)
    · refine yT.fl (pc' := 22) rfl rfl (fun _ _ _ _ => rfl) (fun x229 => ?_)
      exact yT.retL rfl rfl (qL hT105 trivial)
-- rX0_outcomeOf
set_option maxRecDepth 100000 in
set_option maxHeartbeats 4000000 in
theorem c3 {ks : List cT} {σ : Nat → Nat → Int32} {ρ : Nat → xE} {q0 : Nat} (o0 : xnth ks q0 = some (10, 0)) : ∀ (m : Nat) {h : List xE}, HT ks σ ρ h → ∀ (x y : Int32), (0 ≤ y.toInt ∧ y.toInt + (m : Int) = 25) → yM 3 (4 * m + 20) 0 [.ref (q0 + 1), .int x, .int y] h (CQ ks σ ρ (2, 0, 0) yT0)
  | 0, h, hT, x, y, hy => c3r hT o0 x y (by omega) (m := 0) (by omega) (fun h => absurd h (by omega))
  | m + 1, h, hT, x, y, hy => c3r hT o0 x y (by omega) (m := m + 1) (by omega) (fun _ h' hT' x' y' e => by
    have k := c3 o0 m hT' x' y' (by omega)
    rw [show 4 * (m + 1) + 16 = 4 * m + 20 by omega]
    exact k)
set_option maxRecDepth 100000 in
set_option maxHeartbeats 4000000 in
theorem c3z {ks : List cT} {σ : Nat → Nat → Int32} {ρ : Nat → xE} {h : List xE} (hT : HT ks σ ρ h) {q0 : Nat} (o0 : xnth ks q0 = some (10, 0)) (x1 x2 : Int32) (e : x2.toInt = 0) : yM 3 120 0 [.ref (q0 + 1), .int x1, .int x2] h (CQ ks σ ρ (2, 0, 0) yT0) := c3 o0 25 hT x1 x2 (by omega)
-- rX0_outcomeIf
set_option maxRecDepth 100000 in
set_option maxHeartbeats 4000000 in
theorem c2 {ks : List cT} {σ : Nat → Nat → Int32} {ρ : Nat → xE} {h : List xE} (hT : HT ks σ ρ h) {q0 : Nat} (o0 : xnth ks q0 = some (10, 0)) (x1 : Int32) (x2 : Int32) (x3 : Int32) : yM 2 (121) 0 [.ref (q0 + 1), .int x1, .int x2, .int x3] h (CQ ks σ ρ (2, 0, 0) yT0) := by
  refine yM.st xM_2 rfl rfl (fun lv g => ?_)
  have g0 := g 0 _ rfl
  have g1 := g 1 _ rfl
  have g2 := g 2 _ rfl
  have g3 := g 3 _ rfl
  refine yT.aan (pc' := 1) g0 rfl rfl rfl ?_
  refine yT.iln (pc' := 2) g1 rfl rfl ?_
  refine yT.cpI (pc' := 5) rfl rfl hT o0 rfl rfl rfl (fun h101 hT102 w103 fv104 => ?_)
  refine yT.aan (pc' := 6) g0 rfl rfl rfl ?_
  refine yT.iln (pc' := 7) g2 rfl rfl ?_
  refine yT.cpI (pc' := 10) rfl rfl hT102 o0 rfl rfl rfl (fun h105 hT106 w107 fv108 => ?_)
  refine yT.kI (pc' := 11) rfl rfl (by decide) (fun x109 e110 => ?_)
  refine yT.p (pc' := 13) (lv' := xst1 _ 4 (.int x109)) rfl rfl (fun _ _ _ _ => rfl) ?_
  have L111 : ∀ (n120 : Nat) (lv112 : xLv) (h113 : List xE) (x115 : Int32), HT ks σ ρ h113 → xget lv112 0 = some (.ref (q0 + 1)) → xget lv112 3 = some (.int x3) → xget lv112 4 = some (.int x115) → 0 ≤ x115.toInt → (2147483647 - x115.toInt).toNat < n120 → yT 0 [] rX0_outcomeIf (121) 0 13 lv112 [] h113 (CQ ks σ ρ (2, 0, 0) yT0) := by
    intro n120
    induction n120 with
    | zero => intro lv112 h113 x115 hT114 g116 g117 g118 i119 m121; exact absurd m121 (Nat.not_lt_zero _)
    | succ n120 ih122 =>
      intro lv112 h113 x115 hT114 g116 g117 g118 i119 m121
      refine yT.il (pc' := 15) g118 rfl rfl ?_
      refine yT.aan (pc' := 16) g116 rfl rfl rfl ?_
      refine yT.cgR (pc' := 19) rfl rfl hT114 o0 rfl rfl (fun q124 w123 o125 => ?_)
      refine yT.cal (pc' := 20) rfl rfl hT114 o125 rfl (by omega) (fun x126 e127 => ?_)
      refine yT.if2 (t := 37) (pc' := 23) rfl rfl rfl (c2_ge rfl e127) (fun c128 => ?_) (fun c128 => ?_)
      · refine yT.aan (pc' := 38) g116 rfl rfl rfl ?_
        refine yT.iln (pc' := 39) g117 rfl rfl ?_
        refine yT.kI (pc' := 40) rfl rfl (by decide) (fun x129 e130 => ?_)
        refine kL (yT.cc (G2 := 0) (pc' := 43) rfl rfl rfl hT114 o0 xM_3 (c3z hT114 o0 x3 x129 (by omega)) rfl (by decide) (by decide) rfl) (fun h131 x134 hT132 E133 => ?_)
        exact yT.retL rfl rfl (qL hT132 trivial)
      · refine yT.aan (pc' := 24) g116 rfl rfl rfl ?_
        refine yT.cgk (pc' := 27) rfl rfl w123 ?_
        refine yT.il (pc' := 29) g118 rfl rfl ?_
        refine yT.kI (pc' := 30) rfl rfl (by decide) (fun x135 e136 => ?_)
        refine yT.cis (pc' := 31) rfl rfl hT114 o125 rfl (by omega) (fun h137 hT138 fv139 => ?_)
        refine yT.inc (pc' := 34) g118 rfl rfl rfl rfl ⟨by decide, by have := i32_rng x115; omega⟩ (fun x140 e141 => ?_)
        refine yT.p (pc' := 13) rfl rfl (fun _ _ _ _ => rfl) ?_
        exact ih122 _ _ x140 hT138 (xg_ne g116 rfl) (xg_ne g117 rfl) xg_eq (by omega) (by have := i32_rng x140; omega)
  exact L111 _ _ _ x109 hT106 (xg_ne g0 rfl) (xg_ne g3 rfl) xg_eq (by omega) (Nat.lt_succ_self _)
-- rX0_outcomeNow
set_option maxRecDepth 100000 in
set_option maxHeartbeats 4000000 in
theorem c1 {ks : List cT} {σ : Nat → Nat → Int32} {ρ : Nat → xE} {h : List xE} (hT : HT ks σ ρ h) {q0 : Nat} (o0 : xnth ks q0 = some (10, 0)) (x1 : Int32) : yM 1 (122) 0 [.ref (q0 + 1), .int x1] h (CQ ks σ ρ (2, 0, 0) yT0) := by
  refine yM.st xM_1 rfl rfl (fun lv g => ?_)
  have g0 := g 0 _ rfl
  have g1 := g 1 _ rfl
  refine yT.aan (pc' := 1) g0 rfl rfl rfl ?_
  refine yT.kI (pc' := 2) rfl rfl (by decide) (fun x101 e102 => ?_)
  refine yT.kI (pc' := 3) rfl rfl (by decide) (fun x103 e104 => ?_)
  refine yT.iln (pc' := 4) g1 rfl rfl ?_
  refine kL (yT.cc (G2 := 0) (pc' := 7) rfl rfl rfl hT o0 xM_2 (c2 hT o0 x101 x103 x1) rfl (by decide) (by decide) rfl) (fun h105 x108 hT106 E107 => ?_)
  exact yT.retL rfl rfl (qL hT106 trivial)
-- rX1_become
set_option maxRecDepth 100000 in
set_option maxHeartbeats 4000000 in
theorem c6 {ks : List cT} {σ : Nat → Nat → Int32} {ρ : Nat → xE} {h : List xE} (hT : HT ks σ ρ h) {q0 : Nat} (o0 : xnth ks q0 = some (11, 0)) (x1 : Int32) (x2 : Int32) (x3 : Int64) {v5 : Value} (o5 : v5 = .null ∨ ∃ p, v5 = .ref (p + 1) ∧ xnth ks p = some (12, 0)) : yM 6 (1) 0 [.ref (q0 + 1), .int x1, .int x2, .long x3, v5] h (CQ ks σ ρ (9, 0, 0) yT0) := by
  rcases o5 with rfl | ⟨q5, rfl, o5⟩
  · refine yM.st xM_6 rfl rfl (fun lv g => ?_)
    have g0 := g 0 _ rfl
    have g1 := g 1 _ rfl
    have g2 := g 2 _ rfl
    have g3 := g 3 _ rfl
    have g5 := g 5 _ rfl
    refine yT.aan (pc' := 1) g0 rfl rfl rfl ?_
    refine yT.iln (pc' := 2) g1 rfl rfl ?_
    refine yT.cpI (pc' := 5) rfl rfl hT o0 rfl rfl rfl (fun h101 hT102 w103 fv104 => ?_)
    refine yT.aan (pc' := 6) g0 rfl rfl rfl ?_
    refine yT.iln (pc' := 7) g2 rfl rfl ?_
    refine yT.cpI (pc' := 10) rfl rfl hT102 o0 rfl rfl rfl (fun h105 hT106 w107 fv108 => ?_)
    refine yT.aan (pc' := 11) g0 rfl rfl rfl ?_
    refine yT.kI (pc' := 12) rfl rfl (by decide) (fun x109 e110 => ?_)
    refine yT.cpZ (pc' := 15) rfl rfl hT106 o0 rfl rfl rfl (b01 (by omega) (by omega)) (fun h111 hT112 w113 fv114 => ?_)
    refine yT.aan (pc' := 16) g0 rfl rfl rfl ?_
    refine yT.kI (pc' := 17) rfl rfl (by decide) (fun x115 e116 => ?_)
    refine yT.cpZ (pc' := 20) rfl rfl hT112 o0 rfl rfl rfl (b01 (by omega) (by omega)) (fun h117 hT118 w119 fv120 => ?_)
    refine yT.aan (pc' := 21) g0 rfl rfl rfl ?_
    refine yT.aa_ (pc' := 23) g5 rfl rfl rfl ?_
    refine yT.p (pc' := 26) rfl rfl (fun _ _ _ _ => rfl) ?_
    refine yT.kI (pc' := 27) rfl rfl (by decide) (fun x121 e122 => ?_)
    refine yT.p (pc' := 31) rfl rfl (fun _ _ _ _ => rfl) ?_
    refine yT.cpI (pc' := 34) rfl rfl hT118 o0 rfl rfl rfl (fun h123 hT124 w125 fv126 => ?_)
    refine yT.aan (pc' := 35) g0 rfl rfl rfl ?_
    refine yT.fl (pc' := 36) rfl rfl (fun _ _ _ _ => rfl) (fun x127 => ?_)
    refine yT.cpL (pc' := 39) rfl rfl hT124 o0 rfl rfl rfl (fun h128 hT129 w130 fv131 => ?_)
    refine yT.aan (pc' := 40) g0 rfl rfl rfl ?_
    refine yT.kI (pc' := 41) rfl rfl (by decide) (fun x132 e133 => ?_)
    refine yT.cpI (pc' := 44) rfl rfl hT129 o0 rfl rfl rfl (fun h134 hT135 w136 fv137 => ?_)
    refine yT.aan (pc' := 45) g0 rfl rfl rfl ?_
    refine yT.lln (pc' := 46) g3 rfl rfl ?_
    refine yT.cpL (pc' := 49) rfl rfl hT135 o0 rfl rfl rfl (fun h138 hT139 w140 fv141 => ?_)
    refine yT.aan (pc' := 50) g0 rfl rfl rfl ?_
    refine yT.aa_ (pc' := 52) g5 rfl rfl rfl ?_
    refine yT.cpN (pc' := 55) rfl rfl hT139 o0 rfl rfl rfl (Or.inl rfl) rfl (fun h142 hT143 w144 fv145 => ?_)
    refine yT.aan (pc' := 56) g0 rfl rfl rfl ?_
    refine yT.cgR (pc' := 59) rfl rfl hT143 o0 rfl rfl (fun q147 w146 o148 => ?_)
    refine kV (yT.cc (G2 := 0) (pc' := 62) rfl rfl rfl hT143 o148 xM_55 (c55 hT143 o148 (by decide)) rfl (by decide) (by decide) rfl) (fun h149 hT150 E151 => ?_)
    obtain ⟨x152, e153, w154⟩ := E151
    exact yT.retV rfl rfl (qV hT150 trivial)
  · refine yM.st xM_6 rfl rfl (fun lv g => ?_)
    have g0 := g 0 _ rfl
    have g1 := g 1 _ rfl
    have g2 := g 2 _ rfl
    have g3 := g 3 _ rfl
    have g5 := g 5 _ rfl
    refine yT.aan (pc' := 1) g0 rfl rfl rfl ?_
    refine yT.iln (pc' := 2) g1 rfl rfl ?_
    refine yT.cpI (pc' := 5) rfl rfl hT o0 rfl rfl rfl (fun h155 hT156 w157 fv158 => ?_)
    refine yT.aan (pc' := 6) g0 rfl rfl rfl ?_
    refine yT.iln (pc' := 7) g2 rfl rfl ?_
    refine yT.cpI (pc' := 10) rfl rfl hT156 o0 rfl rfl rfl (fun h159 hT160 w161 fv162 => ?_)
    refine yT.aan (pc' := 11) g0 rfl rfl rfl ?_
    refine yT.kI (pc' := 12) rfl rfl (by decide) (fun x163 e164 => ?_)
    refine yT.cpZ (pc' := 15) rfl rfl hT160 o0 rfl rfl rfl (b01 (by omega) (by omega)) (fun h165 hT166 w167 fv168 => ?_)
    refine yT.aan (pc' := 16) g0 rfl rfl rfl ?_
    refine yT.kI (pc' := 17) rfl rfl (by decide) (fun x169 e170 => ?_)
    refine yT.cpZ (pc' := 20) rfl rfl hT166 o0 rfl rfl rfl (b01 (by omega) (by omega)) (fun h171 hT172 w173 fv174 => ?_)
    refine yT.aan (pc' := 21) g0 rfl rfl rfl ?_
    refine yT.aa_ (pc' := 23) g5 rfl rfl rfl ?_
    refine yT.p (pc' := 30) rfl rfl (fun _ _ _ _ => rfl) ?_
    refine yT.kI (pc' := 31) rfl rfl (by decide) (fun x175 e176 => ?_)
    refine yT.cpI (pc' := 34) rfl rfl hT172 o0 rfl rfl rfl (fun h177 hT178 w179 fv180 => ?_)
    refine yT.aan (pc' := 35) g0 rfl rfl rfl ?_
    refine yT.fl (pc' := 36) rfl rfl (fun _ _ _ _ => rfl) (fun x181 => ?_)
    refine yT.cpL (pc' := 39) rfl rfl hT178 o0 rfl rfl rfl (fun h182 hT183 w184 fv185 => ?_)
    refine yT.aan (pc' := 40) g0 rfl rfl rfl ?_
    refine yT.kI (pc' := 41) rfl rfl (by decide) (fun x186 e187 => ?_)
    refine yT.cpI (pc' := 44) rfl rfl hT183 o0 rfl rfl rfl (fun h188 hT189 w190 fv191 => ?_)
    refine yT.aan (pc' := 45) g0 rfl rfl rfl ?_
    refine yT.lln (pc' := 46) g3 rfl rfl ?_
    refine yT.cpL (pc' := 49) rfl rfl hT189 o0 rfl rfl rfl (fun h192 hT193 w194 fv195 => ?_)
    refine yT.aan (pc' := 50) g0 rfl rfl rfl ?_
    refine yT.aa_ (pc' := 52) g5 rfl rfl rfl ?_
    refine yT.cpN (pc' := 55) rfl rfl hT193 o0 rfl rfl rfl (Or.inr ⟨_, rfl, o5⟩) rfl (fun h196 hT197 w198 fv199 => ?_)
    refine yT.aan (pc' := 56) g0 rfl rfl rfl ?_
    refine yT.cgR (pc' := 59) rfl rfl hT197 o0 rfl rfl (fun q201 w200 o202 => ?_)
    refine kV (yT.cc (G2 := 0) (pc' := 62) rfl rfl rfl hT197 o202 xM_55 (c55 hT197 o202 (by decide)) rfl (by decide) (by decide) rfl) (fun h203 hT204 E205 => ?_)
    obtain ⟨x206, e207, w208⟩ := E205
    exact yT.retV rfl rfl (qV hT204 trivial)
-- rX4_takeFrom
set_option maxRecDepth 100000 in
set_option maxHeartbeats 4000000 in
theorem c56 {ks : List cT} {σ : Nat → Nat → Int32} {ρ : Nat → xE} {h : List xE} (hT : HT ks σ ρ h) {q0 N : Nat} (o0 : xnth ks q0 = some (14, N)) (hN : N ≤ 750) {q1 N1 : Nat} (o1 : xnth ks q1 = some (14, N1)) (hN1 : N1 ≤ 750) : yM 56 (1) 0 [.ref (q0 + 1), .ref (q1 + 1)] h (CQ ks σ ρ (9, 0, 0) yT0) := by
  refine yM.st xM_56 rfl rfl (fun lv g => ?_)
  have g0 := g 0 _ rfl
  have g1 := g 1 _ rfl
  refine yT.aan (pc' := 1) g0 rfl rfl rfl ?_
  refine kV (yT.cc (G2 := 0) (pc' := 4) rfl rfl rfl hT o0 xM_55 (c55 hT o0 hN) rfl (by decide) (by decide) rfl) (fun h101 hT102 E103 => ?_)
  obtain ⟨x104, e105, w106⟩ := E103
  refine yT.kI (pc' := 5) rfl rfl (by decide) (fun x107 e108 => ?_)
  refine yT.p (pc' := 6) (lv' := xst1 _ 2 (.int x107)) rfl rfl (fun _ _ _ _ => rfl) ?_
  have L109 : ∀ (n119 : Nat) (lv110 : xLv) (h111 : List xE) (x113 : Int32), HT ks σ ρ h111 → xget lv110 0 = some (.ref (q0 + 1)) → xget lv110 1 = some (.ref (q1 + 1)) → xget lv110 2 = some (.int x113) → 0 ≤ x113.toInt → FV h111 q0 4 1 (.int x113) → (2147483647 - x113.toInt).toNat < n119 → yT 0 [] rX4_takeFrom (1) 0 6 lv110 [] h111 (CQ ks σ ρ (9, 0, 0) yT0) := by
    intro n119
    induction n119 with
    | zero => intro lv110 h111 x113 hT112 g114 g115 g116 i117 w118 m120; exact absurd m120 (Nat.not_lt_zero _)
    | succ n119 ih121 =>
      intro lv110 h111 x113 hT112 g114 g115 g116 i117 w118 m120
      refine yT.iln (pc' := 7) g116 rfl rfl ?_
      refine yT.aan (pc' := 8) g115 rfl rfl rfl ?_
      refine yT.cgS (pc' := 11) rfl rfl hT112 o1 rfl rfl (fun x123 w122 i124 i125 => ?_)
      refine yT.if2 (t := 60) (pc' := 14) rfl rfl rfl (c2_ge rfl rfl) (fun c126 => ?_) (fun c126 => ?_)
      · refine yT.aan (pc' := 61) g114 rfl rfl rfl ?_
        refine yT.aan (pc' := 62) g115 rfl rfl rfl ?_
        refine yT.cgI (pc' := 65) rfl rfl hT112 o1 rfl rfl (fun x128 w127 => ?_)
        refine yT.cpI (pc' := 68) rfl rfl hT112 o0 rfl rfl rfl (fun h129 hT130 w131 fv132 => ?_)
        exact yT.retV rfl rfl (qV hT130 trivial)
      · refine yT.iln (pc' := 15) g116 rfl rfl ?_
        refine yT.aan (pc' := 16) g115 rfl rfl rfl ?_
        refine yT.cgR (pc' := 19) rfl rfl hT112 o1 rfl rfl (fun q134 w133 o135 => ?_)
        refine yT.cal (pc' := 20) rfl rfl hT112 o135 rfl (by omega) (fun x136 e137 => ?_)
        refine yT.if2 (t := 60) (pc' := 23) rfl rfl rfl (c2_ge rfl e137) (fun c138 => ?_) (fun c138 => ?_)
        · refine yT.aan (pc' := 61) g114 rfl rfl rfl ?_
          refine yT.aan (pc' := 62) g115 rfl rfl rfl ?_
          refine yT.cgI (pc' := 65) rfl rfl hT112 o1 rfl rfl (fun x140 w139 => ?_)
          refine yT.cpI (pc' := 68) rfl rfl hT112 o0 rfl rfl rfl (fun h141 hT142 w143 fv144 => ?_)
          exact yT.retV rfl rfl (qV hT142 trivial)
        · refine yT.iln (pc' := 24) g116 rfl rfl ?_
          refine yT.aan (pc' := 25) g114 rfl rfl rfl ?_
          refine yT.cgR (pc' := 28) rfl rfl hT112 o0 rfl rfl (fun q146 w145 o147 => ?_)
          refine yT.cal (pc' := 29) rfl rfl hT112 o147 rfl (by omega) (fun x148 e149 => ?_)
          refine yT.if2 (t := 60) (pc' := 32) rfl rfl rfl (c2_ge rfl e149) (fun c150 => ?_) (fun c150 => ?_)
          · refine yT.aan (pc' := 61) g114 rfl rfl rfl ?_
            refine yT.aan (pc' := 62) g115 rfl rfl rfl ?_
            refine yT.cgI (pc' := 65) rfl rfl hT112 o1 rfl rfl (fun x152 w151 => ?_)
            refine yT.cpI (pc' := 68) rfl rfl hT112 o0 rfl rfl rfl (fun h153 hT154 w155 fv156 => ?_)
            exact yT.retV rfl rfl (qV hT154 trivial)
          · refine yT.aan (pc' := 33) g114 rfl rfl rfl ?_
            refine yT.cgk (pc' := 36) rfl rfl w145 ?_
            refine yT.iln (pc' := 37) g116 rfl rfl ?_
            refine yT.aan (pc' := 38) g115 rfl rfl rfl ?_
            refine yT.cgk (pc' := 41) rfl rfl w133 ?_
            refine yT.iln (pc' := 42) g116 rfl rfl ?_
            refine yT.cia (pc' := 43) rfl rfl hT112 o135 rfl (by omega) (fun x157 => ?_)
            refine yT.cis (pc' := 44) rfl rfl hT112 o147 rfl (by omega) (fun h158 hT159 fv160 => ?_)
            refine yT.aan (pc' := 45) g114 rfl rfl rfl ?_
            refine yT.p (pc' := 46) rfl rfl (fun _ _ _ _ => rfl) ?_
            refine yT.cgk (pc' := 49) rfl rfl (fv160 _ _ _ _ w118) ?_
            refine yT.kI (pc' := 50) rfl rfl (by decide) (fun x161 e162 => ?_)
            refine yT.ad (pc' := 51) rfl e162 rfl rfl (by have := i32_rng x113; have := i32_rng x123; omega) (fun x163 e164 => ?_)
            refine yT.cpS (pc' := 54) rfl rfl hT159 o0 rfl rfl rfl e164 (by omega) (fun h165 hT166 w167 fv168 => ?_)
            refine yT.inc (pc' := 57) g116 rfl rfl rfl rfl ⟨by decide, by have := i32_rng x113; have := i32_rng x123; omega⟩ (fun x169 e170 => ?_)
            refine yT.p (pc' := 6) rfl rfl (fun _ _ _ _ => rfl) ?_
            exact ih121 _ _ x169 hT166 (xg_ne g114 rfl) (xg_ne g115 rfl) xg_eq (by omega) (by have e := Int32.toInt_inj.mp (show x163.toInt = x169.toInt by omega); rw [← e]; exact w167) (by have := i32_rng x169; omega)
  exact L109 _ _ _ x107 hT102 (xg_ne g0 rfl) (xg_ne g1 rfl) xg_eq (by omega) (by have e := Int32.toInt_inj.mp (show x104.toInt = x107.toInt by omega); rw [← e]; exact w106) (Nat.lt_succ_self _)
-- rX1_takeFrom
set_option maxRecDepth 100000 in
set_option maxHeartbeats 4000000 in
theorem c7 {ks : List cT} {σ : Nat → Nat → Int32} {ρ : Nat → xE} {h : List xE} (hT : HT ks σ ρ h) {q0 : Nat} (o0 : xnth ks q0 = some (11, 0)) {q1 : Nat} (o1 : xnth ks q1 = some (11, 0)) : yM 7 (2) 0 [.ref (q0 + 1), .ref (q1 + 1)] h (CQ ks σ ρ (9, 0, 0) yT0) := by
  refine yM.st xM_7 rfl rfl (fun lv g => ?_)
  have g0 := g 0 _ rfl
  have g1 := g 1 _ rfl
  refine yT.aan (pc' := 1) g0 rfl rfl rfl ?_
  refine yT.aan (pc' := 2) g1 rfl rfl rfl ?_
  refine yT.cgI (pc' := 5) rfl rfl hT o1 rfl rfl (fun x102 w101 => ?_)
  refine yT.cpI (pc' := 8) rfl rfl hT o0 rfl rfl rfl (fun h103 hT104 w105 fv106 => ?_)
  refine yT.aan (pc' := 9) g0 rfl rfl rfl ?_
  refine yT.aan (pc' := 10) g1 rfl rfl rfl ?_
  refine yT.cgI (pc' := 13) rfl rfl hT104 o1 rfl rfl (fun x108 w107 => ?_)
  refine yT.cpI (pc' := 16) rfl rfl hT104 o0 rfl rfl rfl (fun h109 hT110 w111 fv112 => ?_)
  refine yT.aan (pc' := 17) g0 rfl rfl rfl ?_
  refine yT.aan (pc' := 18) g1 rfl rfl rfl ?_
  refine yT.cgZ (pc' := 21) rfl rfl hT110 o1 rfl rfl (fun x114 w113 b115 => ?_)
  have i116 := b01i b115
  refine yT.cpZ (pc' := 24) rfl rfl hT110 o0 rfl rfl rfl b115 (fun h117 hT118 w119 fv120 => ?_)
  refine yT.aan (pc' := 25) g0 rfl rfl rfl ?_
  refine yT.kI (pc' := 26) rfl rfl (by decide) (fun x121 e122 => ?_)
  refine yT.cpZ (pc' := 29) rfl rfl hT118 o0 rfl rfl rfl (b01 (by omega) (by omega)) (fun h123 hT124 w125 fv126 => ?_)
  refine yT.aan (pc' := 30) g0 rfl rfl rfl ?_
  refine yT.aan (pc' := 31) g1 rfl rfl rfl ?_
  refine yT.cgI (pc' := 34) rfl rfl hT124 o1 rfl rfl (fun x128 w127 => ?_)
  refine yT.cpI (pc' := 37) rfl rfl hT124 o0 rfl rfl rfl (fun h129 hT130 w131 fv132 => ?_)
  refine yT.aan (pc' := 38) g0 rfl rfl rfl ?_
  refine yT.aan (pc' := 39) g1 rfl rfl rfl ?_
  refine yT.cgL (pc' := 42) rfl rfl hT130 o1 rfl rfl (fun x134 w133 => ?_)
  refine yT.cpL (pc' := 45) rfl rfl hT130 o0 rfl rfl rfl (fun h135 hT136 w137 fv138 => ?_)
  refine yT.aan (pc' := 46) g0 rfl rfl rfl ?_
  refine yT.aan (pc' := 47) g1 rfl rfl rfl ?_
  refine yT.cgI (pc' := 50) rfl rfl hT136 o1 rfl rfl (fun x140 w139 => ?_)
  refine yT.cpI (pc' := 53) rfl rfl hT136 o0 rfl rfl rfl (fun h141 hT142 w143 fv144 => ?_)
  refine yT.aan (pc' := 54) g0 rfl rfl rfl ?_
  refine yT.aan (pc' := 55) g1 rfl rfl rfl ?_
  refine yT.cgL (pc' := 58) rfl rfl hT142 o1 rfl rfl (fun x146 w145 => ?_)
  refine yT.cpL (pc' := 61) rfl rfl hT142 o0 rfl rfl rfl (fun h147 hT148 w149 fv150 => ?_)
  refine yT.aan (pc' := 62) g0 rfl rfl rfl ?_
  refine yT.aan (pc' := 63) g1 rfl rfl rfl ?_
  refine yT.cgN (pc' := 66) rfl rfl hT148 o1 rfl rfl (fun w151 => ?_) (fun q152 w151 o153 => ?_)
  · refine yT.cpN (pc' := 69) rfl rfl hT148 o0 rfl rfl rfl (Or.inl rfl) rfl (fun h154 hT155 w156 fv157 => ?_)
    refine yT.aan (pc' := 70) g0 rfl rfl rfl ?_
    refine yT.cgR (pc' := 73) rfl rfl hT155 o0 rfl rfl (fun q159 w158 o160 => ?_)
    refine yT.aan (pc' := 74) g1 rfl rfl rfl ?_
    refine yT.cgR (pc' := 77) rfl rfl hT155 o1 rfl rfl (fun q162 w161 o163 => ?_)
    refine kV (yT.cc (G2 := 0) (pc' := 80) rfl rfl rfl hT155 o160 xM_56 (c56 hT155 o160 (by decide) o163 (by decide)) rfl (by decide) (by decide) rfl) (fun h164 hT165 E166 => ?_)
    exact yT.retV rfl rfl (qV hT165 trivial)
  · refine yT.cpN (pc' := 69) rfl rfl hT148 o0 rfl rfl rfl (Or.inr ⟨_, rfl, o153⟩) rfl (fun h167 hT168 w169 fv170 => ?_)
    refine yT.aan (pc' := 70) g0 rfl rfl rfl ?_
    refine yT.cgR (pc' := 73) rfl rfl hT168 o0 rfl rfl (fun q172 w171 o173 => ?_)
    refine yT.aan (pc' := 74) g1 rfl rfl rfl ?_
    refine yT.cgR (pc' := 77) rfl rfl hT168 o1 rfl rfl (fun q175 w174 o176 => ?_)
    refine kV (yT.cc (G2 := 0) (pc' := 80) rfl rfl rfl hT168 o173 xM_56 (c56 hT168 o173 (by decide) o176 (by decide)) rfl (by decide) (by decide) rfl) (fun h177 hT178 E179 => ?_)
    exact yT.retV rfl rfl (qV hT178 trivial)
-- rX1_isOf
set_option maxRecDepth 100000 in
set_option maxHeartbeats 4000000 in
theorem c8 {ks : List cT} {σ : Nat → Nat → Int32} {ρ : Nat → xE} {h : List xE} (hT : HT ks σ ρ h) {q0 : Nat} (o0 : xnth ks q0 = some (11, 0)) (x1 : Int32) : yM 8 (0) 0 [.ref (q0 + 1), .int x1] h (CQ ks σ ρ (1, 0, 0) yT0) := by
  refine yM.st xM_8 rfl rfl (fun lv g => ?_)
  have g0 := g 0 _ rfl
  have g1 := g 1 _ rfl
  refine yT.iln (pc' := 1) g1 rfl rfl ?_
  refine yT.if1 (t := 33) (pc' := 4) rfl rfl rfl (c1_eq rfl) (fun c101 => ?_) (fun c101 => ?_)
  · refine yT.kI (pc' := 34) rfl rfl (by decide) (fun x102 e103 => ?_)
    refine yT.p (pc' := 38) rfl rfl (fun _ _ _ _ => rfl) ?_
    exact yT.retZ rfl rfl (b01 (by omega) (by omega)) (qZ hT trivial (b01 (by omega) (by omega)))
  · refine yT.iln (pc' := 5) g1 rfl rfl ?_
    refine yT.aan (pc' := 6) g0 rfl rfl rfl ?_
    refine yT.cgI (pc' := 9) rfl rfl hT o0 rfl rfl (fun x105 w104 => ?_)
    refine yT.if2 (t := 33) (pc' := 12) rfl rfl rfl (c2_eq rfl rfl) (fun c106 => ?_) (fun c106 => ?_)
    · refine yT.kI (pc' := 34) rfl rfl (by decide) (fun x107 e108 => ?_)
      refine yT.p (pc' := 38) rfl rfl (fun _ _ _ _ => rfl) ?_
      exact yT.retZ rfl rfl (b01 (by omega) (by omega)) (qZ hT trivial (b01 (by omega) (by omega)))
    · refine yT.iln (pc' := 13) g1 rfl rfl ?_
      refine yT.kI (pc' := 14) rfl rfl (by decide) (fun x109 e110 => ?_)
      refine yT.if2 (t := 37) (pc' := 17) rfl rfl rfl (c2_ne rfl e110) (fun c111 => ?_) (fun c111 => ?_)
      · refine yT.kI (pc' := 38) rfl rfl (by decide) (fun x112 e113 => ?_)
        exact yT.retZ rfl rfl (b01 (by omega) (by omega)) (qZ hT trivial (b01 (by omega) (by omega)))
      · refine yT.aan (pc' := 18) g0 rfl rfl rfl ?_
        refine yT.cgk (pc' := 21) rfl rfl w104 ?_
        refine yT.kI (pc' := 22) rfl rfl (by decide) (fun x114 e115 => ?_)
        refine yT.if2 (t := 33) (pc' := 25) rfl rfl rfl (c2_eq rfl e115) (fun c116 => ?_) (fun c116 => ?_)
        · refine yT.kI (pc' := 34) rfl rfl (by decide) (fun x117 e118 => ?_)
          refine yT.p (pc' := 38) rfl rfl (fun _ _ _ _ => rfl) ?_
          exact yT.retZ rfl rfl (b01 (by omega) (by omega)) (qZ hT trivial (b01 (by omega) (by omega)))
        · refine yT.aan (pc' := 26) g0 rfl rfl rfl ?_
          refine yT.cgk (pc' := 29) rfl rfl w104 ?_
          refine yT.kI (pc' := 30) rfl rfl (by decide) (fun x119 e120 => ?_)
          refine yT.if2 (t := 37) (pc' := 33) rfl rfl rfl (c2_ne rfl e120) (fun c121 => ?_) (fun c121 => ?_)
          · refine yT.kI (pc' := 38) rfl rfl (by decide) (fun x122 e123 => ?_)
            exact yT.retZ rfl rfl (b01 (by omega) (by omega)) (qZ hT trivial (b01 (by omega) (by omega)))
          · refine yT.kI (pc' := 34) rfl rfl (by decide) (fun x124 e125 => ?_)
            refine yT.p (pc' := 38) rfl rfl (fun _ _ _ _ => rfl) ?_
            exact yT.retZ rfl rfl (b01 (by omega) (by omega)) (qZ hT trivial (b01 (by omega) (by omega)))
-- rX2_letterAt
set_option maxRecDepth 100000 in
set_option maxHeartbeats 4000000 in
theorem c11 {ks : List cT} {σ : Nat → Nat → Int32} {ρ : Nat → xE} {h : List xE} (hT : HT ks σ ρ h) {q0 : Nat} (o0 : xnth ks q0 = some (12, 0)) (x1 : Int32) : yM 11 (1) 0 [.ref (q0 + 1), .int x1] h (CQ ks σ ρ (0, 0, 0) yT0) := by
  refine yM.st xM_11 rfl rfl (fun lv g => ?_)
  have g0 := g 0 _ rfl
  have g1 := g 1 _ rfl
  refine yT.aan (pc' := 1) g0 rfl rfl rfl ?_
  refine yT.cgA (pc' := 4) rfl rfl hT o0 rfl rfl (fun q102 N104 w101 o103 hN105 => ?_)
  refine yT.iln (pc' := 5) g1 rfl rfl ?_
  refine kI (yT.cc (G2 := 0) (pc' := 8) rfl rfl rfl hT o103 xM_46 (c46 hT o103 hN105 x1) rfl (by decide) (by decide) rfl) (fun h106 x109 hT107 E108 => ?_)
  exact yT.retI rfl rfl (qI hT107 trivial)
-- rX2_isTracked
set_option maxRecDepth 100000 in
set_option maxHeartbeats 4000000 in
theorem c13 {ks : List cT} {σ : Nat → Nat → Int32} {ρ : Nat → xE} {h : List xE} (hT : HT ks σ ρ h) {q0 : Nat} (o0 : xnth ks q0 = some (12, 0)) : yM 13 (0) 0 [.ref (q0 + 1)] h (CQ ks σ ρ (1, 0, 0) yT0) := by
  refine yM.st xM_13 rfl rfl (fun lv g => ?_)
  have g0 := g 0 _ rfl
  refine yT.aan (pc' := 1) g0 rfl rfl rfl ?_
  refine yT.cgZ (pc' := 4) rfl rfl hT o0 rfl rfl (fun x102 w101 b103 => ?_)
  have i104 := b01i b103
  exact yT.retZ rfl rfl b103 (qZ hT trivial b103)
-- rX3_fault
set_option maxRecDepth 100000 in
set_option maxHeartbeats 4000000 in
theorem c21 {ks : List cT} {σ : Nat → Nat → Int32} {ρ : Nat → xE} {h : List xE} (hT : HT ks σ ρ h) {q0 : Nat} (o0 : xnth ks q0 = some (13, 0)) : yM 21 (0) 0 [.ref (q0 + 1)] h (CQ ks σ ρ (0, 0, 0) yT0) := by
  refine yM.st xM_21 rfl rfl (fun lv g => ?_)
  have g0 := g 0 _ rfl
  refine yT.aan (pc' := 1) g0 rfl rfl rfl ?_
  refine yT.cgI (pc' := 4) rfl rfl hT o0 rfl rfl (fun x102 w101 => ?_)
  exact yT.retI rfl rfl (qI hT trivial)
-- rX3_start
set_option maxRecDepth 100000 in
set_option maxHeartbeats 4000000 in
theorem c23 {ks : List cT} {σ : Nat → Nat → Int32} {ρ : Nat → xE} {h : List xE} (hT : HT ks σ ρ h) {q0 : Nat} (o0 : xnth ks q0 = some (13, 0)) (x1 : Int32) : yM 23 (1) 0 [.ref (q0 + 1), .int x1] h (CQ ks σ ρ (9, 0, 0) yT0) := by
  refine yM.st xM_23 rfl rfl (fun lv g => ?_)
  have g0 := g 0 _ rfl
  have g1 := g 1 _ rfl
  refine yT.aan (pc' := 1) g0 rfl rfl rfl ?_
  refine yT.cgR (pc' := 4) rfl rfl hT o0 rfl rfl (fun q102 w101 o103 => ?_)
  refine kV (yT.cc (G2 := 0) (pc' := 7) rfl rfl rfl hT o103 xM_55 (c55 hT o103 (by decide)) rfl (by decide) (by decide) rfl) (fun h104 hT105 E106 => ?_)
  obtain ⟨x107, e108, w109⟩ := E106
  refine yT.aan (pc' := 8) g0 rfl rfl rfl ?_
  refine yT.cgR (pc' := 11) rfl rfl hT105 o0 rfl rfl (fun q111 w110 o112 => ?_)
  refine kV (yT.cc (G2 := 0) (pc' := 14) rfl rfl rfl hT105 o112 xM_55 (c55 hT105 o112 (by decide)) rfl (by decide) (by decide) rfl) (fun h113 hT114 E115 => ?_)
  obtain ⟨x116, e117, w118⟩ := E115
  refine yT.aan (pc' := 15) g0 rfl rfl rfl ?_
  refine yT.cgR (pc' := 18) rfl rfl hT114 o0 rfl rfl (fun q120 w119 o121 => ?_)
  refine kV (yT.cc (G2 := 0) (pc' := 21) rfl rfl rfl hT114 o121 xM_55 (c55 hT114 o121 (by decide)) rfl (by decide) (by decide) rfl) (fun h122 hT123 E124 => ?_)
  obtain ⟨x125, e126, w127⟩ := E124
  refine yT.aan (pc' := 22) g0 rfl rfl rfl ?_
  refine yT.cgR (pc' := 25) rfl rfl hT123 o0 rfl rfl (fun q129 w128 o130 => ?_)
  refine kV (yT.cc (G2 := 0) (pc' := 28) rfl rfl rfl hT123 o130 xM_55 (c55 hT123 o130 (by decide)) rfl (by decide) (by decide) rfl) (fun h131 hT132 E133 => ?_)
  obtain ⟨x134, e135, w136⟩ := E133
  refine yT.aan (pc' := 29) g0 rfl rfl rfl ?_
  refine yT.cgR (pc' := 32) rfl rfl hT132 o0 rfl rfl (fun q138 w137 o139 => ?_)
  refine kV (yT.cc (G2 := 0) (pc' := 35) rfl rfl rfl hT132 o139 xM_55 (c55 hT132 o139 (by decide)) rfl (by decide) (by decide) rfl) (fun h140 hT141 E142 => ?_)
  obtain ⟨x143, e144, w145⟩ := E142
  refine yT.aan (pc' := 36) g0 rfl rfl rfl ?_
  refine yT.cgR (pc' := 39) rfl rfl hT141 o0 rfl rfl (fun q147 w146 o148 => ?_)
  refine kV (yT.cc (G2 := 0) (pc' := 42) rfl rfl rfl hT141 o148 xM_55 (c55 hT141 o148 (by decide)) rfl (by decide) (by decide) rfl) (fun h149 hT150 E151 => ?_)
  obtain ⟨x152, e153, w154⟩ := E151
  refine yT.aan (pc' := 43) g0 rfl rfl rfl ?_
  refine yT.cgR (pc' := 46) rfl rfl hT150 o0 rfl rfl (fun q156 w155 o157 => ?_)
  refine kV (yT.cc (G2 := 0) (pc' := 49) rfl rfl rfl hT150 o157 xM_55 (c55 hT150 o157 (by decide)) rfl (by decide) (by decide) rfl) (fun h158 hT159 E160 => ?_)
  obtain ⟨x161, e162, w163⟩ := E160
  refine yT.aan (pc' := 50) g0 rfl rfl rfl ?_
  refine yT.kI (pc' := 51) rfl rfl (by decide) (fun x164 e165 => ?_)
  refine yT.cpS (pc' := 54) rfl rfl hT159 o0 rfl rfl rfl e165 (by omega) (fun h166 hT167 w168 fv169 => ?_)
  refine yT.aan (pc' := 55) g0 rfl rfl rfl ?_
  refine yT.iln (pc' := 56) g1 rfl rfl ?_
  refine yT.cpI (pc' := 59) rfl rfl hT167 o0 rfl rfl rfl (fun h170 hT171 w172 fv173 => ?_)
  refine yT.aan (pc' := 60) g0 rfl rfl rfl ?_
  refine yT.kI (pc' := 61) rfl rfl (by decide) (fun x174 e175 => ?_)
  refine yT.cpI (pc' := 64) rfl rfl hT171 o0 rfl rfl rfl (fun h176 hT177 w178 fv179 => ?_)
  refine yT.aan (pc' := 65) g0 rfl rfl rfl ?_
  refine yT.kI (pc' := 66) rfl rfl (by decide) (fun x180 e181 => ?_)
  refine yT.cpI (pc' := 69) rfl rfl hT177 o0 rfl rfl rfl (fun h182 hT183 w184 fv185 => ?_)
  refine yT.aan (pc' := 70) g0 rfl rfl rfl ?_
  refine yT.kI (pc' := 71) rfl rfl (by decide) (fun x186 e187 => ?_)
  refine yT.cpZ (pc' := 74) rfl rfl hT183 o0 rfl rfl rfl (b01 (by omega) (by omega)) (fun h188 hT189 w190 fv191 => ?_)
  refine yT.aan (pc' := 75) g0 rfl rfl rfl ?_
  refine yT.kI (pc' := 76) rfl rfl (by decide) (fun x192 e193 => ?_)
  refine yT.cpZ (pc' := 79) rfl rfl hT189 o0 rfl rfl rfl (b01 (by omega) (by omega)) (fun h194 hT195 w196 fv197 => ?_)
  exact yT.retV rfl rfl (qV hT195 trivial)
-- rX3_openUp
set_option maxRecDepth 100000 in
set_option maxHeartbeats 4000000 in
theorem c36 {ks : List cT} {σ : Nat → Nat → Int32} {ρ : Nat → xE} {h : List xE} (hT : HT ks σ ρ h) {q0 : Nat} (o0 : xnth ks q0 = some (13, 0)) (x1 : Int32) : yM 36 (1) 0 [.ref (q0 + 1), .int x1] h (CQ ks σ ρ (9, 0, 0) yT0) := by
  refine yM.st xM_36 rfl rfl (fun lv g => ?_)
  have g0 := g 0 _ rfl
  have g1 := g 1 _ rfl
  refine yT.aan (pc' := 1) g0 rfl rfl rfl ?_
  refine yT.cgR (pc' := 4) rfl rfl hT o0 rfl rfl (fun q102 w101 o103 => ?_)
  refine yT.iln (pc' := 5) g1 rfl rfl ?_
  refine kV (yT.cc (G2 := 0) (pc' := 8) rfl rfl rfl hT o103 xM_50 (c50 hT o103 (by decide) x1) rfl (by decide) (by decide) rfl) (fun h104 hT105 E106 => ?_)
  refine yT.aan (pc' := 9) g0 rfl rfl rfl ?_
  refine yT.cgR (pc' := 12) rfl rfl hT105 o0 rfl rfl (fun q108 w107 o109 => ?_)
  refine yT.aan (pc' := 13) g0 rfl rfl rfl ?_
  refine yT.cgR (pc' := 16) rfl rfl hT105 o0 rfl rfl (fun q111 w110 o112 => ?_)
  refine kS (yT.cc (G2 := 0) (pc' := 19) rfl rfl rfl hT105 o112 xM_44 (c44 hT105 o112 (by decide)) rfl (by decide) (by decide) rfl) (fun h113 x116 hT114 E115 i117 i118 => ?_)
  refine kV (yT.cc (G2 := 0) (pc' := 22) rfl rfl rfl hT114 o109 xM_50 (c50 hT114 o109 (by decide) x116) rfl (by decide) (by decide) rfl) (fun h119 hT120 E121 => ?_)
  refine yT.aan (pc' := 23) g0 rfl rfl rfl ?_
  refine yT.cgR (pc' := 26) rfl rfl hT120 o0 rfl rfl (fun q123 w122 o124 => ?_)
  refine yT.kI (pc' := 27) rfl rfl (by decide) (fun x125 e126 => ?_)
  refine kV (yT.cc (G2 := 0) (pc' := 30) rfl rfl rfl hT120 o124 xM_50 (c50 hT120 o124 (by decide) x125) rfl (by decide) (by decide) rfl) (fun h127 hT128 E129 => ?_)
  exact yT.retV rfl rfl (qV hT128 trivial)
-- rX3_readGreater
set_option maxRecDepth 100000 in
set_option maxHeartbeats 4000000 in
theorem c25 {ks : List cT} {σ : Nat → Nat → Int32} {ρ : Nat → xE} {h : List xE} (hT : HT ks σ ρ h) {q0 : Nat} (o0 : xnth ks q0 = some (13, 0)) {q1 : Nat} (o1 : xnth ks q1 = some (9, 0)) : yM 25 (2) 0 [.ref (q0 + 1), .ref (q1 + 1)] h (CQ ks σ ρ (9, 0, 0) yT0) := by
  refine yM.st xM_25 rfl rfl (fun lv g => ?_)
  have g0 := g 0 _ rfl
  have g1 := g 1 _ rfl
  refine yT.aan (pc' := 1) g1 rfl rfl rfl ?_
  refine yT.aan (pc' := 2) g0 rfl rfl rfl ?_
  refine yT.cgI (pc' := 5) rfl rfl hT o0 rfl rfl (fun x102 w101 => ?_)
  refine yT.kI (pc' := 6) rfl rfl (by decide) (fun x103 e104 => ?_)
  refine yT.fi (pc' := 7) rfl rfl (fun _ _ _ _ => rfl) (fun x105 => ?_)
  refine kI (yT.cc (G2 := 0) (pc' := 10) rfl rfl rfl hT o1 xM_46 (c46t hT o1 x105) rfl (by decide) (by decide) rfl) (fun h106 x109 hT107 E108 => ?_)
  refine yT.kb (pc' := 12) rfl rfl (by decide) (fun x110 e111 => ?_)
  refine yT.if2 (t := 26) (pc' := 15) rfl rfl rfl (c2_eq rfl e111) (fun c112 => ?_) (fun c112 => ?_)
  · refine yT.aan (pc' := 27) g0 rfl rfl rfl ?_
    refine yT.kb (pc' := 29) rfl rfl (by decide) (fun x113 e114 => ?_)
    refine kV (yT.cc (G2 := 0) (pc' := 32) rfl rfl rfl hT107 o0 xM_36 (c36 hT107 o0 x113) rfl (by decide) (by decide) rfl) (fun h115 hT116 E117 => ?_)
    refine yT.aan (pc' := 33) g0 rfl rfl rfl ?_
    refine yT.cgR (pc' := 36) rfl rfl hT116 o0 rfl rfl (fun q119 w118 o120 => ?_)
    refine yT.kb (pc' := 38) rfl rfl (by decide) (fun x121 e122 => ?_)
    refine kV (yT.cc (G2 := 0) (pc' := 41) rfl rfl rfl hT116 o120 xM_50 (c50 hT116 o120 (by decide) x121) rfl (by decide) (by decide) rfl) (fun h123 hT124 E125 => ?_)
    refine yT.aan (pc' := 42) g0 rfl rfl rfl ?_
    refine yT.cgR (pc' := 45) rfl rfl hT124 o0 rfl rfl (fun q127 w126 o128 => ?_)
    refine yT.kb (pc' := 47) rfl rfl (by decide) (fun x129 e130 => ?_)
    refine kV (yT.cc (G2 := 0) (pc' := 50) rfl rfl rfl hT124 o128 xM_50 (c50 hT124 o128 (by decide) x129) rfl (by decide) (by decide) rfl) (fun h131 hT132 E133 => ?_)
    refine yT.aan (pc' := 51) g0 rfl rfl rfl ?_
    refine yT.p (pc' := 52) rfl rfl (fun _ _ _ _ => rfl) ?_
    refine yT.cgI (pc' := 55) rfl rfl hT132 o0 rfl rfl (fun x135 w134 => ?_)
    refine yT.kI (pc' := 56) rfl rfl (by decide) (fun x136 e137 => ?_)
    refine yT.fi (pc' := 57) rfl rfl (fun _ _ _ _ => rfl) (fun x138 => ?_)
    refine yT.cpI (pc' := 60) rfl rfl hT132 o0 rfl rfl rfl (fun h139 hT140 w141 fv142 => ?_)
    exact yT.retV rfl rfl (qV hT140 trivial)
  · refine yT.aan (pc' := 16) g0 rfl rfl rfl ?_
    refine yT.aan (pc' := 17) g0 rfl rfl rfl ?_
    refine yT.cgI (pc' := 20) rfl rfl hT107 o0 rfl rfl (fun x144 w143 => ?_)
    refine yT.kI (pc' := 21) rfl rfl (by decide) (fun x145 e146 => ?_)
    refine yT.fi (pc' := 22) rfl rfl (fun _ _ _ _ => rfl) (fun x147 => ?_)
    refine yT.cpI (pc' := 25) rfl rfl hT107 o0 rfl rfl rfl (fun h148 hT149 w150 fv151 => ?_)
    exact yT.retV rfl rfl (qV hT149 trivial)
-- rX3_isLetter
set_option maxRecDepth 100000 in
set_option maxHeartbeats 4000000 in
theorem c29 {ks : List cT} {σ : Nat → Nat → Int32} {ρ : Nat → xE} {h : List xE} (hT : HT ks σ ρ h) {q0 : Nat} (o0 : xnth ks q0 = some (13, 0)) (x1 : Int32) : yM 29 (0) 0 [.ref (q0 + 1), .int x1] h (CQ ks σ ρ (1, 0, 0) yT0) := by
  refine yM.st xM_29 rfl rfl (fun lv g => ?_)
  have g0 := g 0 _ rfl
  have g1 := g 1 _ rfl
  refine yT.iln (pc' := 1) g1 rfl rfl ?_
  refine yT.kb (pc' := 3) rfl rfl (by decide) (fun x101 e102 => ?_)
  refine yT.if2 (t := 21) (pc' := 6) rfl rfl rfl (c2_lt rfl e102) (fun c103 => ?_) (fun c103 => ?_)
  · refine yT.kI (pc' := 22) rfl rfl (by decide) (fun x104 e105 => ?_)
    exact yT.retZ rfl rfl (b01 (by omega) (by omega)) (qZ hT trivial (b01 (by omega) (by omega)))
  · refine yT.iln (pc' := 7) g1 rfl rfl ?_
    refine yT.kb (pc' := 9) rfl rfl (by decide) (fun x106 e107 => ?_)
    refine yT.aan (pc' := 10) g0 rfl rfl rfl ?_
    refine yT.cgI (pc' := 13) rfl rfl hT o0 rfl rfl (fun x109 w108 => ?_)
    refine yT.fi (pc' := 14) rfl rfl (fun _ _ _ _ => rfl) (fun x110 => ?_)
    refine yT.if2 (t := 21) (pc' := 17) rfl rfl rfl (c2_ge rfl rfl) (fun c111 => ?_) (fun c111 => ?_)
    · refine yT.kI (pc' := 22) rfl rfl (by decide) (fun x112 e113 => ?_)
      exact yT.retZ rfl rfl (b01 (by omega) (by omega)) (qZ hT trivial (b01 (by omega) (by omega)))
    · refine yT.kI (pc' := 18) rfl rfl (by decide) (fun x114 e115 => ?_)
      refine yT.p (pc' := 22) rfl rfl (fun _ _ _ _ => rfl) ?_
      exact yT.retZ rfl rfl (b01 (by omega) (by omega)) (qZ hT trivial (b01 (by omega) (by omega)))
-- rX3_addStep
set_option maxRecDepth 100000 in
set_option maxHeartbeats 4000000 in
theorem c39 {ks : List cT} {σ : Nat → Nat → Int32} {ρ : Nat → xE} {h : List xE} (hT : HT ks σ ρ h) {q0 : Nat} (o0 : xnth ks q0 = some (13, 0)) (x1 : Int32) (x2 : Int32) : yM 39 (1) 0 [.ref (q0 + 1), .int x1, .int x2] h (CQ ks σ ρ (9, 0, 0) yT0) := by
  refine yM.st xM_39 rfl rfl (fun lv g => ?_)
  have g0 := g 0 _ rfl
  have g1 := g 1 _ rfl
  have g2 := g 2 _ rfl
  refine yT.aan (pc' := 1) g0 rfl rfl rfl ?_
  refine yT.cgR (pc' := 4) rfl rfl hT o0 rfl rfl (fun q102 w101 o103 => ?_)
  refine yT.iln (pc' := 5) g1 rfl rfl ?_
  refine kV (yT.cc (G2 := 0) (pc' := 8) rfl rfl rfl hT o103 xM_50 (c50 hT o103 (by decide) x1) rfl (by decide) (by decide) rfl) (fun h104 hT105 E106 => ?_)
  refine yT.aan (pc' := 9) g0 rfl rfl rfl ?_
  refine yT.cgR (pc' := 12) rfl rfl hT105 o0 rfl rfl (fun q108 w107 o109 => ?_)
  refine yT.iln (pc' := 13) g2 rfl rfl ?_
  refine kV (yT.cc (G2 := 0) (pc' := 16) rfl rfl rfl hT105 o109 xM_50 (c50 hT105 o109 (by decide) x2) rfl (by decide) (by decide) rfl) (fun h110 hT111 E112 => ?_)
  exact yT.retV rfl rfl (qV hT111 trivial)
-- rX3_readUntracked
set_option maxRecDepth 100000 in
set_option maxHeartbeats 4000000 in
theorem c26 {ks : List cT} {σ : Nat → Nat → Int32} {ρ : Nat → xE} {h : List xE} (hT : HT ks σ ρ h) {q0 : Nat} (o0 : xnth ks q0 = some (13, 0)) {q1 : Nat} (o1 : xnth ks q1 = some (9, 0)) : yM 26 (2) 0 [.ref (q0 + 1), .ref (q1 + 1)] h (CQ ks σ ρ (9, 0, 0) yT0) := by
  refine yM.st xM_26 rfl rfl (fun lv g => ?_)
  have g0 := g 0 _ rfl
  have g1 := g 1 _ rfl
  refine yT.aan (pc' := 1) g1 rfl rfl rfl ?_
  refine yT.aan (pc' := 2) g0 rfl rfl rfl ?_
  refine yT.cgI (pc' := 5) rfl rfl hT o0 rfl rfl (fun x102 w101 => ?_)
  refine yT.kI (pc' := 6) rfl rfl (by decide) (fun x103 e104 => ?_)
  refine yT.fi (pc' := 7) rfl rfl (fun _ _ _ _ => rfl) (fun x105 => ?_)
  refine kI (yT.cc (G2 := 0) (pc' := 10) rfl rfl rfl hT o1 xM_46 (c46t hT o1 x105) rfl (by decide) (by decide) rfl) (fun h106 x109 hT107 E108 => ?_)
  refine yT.p (pc' := 11) (lv' := xst1 _ 2 (.int x109)) rfl rfl (fun _ _ _ _ => rfl) ?_
  refine yT.aan (pc' := 12) (xg_ne g0 rfl) rfl rfl rfl ?_
  refine yT.iln (pc' := 13) xg_eq rfl rfl ?_
  refine kZ (yT.cc (G2 := 0) (pc' := 16) rfl rfl rfl hT107 o0 xM_29 (c29 hT107 o0 x109) rfl (by decide) (by decide) rfl) (fun h110 x113 hT111 E112 b114 => ?_)
  have i115 := b01i b114
  refine yT.if1 (t := 30) (pc' := 19) rfl rfl rfl (c1_ne rfl) (fun c116 => ?_) (fun c116 => ?_)
  · refine yT.aan (pc' := 31) (xg_ne g0 rfl) rfl rfl rfl ?_
    refine yT.cgR (pc' := 34) rfl rfl hT111 o0 rfl rfl (fun q118 w117 o119 => ?_)
    refine yT.aan (pc' := 35) (xg_ne g0 rfl) rfl rfl rfl ?_
    refine yT.cgR (pc' := 38) rfl rfl hT111 o0 rfl rfl (fun q121 w120 o122 => ?_)
    refine kS (yT.cc (G2 := 0) (pc' := 41) rfl rfl rfl hT111 o122 xM_44 (c44 hT111 o122 (by decide)) rfl (by decide) (by decide) rfl) (fun h123 x126 hT124 E125 i127 i128 => ?_)
    refine kV (yT.cc (G2 := 0) (pc' := 44) rfl rfl rfl hT124 o119 xM_50 (c50 hT124 o119 (by decide) x126) rfl (by decide) (by decide) rfl) (fun h129 hT130 E131 => ?_)
    refine yT.aan (pc' := 45) (xg_ne g0 rfl) rfl rfl rfl ?_
    refine yT.cgR (pc' := 48) rfl rfl hT130 o0 rfl rfl (fun q133 w132 o134 => ?_)
    refine yT.kb (pc' := 50) rfl rfl (by decide) (fun x135 e136 => ?_)
    refine kV (yT.cc (G2 := 0) (pc' := 53) rfl rfl rfl hT130 o134 xM_50 (c50 hT130 o134 (by decide) x135) rfl (by decide) (by decide) rfl) (fun h137 hT138 E139 => ?_)
    refine yT.aan (pc' := 54) (xg_ne g0 rfl) rfl rfl rfl ?_
    refine yT.cgR (pc' := 57) rfl rfl hT138 o0 rfl rfl (fun q141 w140 o142 => ?_)
    refine yT.iln (pc' := 58) xg_eq rfl rfl ?_
    refine kV (yT.cc (G2 := 0) (pc' := 61) rfl rfl rfl hT138 o142 xM_50 (c50 hT138 o142 (by decide) x109) rfl (by decide) (by decide) rfl) (fun h143 hT144 E145 => ?_)
    refine yT.aan (pc' := 62) (xg_ne g0 rfl) rfl rfl rfl ?_
    refine yT.p (pc' := 63) rfl rfl (fun _ _ _ _ => rfl) ?_
    refine yT.cgI (pc' := 66) rfl rfl hT144 o0 rfl rfl (fun x147 w146 => ?_)
    refine yT.kI (pc' := 67) rfl rfl (by decide) (fun x148 e149 => ?_)
    refine yT.fi (pc' := 68) rfl rfl (fun _ _ _ _ => rfl) (fun x150 => ?_)
    refine yT.cpI (pc' := 71) rfl rfl hT144 o0 rfl rfl rfl (fun h151 hT152 w153 fv154 => ?_)
    refine yT.aan (pc' := 72) (xg_ne g0 rfl) rfl rfl rfl ?_
    refine yT.kb (pc' := 74) rfl rfl (by decide) (fun x155 e156 => ?_)
    refine yT.iln (pc' := 75) xg_eq rfl rfl ?_
    refine yT.kb (pc' := 77) rfl rfl (by decide) (fun x157 e158 => ?_)
    refine yT.fi (pc' := 78) rfl rfl (fun _ _ _ _ => rfl) (fun x159 => ?_)
    refine kV (yT.cc (G2 := 0) (pc' := 81) rfl rfl rfl hT152 o0 xM_39 (c39 hT152 o0 x155 x159) rfl (by decide) (by decide) rfl) (fun h160 hT161 E162 => ?_)
    refine yT.aan (pc' := 82) (xg_ne g0 rfl) rfl rfl rfl ?_
    refine yT.kI (pc' := 83) rfl rfl (by decide) (fun x163 e164 => ?_)
    refine yT.cpZ (pc' := 86) rfl rfl hT161 o0 rfl rfl rfl (b01 (by omega) (by omega)) (fun h165 hT166 w167 fv168 => ?_)
    exact yT.retV rfl rfl (qV hT166 trivial)
  · refine yT.aan (pc' := 20) (xg_ne g0 rfl) rfl rfl rfl ?_
    refine yT.aan (pc' := 21) (xg_ne g0 rfl) rfl rfl rfl ?_
    refine yT.cgI (pc' := 24) rfl rfl hT111 o0 rfl rfl (fun x170 w169 => ?_)
    refine yT.kI (pc' := 25) rfl rfl (by decide) (fun x171 e172 => ?_)
    refine yT.fi (pc' := 26) rfl rfl (fun _ _ _ _ => rfl) (fun x173 => ?_)
    refine yT.cpI (pc' := 29) rfl rfl hT111 o0 rfl rfl rfl (fun h174 hT175 w176 fv177 => ?_)
    exact yT.retV rfl rfl (qV hT175 trivial)
-- rX3_isDigit
set_option maxRecDepth 100000 in
set_option maxHeartbeats 4000000 in
theorem c30 {ks : List cT} {σ : Nat → Nat → Int32} {ρ : Nat → xE} {h : List xE} (hT : HT ks σ ρ h) (x0 : Int32) : yM 30 (0) 0 [.int x0] h (CQ ks σ ρ (1, 0, 0) yT0) := by
  refine yM.st xM_30 rfl rfl (fun lv g => ?_)
  have g0 := g 0 _ rfl
  refine yT.iln (pc' := 1) g0 rfl rfl ?_
  refine yT.kb (pc' := 3) rfl rfl (by decide) (fun x101 e102 => ?_)
  refine yT.if2 (t := 16) (pc' := 6) rfl rfl rfl (c2_lt rfl e102) (fun c103 => ?_) (fun c103 => ?_)
  · refine yT.kI (pc' := 17) rfl rfl (by decide) (fun x104 e105 => ?_)
    exact yT.retZ rfl rfl (b01 (by omega) (by omega)) (qZ hT trivial (b01 (by omega) (by omega)))
  · refine yT.iln (pc' := 7) g0 rfl rfl ?_
    refine yT.kb (pc' := 9) rfl rfl (by decide) (fun x106 e107 => ?_)
    refine yT.if2 (t := 16) (pc' := 12) rfl rfl rfl (c2_gt rfl e107) (fun c108 => ?_) (fun c108 => ?_)
    · refine yT.kI (pc' := 17) rfl rfl (by decide) (fun x109 e110 => ?_)
      exact yT.retZ rfl rfl (b01 (by omega) (by omega)) (qZ hT trivial (b01 (by omega) (by omega)))
    · refine yT.kI (pc' := 13) rfl rfl (by decide) (fun x111 e112 => ?_)
      refine yT.p (pc' := 17) rfl rfl (fun _ _ _ _ => rfl) ?_
      exact yT.retZ rfl rfl (b01 (by omega) (by omega)) (qZ hT trivial (b01 (by omega) (by omega)))
-- rX3_readNumber
set_option maxRecDepth 100000 in
set_option maxHeartbeats 4000000 in
theorem c28 {ks : List cT} {σ : Nat → Nat → Int32} {ρ : Nat → xE} {h : List xE} (hT : HT ks σ ρ h) {q0 : Nat} (o0 : xnth ks q0 = some (13, 0)) {q1 : Nat} (o1 : xnth ks q1 = some (9, 0)) : yM 28 (1) 0 [.ref (q0 + 1), .ref (q1 + 1)] h (CQ ks σ ρ (0, 0, 0) yT0) := by
  refine yM.st xM_28 rfl rfl (fun lv g => ?_)
  have g0 := g 0 _ rfl
  have g1 := g 1 _ rfl
  refine yT.kI (pc' := 1) rfl rfl (by decide) (fun x101 e102 => ?_)
  refine yT.p (pc' := 2) (lv' := xst1 _ 2 (.int x101)) rfl rfl (fun _ _ _ _ => rfl) ?_
  refine yT.kI (pc' := 3) rfl rfl (by decide) (fun x103 e104 => ?_)
  refine yT.p (pc' := 4) (lv' := xst1 _ 3 (.int x103)) rfl rfl (fun _ _ _ _ => rfl) ?_
  have L105 : ∀ (n116 : Nat) (lv106 : xLv) (h107 : List xE) (x109 : Int32) (x110 : Int32), HT ks σ ρ h107 → xget lv106 0 = some (.ref (q0 + 1)) → xget lv106 1 = some (.ref (q1 + 1)) → xget lv106 2 = some (.int x109) → xget lv106 3 = some (.int x110) → 0 ≤ x110.toInt → (2147483647 - x110.toInt).toNat < n116 → yT 0 [] rX3_readNumber (1) 0 4 lv106 [] h107 (CQ ks σ ρ (0, 0, 0) yT0) := by
    intro n116
    induction n116 with
    | zero => intro lv106 h107 x109 x110 hT108 g111 g112 g113 g114 i115 m117; exact absurd m117 (Nat.not_lt_zero _)
    | succ n116 ih118 =>
      intro lv106 h107 x109 x110 hT108 g111 g112 g113 g114 i115 m117
      refine yT.iln (pc' := 5) g114 rfl rfl ?_
      refine yT.kI (pc' := 6) rfl rfl (by decide) (fun x119 e120 => ?_)
      refine yT.if2 (t := 71) (pc' := 9) rfl rfl rfl (c2_ge rfl e120) (fun c121 => ?_) (fun c121 => ?_)
      · refine yT.iln (pc' := 72) g113 rfl rfl ?_
        exact yT.retI rfl rfl (qI hT108 trivial)
      · refine yT.aan (pc' := 10) g112 rfl rfl rfl ?_
        refine yT.aan (pc' := 11) g111 rfl rfl rfl ?_
        refine yT.cgI (pc' := 14) rfl rfl hT108 o0 rfl rfl (fun x123 w122 => ?_)
        refine kI (yT.cc (G2 := 0) (pc' := 17) rfl rfl rfl hT108 o1 xM_46 (c46t hT108 o1 x123) rfl (by decide) (by decide) rfl) (fun h124 x127 hT125 E126 => ?_)
        refine kZ (yT.cst (G2 := 0) (pc' := 20) rfl rfl xM_30 (c30 hT125 x127) rfl (by decide) (by decide) rfl) (fun h128 x131 hT129 E130 b132 => ?_)
        have i133 := b01i b132
        refine yT.if1 (t := 71) (pc' := 23) rfl rfl rfl (c1_eq rfl) (fun c134 => ?_) (fun c134 => ?_)
        · refine yT.iln (pc' := 72) g113 rfl rfl ?_
          exact yT.retI rfl rfl (qI hT129 trivial)
        · refine yT.iln (pc' := 24) g113 rfl rfl ?_
          refine yT.kb (pc' := 26) rfl rfl (by decide) (fun x135 e136 => ?_)
          refine yT.fi (pc' := 27) rfl rfl (fun _ _ _ _ => rfl) (fun x137 => ?_)
          refine yT.aan (pc' := 28) g112 rfl rfl rfl ?_
          refine yT.aan (pc' := 29) g111 rfl rfl rfl ?_
          refine yT.cgI (pc' := 32) rfl rfl hT129 o0 rfl rfl (fun x139 w138 => ?_)
          refine kI (yT.cc (G2 := 0) (pc' := 35) rfl rfl rfl hT129 o1 xM_46 (c46t hT129 o1 x139) rfl (by decide) (by decide) rfl) (fun h140 x143 hT141 E142 => ?_)
          refine yT.fi (pc' := 36) rfl rfl (fun _ _ _ _ => rfl) (fun x144 => ?_)
          refine yT.kb (pc' := 38) rfl rfl (by decide) (fun x145 e146 => ?_)
          refine yT.fi (pc' := 39) rfl rfl (fun _ _ _ _ => rfl) (fun x147 => ?_)
          refine yT.p (pc' := 40) (lv' := xst1 _ 2 (.int x147)) rfl rfl (fun _ _ _ _ => rfl) ?_
          refine yT.aan (pc' := 41) (xg_ne g111 rfl) rfl rfl rfl ?_
          refine yT.cgR (pc' := 44) rfl rfl hT141 o0 rfl rfl (fun q149 w148 o150 => ?_)
          refine yT.aan (pc' := 45) (xg_ne g112 rfl) rfl rfl rfl ?_
          refine yT.aan (pc' := 46) (xg_ne g111 rfl) rfl rfl rfl ?_
          refine yT.cgI (pc' := 49) rfl rfl hT141 o0 rfl rfl (fun x152 w151 => ?_)
          refine kI (yT.cc (G2 := 0) (pc' := 52) rfl rfl rfl hT141 o1 xM_46 (c46t hT141 o1 x152) rfl (by decide) (by decide) rfl) (fun h153 x156 hT154 E155 => ?_)
          refine kV (yT.cc (G2 := 0) (pc' := 55) rfl rfl rfl hT154 o150 xM_50 (c50 hT154 o150 (by decide) x156) rfl (by decide) (by decide) rfl) (fun h157 hT158 E159 => ?_)
          refine yT.aan (pc' := 56) (xg_ne g111 rfl) rfl rfl rfl ?_
          refine yT.p (pc' := 57) rfl rfl (fun _ _ _ _ => rfl) ?_
          refine yT.cgI (pc' := 60) rfl rfl hT158 o0 rfl rfl (fun x161 w160 => ?_)
          refine yT.kI (pc' := 61) rfl rfl (by decide) (fun x162 e163 => ?_)
          refine yT.fi (pc' := 62) rfl rfl (fun _ _ _ _ => rfl) (fun x164 => ?_)
          refine yT.cpI (pc' := 65) rfl rfl hT158 o0 rfl rfl rfl (fun h165 hT166 w167 fv168 => ?_)
          refine yT.inc (pc' := 68) (xg_ne g114 rfl) rfl rfl rfl rfl ⟨by decide, by have := i32_rng x110; omega⟩ (fun x169 e170 => ?_)
          refine yT.p (pc' := 4) rfl rfl (fun _ _ _ _ => rfl) ?_
          exact ih118 _ _ x147 x169 hT166 (xg_ne (xg_ne g111 rfl) rfl) (xg_ne (xg_ne g112 rfl) rfl) (xg_ne xg_eq rfl) xg_eq (by omega) (by have := i32_rng x169; omega)
  exact L105 _ _ _ x101 x103 hT (xg_ne (xg_ne g0 rfl) rfl) (xg_ne (xg_ne g1 rfl) rfl) (xg_ne xg_eq rfl) xg_eq (by omega) (Nat.lt_succ_self _)
-- rX3_readPlainPart
set_option maxRecDepth 100000 in
set_option maxHeartbeats 4000000 in
theorem c27 {ks : List cT} {σ : Nat → Nat → Int32} {ρ : Nat → xE} {h : List xE} (hT : HT ks σ ρ h) {q0 : Nat} (o0 : xnth ks q0 = some (13, 0)) {q1 : Nat} (o1 : xnth ks q1 = some (9, 0)) (x2 : Int32) : yM 27 (2) 0 [.ref (q0 + 1), .ref (q1 + 1), .int x2] h (CQ ks σ ρ (9, 0, 0) yT0) := by
  refine yM.st xM_27 rfl rfl (fun lv g => ?_)
  have g0 := g 0 _ rfl
  have g1 := g 1 _ rfl
  have g2 := g 2 _ rfl
  refine yT.aan (pc' := 1) g0 rfl rfl rfl ?_
  refine yT.iln (pc' := 2) g2 rfl rfl ?_
  refine kZ (yT.cc (G2 := 0) (pc' := 5) rfl rfl rfl hT o0 xM_29 (c29 hT o0 x2) rfl (by decide) (by decide) rfl) (fun h101 x104 hT102 E103 b105 => ?_)
  have i106 := b01i b105
  refine yT.if1 (t := 58) (pc' := 8) rfl rfl rfl (c1_eq rfl) (fun c107 => ?_) (fun c107 => ?_)
  · refine yT.iln (pc' := 59) g2 rfl rfl ?_
    refine kZ (yT.cst (G2 := 0) (pc' := 62) rfl rfl xM_30 (c30 hT102 x2) rfl (by decide) (by decide) rfl) (fun h108 x111 hT109 E110 b112 => ?_)
    have i113 := b01i b112
    refine yT.if1 (t := 98) (pc' := 65) rfl rfl rfl (c1_eq rfl) (fun c114 => ?_) (fun c114 => ?_)
    · refine yT.aan (pc' := 99) g0 rfl rfl rfl ?_
      refine yT.aan (pc' := 100) g0 rfl rfl rfl ?_
      refine yT.cgI (pc' := 103) rfl rfl hT109 o0 rfl rfl (fun x116 w115 => ?_)
      refine yT.cpI (pc' := 106) rfl rfl hT109 o0 rfl rfl rfl (fun h117 hT118 w119 fv120 => ?_)
      exact yT.retV rfl rfl (qV hT118 trivial)
    · refine yT.aan (pc' := 66) g0 rfl rfl rfl ?_
      refine yT.cgR (pc' := 69) rfl rfl hT109 o0 rfl rfl (fun q122 w121 o123 => ?_)
      refine yT.aan (pc' := 70) g0 rfl rfl rfl ?_
      refine yT.cgR (pc' := 73) rfl rfl hT109 o0 rfl rfl (fun q125 w124 o126 => ?_)
      refine kS (yT.cc (G2 := 0) (pc' := 76) rfl rfl rfl hT109 o126 xM_44 (c44 hT109 o126 (by decide)) rfl (by decide) (by decide) rfl) (fun h127 x130 hT128 E129 i131 i132 => ?_)
      refine kV (yT.cc (G2 := 0) (pc' := 79) rfl rfl rfl hT128 o123 xM_50 (c50 hT128 o123 (by decide) x130) rfl (by decide) (by decide) rfl) (fun h133 hT134 E135 => ?_)
      refine yT.aan (pc' := 80) g0 rfl rfl rfl ?_
      refine yT.kb (pc' := 82) rfl rfl (by decide) (fun x136 e137 => ?_)
      refine yT.aan (pc' := 83) g0 rfl rfl rfl ?_
      refine yT.aan (pc' := 84) g1 rfl rfl rfl ?_
      refine kI (yT.cc (G2 := 0) (pc' := 87) rfl rfl rfl hT134 o0 xM_28 (c28 hT134 o0 o1) rfl (by decide) (by decide) rfl) (fun h138 x141 hT139 E140 => ?_)
      refine kV (yT.cc (G2 := 0) (pc' := 90) rfl rfl rfl hT139 o0 xM_39 (c39 hT139 o0 x136 x141) rfl (by decide) (by decide) rfl) (fun h142 hT143 E144 => ?_)
      refine yT.aan (pc' := 91) g0 rfl rfl rfl ?_
      refine yT.kI (pc' := 92) rfl rfl (by decide) (fun x145 e146 => ?_)
      refine yT.cpZ (pc' := 95) rfl rfl hT143 o0 rfl rfl rfl (b01 (by omega) (by omega)) (fun h147 hT148 w149 fv150 => ?_)
      refine yT.p (pc' := 106) rfl rfl (fun _ _ _ _ => rfl) ?_
      exact yT.retV rfl rfl (qV hT148 trivial)
  · refine yT.aan (pc' := 9) g0 rfl rfl rfl ?_
    refine yT.cgR (pc' := 12) rfl rfl hT102 o0 rfl rfl (fun q152 w151 o153 => ?_)
    refine yT.aan (pc' := 13) g0 rfl rfl rfl ?_
    refine yT.cgR (pc' := 16) rfl rfl hT102 o0 rfl rfl (fun q155 w154 o156 => ?_)
    refine kS (yT.cc (G2 := 0) (pc' := 19) rfl rfl rfl hT102 o156 xM_44 (c44 hT102 o156 (by decide)) rfl (by decide) (by decide) rfl) (fun h157 x160 hT158 E159 i161 i162 => ?_)
    refine kV (yT.cc (G2 := 0) (pc' := 22) rfl rfl rfl hT158 o153 xM_50 (c50 hT158 o153 (by decide) x160) rfl (by decide) (by decide) rfl) (fun h163 hT164 E165 => ?_)
    refine yT.aan (pc' := 23) g0 rfl rfl rfl ?_
    refine yT.cgR (pc' := 26) rfl rfl hT164 o0 rfl rfl (fun q167 w166 o168 => ?_)
    refine yT.iln (pc' := 27) g2 rfl rfl ?_
    refine kV (yT.cc (G2 := 0) (pc' := 30) rfl rfl rfl hT164 o168 xM_50 (c50 hT164 o168 (by decide) x2) rfl (by decide) (by decide) rfl) (fun h169 hT170 E171 => ?_)
    refine yT.aan (pc' := 31) g0 rfl rfl rfl ?_
    refine yT.p (pc' := 32) rfl rfl (fun _ _ _ _ => rfl) ?_
    refine yT.cgI (pc' := 35) rfl rfl hT170 o0 rfl rfl (fun x173 w172 => ?_)
    refine yT.kI (pc' := 36) rfl rfl (by decide) (fun x174 e175 => ?_)
    refine yT.fi (pc' := 37) rfl rfl (fun _ _ _ _ => rfl) (fun x176 => ?_)
    refine yT.cpI (pc' := 40) rfl rfl hT170 o0 rfl rfl rfl (fun h177 hT178 w179 fv180 => ?_)
    refine yT.aan (pc' := 41) g0 rfl rfl rfl ?_
    refine yT.kb (pc' := 43) rfl rfl (by decide) (fun x181 e182 => ?_)
    refine yT.iln (pc' := 44) g2 rfl rfl ?_
    refine yT.kb (pc' := 46) rfl rfl (by decide) (fun x183 e184 => ?_)
    refine yT.fi (pc' := 47) rfl rfl (fun _ _ _ _ => rfl) (fun x185 => ?_)
    refine kV (yT.cc (G2 := 0) (pc' := 50) rfl rfl rfl hT178 o0 xM_39 (c39 hT178 o0 x181 x185) rfl (by decide) (by decide) rfl) (fun h186 hT187 E188 => ?_)
    refine yT.aan (pc' := 51) g0 rfl rfl rfl ?_
    refine yT.kI (pc' := 52) rfl rfl (by decide) (fun x189 e190 => ?_)
    refine yT.cpZ (pc' := 55) rfl rfl hT187 o0 rfl rfl rfl (b01 (by omega) (by omega)) (fun h191 hT192 w193 fv194 => ?_)
    refine yT.p (pc' := 106) rfl rfl (fun _ _ _ _ => rfl) ?_
    exact yT.retV rfl rfl (qV hT192 trivial)
-- rX3_readPart
set_option maxRecDepth 100000 in
set_option maxHeartbeats 4000000 in
theorem c24 {ks : List cT} {σ : Nat → Nat → Int32} {ρ : Nat → xE} {h : List xE} (hT : HT ks σ ρ h) {q0 : Nat} (o0 : xnth ks q0 = some (13, 0)) {q1 : Nat} (o1 : xnth ks q1 = some (9, 0)) : yM 24 (3) 0 [.ref (q0 + 1), .ref (q1 + 1)] h (CQ ks σ ρ (9, 0, 0) yT0) := by
  refine yM.st xM_24 rfl rfl (fun lv g => ?_)
  have g0 := g 0 _ rfl
  have g1 := g 1 _ rfl
  refine yT.aan (pc' := 1) g1 rfl rfl rfl ?_
  refine yT.aan (pc' := 2) g0 rfl rfl rfl ?_
  refine yT.cgI (pc' := 5) rfl rfl hT o0 rfl rfl (fun x102 w101 => ?_)
  refine kI (yT.cc (G2 := 0) (pc' := 8) rfl rfl rfl hT o1 xM_46 (c46t hT o1 x102) rfl (by decide) (by decide) rfl) (fun h103 x106 hT104 E105 => ?_)
  refine yT.p (pc' := 9) (lv' := xst1 _ 2 (.int x106)) rfl rfl (fun _ _ _ _ => rfl) ?_
  refine yT.iln (pc' := 10) xg_eq rfl rfl ?_
  by_cases c107 : x106.toInt = 40
  · refine yT.lsw (t := 97) rfl rfl rfl (by first | (rw [c107]; done) | (rw [c107]; rfl)) rfl ?_
    refine yT.aan (pc' := 98) (xg_ne g0 rfl) rfl rfl rfl ?_
    refine yT.kb (pc' := 100) rfl rfl (by decide) (fun x108 e109 => ?_)
    refine kV (yT.cc (G2 := 0) (pc' := 103) rfl rfl rfl hT104 o0 xM_36 (c36 hT104 o0 x108) rfl (by decide) (by decide) rfl) (fun h110 hT111 E112 => ?_)
    refine yT.aan (pc' := 104) (xg_ne g0 rfl) rfl rfl rfl ?_
    refine yT.p (pc' := 105) rfl rfl (fun _ _ _ _ => rfl) ?_
    refine yT.cgI (pc' := 108) rfl rfl hT111 o0 rfl rfl (fun x114 w113 => ?_)
    refine yT.kI (pc' := 109) rfl rfl (by decide) (fun x115 e116 => ?_)
    refine yT.fi (pc' := 110) rfl rfl (fun _ _ _ _ => rfl) (fun x117 => ?_)
    refine yT.cpI (pc' := 113) rfl rfl hT111 o0 rfl rfl rfl (fun h118 hT119 w120 fv121 => ?_)
    refine yT.p (pc' := 166) rfl rfl (fun _ _ _ _ => rfl) ?_
    exact yT.retV rfl rfl (qV hT119 trivial)
  · by_cases c122 : x106.toInt = 45
    · refine yT.lsw (t := 60) rfl rfl rfl (by first | (rw [c122]; done) | (rw [c122]; rfl)) rfl ?_
      refine yT.aan (pc' := 61) (xg_ne g0 rfl) rfl rfl rfl ?_
      refine yT.kb (pc' := 63) rfl rfl (by decide) (fun x123 e124 => ?_)
      refine kV (yT.cc (G2 := 0) (pc' := 66) rfl rfl rfl hT104 o0 xM_36 (c36 hT104 o0 x123) rfl (by decide) (by decide) rfl) (fun h125 hT126 E127 => ?_)
      refine yT.aan (pc' := 67) (xg_ne g0 rfl) rfl rfl rfl ?_
      refine yT.cgR (pc' := 70) rfl rfl hT126 o0 rfl rfl (fun q129 w128 o130 => ?_)
      refine yT.kb (pc' := 72) rfl rfl (by decide) (fun x131 e132 => ?_)
      refine kV (yT.cc (G2 := 0) (pc' := 75) rfl rfl rfl hT126 o130 xM_50 (c50 hT126 o130 (by decide) x131) rfl (by decide) (by decide) rfl) (fun h133 hT134 E135 => ?_)
      refine yT.aan (pc' := 76) (xg_ne g0 rfl) rfl rfl rfl ?_
      refine yT.cgR (pc' := 79) rfl rfl hT134 o0 rfl rfl (fun q137 w136 o138 => ?_)
      refine yT.kb (pc' := 81) rfl rfl (by decide) (fun x139 e140 => ?_)
      refine kV (yT.cc (G2 := 0) (pc' := 84) rfl rfl rfl hT134 o138 xM_50 (c50 hT134 o138 (by decide) x139) rfl (by decide) (by decide) rfl) (fun h141 hT142 E143 => ?_)
      refine yT.aan (pc' := 85) (xg_ne g0 rfl) rfl rfl rfl ?_
      refine yT.p (pc' := 86) rfl rfl (fun _ _ _ _ => rfl) ?_
      refine yT.cgI (pc' := 89) rfl rfl hT142 o0 rfl rfl (fun x145 w144 => ?_)
      refine yT.kI (pc' := 90) rfl rfl (by decide) (fun x146 e147 => ?_)
      refine yT.fi (pc' := 91) rfl rfl (fun _ _ _ _ => rfl) (fun x148 => ?_)
      refine yT.cpI (pc' := 94) rfl rfl hT142 o0 rfl rfl rfl (fun h149 hT150 w151 fv152 => ?_)
      refine yT.p (pc' := 166) rfl rfl (fun _ _ _ _ => rfl) ?_
      exact yT.retV rfl rfl (qV hT150 trivial)
    · by_cases c153 : x106.toInt = 91
      · refine yT.lsw (t := 116) rfl rfl rfl (by first | (rw [c153]; done) | (rw [c153]; rfl)) rfl ?_
        refine yT.aan (pc' := 117) (xg_ne g0 rfl) rfl rfl rfl ?_
        refine yT.kb (pc' := 119) rfl rfl (by decide) (fun x154 e155 => ?_)
        refine kV (yT.cc (G2 := 0) (pc' := 122) rfl rfl rfl hT104 o0 xM_36 (c36 hT104 o0 x154) rfl (by decide) (by decide) rfl) (fun h156 hT157 E158 => ?_)
        refine yT.aan (pc' := 123) (xg_ne g0 rfl) rfl rfl rfl ?_
        refine yT.cgR (pc' := 126) rfl rfl hT157 o0 rfl rfl (fun q160 w159 o161 => ?_)
        refine yT.kb (pc' := 128) rfl rfl (by decide) (fun x162 e163 => ?_)
        refine kV (yT.cc (G2 := 0) (pc' := 131) rfl rfl rfl hT157 o161 xM_50 (c50 hT157 o161 (by decide) x162) rfl (by decide) (by decide) rfl) (fun h164 hT165 E166 => ?_)
        refine yT.aan (pc' := 132) (xg_ne g0 rfl) rfl rfl rfl ?_
        refine yT.p (pc' := 133) rfl rfl (fun _ _ _ _ => rfl) ?_
        refine yT.cgI (pc' := 136) rfl rfl hT165 o0 rfl rfl (fun x168 w167 => ?_)
        refine yT.kI (pc' := 137) rfl rfl (by decide) (fun x169 e170 => ?_)
        refine yT.fi (pc' := 138) rfl rfl (fun _ _ _ _ => rfl) (fun x171 => ?_)
        refine yT.cpI (pc' := 141) rfl rfl hT165 o0 rfl rfl rfl (fun h172 hT173 w174 fv175 => ?_)
        refine yT.p (pc' := 166) rfl rfl (fun _ _ _ _ => rfl) ?_
        exact yT.retV rfl rfl (qV hT173 trivial)
      · by_cases c176 : x106.toInt = 94
        · refine yT.lsw (t := 144) rfl rfl rfl (by first | (rw [c176]; done) | (rw [c176]; rfl)) rfl ?_
          refine yT.aan (pc' := 145) (xg_ne g0 rfl) rfl rfl rfl ?_
          refine yT.aan (pc' := 146) (xg_ne g1 rfl) rfl rfl rfl ?_
          refine kV (yT.cc (G2 := 0) (pc' := 149) rfl rfl rfl hT104 o0 xM_25 (c25 hT104 o0 o1) rfl (by decide) (by decide) rfl) (fun h177 hT178 E179 => ?_)
          refine yT.p (pc' := 166) rfl rfl (fun _ _ _ _ => rfl) ?_
          exact yT.retV rfl rfl (qV hT178 trivial)
        · by_cases c180 : x106.toInt = 126
          · refine yT.lsw (t := 152) rfl rfl rfl (by first | (rw [c180]; done) | (rw [c180]; rfl)) rfl ?_
            refine yT.aan (pc' := 153) (xg_ne g0 rfl) rfl rfl rfl ?_
            refine yT.aan (pc' := 154) (xg_ne g1 rfl) rfl rfl rfl ?_
            refine kV (yT.cc (G2 := 0) (pc' := 157) rfl rfl rfl hT104 o0 xM_26 (c26 hT104 o0 o1) rfl (by decide) (by decide) rfl) (fun h181 hT182 E183 => ?_)
            refine yT.p (pc' := 166) rfl rfl (fun _ _ _ _ => rfl) ?_
            exact yT.retV rfl rfl (qV hT182 trivial)
          · refine yT.lsw (off := 150) (t := 160) rfl rfl rfl (by simp [Op.lookupswitch.offset]; omega) rfl ?_
            refine yT.aan (pc' := 161) (xg_ne g0 rfl) rfl rfl rfl ?_
            refine yT.aan (pc' := 162) (xg_ne g1 rfl) rfl rfl rfl ?_
            refine yT.iln (pc' := 163) xg_eq rfl rfl ?_
            refine kV (yT.cc (G2 := 0) (pc' := 166) rfl rfl rfl hT104 o0 xM_27 (c27 hT104 o0 o1 x106) rfl (by decide) (by decide) rfl) (fun h184 hT185 E186 => ?_)
            exact yT.retV rfl rfl (qV hT185 trivial)
