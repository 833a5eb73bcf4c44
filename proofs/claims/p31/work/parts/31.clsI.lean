-- rX8_backf
theorem c149f25 {ks0 ks : List cT} {σ : Nat → Nat → Int32} {ρ : Nat → xE} {h : List xE} (ke : KE ks0 ks 72) (hT : HT ks σ ρ h) {B0 : Nat} (K : KE KS0 ks B0) {lv : xLv} {q0 : Nat} (o0 : xnth ks q0 = some (18, 0)) (g0 : xget lv 0 = some (.ref (q0 + 1))) : yT 0 [] rX8_back (6) 0 25 lv [] h (CA ks0 σ ρ (0, 0, 0) 72 (fun _ r => r = some (.int 1))) := by
  refine yT.kI (pc' := 26) rfl rfl (by decide) (fun x101 e102 => ?_)
  refine yT.p (pc' := 27) (lv' := xst1 _ 1 (.int x101)) rfl rfl (fun _ _ _ _ => rfl) ?_
  have L103 : ∀ (n111 : Nat) (lv104 : xLv) (h105 : List xE) (x107 : Int32), HT ks σ ρ h105 → xget lv104 0 = some (.ref (q0 + 1)) → xget lv104 1 = some (.int x107) → 0 ≤ x107.toInt → (2147483647 - x107.toInt).toNat < n111 → yT 0 [] rX8_back (6) 0 27 lv104 [] h105 (CA ks0 σ ρ (0, 0, 0) 72 (fun _ r => r = some (.int 1))) := by
    intro n111
    induction n111 with
    | zero => intro lv104 h105 x107 hT106 g108 g109 i110 m112; exact absurd m112 (Nat.not_lt_zero _)
    | succ n111 ih113 =>
      intro lv104 h105 x107 hT106 g108 g109 i110 m112
      refine yT.iln (pc' := 28) g109 rfl rfl ?_
      refine yT.aan (pc' := 29) g108 rfl rfl rfl ?_
      refine yT.cgR (pc' := 32) rfl rfl hT106 o0 rfl rfl (fun q115 w114 o116 => ?_)
      refine yT.cal (pc' := 33) rfl rfl hT106 o116 rfl (by omega) (fun x117 e118 => ?_)
      refine yT.if2 (t := 78) (pc' := 36) rfl rfl rfl (c2_ge rfl e118) (fun c119 => ?_) (fun c119 => ?_)
      · refine yT.kI (pc' := 79) rfl rfl (by decide) (fun x120 e121 => ?_)
        exact yT.retI rfl rfl (qAI (ke.w (by decide)) hT106 (by rw [show x120 = 1 from Int32.toInt_inj.mp (show x120.toInt = (1 : Int32).toInt from e121)]))
      · refine yT.aan (pc' := 37) g108 rfl rfl rfl ?_
        refine yT.cgk (pc' := 40) rfl rfl w114 ?_
        refine yT.iln (pc' := 41) g109 rfl rfl ?_
        refine yT.csa (pc' := 42) rfl rfl hT106 o116 rfl (by omega) (fun q122 o123 => ?_)
        refine yT.p (pc' := 43) (lv' := xst1 _ 2 (.ref (q122 + 1))) rfl rfl (fun _ _ _ _ => rfl) ?_
        refine yT.aan (pc' := 44) xg_eq rfl rfl rfl ?_
        refine yT.p (pc' := 47) rfl rfl (fun _ _ _ _ => rfl) ?_
        refine yT.aan (pc' := 48) xg_eq rfl rfl rfl ?_
        refine kZ (yT.cc (G2 := 0) (pc' := 51) rfl rfl rfl hT106 o123 xM_74 (c74 hT106 o123) rfl (by decide) (by decide) rfl) (fun h124 x127 hT125 E126 b128 => ?_)
        have i129 := b01i b128
        refine yT.if1 (t := 72) (pc' := 54) rfl rfl rfl (c1_eq rfl) (fun c130 => ?_) (fun c130 => ?_)
        · refine yT.inc (pc' := 75) (xg_ne g109 rfl) rfl rfl rfl rfl ⟨by decide, by have := i32_rng x107; omega⟩ (fun x131 e132 => ?_)
          refine yT.p (pc' := 27) rfl rfl (fun _ _ _ _ => rfl) ?_
          exact ih113 _ _ x131 hT125 (xg_ne (xg_ne g108 rfl) rfl) xg_eq (by omega) (by have := i32_rng x131; omega)
        · refine yT.aan (pc' := 55) (xg_ne g108 rfl) rfl rfl rfl ?_
          refine yT.cg8 (pc' := 58) rfl rfl hT125 o0 rfl rfl (fun w133 => ?_)
          refine yT.aan (pc' := 59) xg_eq rfl rfl rfl ?_
          refine kI (yT.cc (G2 := 0) (pc' := 62) rfl rfl rfl hT125 o123 xM_75 (c75 hT125 o123) rfl (by decide) (by decide) rfl) (fun h134 x137 hT135 E136 => ?_)
          refine kN (yT.cc (G2 := 0) (pc' := 65) rfl rfl rfl hT135 (K.up rfl) xM_87 (c87 hT135 (K.up rfl) x137) rfl (by decide) (by decide) rfl) (fun h138 hT139 E140 => ?_) (fun h138 q141 hT139 E140 o142 => ?_)
          · refine yT.p (pc' := 68) rfl rfl (fun _ _ _ _ => rfl) ?_
            refine yT.aan (pc' := 69) xg_eq rfl rfl rfl ?_
            refine kV (yT.cc (G2 := 0) (pc' := 72) rfl rfl rfl hT139 o123 xM_76 (c76 hT139 o123) rfl (by decide) (by decide) rfl) (fun h143 hT144 E145 => ?_)
            refine yT.inc (pc' := 75) (xg_ne g109 rfl) rfl rfl rfl rfl ⟨by decide, by have := i32_rng x107; omega⟩ (fun x146 e147 => ?_)
            refine yT.p (pc' := 27) rfl rfl (fun _ _ _ _ => rfl) ?_
            exact ih113 _ _ x146 hT144 (xg_ne (xg_ne g108 rfl) rfl) xg_eq (by omega) (by have := i32_rng x146; omega)
          · have i148 : 0 ≤ x137.toInt ∧ x137.toInt < 24 := (show _ ∨ _ from E140).elim (fun e => by cases e) id
            refine yT.p (pc' := 72) rfl rfl (fun _ _ _ _ => rfl) ?_
            refine yT.inc (pc' := 75) (xg_ne g109 rfl) rfl rfl rfl rfl ⟨by decide, by have := i32_rng x107; omega⟩ (fun x149 e150 => ?_)
            refine yT.p (pc' := 27) rfl rfl (fun _ _ _ _ => rfl) ?_
            exact ih113 _ _ x149 hT139 (xg_ne (xg_ne g108 rfl) rfl) xg_eq (by omega) (by have := i32_rng x149; omega)
  exact L103 _ _ _ x101 hT (xg_ne g0 rfl) xg_eq (by omega) (Nat.lt_succ_self _)
section CI
variable {ks : List cT} {σ : Nat → Nat → Int32} {ρ : Nat → xE} {h : List xE} {q0 B0 : Nat}
theorem c148 (hT : HT ks σ ρ h) (K : KE KS0 ks B0) (o0 : xnth ks q0 = some (18, 0)) : yM 148 7 18312 [.ref (q0 + 1)] h (CA ks (us (us σ 11 7 (σ 1 7)) q0 2 1) ρ (0, 0, 0) 72 (fun _ r => r = some (.int 1))) := by
  refine yM.st xM_148 rfl rfl (fun lv g => ?_)
  have g0 := g 0 _ rfl
  refine yT.aan (pc' := 1) g0 rfl rfl rfl ?_
  refine yT.cg8 (pc' := 4) rfl rfl hT o0 rfl rfl (fun _ => ?_)
  refine yT.aan (pc' := 5) g0 rfl rfl rfl ?_
  refine yT.cg8 (pc' := 8) rfl rfl hT o0 rfl rfl (fun _ => ?_)
  refine kAV (yT.cc (G2 := 0) (pc' := 11) rfl rfl rfl hT (K.up rfl) xM_91 (c91 hT (K.up rfl) (K.up rfl)) rfl (by decide) (by decide) rfl) (fun h1 ks1 ke hT1 _ => ?_)
  refine yT.aan (pc' := 12) g0 rfl rfl rfl ?_
  refine yT.kI (pc' := 13) rfl rfl (by decide) (fun u eu => ?_)
  have e1 : u = 1 := i32_ext (show u.toInt = (1 : Int32).toInt from eu)
  refine yT.cpX (pc' := 16) (c := 1) rfl rfl hT1 (ke.up o0) rfl rfl (by rw [e1]; rfl) eu (by omega) e1 (fun h2 hT2 _ _ => ?_)
  refine yT.kI (pc' := 17) rfl rfl (by decide) (fun v ev => ?_)
  exact yT.retI rfl rfl (qAI ke hT2 (by rw [i32_ext (show v.toInt = (1 : Int32).toInt from ev)]))
theorem c149 (hT : HT ks σ ρ h) (K : KE KS0 ks B0) (o0 : xnth ks q0 = some (18, 0)) : yM 149 7 18312 [.ref (q0 + 1)] h (fun h' r => ∃ (ks' : List cT) (x : Int32) (σ' : Nat → Nat → Int32), r = some (.int x) ∧ KE ks ks' 72 ∧ HT ks' σ' ρ h' ∧ ((σ q0 2 = 0 ∧ x = -5 ∧ σ' = σ) ∨ (σ q0 2 = 1 ∧ x = 1 ∧ σ' = us σ 1 7 (σ 11 7)))) := by
  refine yM.st xM_149 rfl rfl (fun lv g => ?_)
  have g0 := g 0 _ rfl
  refine yT.aan (pc' := 1) g0 rfl rfl rfl ?_
  refine yT.cgX (pc' := 4) rfl rfl hT o0 rfl rfl (fun x w i j z => ?_)
  refine yT.if1 (t := 14) (pc' := 7) rfl rfl rfl (c1_ne rfl) (fun k => ?_) (fun k => ?_)
  · refine yT.aan (pc' := 15) g0 rfl rfl rfl ?_
    refine yT.cg8 (pc' := 18) rfl rfl hT o0 rfl rfl (fun _ => ?_)
    refine yT.aan (pc' := 19) g0 rfl rfl rfl ?_
    refine yT.cg8 (pc' := 22) rfl rfl hT o0 rfl rfl (fun _ => ?_)
    refine kAV (yT.cc (G2 := 0) (pc' := 25) rfl rfl rfl hT (K.up rfl) xM_91 (c91 hT (K.up rfl) (K.up rfl)) rfl (by decide) (by decide) rfl) (fun h1 ks1 ke hT1 _ => ?_)
    refine yT.w (c149f25 ke hT1 (K.tr ke) (ke.up o0) g0) (by decide) (Nat.zero_le _) (fun h' r hh => ?_)
    obtain ⟨ks', k1, k2, ⟨v, rfl, y, rfl⟩, k4⟩ := hh
    exact ⟨ks', y, _, rfl, k1, k2, Or.inr ⟨by rw [← z]; exact i32_ext (show x.toInt = 1 by omega), by injection (Option.some.inj k4), rfl⟩⟩
  · refine yT.aan (pc' := 8) g0 rfl rfl rfl ?_
    refine yT.kb (pc' := 10) rfl rfl (by decide) (fun u eu => ?_)
    refine kI (yT.cc (G2 := 18312) (pc' := 13) rfl rfl rfl hT o0 xM_153 (c153 hT K o0 u) rfl (by decide) (by decide) rfl) (fun h1 y hT1 E => ?_)
    obtain rfl : y = u := by injection (Option.some.inj E)
    exact yT.retI rfl rfl ⟨ks, y, σ, rfl, KE.rf.w (Nat.zero_le _), hT1, Or.inl ⟨by rw [← z]; exact i32_ext (show x.toInt = 0 by omega), i32_ext eu, rfl⟩⟩
end CI
