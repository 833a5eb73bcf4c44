-- rX9_takes
set_option maxRecDepth 100000 in
set_option maxHeartbeats 4000000 in
theorem r203 {ks : List cT} {B0 : Nat} (K : KE KS0 ks B0) {σ : sg} {ρ : Nat → xE} {h : List xE} (hT : HT ks σ ρ h) {c : Nat} {x1 : Int32} (e1 : x1.toInt = (c : Int)) {m : Nat} (p0 : c < 24) (p1 : fl σ 23 = (m : Int)) (p2 : m ≤ 250) : yM 203 (1) 0 [.ref (60 + 1), .int x1] h (RQV ks ρ (fun σ' => TK σ σ' c m m)) := by
  refine yM.st xM_203 rfl rfl (fun lv g => ?_)
  have g0 := g 0 _ rfl
  have g1 := g 1 _ rfl
  refine yT.aan (pc' := 1) g0 rfl rfl rfl ?_
  refine yT.iln (pc' := 2) g1 rfl rfl ?_
  refine yT.kb (pc' := 4) rfl rfl (by decide) (fun x101 e102 => ?_)
  refine yT.aan (pc' := 5) g0 rfl rfl rfl ?_
  refine yT.cgX (pc' := 8) rfl rfl hT (K.up rfl) rfl rfl (fun x103 _ i104 j105 z106 => ?_)
  have e107 : x103.toInt = (m : Int) := (congrArg Int32.toInt z106).trans p1
  refine kRV (yT.cc (G2 := 0) (pc' := 11) rfl rfl rfl hT (K.up rfl : xnth ks 60 = some (19, 0)) xM_167 (r167 (c := c) (w := 31) K hT e1 (by omega) x103 (by omega)) rfl (by omega) (by decide) rfl) (fun h108 σ112 hT109 E110 => ?_)
  refine yT.kI (pc' := 12) rfl rfl (by decide) (fun x113 e114 => ?_)
  refine yT.p (pc' := 13) (lv' := xst1 _ 2 (.int x113)) rfl rfl (fun _ _ _ _ => rfl) ?_
  have L115 : ∀ (n128 : Nat) (lv116 : xLv) (σ117 : sg) (h118 : List xE) (k121 : Nat) (x120 : Int32), HT ks σ117 ρ h118 → x120.toInt = (k121 : Int) → xget lv116 0 = some (.ref (60 + 1)) → xget lv116 1 = some (.int x1) → xget lv116 2 = some (.int x120) → TK σ σ117 c m (k121) → (k121) ≤ m → m - (k121) < n128 → yT 0 [] rX9_takes (1) 0 13 lv116 [] h118 (RQV ks ρ (fun σ' => TK σ σ' c m m)) := by
    intro n128
    induction n128 with
    | zero => intro lv116 σ117 h118 k121 x120 hT119 e122 g123 g124 g125 i126 i127 m129; exact absurd m129 (Nat.not_lt_zero _)
    | succ n128 ih130 =>
      intro lv116 σ117 h118 k121 x120 hT119 e122 g123 g124 g125 i126 i127 m129
      have hf : fl σ117 23 = (m : Int) := (congrArg Int32.toInt (congrFun (i126.1 60 (by decide)) 23)).trans p1
      refine yT.iln (pc' := 14) g125 rfl rfl ?_
      refine yT.aan (pc' := 15) g123 rfl rfl rfl ?_
      refine yT.cgX (pc' := 18) rfl rfl hT119 (K.up rfl) rfl rfl (fun x131 _ i132 j133 z134 => ?_)
      have e135 : x131.toInt = fl σ117 23 := congrArg Int32.toInt z134
      refine yT.if2 (t := 42) (pc' := 21) rfl rfl rfl (c2_ge e122 e135) (fun c136 => ?_) (fun c136 => ?_)
      · exact yT.retV rfl rfl ⟨_, hT119, rfl, (TK.fin i126 (by omega))⟩
      · refine yT.aan (pc' := 22) g123 rfl rfl rfl ?_
        refine yT.iln (pc' := 23) g124 rfl rfl ?_
        refine yT.kb (pc' := 25) rfl rfl (by decide) (fun x137 e138 => ?_)
        refine yT.iln (pc' := 26) g125 rfl rfl ?_
        refine yT.ad2 (pc' := 27) (Z := (k121 : Int) + 32) e138 e122 rfl rfl (by omega) (fun x139 e140 => ?_)
        refine yT.aan (pc' := 28) g123 rfl rfl rfl ?_
        refine yT.cg8 (pc' := 31) rfl rfl hT119 (K.up rfl) rfl rfl (fun _ => ?_)
        refine yT.iln (pc' := 32) g125 rfl rfl ?_
        refine yT.tia (k121) (pc' := 33) rfl rfl hT119 (K.up rfl) e122 (by omega) (fun x141 z143 => ?_)
        have e142 : x141.toInt = (σ117 71 (k121)).toInt := congrArg Int32.toInt z143
        refine kRV (yT.cc (G2 := 0) (pc' := 36) rfl rfl rfl hT119 (K.up rfl : xnth ks 60 = some (19, 0)) xM_167 (r167 (c := c) (w := k121 + 32) K hT119 e1 (by omega) x141 (by omega)) rfl (by omega) (by decide) rfl) (fun h144 σ148 hT145 E146 => ?_)
        refine yT.inc2 (pc' := 39) (Z := (k121 : Int) + 1) g125 e122 rfl rfl rfl ⟨by decide, by omega⟩ (fun x149 e150 => ?_)
        refine yT.p (pc' := 13) rfl rfl (fun _ _ _ _ => rfl) ?_
        exact ih130 _ σ148 _ (k121 + 1) x149 hT145 (by omega) (xg_ne g123 rfl) (xg_ne g124 rfl) xg_eq (TK.s i126 (by omega) E146 (by omega)) (by omega) (by omega)
  exact L115 _ _ σ112 _ (0) x113 hT109 (by omega) (xg_ne g0 rfl) (xg_ne g1 rfl) xg_eq (TK.z E110 (by omega)) (by omega) (Nat.lt_succ_self _)
