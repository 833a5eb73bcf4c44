-- rX9_tells
set_option maxRecDepth 100000 in
set_option maxHeartbeats 4000000 in
theorem r204 {ks : List cT} {B0 : Nat} (K : KE KS0 ks B0) {σ : sg} {ρ : Nat → xE} {h : List xE} (hT : HT ks σ ρ h) (x1 : Int32) (p0 : 0 ≤ fl σ 25 ∧ fl σ 25 ≤ 1999) : yM 204 (0) 0 [.ref (60 + 1), .int x1] h (RQV ks ρ (fun σ' => TT σ σ')) := by
  refine yM.st xM_204 rfl rfl (fun lv g => ?_)
  have g0 := g 0 _ rfl
  have g1 := g 1 _ rfl
  refine yT.aan (pc' := 1) g0 rfl rfl rfl ?_
  refine yT.cg8 (pc' := 4) rfl rfl hT (K.up rfl) rfl rfl (fun _ => ?_)
  refine yT.aan (pc' := 5) g0 rfl rfl rfl ?_
  refine yT.cgX (pc' := 8) rfl rfl hT (K.up rfl) rfl rfl (fun x101 _ i102 j103 z104 => ?_)
  have e105 : x101.toInt = fl σ 25 := congrArg Int32.toInt z104
  refine yT.iln (pc' := 9) g1 rfl rfl ?_
  refine yT.cis (pc' := 10) rfl rfl hT (K.up rfl) e105 (by omega) (fun h106 hT107 _ => ?_)
  refine yT.aan (pc' := 11) g0 rfl rfl rfl ?_
  refine yT.p (pc' := 12) rfl rfl (fun _ _ _ _ => rfl) ?_
  refine yT.cgX (pc' := 15) rfl rfl hT107 (K.up rfl) rfl rfl (fun x108 _ i109 j110 z111 => ?_)
  have e112 : x108.toInt = fl σ 25 := congrArg Int32.toInt z111
  refine yT.kI (pc' := 16) rfl rfl (by decide) (fun x113 e114 => ?_)
  refine yT.ad2 (pc' := 17) (Z := (fl σ 25) + 1) e112 e114 rfl rfl (by omega) (fun x115 e116 => ?_)
  refine yT.cpX (c := x115) (pc' := 20) rfl rfl hT107 (K.up rfl) rfl rfl rfl e116 (by omega) rfl (fun h117 hT118 _ _ => ?_)
  have f119 : fl (us σ 60 25 x115) 25 = (fl σ 25) + 1 := fl_at.trans e116
  exact yT.retV rfl rfl ⟨_, hT118, rfl, (TT.of (by omega))⟩
-- rX9_shifts
set_option maxRecDepth 100000 in
set_option maxHeartbeats 4000000 in
theorem r205 {ks : List cT} {B0 : Nat} (K : KE KS0 ks B0) {σ : sg} {ρ : Nat → xE} {h : List xE} (hT : HT ks σ ρ h) {fm : Nat} {x1 : Int32} (e1 : x1.toInt = (fm : Int)) (x2 : Int32) (p0 : 0 ≤ fl σ 25 ∧ fl σ 25 ≤ 1998) (p1 : (fm : Int) ≤ fl σ 25) : yM 205 (0) 0 [.ref (60 + 1), .int x1, .int x2] h (RQV ks ρ (fun σ' => TT σ σ')) := by
  refine yM.st xM_205 rfl rfl (fun lv g => ?_)
  have g0 := g 0 _ rfl
  have g1 := g 1 _ rfl
  have g2 := g 2 _ rfl
  refine yT.aan (pc' := 1) g0 rfl rfl rfl ?_
  refine yT.cgX (pc' := 4) rfl rfl hT (K.up rfl) rfl rfl (fun x101 _ i102 j103 z104 => ?_)
  have e105 : x101.toInt = fl σ 25 := congrArg Int32.toInt z104
  refine yT.p (pc' := 5) (lv' := xst1 _ 3 (.int x101)) rfl rfl (fun _ _ _ _ => rfl) ?_
  have L106 : ∀ (n116 : Nat) (lv107 : xLv) (h108 : List xE) (x110 : Int32), HT ks σ ρ h108 → xget lv107 0 = some (.ref (60 + 1)) → xget lv107 1 = some (.int x1) → xget lv107 2 = some (.int x2) → xget lv107 3 = some (.int x110) → (x110.toInt) ≤ fl σ 25 ∧ (fm : Int) ≤ (x110.toInt) → ((x110.toInt)).toNat < n116 → yT 0 [] rX9_shifts (0) 0 5 lv107 [] h108 (RQV ks ρ (fun σ' => TT σ σ')) := by
    intro n116
    induction n116 with
    | zero => intro lv107 h108 x110 hT109 g111 g112 g113 g114 i115 m117; exact absurd m117 (Nat.not_lt_zero _)
    | succ n116 ih118 =>
      intro lv107 h108 x110 hT109 g111 g112 g113 g114 i115 m117
      refine yT.iln (pc' := 6) g114 rfl rfl ?_
      refine yT.iln (pc' := 7) g112 rfl rfl ?_
      refine yT.if2 (t := 30) (pc' := 10) rfl rfl rfl (c2_le rfl e1) (fun c119 => ?_) (fun c119 => ?_)
      · refine yT.aan (pc' := 31) g111 rfl rfl rfl ?_
        refine yT.cg8 (pc' := 34) rfl rfl hT109 (K.up rfl) rfl rfl (fun _ => ?_)
        refine yT.iln (pc' := 35) g112 rfl rfl ?_
        refine yT.iln (pc' := 36) g113 rfl rfl ?_
        refine yT.cis (pc' := 37) rfl rfl hT109 (K.up rfl) e1 (by omega) (fun h120 hT121 _ => ?_)
        refine yT.aan (pc' := 38) g111 rfl rfl rfl ?_
        refine yT.p (pc' := 39) rfl rfl (fun _ _ _ _ => rfl) ?_
        refine yT.cgX (pc' := 42) rfl rfl hT121 (K.up rfl) rfl rfl (fun x122 _ i123 j124 z125 => ?_)
        have e126 : x122.toInt = fl σ 25 := congrArg Int32.toInt z125
        refine yT.kI (pc' := 43) rfl rfl (by decide) (fun x127 e128 => ?_)
        refine yT.ad2 (pc' := 44) (Z := (fl σ 25) + 1) e126 e128 rfl rfl (by omega) (fun x129 e130 => ?_)
        refine yT.cpX (c := x129) (pc' := 47) rfl rfl hT121 (K.up rfl) rfl rfl rfl e130 (by omega) rfl (fun h131 hT132 _ _ => ?_)
        have f133 : fl (us σ 60 25 x129) 25 = (fl σ 25) + 1 := fl_at.trans e130
        exact yT.retV rfl rfl ⟨_, hT132, rfl, (TT.of (by omega))⟩
      · refine yT.aan (pc' := 11) g111 rfl rfl rfl ?_
        refine yT.cg8 (pc' := 14) rfl rfl hT109 (K.up rfl) rfl rfl (fun _ => ?_)
        refine yT.iln (pc' := 15) g114 rfl rfl ?_
        refine yT.aan (pc' := 16) g111 rfl rfl rfl ?_
        refine yT.cg8 (pc' := 19) rfl rfl hT109 (K.up rfl) rfl rfl (fun _ => ?_)
        refine yT.iln (pc' := 20) g114 rfl rfl ?_
        refine yT.kI (pc' := 21) rfl rfl (by decide) (fun x134 e135 => ?_)
        refine yT.sb2 (pc' := 22) (Z := x110.toInt - 1) rfl e135 rfl rfl (by omega) (fun x136 e137 => ?_)
        refine yT.cia (pc' := 23) rfl rfl hT109 (K.up rfl) e137 (by omega) (fun x138 => ?_)
        refine yT.cis (pc' := 24) rfl rfl hT109 (K.up rfl) rfl (by omega) (fun h141 hT142 _ => ?_)
        refine yT.inc2 (pc' := 27) (Z := x110.toInt - 1) g114 rfl rfl rfl rfl ⟨by decide, by omega⟩ (fun x143 e144 => ?_)
        refine yT.p (pc' := 5) rfl rfl (fun _ _ _ _ => rfl) ?_
        exact ih118 _ _ x143 hT142 (xg_ne g111 rfl) (xg_ne g112 rfl) (xg_ne g113 rfl) xg_eq (by omega) (by omega)
  exact L106 _ _ _ x101 hT (xg_ne g0 rfl) (xg_ne g1 rfl) (xg_ne g2 rfl) xg_eq (by omega) (Nat.lt_succ_self _)
