-- rX9_plainly
set_option maxRecDepth 100000 in
set_option maxHeartbeats 4000000 in
theorem r194 {ks : List cT} {B0 : Nat} (K : KE KS0 ks B0) {σ : sg} {ρ : Nat → xE} {h : List xE} (hT : HT ks σ ρ h) {c : Nat} {x1 : Int32} (e1 : x1.toInt = (c : Int)) (x2 : Int32) (x3 : Int32) (p0 : c < 24) (p1 : nw σ (282 * c + 0) = 1 ∨ nw σ (282 * c + 0) = 3 ∨ nw σ (282 * c + 0) = 4) (p2 : FO σ) (p3 : KO σ) (p4 : fl σ 13 = 0) (p5 : ∀ i, i < 24 → bz σ i = 0) (p6 : ws 24 σ ≤ 1500) : yM 194 (1521) 0 [.ref (60 + 1), .int x1, .int x2, .int x3] h (RQL ks ρ (fun σ' r => PY σ σ')) := by
  refine yM.st xM_194 rfl rfl (fun lv g => ?_)
  have g0 := g 0 _ rfl
  have g1 := g 1 _ rfl
  have g2 := g 2 _ rfl
  have g3 := g 3 _ rfl
  refine yT.kI (pc' := 1) rfl rfl (by decide) (fun x101 e102 => ?_)
  refine yT.p (pc' := 3) (lv' := xst1 _ 4 (.int x101)) rfl rfl (fun _ _ _ _ => rfl) ?_
  have L103 : ∀ (n118 : Nat) (lv104 : xLv) (σ105 : sg) (h106 : List xE) (k109 : Nat) (x108 : Int32), HT ks σ105 ρ h106 → x108.toInt = (k109 : Int) → xget lv104 0 = some (.ref (60 + 1)) → xget lv104 1 = some (.int x1) → xget lv104 2 = some (.int x2) → xget lv104 3 = some (.int x3) → xget lv104 4 = some (.int x108) → PY σ σ105 → (k109) ≤ 24 → 24 - (k109) < n118 → yT 0 [] rX9_plainly (1521) 0 3 lv104 [] h106 (RQL ks ρ (fun σ' r => PY σ σ')) := by
    intro n118
    induction n118 with
    | zero => intro lv104 σ105 h106 k109 x108 hT107 e110 g111 g112 g113 g114 g115 i116 i117 m119; exact absurd m119 (Nat.not_lt_zero _)
    | succ n118 ih120 =>
      intro lv104 σ105 h106 k109 x108 hT107 e110 g111 g112 g113 g114 g115 i116 i117 m119
      refine yT.il (pc' := 5) g115 rfl rfl ?_
      refine yT.kb (pc' := 7) rfl rfl (by decide) (fun x121 e122 => ?_)
      refine yT.if2 (t := 24) (pc' := 10) rfl rfl rfl (c2_ge e110 e122) (fun c123 => ?_) (fun c123 => ?_)
      · have hPY := i116
        have h61 : σ105 61 = σ 61 := hPY.1 61 (by decide) (by decide)
        have hk := nw_e (i := 282 * c + 0) h61
        refine yT.aan (pc' := 25) g111 rfl rfl rfl ?_
        refine yT.iln (pc' := 26) g113 rfl rfl ?_
        refine yT.cpI (pc' := 29) rfl rfl hT107 (K.up rfl) rfl rfl rfl (fun h124 hT125 _ _ => ?_)
        refine yT.aan (pc' := 30) g111 rfl rfl rfl ?_
        refine yT.iln (pc' := 31) g114 rfl rfl ?_
        refine yT.cpI (pc' := 34) rfl rfl hT125 (K.up rfl) rfl rfl rfl (fun h126 hT127 _ _ => ?_)
        refine yT.aan (pc' := 35) g111 rfl rfl rfl ?_
        refine yT.kI (pc' := 36) rfl rfl (by decide) (fun x128 e129 => ?_)
        refine yT.cpX (c := x128) (pc' := 39) rfl rfl hT127 (K.up rfl) rfl rfl rfl e129 (by omega) rfl (fun h130 hT131 _ _ => ?_)
        have f132 : fl (us σ105 60 13 x128) 13 = 1 := fl_at.trans e129
        have h61 : (us σ105 60 13 x128) 61 = σ 61 := (us_nq (by decide)).trans h61
        have hw := wz_ws h61 p5 24 (Nat.le_refl _)
        refine yT.aan (pc' := 40) g111 rfl rfl rfl ?_
        refine yT.iln (pc' := 41) g112 rfl rfl ?_
        refine kRL (yT.cc (G2 := 0) (pc' := 44) rfl rfl rfl hT131 (K.up rfl : xnth ks 60 = some (19, 0)) xM_193 (r193 (c := c) K hT131 e1 (by omega) (by rw [nw_e h61]; exact p1) (p2.meo (fun i _ => nw_e h61)) (p3.e h61) (by omega) (by omega)) rfl (by omega) (by decide) rfl) (fun h133 σ137 x136 hT134 E135 => ?_)
        have hLF := E135
        refine yT.p (pc' := 46) (lv' := xst2 _ 4 (.long x136)) rfl rfl (fun _ _ _ _ => rfl) ?_
        refine yT.aan (pc' := 47) (xg2_ne g111 rfl) rfl rfl rfl ?_
        refine yT.kI (pc' := 48) rfl rfl (by decide) (fun x138 e139 => ?_)
        refine yT.cpX (c := x138) (pc' := 51) rfl rfl hT134 (K.up rfl) rfl rfl rfl e139 (by omega) rfl (fun h140 hT141 _ _ => ?_)
        have f142 : fl (us σ137 60 13 x138) 13 = 0 := fl_at.trans e139
        refine yT.ll (pc' := 53) xg2_eq rfl rfl ?_
        exact yT.retL rfl rfl ⟨_, hT141, _, rfl, (hPY.end p4 hLF (by omega))⟩
      · refine yT.aan (pc' := 11) g111 rfl rfl rfl ?_
        refine yT.cg8 (pc' := 14) rfl rfl hT107 (K.up rfl) rfl rfl (fun _ => ?_)
        refine yT.il (pc' := 16) g115 rfl rfl ?_
        refine yT.kI (pc' := 17) rfl rfl (by decide) (fun x143 e144 => ?_)
        refine yT.tis (k109) (pc' := 18) rfl rfl hT107 (K.up rfl) e110 (by omega) (fun h145 hT146 => ?_)
        refine yT.inc2 (pc' := 21) (Z := (k109 : Int) + 1) g115 e110 rfl rfl rfl ⟨by decide, by omega⟩ (fun x147 e148 => ?_)
        refine yT.p (pc' := 3) rfl rfl (fun _ _ _ _ => rfl) ?_
        exact ih120 _ (us σ105 73 (k109) x143) _ (k109 + 1) x147 hT146 (by omega) (xg_ne g111 rfl) (xg_ne g112 rfl) (xg_ne g113 rfl) (xg_ne g114 rfl) xg_eq i116.z (by omega) (by omega)
  exact L103 _ _ σ _ (0) x101 hT (by omega) (xg_ne g0 rfl) (xg_ne g1 rfl) (xg_ne g2 rfl) (xg_ne g3 rfl) xg_eq PY.rf (by omega) (Nat.lt_succ_self _)
