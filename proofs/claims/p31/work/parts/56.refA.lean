-- rX9_flushes
set_option maxRecDepth 100000 in
set_option maxHeartbeats 4000000 in
theorem r191 {ks : List cT} {B0 : Nat} (K : KE KS0 ks B0) {σ : sg} {ρ : Nat → xE} {h : List xE} (hT : HT ks σ ρ h) (p0 : RO σ) (p1 : FO σ) (p2 : fl σ 13 = 0) (p3 : ∀ i, i < 24 → bz σ i = 0) (p4 : ws 24 σ ≤ 1500) (p5 : 0 ≤ nw σ 6795 ∧ nw σ 6795 ≤ 999999000) (p6 : 0 ≤ nw σ 6856 ∧ gm σ ≤ 1000000) : yM 191 (1571) 0 [.ref (60 + 1)] h (RQV ks ρ (fun σ' => EF 100 σ σ')) := by
  refine yM.st xM_191 rfl rfl (fun lv g => ?_)
  have g0 := g 0 _ rfl
  refine yT.kI (pc' := 1) rfl rfl (by decide) (fun x101 e102 => ?_)
  refine yT.p (pc' := 2) (lv' := xst1 _ 1 (.int x101)) rfl rfl (fun _ _ _ _ => rfl) ?_
  have L103 : ∀ (n115 : Nat) (lv104 : xLv) (σ105 : sg) (h106 : List xE) (n109 : Nat) (x108 : Int32), HT ks σ105 ρ h106 → x108.toInt = (n109 : Int) → xget lv104 0 = some (.ref (60 + 1)) → xget lv104 1 = some (.int x108) → EF ((n109) : Nat) σ σ105 → (n109) ≤ 100 → 100 - (n109) < n115 → yT 0 [] rX9_flushes (1571) 0 2 lv104 [] h106 (RQV ks ρ (fun σ' => EF 100 σ σ')) := by
    intro n115
    induction n115 with
    | zero => intro lv104 σ105 h106 n109 x108 hT107 e110 g111 g112 i113 i114 m116; exact absurd m116 (Nat.not_lt_zero _)
    | succ n115 ih117 =>
      intro lv104 σ105 h106 n109 x108 hT107 e110 g111 g112 i113 i114 m116
      have hEF := i113
      have hQ := hEF.2.2.2.2.1.2.1
      have hlg := hEF.2.2.2.2.2.1
      have hgm := hEF.2.2.2.2.2.2
      have hws := hEF.wse
      have hq0 := hQ.1
      refine yT.iln (pc' := 3) g112 rfl rfl ?_
      refine yT.kb (pc' := 5) rfl rfl (by decide) (fun x118 e119 => ?_)
      refine yT.if2 (t := 55) (pc' := 8) rfl rfl rfl (c2_ge e110 e119) (fun c120 => ?_) (fun c120 => ?_)
      · exact yT.retV rfl rfl ⟨_, hT107, rfl, (EF.mono i113 (by omega))⟩
      · refine yT.aan (pc' := 9) g111 rfl rfl rfl ?_
        refine yT.cg8 (pc' := 12) rfl rfl hT107 (K.up rfl) rfl rfl (fun _ => ?_)
        refine yT.ks (pc' := 15) rfl rfl (by decide) (fun x121 e122 => ?_)
        refine yT.tia (6769) (pc' := 16) rfl rfl hT107 (K.up rfl) e122 (by omega) (fun x123 z125 => ?_)
        have e124 : x123.toInt = nw σ105 (6769) := congrArg Int32.toInt z125
        refine yT.if1 (t := 55) (pc' := 19) rfl rfl rfl (c1_ne e124) (fun c126 => ?_) (fun c126 => ?_)
        · exact yT.retV rfl rfl ⟨_, hT107, rfl, (EF.mono i113 (by omega))⟩
        · refine yT.aan (pc' := 20) g111 rfl rfl rfl ?_
          refine yT.cg8 (pc' := 23) rfl rfl hT107 (K.up rfl) rfl rfl (fun _ => ?_)
          refine yT.ks (pc' := 26) rfl rfl (by decide) (fun x127 e128 => ?_)
          refine yT.tia (6770) (pc' := 27) rfl rfl hT107 (K.up rfl) e128 (by omega) (fun x129 z131 => ?_)
          have e130 : x129.toInt = nw σ105 (6770) := congrArg Int32.toInt z131
          refine yT.if1 (t := 55) (pc' := 30) rfl rfl rfl (c1_le e130) (fun c132 => ?_) (fun c132 => ?_)
          · exact yT.retV rfl rfl ⟨_, hT107, rfl, (EF.mono i113 (by omega))⟩
          · refine yT.aan (pc' := 31) g111 rfl rfl rfl ?_
            refine yT.cg8 (pc' := 34) rfl rfl hT107 (K.up rfl) rfl rfl (fun _ => ?_)
            refine yT.ks (pc' := 37) rfl rfl (by decide) (fun x133 e134 => ?_)
            refine yT.tia (6771) (pc' := 38) rfl rfl hT107 (K.up rfl) e134 (by omega) (fun x135 z137 => ?_)
            have e136 : x135.toInt = nw σ105 (6771) := congrArg Int32.toInt z137
            obtain ⟨c139, hn140⟩ := hQ.hd (by omega)
            have e138 : x135.toInt = (c139 : Int) := e136.trans hn140.1
            refine yT.p (pc' := 39) (lv' := xst1 _ 2 (.int x135)) rfl rfl (fun _ _ _ _ => rfl) ?_
            refine yT.aan (pc' := 40) (xg_ne g111 rfl) rfl rfl rfl ?_
            refine yT.iln (pc' := 41) xg_eq rfl rfl ?_
            refine kRV (yT.cc (G2 := 0) (pc' := 44) rfl rfl rfl hT107 (K.up rfl : xnth ks 60 = some (19, 0)) xM_187 (r187  K hT107 x135 hQ) rfl (by omega) (by decide) rfl) (fun h141 σ145 hT142 E143 => ?_)
            have q := E143
            have hk := q.2.1 (282 * (c139) + 0) (by omega)
            have hlg2 := q.2.1 6795 (by omega)
            have hEF := hEF.qs q
            have hgm := hEF.2.2.2.2.2.2
            have hws := hEF.wse
            refine yT.aan (pc' := 45) (xg_ne g111 rfl) rfl rfl rfl ?_
            refine yT.iln (pc' := 46) xg_eq rfl rfl ?_
            refine kRV (yT.cc (G2 := 0) (pc' := 49) rfl rfl rfl hT142 (K.up rfl : xnth ks 60 = some (19, 0)) xM_182 (r182E (c := c139) K hT142 e138 (by omega) hEF.2.2.2.2.1 (p1.meo hEF.2.2.2.1) ((hEF.2.1 13 (by decide)).trans p2) (by omega) ((hEF.2.2.1 _).trans (p3 _ (by omega))) (by omega) (by omega) ⟨hgm.1, Int.le_trans hgm.2 p6.2⟩) rfl (by omega) (by decide) rfl) (fun h146 σ150 hT147 E148 => ?_)
            have hEF := hEF.tr E148
            refine yT.inc2 (pc' := 52) (Z := (n109 : Int) + 1) (xg_ne g112 rfl) e110 rfl rfl rfl ⟨by decide, by omega⟩ (fun x151 e152 => ?_)
            refine yT.p (pc' := 2) rfl rfl (fun _ _ _ _ => rfl) ?_
            exact ih117 _ σ150 _ (n109 + 1) x151 hT147 (by omega) (xg_ne (xg_ne g111 rfl) rfl) xg_eq hEF (by omega) (by omega)
  exact L103 _ _ σ _ (0) x101 hT (by omega) (xg_ne g0 rfl) xg_eq (EF.rf p0 p6.1 (by decide)) (by omega) (Nat.lt_succ_self _)
