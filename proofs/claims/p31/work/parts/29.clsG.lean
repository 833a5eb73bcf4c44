/-! a web taken from another; the tape; batches -/
theorem c91 {ks : List cT} {σ : Nat → Nat → Int32} {ρ : Nat → xE} {h : List xE} (hT : HT ks σ ρ h) {q0 : Nat} (o0 : xnth ks q0 = some (17, 0)) {q1 : Nat} (o1 : xnth ks q1 = some (17, 0)) : yM 91 6 18312 [.ref (q0 + 1), .ref (q1 + 1)] h (CA ks (us σ q0 7 (σ q1 7)) ρ (9, 0, 0) 72 yT0) := by
  refine yM.st xM_91 rfl rfl (fun lv g => ?_)
  have g0 := g 0 _ rfl
  have g1 := g 1 _ rfl
  refine yT.kI (pc' := 1) rfl rfl (by decide) (fun z ez => ?_)
  refine yT.p (pc' := 2) (lv' := xst1 _ 2 (.int z)) rfl rfl (fun _ _ _ _ => rfl) ?_
  have L : ∀ (n : Nat) (lv : xLv) (ks' : List cT) (h' : List xE) (i : Nat) (x : Int32), x.toInt = (i : Int) → i ≤ 24 → KE ks ks' (3 * i) → HT ks' σ ρ h' → xget lv 0 = some (.ref (q0 + 1)) → xget lv 1 = some (.ref (q1 + 1)) → xget lv 2 = some (.int x) → 24 - i < n →
      yT 0 [] rX7_takeFrom 6 (763 * (24 - i)) 2 lv [] h' (CA ks (us σ q0 7 (σ q1 7)) ρ (9, 0, 0) 72 yT0) := by
    intro n
    induction n with
    | zero => intro lv ks' h' i x _ _ _ _ _ _ _ hn; exact absurd hn (Nat.not_lt_zero _)
    | succ n ih =>
      intro lv ks' h' i x ex hi ke hT' g0 g1 g2 hn
      have out : yT 0 [] rX7_takeFrom 6 (763 * (24 - i)) 53 lv [] h' (CA ks (us σ q0 7 (σ q1 7)) ρ (9, 0, 0) 72 yT0) := yT.w (c91f53 (ke.w (by omega)) hT' (ke.up o0) g0 (ke.up o1) g1) (Nat.le_refl _) (Nat.zero_le _) (fun _ _ h => h)
      refine yT.iln (pc' := 3) g2 rfl rfl ?_
      refine yT.aan (pc' := 4) g1 rfl rfl rfl ?_
      refine yT.cgI (pc' := 7) rfl rfl hT' (ke.up o1) rfl rfl (fun y _ => ?_)
      refine yT.if2 (t := 53) (pc' := 10) rfl rfl rfl (c2_ge ex rfl) (fun _ => out) (fun c1 => ?_)
      refine yT.iln (pc' := 11) g2 rfl rfl ?_
      refine yT.aan (pc' := 12) g0 rfl rfl rfl ?_
      refine yT.cgR (pc' := 15) rfl rfl hT' (ke.up o0) rfl rfl (fun qc _ oc => ?_)
      refine yT.cal (pc' := 16) rfl rfl hT' oc rfl (by omega) (fun w ew => ?_)
      refine yT.if2 (t := 53) (pc' := 19) rfl rfl rfl (c2_ge ex ew) (fun _ => out) (fun c2 => ?_)
      have hi2 : i + 1 ≤ 24 := by omega
      have K : ∀ (lv : xLv) (ks' : List cT) (h' : List xE), KE ks ks' (3 * (i + 1)) → HT ks' σ ρ h' → xget lv 0 = some (.ref (q0 + 1)) → xget lv 1 = some (.ref (q1 + 1)) → xget lv 2 = some (.int x) → yT 0 [] rX7_takeFrom 6 (763 * (24 - (i + 1))) 47 lv [] h' (CA ks (us σ q0 7 (σ q1 7)) ρ (9, 0, 0) 72 yT0) := by
        intro lv ks' h' ke hT' g0 g1 g2
        refine yT.inc (pc' := 50) g2 ex rfl rfl rfl ⟨by decide, by omega⟩ (fun u eu => ?_)
        refine yT.p (pc' := 2) rfl rfl (fun _ _ _ _ => rfl) ?_
        exact ih _ ks' h' (i + 1) u (by omega) hi2 ke hT' (xg_ne g0 rfl) (xg_ne g1 rfl) xg_eq (by omega)
      refine yT.aan (pc' := 20) g0 rfl rfl rfl ?_
      refine yT.iln (pc' := 21) g2 rfl rfl ?_
      have ke3 : ∀ {k2 : List cT}, KE ks' k2 3 → KE ks k2 (3 * (i + 1)) := fun k => (ke.tr k).w (by omega)
      refine kAN (yT.cc (G2 := 763 * (24 - (i + 1))) (pc' := 24) rfl rfl rfl hT' (ke.up o0) xM_90 (c90 hT' (ke.up o0) x) rfl (by decide) (by omega) rfl) (fun h2 ks2 k2 hT2 _ => ?_) (fun h2 ks2 q2 k2 hT2 _ o2 => ?_)
      · refine yT.p (pc' := 25) (lv' := xst1 _ 3 .null) rfl rfl (fun _ _ _ _ => rfl) ?_
        refine yT.aan (pc' := 26) (xg_ne g1 rfl) rfl rfl rfl ?_
        refine yT.iln (pc' := 27) (xg_ne g2 rfl) rfl rfl ?_
        have o1' := (ke3 k2).up o1
        refine kN (yT.cc (G2 := 763 * (24 - (i + 1))) (pc' := 30) rfl rfl rfl hT2 o1' xM_87 (c87 hT2 o1' x) rfl (by decide) (by omega) rfl) (fun h3 hT3 _ => ?_) (fun h3 q3 hT3 _ o3 => ?_)
        · refine yT.p (pc' := 32) (lv' := xst1 _ 4 .null) rfl rfl (fun _ _ _ _ => rfl) ?_
          refine yT.aan (pc' := 33) (xg_ne xg_eq rfl) rfl rfl rfl ?_
          refine yT.p (pc' := 47) rfl rfl (fun _ _ _ _ => rfl) ?_
          exact K _ _ _ (ke3 k2) hT3 (xg_ne (xg_ne g0 rfl) rfl) (xg_ne (xg_ne g1 rfl) rfl) (xg_ne (xg_ne g2 rfl) rfl)
        · refine yT.p (pc' := 32) (lv' := xst1 _ 4 (.ref (q3 + 1))) rfl rfl (fun _ _ _ _ => rfl) ?_
          refine yT.aan (pc' := 33) (xg_ne xg_eq rfl) rfl rfl rfl ?_
          refine yT.p (pc' := 47) rfl rfl (fun _ _ _ _ => rfl) ?_
          exact K _ _ _ (ke3 k2) hT3 (xg_ne (xg_ne g0 rfl) rfl) (xg_ne (xg_ne g1 rfl) rfl) (xg_ne (xg_ne g2 rfl) rfl)
      · refine yT.p (pc' := 25) (lv' := xst1 _ 3 (.ref (q2 + 1))) rfl rfl (fun _ _ _ _ => rfl) ?_
        refine yT.aan (pc' := 26) (xg_ne g1 rfl) rfl rfl rfl ?_
        refine yT.iln (pc' := 27) (xg_ne g2 rfl) rfl rfl ?_
        have o1' := (ke3 k2).up o1
        refine kN (yT.cc (G2 := 763 * (24 - (i + 1))) (pc' := 30) rfl rfl rfl hT2 o1' xM_87 (c87 hT2 o1' x) rfl (by decide) (by omega) rfl) (fun h3 hT3 _ => ?_) (fun h3 q3 hT3 _ o3 => ?_)
        · refine yT.p (pc' := 32) (lv' := xst1 _ 4 .null) rfl rfl (fun _ _ _ _ => rfl) ?_
          refine yT.aan (pc' := 33) (xg_ne xg_eq rfl) rfl rfl rfl ?_
          refine yT.p (pc' := 36) rfl rfl (fun _ _ _ _ => rfl) ?_
          refine yT.aa_ (pc' := 38) xg_eq rfl rfl rfl ?_
          refine yT.p (pc' := 47) rfl rfl (fun _ _ _ _ => rfl) ?_
          exact K _ _ _ (ke3 k2) hT3 (xg_ne (xg_ne g0 rfl) rfl) (xg_ne (xg_ne g1 rfl) rfl) (xg_ne (xg_ne g2 rfl) rfl)
        · refine yT.p (pc' := 32) (lv' := xst1 _ 4 (.ref (q3 + 1))) rfl rfl (fun _ _ _ _ => rfl) ?_
          refine yT.aan (pc' := 33) (xg_ne xg_eq rfl) rfl rfl rfl ?_
          refine yT.p (pc' := 36) rfl rfl (fun _ _ _ _ => rfl) ?_
          refine yT.aa_ (pc' := 38) xg_eq rfl rfl rfl ?_
          refine yT.p (pc' := 41) rfl rfl (fun _ _ _ _ => rfl) ?_
          refine yT.aan (pc' := 42) (xg_ne xg_eq rfl) rfl rfl rfl ?_
          refine yT.aa_ (pc' := 44) xg_eq rfl rfl rfl ?_
          refine kV (yT.cc (G2 := 763 * (24 - (i + 1))) (pc' := 47) rfl rfl rfl hT3 o2 xM_7 (c7 hT3 o2 o3) rfl (by decide) (by omega) rfl) (fun h4 hT4 _ => ?_)
          exact K _ _ _ (ke3 k2) hT4 (xg_ne (xg_ne g0 rfl) rfl) (xg_ne (xg_ne g1 rfl) rfl) (xg_ne (xg_ne g2 rfl) rfl)
  exact L 25 _ ks h 0 z (by omega) (by omega) (KE.rf.w (Nat.zero_le _)) hT (xg_ne g0 rfl) (xg_ne g1 rfl) xg_eq (by omega)
