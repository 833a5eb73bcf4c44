/-! room for a cell -/
theorem c90 {ks : List cT} {σ : Nat → Nat → Int32} {ρ : Nat → xE} {h : List xE} (hT : HT ks σ ρ h) {q0 : Nat} (o0 : xnth ks q0 = some (17, 0)) (x1 : Int32) : yM 90 3 763 [.ref (q0 + 1), .int x1] h (CA ks σ ρ (4, 11, 0) 3 yT0) := by
  refine yM.st xM_90 rfl rfl (fun lv g => ?_)
  have g0 := g 0 _ rfl
  have g1 := g 1 _ rfl
  have K : ∀ (ks' : List cT) (h' : List xE) (G : Nat), KE ks ks' 3 → HT ks' σ ρ h' → 0 ≤ x1.toInt ∧ x1.toInt < 24 → yT 0 [] rX7_roomFor 3 G 37 lv [] h' (CA ks σ ρ (4, 11, 0) 3 yT0) := by
    intro ks' h' G ke hT' hx
    refine yT.aan (pc' := 38) g0 rfl rfl rfl ?_
    refine yT.cgR (pc' := 41) rfl rfl hT' (ke.up o0) rfl rfl (fun qc w oc => ?_)
    refine yT.iln (pc' := 42) g1 rfl rfl ?_
    refine yT.cca (pc' := 43) rfl rfl hT' oc rfl hx ?_ (fun q o => ?_)
    · exact yT.retA rfl rfl rfl (qAN0 ke hT' trivial)
    · exact yT.retA rfl rfl rfl (qAN ke hT' trivial o rfl)
  have N : ∀ G : Nat, yT 0 [] rX7_roomFor 3 G 13 lv [] h (CA ks σ ρ (4, 11, 0) 3 yT0) := by
    intro G
    refine yT.p (pc' := 14) rfl rfl (fun _ _ _ _ => rfl) ?_
    exact yT.retA rfl rfl rfl (qAN0 (KE.rf.w (Nat.zero_le _)) hT trivial)
  refine yT.iln (pc' := 1) g1 rfl rfl ?_
  refine yT.if1 (t := 13) (pc' := 4) rfl rfl rfl (c1_lt rfl) (fun _ => N _) (fun c1 => ?_)
  refine yT.iln (pc' := 5) g1 rfl rfl ?_
  refine yT.aan (pc' := 6) g0 rfl rfl rfl ?_
  refine yT.cgR (pc' := 9) rfl rfl hT o0 rfl rfl (fun qc w oc => ?_)
  refine yT.cal (pc' := 10) rfl rfl hT oc rfl (by omega) (fun z ez => ?_)
  refine yT.if2 (t := 15) (pc' := 13) rfl rfl rfl (c2_lt rfl ez) (fun c2 => ?_) (fun _ => N _)
  have hx : 0 ≤ x1.toInt ∧ x1.toInt < 24 := ⟨by omega, by omega⟩
  refine yT.aan (pc' := 16) g0 rfl rfl rfl ?_
  refine yT.cgk (pc' := 19) rfl rfl w ?_
  refine yT.iln (pc' := 20) g1 rfl rfl ?_
  refine yT.cca (pc' := 21) rfl rfl hT oc rfl hx ?_ (fun q o => ?_)
  · refine yT.p (pc' := 24) rfl rfl (fun _ _ _ _ => rfl) ?_
    refine yT.aan (pc' := 25) g0 rfl rfl rfl ?_
    refine yT.cgk (pc' := 28) rfl rfl w ?_
    refine yT.iln (pc' := 29) g1 rfl rfl ?_
    refine yT.nwc (pc' := 32) (n := 10) (G2 := 753) rfl rfl rfl rfl (by decide) ?_
    refine yT.p (pc' := 33) rfl rfl (fun _ _ _ _ => rfl) ?_
    refine yT.cv (G2 := 0) xM_5 (xnth_at (l := [])) (c5 hT) rfl (by decide) (by decide) rfl rfl rfl (fun h' ret hh => ?_)
    obtain ⟨rfl, ks', ke, hT', o'⟩ := hh
    rw [← hT.1] at o'
    refine yT.cas (pc' := 37) rfl rfl hT' (ke.up oc) rfl hx o' (fun h'' hT'' _ => ?_)
    exact K ks' h'' _ ke hT'' hx
  · refine yT.p (pc' := 37) rfl rfl (fun _ _ _ _ => rfl) ?_
    exact K ks h _ (KE.rf.w (Nat.zero_le _)) hT hx
