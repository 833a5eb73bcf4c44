/-! the end of the reader's take() -/
theorem take_tail {ks : List cT} {σ : Nat → Nat → Int32} {ρ : Nat → xE} {h : List xE} (hT : HT ks σ ρ h) {q0 : Nat} (o0 : xnth ks q0 = some (13, 0)) {lv : xLv} (g0 : xget lv 0 = some (.ref (q0 + 1))) {F : Nat} (hF : 4 ≤ F) : yT 0 [] rX3_take F 3020 118 lv [] h (CA ks σ ρ (4, 12, 0) 9 yT0) := by
  refine yT.nwc (pc' := 121) (n := 8) (G2 := 3012) rfl rfl rfl rfl (by decide) ?_
  show yT 0 [] rX3_take F 3012 121 lv [.ref (h.length + 1)] (h ++ [oFor]) _
  have hT0 := hT.raw2 oFor
  have o00 := xnth_app (l := [((0, 0) : cT)]) o0
  refine yT.p (pc' := 122) rfl rfl (fun _ _ _ _ => rfl) ?_
  refine yT.aan (pc' := 123) g0 rfl rfl rfl ?_
  refine yT.cgR (pc' := 126) rfl rfl hT0 o00 rfl rfl (fun q1 _ o1 => ?_)
  refine yT.aan (pc' := 127) g0 rfl rfl rfl ?_
  refine yT.cgR (pc' := 130) rfl rfl hT0 o00 rfl rfl (fun q2 _ o2 => ?_)
  refine yT.aan (pc' := 131) g0 rfl rfl rfl ?_
  refine yT.cgR (pc' := 134) rfl rfl hT0 o00 rfl rfl (fun q3 _ o3 => ?_)
  refine yT.aan (pc' := 135) g0 rfl rfl rfl ?_
  refine yT.cgS (pc' := 138) rfl rfl hT0 o00 rfl rfl (fun x _ _ hx => ?_)
  refine yT.cv (G2 := 0) xM_10 (xnth_at (l := [])) (c10 hT (kdn o1 rfl) (by decide) (kdn o2 rfl) (by decide) (kdn o3 rfl) (by decide) x hx) rfl hF (by decide) rfl rfl rfl (fun h' ret hh => ?_)
  obtain ⟨rfl, ks', ke, hT', o'⟩ := hh
  rw [← hT.1] at o'
  exact yT.retA rfl rfl rfl (qAN ke hT' trivial o' rfl)
