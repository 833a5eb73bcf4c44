/-! the tape's size, batches: exact -/
theorem i32_ext {x y : Int32} (h : x.toInt = y.toInt) : x = y := Int32.toInt_inj.mp h
section CH
variable {ks : List cT} {σ : Nat → Nat → Int32} {ρ : Nat → xE} {h : List xE} {q0 : Nat}
theorem c44e (hT : HT ks σ ρ h) (o0 : xnth ks q0 = some (9, 0)) : yM 44 0 0 [.ref (q0 + 1)] h (CQ ks σ ρ (6, 0, 250) (fun _ r => r = some (.int (σ q0 1)))) := by
  refine yM.st xM_44 rfl rfl (fun lv g => ?_)
  have g0 := g 0 _ rfl
  refine yT.aan (pc' := 1) g0 rfl rfl rfl ?_
  refine yT.cgX (pc' := 4) rfl rfl hT o0 rfl rfl (fun x w i j z => ?_)
  exact yT.retI rfl rfl (qS hT (by rw [z]) i j)
theorem c50t (hT : HT ks σ ρ h) (o0 : xnth ks q0 = some (9, 0)) (hs : (σ q0 1).toInt < 250) (x1 : Int32) : yM 50 0 0 [.ref (q0 + 1), .int x1] h (CQ ks (us σ q0 1 (σ q0 1 + 1)) ρ (9, 0, 0) yT0) := by
  refine yM.st xM_50 rfl rfl (fun lv g => ?_)
  have g0 := g 0 _ rfl
  have g1 := g 1 _ rfl
  refine yT.aan (pc' := 1) g0 rfl rfl rfl ?_
  refine yT.p (pc' := 2) rfl rfl (fun _ _ _ _ => rfl) ?_
  refine yT.cgI (pc' := 5) rfl rfl hT o0 rfl rfl (fun c _ => ?_)
  refine yT.kI (pc' := 6) rfl rfl (by decide) (fun u _ => ?_)
  refine yT.fi (pc' := 7) rfl rfl (fun _ _ _ _ => rfl) (fun v => ?_)
  refine yT.cpI (pc' := 10) rfl rfl hT o0 rfl rfl rfl (fun h1 hT1 _ _ => ?_)
  refine yT.aan (pc' := 11) g0 rfl rfl rfl ?_
  refine yT.cgX (pc' := 14) rfl rfl hT1 o0 rfl rfl (fun x w i j z => ?_)
  refine yT.if1 (t := 49) (pc' := 17) rfl rfl rfl (c1_lt rfl) (fun k => by omega) (fun _ => ?_)
  refine yT.aan (pc' := 18) g0 rfl rfl rfl ?_
  refine yT.cgk (pc' := 21) rfl rfl w ?_
  refine yT.aan (pc' := 22) g0 rfl rfl rfl ?_
  refine yT.cgR (pc' := 25) rfl rfl hT1 o0 rfl rfl (fun qi wi oi => ?_)
  refine yT.cal (pc' := 26) rfl rfl hT1 oi rfl (by omega) (fun n en => ?_)
  have hx : x.toInt < 250 := by rw [z]; exact hs
  refine yT.if2 (t := 49) (pc' := 29) rfl rfl rfl (c2_ge rfl en) (fun k => by omega) (fun _ => ?_)
  refine yT.aan (pc' := 30) g0 rfl rfl rfl ?_
  refine yT.cgk (pc' := 33) rfl rfl wi ?_
  refine yT.aan (pc' := 34) g0 rfl rfl rfl ?_
  refine yT.cgk (pc' := 37) rfl rfl w ?_
  refine yT.iln (pc' := 38) g1 rfl rfl ?_
  refine yT.cis (pc' := 39) rfl rfl hT1 oi rfl (by omega) (fun h2 hT2 fv => ?_)
  refine yT.aan (pc' := 40) g0 rfl rfl rfl ?_
  refine yT.p (pc' := 41) rfl rfl (fun _ _ _ _ => rfl) ?_
  refine yT.cgk (pc' := 44) rfl rfl (fv _ _ _ _ w) ?_
  refine yT.kI (pc' := 45) rfl rfl (by decide) (fun u eu => ?_)
  refine yT.ad (pc' := 46) rfl eu rfl rfl (by omega) (fun s es => ?_)
  refine yT.cpX (pc' := 49) (c := σ q0 1 + 1) rfl rfl hT2 o0 rfl rfl rfl es (by omega) (i32_ext (by rw [es, i32_add (X := (σ q0 1).toInt) (Y := 1) rfl rfl (by rw [← z]; omega), z])) (fun h3 hT3 _ _ => ?_)
  exact yT.retV rfl rfl (qV hT3 trivial)
variable {B0 : Nat}
theorem c116 (hT : HT ks σ ρ h) (K : KE KS0 ks B0) (o0 : xnth ks q0 = some (18, 0)) : yM 116 1 0 [.ref (q0 + 1)] h (CQ ks (us σ 40 1 0) ρ (0, 0, 0) (fun _ r => r = some (.int (σ 40 1)))) := by
  refine yM.st xM_116 rfl rfl (fun lv g => ?_)
  have g0 := g 0 _ rfl
  refine yT.aan (pc' := 1) g0 rfl rfl rfl ?_
  refine yT.cg8 (pc' := 4) rfl rfl hT o0 rfl rfl (fun _ => ?_)
  refine kS (yT.cc (G2 := 0) (pc' := 7) rfl rfl rfl hT (K.up rfl) xM_44 (c44e hT (K.up rfl)) rfl (by decide) (by decide) rfl) (fun h1 x hT1 E _ _ => ?_)
  refine yT.p (pc' := 8) (lv' := xst1 _ 1 (.int x)) rfl rfl (fun _ _ _ _ => rfl) ?_
  refine yT.aan (pc' := 9) (xg_ne g0 rfl) rfl rfl rfl ?_
  refine yT.cg8 (pc' := 12) rfl rfl hT1 o0 rfl rfl (fun _ => ?_)
  refine kV (yT.cc (G2 := 0) (pc' := 15) rfl rfl rfl hT1 (K.up rfl) xM_55 (c55t hT1 (K.up rfl)) rfl (by decide) (by decide) rfl) (fun h2 hT2 _ => ?_)
  refine yT.iln (pc' := 16) xg_eq rfl rfl ?_
  exact yT.retI rfl rfl (qI hT2 E)
/-- what feed() answers, and the tape's size behind it -/
def FD (s x r : Int32) (σ σ' : Nat → Nat → Int32) : Prop := (x.toInt < 0 ∨ 255 < x.toInt) ∧ r = -2 ∧ σ' = σ ∨ (0 ≤ x.toInt ∧ x.toInt ≤ 255) ∧ 250 ≤ s.toInt ∧ r = -6 ∧ σ' = σ ∨ (0 ≤ x.toInt ∧ x.toInt ≤ 255) ∧ s.toInt < 250 ∧ r = s + 1 ∧ σ' = us σ 40 1 (s + 1)
theorem c115 (hT : HT ks σ ρ h) (K : KE KS0 ks B0) (o0 : xnth ks q0 = some (18, 0)) (x1 : Int32) : yM 115 1 0 [.ref (q0 + 1), .int x1] h (fun h' r => ∃ (x : Int32) (σ' : Nat → Nat → Int32), r = some (.int x) ∧ HT ks σ' ρ h' ∧ FD (σ 40 1) x1 x σ σ') := by
  refine yM.st xM_115 rfl rfl (fun lv g => ?_)
  have g0 := g 0 _ rfl
  have g1 := g 1 _ rfl
  have bad : (x1.toInt < 0 ∨ 255 < x1.toInt) → yT 0 [] rX8_feed 1 0 11 lv [] h (fun h' r => ∃ (x : Int32) (σ' : Nat → Nat → Int32), r = some (.int x) ∧ HT ks σ' ρ h' ∧ FD (σ 40 1) x1 x σ σ') := by
    intro hb
    refine yT.aan (pc' := 12) g0 rfl rfl rfl ?_
    refine yT.kb (pc' := 14) rfl rfl (by decide) (fun u eu => ?_)
    refine kI (yT.cc (G2 := 0) (pc' := 17) rfl rfl rfl hT o0 xM_153 (c153 hT K o0 u) rfl (by decide) (by decide) rfl) (fun h1 x hT1 E => ?_)
    obtain rfl : x = u := by injection (Option.some.inj E)
    exact yT.retI rfl rfl ⟨x, σ, rfl, hT1, Or.inl ⟨hb, i32_ext eu, rfl⟩⟩
  refine yT.iln (pc' := 1) g1 rfl rfl ?_
  refine yT.if1 (t := 11) (pc' := 4) rfl rfl rfl (c1_lt rfl) (fun k => bad (Or.inl k)) (fun k1 => ?_)
  refine yT.iln (pc' := 5) g1 rfl rfl ?_
  refine yT.ks (pc' := 8) rfl rfl (by decide) (fun u eu => ?_)
  refine yT.if2 (t := 18) (pc' := 11) rfl rfl rfl (c2_le rfl eu) (fun k2 => ?_) (fun k2 => bad (Or.inr (by omega)))
  have hx : 0 ≤ x1.toInt ∧ x1.toInt ≤ 255 := ⟨by omega, by omega⟩
  refine yT.aan (pc' := 19) g0 rfl rfl rfl ?_
  refine yT.cg8 (pc' := 22) rfl rfl hT o0 rfl rfl (fun _ => ?_)
  refine kS (yT.cc (G2 := 0) (pc' := 25) rfl rfl rfl hT (K.up rfl) xM_44 (c44e hT (K.up rfl)) rfl (by decide) (by decide) rfl) (fun h1 x hT1 E _ _ => ?_)
  obtain rfl : x = σ 40 1 := by injection (Option.some.inj E)
  refine yT.ks (pc' := 28) rfl rfl (by decide) (fun v ev => ?_)
  refine yT.if2 (t := 38) (pc' := 31) rfl rfl rfl (c2_lt rfl ev) (fun k3 => ?_) (fun k3 => ?_)
  · refine yT.aan (pc' := 39) g0 rfl rfl rfl ?_
    refine yT.cg8 (pc' := 42) rfl rfl hT1 o0 rfl rfl (fun _ => ?_)
    refine yT.iln (pc' := 43) g1 rfl rfl ?_
    refine kV (yT.cc (G2 := 0) (pc' := 46) rfl rfl rfl hT1 (K.up rfl) xM_50 (c50t hT1 (K.up rfl) k3 x1) rfl (by decide) (by decide) rfl) (fun h2 hT2 _ => ?_)
    refine yT.aan (pc' := 47) g0 rfl rfl rfl ?_
    refine yT.cg8 (pc' := 50) rfl rfl hT2 o0 rfl rfl (fun _ => ?_)
    refine kS (yT.cc (G2 := 0) (pc' := 53) rfl rfl rfl hT2 (K.up rfl) xM_44 (c44e hT2 (K.up rfl)) rfl (by decide) (by decide) rfl) (fun h3 y hT3 E3 _ _ => ?_)
    have e3 : y = σ 40 1 + 1 := by
      injection (Option.some.inj E3)
    exact yT.retI rfl rfl ⟨y, _, rfl, hT3, Or.inr (Or.inr ⟨hx, k3, e3, rfl⟩)⟩
  · refine yT.aan (pc' := 32) g0 rfl rfl rfl ?_
    refine yT.kb (pc' := 34) rfl rfl (by decide) (fun u eu => ?_)
    refine kI (yT.cc (G2 := 0) (pc' := 37) rfl rfl rfl hT1 o0 xM_153 (c153 hT1 K o0 u) rfl (by decide) (by decide) rfl) (fun h2 x hT2 E => ?_)
    obtain rfl : x = u := by injection (Option.some.inj E)
    exact yT.retI rfl rfl ⟨x, σ, rfl, hT2, Or.inr (Or.inl ⟨hx, by omega, i32_ext eu, rfl⟩)⟩
theorem c126 (hT : HT ks σ ρ h) (K : KE KS0 ks B0) (o0 : xnth ks q0 = some (18, 0)) (hb : (σ 1 7).toInt < 1000000) : yM 126 0 0 [.ref (q0 + 1)] h (CQ ks (us σ 1 7 (σ 1 7 + 1)) ρ (0, 0, 0) (fun _ r => r = some (.int (σ 1 7 + 1)))) := by
  refine yM.st xM_126 rfl rfl (fun lv g => ?_)
  have g0 := g 0 _ rfl
  refine yT.aan (pc' := 1) g0 rfl rfl rfl ?_
  refine yT.cg8 (pc' := 4) rfl rfl hT o0 rfl rfl (fun _ => ?_)
  refine yT.p (pc' := 5) rfl rfl (fun _ _ _ _ => rfl) ?_
  refine yT.cgX (pc' := 8) rfl rfl hT (K.up rfl) rfl rfl (fun x w i j z => ?_)
  refine yT.kI (pc' := 9) rfl rfl (by decide) (fun u eu => ?_)
  refine yT.ad (pc' := 10) rfl eu rfl rfl (by omega) (fun s es => ?_)
  have e1 : s = σ 1 7 + 1 := i32_ext (by rw [es, i32_add (X := (σ 1 7).toInt) (Y := 1) rfl rfl (by rw [← z]; omega), z])
  refine yT.cpX (pc' := 13) (c := σ 1 7 + 1) rfl rfl hT (K.up rfl) rfl rfl rfl es (by rw [← z] at hb; omega) e1 (fun h3 hT3 _ _ => ?_)
  refine yT.aan (pc' := 14) g0 rfl rfl rfl ?_
  refine yT.cg8 (pc' := 17) rfl rfl hT3 o0 rfl rfl (fun _ => ?_)
  refine yT.cgX (pc' := 20) rfl rfl hT3 (K.up rfl) rfl rfl (fun y _ _ _ zy => ?_)
  exact yT.retI rfl rfl (qI hT3 (by rw [zy, us_eq]))
theorem c127 (hT : HT ks σ ρ h) (K : KE KS0 ks B0) (o0 : xnth ks q0 = some (18, 0)) : yM 127 402 0 [.ref (q0 + 1)] h (fun h' r => ∃ (x : Int32) (σ' : Nat → Nat → Int32), r = some (.int x) ∧ HT ks σ' ρ h' ∧ ((σ 1 7).toInt ≤ 0 ∧ x = -5 ∧ σ' = σ ∨ 0 < (σ 1 7).toInt ∧ x = σ 1 7 - 1 ∧ σ' = us σ 1 7 (σ 1 7 - 1))) := by
  refine yM.st xM_127 rfl rfl (fun lv g => ?_)
  have g0 := g 0 _ rfl
  refine yT.aan (pc' := 1) g0 rfl rfl rfl ?_
  refine yT.cg8 (pc' := 4) rfl rfl hT o0 rfl rfl (fun _ => ?_)
  refine yT.cgX (pc' := 7) rfl rfl hT (K.up rfl) rfl rfl (fun x w i j z => ?_)
  refine yT.if1 (t := 17) (pc' := 10) rfl rfl rfl (c1_gt rfl) (fun k => ?_) (fun k => ?_)
  · refine yT.aan (pc' := 18) g0 rfl rfl rfl ?_
    refine yT.cg8 (pc' := 21) rfl rfl hT o0 rfl rfl (fun _ => ?_)
    refine yT.p (pc' := 22) rfl rfl (fun _ _ _ _ => rfl) ?_
    refine yT.cgk (pc' := 25) rfl rfl w ?_
    refine yT.kI (pc' := 26) rfl rfl (by decide) (fun u eu => ?_)
    refine yT.sb (pc' := 27) rfl eu rfl rfl (by omega) (fun s es => ?_)
    have e1 : s = σ 1 7 - 1 := i32_ext (by rw [es, i32_sub (X := (σ 1 7).toInt) (Y := 1) rfl rfl (by rw [← z]; omega), z])
    refine yT.cpX (pc' := 30) (c := σ 1 7 - 1) rfl rfl hT (K.up rfl) rfl rfl rfl es (by omega) e1 (fun h3 hT3 _ _ => ?_)
    refine yT.aan (pc' := 31) g0 rfl rfl rfl ?_
    refine yT.cgR (pc' := 34) rfl rfl hT3 o0 rfl rfl (fun qp _ op => ?_)
    refine kV (yT.cc (G2 := 0) (pc' := 37) rfl rfl rfl hT3 op xM_60 (c60 hT3 op) rfl (by decide) (by decide) rfl) (fun h4 hT4 _ => ?_)
    refine yT.aan (pc' := 38) g0 rfl rfl rfl ?_
    refine yT.cg8 (pc' := 41) rfl rfl hT4 o0 rfl rfl (fun _ => ?_)
    refine yT.cgX (pc' := 44) rfl rfl hT4 (K.up rfl) rfl rfl (fun y _ _ _ zy => ?_)
    exact yT.retI rfl rfl ⟨y, _, rfl, hT4, Or.inr ⟨by rw [← z]; exact k, by rw [zy, us_eq], rfl⟩⟩
  · refine yT.aan (pc' := 11) g0 rfl rfl rfl ?_
    refine yT.kb (pc' := 13) rfl rfl (by decide) (fun u eu => ?_)
    refine kI (yT.cc (G2 := 0) (pc' := 16) rfl rfl rfl hT o0 xM_153 (c153 hT K o0 u) rfl (by decide) (by decide) rfl) (fun h1 y hT1 E => ?_)
    obtain rfl : y = u := by injection (Option.some.inj E)
    exact yT.retI rfl rfl ⟨y, σ, rfl, hT1, Or.inl ⟨by rw [← z]; omega, i32_ext eu, rfl⟩⟩
end CH
