-- rX7_count
def WWe_count  (q0 : Nat) (m : Mm) (K : Mm → Int32 → Prop) : Prop := K m (m.iv q0 2)
set_option maxRecDepth 100000 in
set_option maxHeartbeats 4000000 in
theorem kWe_count {ks : List Nat} {h : List xE} (hT : TT ks h) {q0 : Nat} (o0 : xnth ks q0 = some 17)  {K : Mm → Int32 → Prop} (j : WWe_count  q0 (mm h) K) : yM 69 (0) 0 [.ref (q0 + 1)] h (PI ks K) := by
  unfold WWe_count at j
  refine yM.st xM_69 rfl rfl (fun lv g => ?_)
  have g0 := g 0 _ rfl
  refine yT.aan (pc' := 1) g0 rfl rfl rfl ?_
  refine yT.gI (pc' := 4) rfl rfl hT o0 rfl ?_
  exact yT.retI rfl rfl ⟨_, rfl, hT, j⟩
-- rX7_isFull
def WWe_isFull  (q0 : Nat) (m : Mm) (K : Mm → Int32 → Prop) : Prop := ∃ p1, m.rv q0 0 = p1 + 1 ∧ (((m.iv q0 2).toInt < (Int32.ofNat (m.ln p1)).toInt) → K m 0) ∧ (¬ ((m.iv q0 2).toInt < (Int32.ofNat (m.ln p1)).toInt) → K m 1)
set_option maxRecDepth 100000 in
set_option maxHeartbeats 4000000 in
theorem kWe_isFull {ks : List Nat} {h : List xE} (hT : TT ks h) {q0 : Nat} (o0 : xnth ks q0 = some 17)  {K : Mm → Int32 → Prop} (j : WWe_isFull  q0 (mm h) K) : yM 70 (0) 0 [.ref (q0 + 1)] h (PZ ks K) := by
  unfold WWe_isFull at j
  refine yM.st xM_70 rfl rfl (fun lv g => ?_)
  have g0 := g 0 _ rfl
  refine yT.aan (pc' := 1) g0 rfl rfl rfl ?_
  refine yT.gI (pc' := 4) rfl rfl hT o0 rfl ?_
  refine yT.aan (pc' := 5) g0 rfl rfl rfl ?_
  obtain ⟨p1, w2, j⟩ := j
  refine yT.gR (pc' := 8) rfl rfl hT o0 rfl rfl w2 (fun o3 => ?_)
  refine yT.aL (pc' := 9) rfl rfl hT o3 rfl ?_
  refine yT.zlt2 (t := 16) (pc' := 12) rfl rfl rfl (fun c4 => ?_) (fun c4 => ?_)
  · replace j := j.1 c4
    refine yT.zk (pc' := 17) (z := 0) rfl rfl (by decide) ?_
    exact yT.retZ rfl rfl (Or.inl rfl) ⟨_, rfl, hT, (Or.inl rfl), j⟩
  · replace j := j.2 c4
    refine yT.zk (pc' := 13) (z := 1) rfl rfl (by decide) ?_
    refine yT.p (pc' := 17) rfl rfl (fun _ _ _ _ => rfl) ?_
    exact yT.retZ rfl rfl (Or.inr rfl) ⟨_, rfl, hT, (Or.inr rfl), j⟩
-- rX7_cell
def WWe_cell  (q0 : Nat) (x1 : Int32) (m : Mm) (K : Mm → Nat → Prop) : Prop := ((x1.toInt < 0) → K m 0) ∧ (¬ (x1.toInt < 0) → ((x1.toInt < (m.iv q0 2).toInt) → ∃ p3, m.rv q0 0 = p3 + 1 ∧ ((x1.toInt < (Int32.ofNat (m.ln p3)).toInt) → (0 ≤ x1.toInt ∧ x1.toInt < (m.ln p3 : Int)) ∧ (m.rv p3 x1.toInt.toNat = 0 → K m 0) ∧ (∀ p8, m.rv p3 x1.toInt.toNat = p8 + 1 → K m (p8 + 1))) ∧ (¬ (x1.toInt < (Int32.ofNat (m.ln p3)).toInt) → K m 0)) ∧ (¬ (x1.toInt < (m.iv q0 2).toInt) → K m 0))
set_option maxRecDepth 100000 in
set_option maxHeartbeats 4000000 in
theorem kWe_cell {ks : List Nat} {h : List xE} (hT : TT ks h) {q0 : Nat} (o0 : xnth ks q0 = some 17) (x1 : Int32)  {K : Mm → Nat → Prop} (j : WWe_cell  q0 x1 (mm h) K) : yM 71 (0) 0 [.ref (q0 + 1), .int x1] h (PR ks 11 K) := by
  unfold WWe_cell at j
  refine yM.st xM_71 rfl rfl (fun lv g => ?_)
  have g0 := g 0 _ rfl
  have g1 := g 1 _ rfl
  refine yT.iln (pc' := 1) g1 rfl rfl ?_
  refine yT.zlt1 (t := 30) (pc' := 4) rfl rfl rfl (fun c1 => ?_) (fun c1 => ?_)
  · replace j := j.1 c1
    refine yT.p (pc' := 31) rfl rfl (fun _ _ _ _ => rfl) ?_
    exact yT.retA rfl rfl rfl ⟨0, rfl, Or.inl rfl, hT, j⟩
  · replace j := j.2 c1
    refine yT.iln (pc' := 5) g1 rfl rfl ?_
    refine yT.aan (pc' := 6) g0 rfl rfl rfl ?_
    refine yT.gI (pc' := 9) rfl rfl hT o0 rfl ?_
    refine yT.zge2 (t := 30) (pc' := 12) rfl rfl rfl (fun c2 => ?_) (fun c2 => ?_)
    · replace j := j.1 c2
      refine yT.iln (pc' := 13) g1 rfl rfl ?_
      refine yT.aan (pc' := 14) g0 rfl rfl rfl ?_
      obtain ⟨p3, w4, j⟩ := j
      refine yT.gR (pc' := 17) rfl rfl hT o0 rfl rfl w4 (fun o5 => ?_)
      refine yT.aL (pc' := 18) rfl rfl hT o5 rfl ?_
      refine yT.zge2 (t := 30) (pc' := 21) rfl rfl rfl (fun c6 => ?_) (fun c6 => ?_)
      · replace j := j.1 c6
        refine yT.aan (pc' := 22) g0 rfl rfl rfl ?_
        refine yT.gR (pc' := 25) rfl rfl hT o0 rfl rfl w4 (fun _ => ?_)
        refine yT.iln (pc' := 26) g1 rfl rfl ?_
        obtain ⟨c7, j⟩ := j
        refine yT.cA (pc' := 27) rfl rfl hT o5 c7 (fun w9 => ?_) (fun p8 w9 o10 => ?_)
        · replace j := j.1 w9
          refine yT.p (pc' := 31) rfl rfl (fun _ _ _ _ => rfl) ?_
          exact yT.retA rfl rfl rfl ⟨0, rfl, Or.inl rfl, hT, j⟩
        · replace j := j.2 p8 w9
          refine yT.p (pc' := 31) rfl rfl (fun _ _ _ _ => rfl) ?_
          exact yT.retA rfl rfl rfl ⟨_, rfl, Or.inr ⟨_, rfl, o10⟩, hT, j⟩
      · replace j := j.2 c6
        refine yT.p (pc' := 31) rfl rfl (fun _ _ _ _ => rfl) ?_
        exact yT.retA rfl rfl rfl ⟨0, rfl, Or.inl rfl, hT, j⟩
    · replace j := j.2 c2
      refine yT.p (pc' := 31) rfl rfl (fun _ _ _ _ => rfl) ?_
      exact yT.retA rfl rfl rfl ⟨0, rfl, Or.inl rfl, hT, j⟩
-- rX7_mayOwn
def WWe_mayOwn  (q0 : Nat) (x1 : Int32) (m : Mm) (K : Mm → Int32 → Prop) : Prop := WWe_cell q0 x1 m (fun m1 => nn (((x1 = (-1)) → K m1 1) ∧ (¬ (x1 = (-1)) → K m1 0)) (fun p3 => ((x1 = (-1)) → K m1 1) ∧ (¬ (x1 = (-1)) → (m1.iv p3 2 = 0 ∨ m1.iv p3 2 = 1) → (((m1.iv p3 2) = 0) → (((m1.iv p3 0) = 5) → K m1 1) ∧ (¬ ((m1.iv p3 0) = 5) → (((m1.iv p3 0) = 4) → K m1 1) ∧ (¬ ((m1.iv p3 0) = 4) → K m1 0))) ∧ (¬ ((m1.iv p3 2) = 0) → K m1 0))))
set_option maxRecDepth 100000 in
set_option maxHeartbeats 4000000 in
theorem kWe_mayOwn {ks : List Nat} {h : List xE} (hT : TT ks h) {q0 : Nat} (o0 : xnth ks q0 = some 17) (x1 : Int32)  {K : Mm → Int32 → Prop} (j : WWe_mayOwn  q0 x1 (mm h) K) : yM 72 (1) 0 [.ref (q0 + 1), .int x1] h (PZ ks K) := by
  unfold WWe_mayOwn at j
  refine yM.st xM_72 rfl rfl (fun lv g => ?_)
  have g0 := g 0 _ rfl
  have g1 := g 1 _ rfl
  refine yT.aan (pc' := 1) g0 rfl rfl rfl ?_
  refine yT.iln (pc' := 2) g1 rfl rfl ?_
  refine zR (yT.cw (G2 := 0) (pc' := 5) rfl rfl rfl hT o0 xM_71 (kWe_cell hT o0 x1 j) rfl (by decide) (by decide) rfl) (fun h1 hT2 j => ?_) (fun h1 p3 hT2 o5 j => ?_)
  · replace j := j.1 rfl
    refine yT.p (pc' := 6) (lv' := xst1 _ 2 (.null)) rfl rfl (fun _ _ _ _ => rfl) ?_
    refine yT.iln (pc' := 7) (xg_ne g1 rfl) rfl rfl ?_
    refine yT.zk (pc' := 8) (z := (-1)) rfl rfl (by decide) ?_
    refine yT.zeq2 (t := 38) (pc' := 11) rfl rfl rfl (fun c6 => ?_) (fun c6 => ?_)
    · replace j := j.1 c6
      refine yT.zk (pc' := 39) (z := 1) rfl rfl (by decide) ?_
      refine yT.p (pc' := 43) rfl rfl (fun _ _ _ _ => rfl) ?_
      exact yT.retZ rfl rfl (Or.inr rfl) ⟨_, rfl, hT2, (Or.inr rfl), j⟩
    · replace j := j.2 c6
      refine yT.aan (pc' := 12) xg_eq rfl rfl rfl ?_
      refine yT.p (pc' := 42) rfl rfl (fun _ _ _ _ => rfl) ?_
      refine yT.zk (pc' := 43) (z := 0) rfl rfl (by decide) ?_
      exact yT.retZ rfl rfl (Or.inl rfl) ⟨_, rfl, hT2, (Or.inl rfl), j⟩
  · replace j := j.2 _ rfl
    refine yT.p (pc' := 6) (lv' := xst1 _ 2 (.ref (p3 + 1))) rfl rfl (fun _ _ _ _ => rfl) ?_
    refine yT.iln (pc' := 7) (xg_ne g1 rfl) rfl rfl ?_
    refine yT.zk (pc' := 8) (z := (-1)) rfl rfl (by decide) ?_
    refine yT.zeq2 (t := 38) (pc' := 11) rfl rfl rfl (fun c7 => ?_) (fun c7 => ?_)
    · replace j := j.1 c7
      refine yT.zk (pc' := 39) (z := 1) rfl rfl (by decide) ?_
      refine yT.p (pc' := 43) rfl rfl (fun _ _ _ _ => rfl) ?_
      exact yT.retZ rfl rfl (Or.inr rfl) ⟨_, rfl, hT2, (Or.inr rfl), j⟩
    · replace j := j.2 c7
      refine yT.aan (pc' := 12) xg_eq rfl rfl rfl ?_
      refine yT.p (pc' := 15) rfl rfl (fun _ _ _ _ => rfl) ?_
      refine yT.aan (pc' := 16) xg_eq rfl rfl rfl ?_
      refine yT.gZ (pc' := 19) rfl rfl hT2 o5 rfl (fun b8 => ?_)
      replace j := j b8
      refine yT.zne1 (t := 42) (pc' := 22) rfl rfl rfl (fun c9 => ?_) (fun c9 => ?_)
      · replace j := j.1 c9
        refine yT.aan (pc' := 23) xg_eq rfl rfl rfl ?_
        refine yT.gI (pc' := 26) rfl rfl hT2 o5 rfl ?_
        refine yT.zk (pc' := 27) (z := 5) rfl rfl (by decide) ?_
        refine yT.zeq2 (t := 38) (pc' := 30) rfl rfl rfl (fun c10 => ?_) (fun c10 => ?_)
        · replace j := j.1 c10
          refine yT.zk (pc' := 39) (z := 1) rfl rfl (by decide) ?_
          refine yT.p (pc' := 43) rfl rfl (fun _ _ _ _ => rfl) ?_
          exact yT.retZ rfl rfl (Or.inr rfl) ⟨_, rfl, hT2, (Or.inr rfl), j⟩
        · replace j := j.2 c10
          refine yT.aan (pc' := 31) xg_eq rfl rfl rfl ?_
          refine yT.gI (pc' := 34) rfl rfl hT2 o5 rfl ?_
          refine yT.zk (pc' := 35) (z := 4) rfl rfl (by decide) ?_
          refine yT.zne2 (t := 42) (pc' := 38) rfl rfl rfl (fun c11 => ?_) (fun c11 => ?_)
          · replace j := j.1 c11
            refine yT.zk (pc' := 39) (z := 1) rfl rfl (by decide) ?_
            refine yT.p (pc' := 43) rfl rfl (fun _ _ _ _ => rfl) ?_
            exact yT.retZ rfl rfl (Or.inr rfl) ⟨_, rfl, hT2, (Or.inr rfl), j⟩
          · replace j := j.2 c11
            refine yT.zk (pc' := 43) (z := 0) rfl rfl (by decide) ?_
            exact yT.retZ rfl rfl (Or.inl rfl) ⟨_, rfl, hT2, (Or.inl rfl), j⟩
      · replace j := j.2 c9
        refine yT.zk (pc' := 43) (z := 0) rfl rfl (by decide) ?_
        exact yT.retZ rfl rfl (Or.inl rfl) ⟨_, rfl, hT2, (Or.inl rfl), j⟩
-- rX7_roomFor
def WWe_roomFor  (q0 : Nat) (x1 : Int32) (m : Mm) (K : Mm → Nat → Prop) : Prop := ((x1.toInt < 0) → K m 0) ∧ (¬ (x1.toInt < 0) → ∃ p2, m.rv q0 0 = p2 + 1 ∧ ((x1.toInt < (Int32.ofNat (m.ln p2)).toInt) → (0 ≤ x1.toInt ∧ x1.toInt < (m.ln p2 : Int)) ∧ (m.rv p2 x1.toInt.toNat = 0 → ∀ m10, m10 = m.nw (eV (.inr (1, xDf 1 10))) 0 → WCe_init (m.nx) m10 (fun m16 => (0 ≤ x1.toInt ∧ x1.toInt < (m16.ln p2 : Int)) ∧ ∀ m21, m21 = m16.st p2 x1.toInt.toNat (.ref ((m.nx) + 1)) → ∃ p24, m21.rv q0 0 = p24 + 1 ∧ (0 ≤ x1.toInt ∧ x1.toInt < (m21.ln p24 : Int)) ∧ (m21.rv p24 x1.toInt.toNat = 0 → K m21 0) ∧ (∀ p28, m21.rv p24 x1.toInt.toNat = p28 + 1 → K m21 (p28 + 1)))) ∧ (∀ p7, m.rv p2 x1.toInt.toNat = p7 + 1 → (0 ≤ x1.toInt ∧ x1.toInt < (m.ln p2 : Int)) ∧ (m.rv p2 x1.toInt.toNat = 0 → K m 0) ∧ (∀ p32, m.rv p2 x1.toInt.toNat = p32 + 1 → K m (p32 + 1)))) ∧ (¬ (x1.toInt < (Int32.ofNat (m.ln p2)).toInt) → K m 0))
set_option maxRecDepth 100000 in
set_option maxHeartbeats 4000000 in
theorem kWe_roomFor {ks : List Nat} {h : List xE} (hT : TT ks h) {q0 : Nat} (o0 : xnth ks q0 = some 17) (x1 : Int32)  {K : Mm → Nat → Prop} (j : WWe_roomFor  q0 x1 (mm h) K) : yM 74 (3) 763 [.ref (q0 + 1), .int x1] h (PRa ks 11 K) := by
  unfold WWe_roomFor at j
  refine yM.st xM_74 rfl rfl (fun lv g => ?_)
  have g0 := g 0 _ rfl
  have g1 := g 1 _ rfl
  refine yT.iln (pc' := 1) g1 rfl rfl ?_
  refine yT.zlt1 (t := 13) (pc' := 4) rfl rfl rfl (fun c1 => ?_) (fun c1 => ?_)
  · replace j := j.1 c1
    refine yT.p (pc' := 14) rfl rfl (fun _ _ _ _ => rfl) ?_
    exact yT.retA rfl rfl rfl ⟨0, rfl, _, KG.rf, Or.inl rfl, hT, j⟩
  · replace j := j.2 c1
    refine yT.iln (pc' := 5) g1 rfl rfl ?_
    refine yT.aan (pc' := 6) g0 rfl rfl rfl ?_
    obtain ⟨p2, w3, j⟩ := j
    refine yT.gR (pc' := 9) rfl rfl hT o0 rfl rfl w3 (fun o4 => ?_)
    refine yT.aL (pc' := 10) rfl rfl hT o4 rfl ?_
    refine yT.zlt2 (t := 15) (pc' := 13) rfl rfl rfl (fun c5 => ?_) (fun c5 => ?_)
    · replace j := j.1 c5
      refine yT.aan (pc' := 16) g0 rfl rfl rfl ?_
      refine yT.gR (pc' := 19) rfl rfl hT o0 rfl rfl w3 (fun _ => ?_)
      refine yT.iln (pc' := 20) g1 rfl rfl ?_
      obtain ⟨c6, j⟩ := j
      refine yT.cA (pc' := 21) rfl rfl hT o4 c6 (fun w8 => ?_) (fun p7 w8 o9 => ?_)
      · replace j := j.1 w8
        refine yT.p (pc' := 24) rfl rfl (fun _ _ _ _ => rfl) ?_
        refine yT.aan (pc' := 25) g0 rfl rfl rfl ?_
        refine yT.gR (pc' := 28) rfl rfl hT o0 rfl rfl w3 (fun _ => ?_)
        refine yT.iln (pc' := 29) g1 rfl rfl ?_
        refine yT.nO (G2 := 753) (n := 10) (pc' := 32) rfl rfl rfl rfl (by decide) hT rfl (fun h10 ks14 kg13 hT11 o15 e12 => ?_)
        replace j := j _ e12
        refine yT.p (pc' := 33) rfl rfl (fun _ _ _ _ => rfl) ?_
        refine zVa (yT.cw (G2 := 0) (pc' := 36) rfl rfl rfl hT11 o15 xM_5 (kCe_init hT11 o15 j) rfl (by decide) (by decide) rfl) (fun h16 ks18 kg19 hT17 j => ?_)
        obtain ⟨c20, j⟩ := j
        refine yT.tC (pc' := 37) rfl rfl hT17 (kg19.up (kg13.up o4)) c20 (kg19.up o15) (fun h21 hT22 e23 => ?_)
        replace j := j _ e23
        refine yT.aan (pc' := 38) g0 rfl rfl rfl ?_
        obtain ⟨p24, w25, j⟩ := j
        refine yT.gR (pc' := 41) rfl rfl hT22 (kg19.up (kg13.up o0)) rfl rfl w25 (fun o26 => ?_)
        refine yT.iln (pc' := 42) g1 rfl rfl ?_
        obtain ⟨c27, j⟩ := j
        refine yT.cA (pc' := 43) rfl rfl hT22 o26 c27 (fun w29 => ?_) (fun p28 w29 o30 => ?_)
        · replace j := j.1 w29
          exact yT.retA rfl rfl rfl ⟨0, rfl, _, (kg13.tr kg19), Or.inl rfl, hT22, j⟩
        · replace j := j.2 p28 w29
          exact yT.retA rfl rfl rfl ⟨_, rfl, _, (kg13.tr kg19), Or.inr ⟨_, rfl, o30⟩, hT22, j⟩
      · replace j := j.2 p7 w8
        refine yT.p (pc' := 37) rfl rfl (fun _ _ _ _ => rfl) ?_
        refine yT.aan (pc' := 38) g0 rfl rfl rfl ?_
        refine yT.gR (pc' := 41) rfl rfl hT o0 rfl rfl w3 (fun _ => ?_)
        refine yT.iln (pc' := 42) g1 rfl rfl ?_
        obtain ⟨c31, j⟩ := j
        refine yT.cA (pc' := 43) rfl rfl hT o4 c31 (fun w33 => ?_) (fun p32 w33 o34 => ?_)
        · replace j := j.1 w33
          exact yT.retA rfl rfl rfl ⟨0, rfl, _, KG.rf, Or.inl rfl, hT, j⟩
        · replace j := j.2 p32 w33
          exact yT.retA rfl rfl rfl ⟨_, rfl, _, KG.rf, Or.inr ⟨_, rfl, o34⟩, hT, j⟩
    · replace j := j.2 c5
      refine yT.p (pc' := 14) rfl rfl (fun _ _ _ _ => rfl) ?_
      exact yT.retA rfl rfl rfl ⟨0, rfl, _, KG.rf, Or.inl rfl, hT, j⟩
-- rX7_addCell
def WWe_addCell  (q0 : Nat) (x1 : Int32) (x2 : Int32) (x3 : Int64) (r5 : Nat) (m : Mm) (K : Mm → Int32 → Prop) : Prop := (r5 = 0 → (((m.iv q0 2).toInt < 0) → K m (-1)) ∧ (¬ ((m.iv q0 2).toInt < 0) → ∃ p2, m.rv q0 0 = p2 + 1 ∧ (((m.iv q0 2).toInt < (Int32.ofNat (m.ln p2)).toInt) → WWe_roomFor q0 (m.iv q0 2) m (fun m6 => nn (∀ m13, m13 = m6.st q0 2 (.int ((m6.iv q0 2) + (1 : Int32))) → K m13 ((m13.iv q0 2) - (1 : Int32))) (fun p10 => WCe_become p10 x1 x2 x3 0 m6 (fun m16 => ∀ m18, m18 = m16.st q0 2 (.int ((m16.iv q0 2) + (1 : Int32))) → K m18 ((m18.iv q0 2) - (1 : Int32)))))) ∧ (¬ ((m.iv q0 2).toInt < (Int32.ofNat (m.ln p2)).toInt) → K m (-1)))) ∧ (∀ q5, r5 = q5 + 1 → (((m.iv q0 2).toInt < 0) → K m (-1)) ∧ (¬ ((m.iv q0 2).toInt < 0) → ∃ p22, m.rv q0 0 = p22 + 1 ∧ (((m.iv q0 2).toInt < (Int32.ofNat (m.ln p22)).toInt) → WWe_roomFor q0 (m.iv q0 2) m (fun m26 => nn (∀ m33, m33 = m26.st q0 2 (.int ((m26.iv q0 2) + (1 : Int32))) → K m33 ((m33.iv q0 2) - (1 : Int32))) (fun p30 => WCe_become p30 x1 x2 x3 (q5 + 1) m26 (fun m36 => ∀ m38, m38 = m36.st q0 2 (.int ((m36.iv q0 2) + (1 : Int32))) → K m38 ((m38.iv q0 2) - (1 : Int32)))))) ∧ (¬ ((m.iv q0 2).toInt < (Int32.ofNat (m.ln p22)).toInt) → K m (-1))))
set_option maxRecDepth 100000 in
set_option maxHeartbeats 4000000 in
theorem kWe_addCell {ks : List Nat} {h : List xE} (hT : TT ks h) {q0 : Nat} (o0 : xnth ks q0 = some 17) (x1 : Int32) (x2 : Int32) (x3 : Int64) {r5 : Nat} {v5 : Value} (o5 : (r5 = 0 ∧ v5 = .null) ∨ ∃ p, r5 = p + 1 ∧ v5 = .ref (p + 1) ∧ xnth ks p = some 12)  {K : Mm → Int32 → Prop} (j : WWe_addCell  q0 x1 x2 x3 r5 (mm h) K) : yM 73 (4) 763 [.ref (q0 + 1), .int x1, .int x2, .long x3, v5] h (PIa ks K) := by
  unfold WWe_addCell at j
  rcases o5 with ⟨rz5, rfl⟩ | ⟨q5, rz5, rfl, o5⟩
  · replace j := j.1 rz5
    refine yM.st xM_73 rfl rfl (fun lv g => ?_)
    have g0 := g 0 _ rfl
    have g1 := g 1 _ rfl
    have g2 := g 2 _ rfl
    have g3 := g 3 _ rfl
    have g5 := g 5 _ rfl
    refine yT.aan (pc' := 1) g0 rfl rfl rfl ?_
    refine yT.gI (pc' := 4) rfl rfl hT o0 rfl ?_
    refine yT.zlt1 (t := 19) (pc' := 7) rfl rfl rfl (fun c1 => ?_) (fun c1 => ?_)
    · replace j := j.1 c1
      refine yT.zk (pc' := 20) (z := (-1)) rfl rfl (by decide) ?_
      exact yT.retI rfl rfl ⟨_, rfl, _, KG.rf, hT, j⟩
    · replace j := j.2 c1
      refine yT.aan (pc' := 8) g0 rfl rfl rfl ?_
      refine yT.gI (pc' := 11) rfl rfl hT o0 rfl ?_
      refine yT.aan (pc' := 12) g0 rfl rfl rfl ?_
      obtain ⟨p2, w3, j⟩ := j
      refine yT.gR (pc' := 15) rfl rfl hT o0 rfl rfl w3 (fun o4 => ?_)
      refine yT.aL (pc' := 16) rfl rfl hT o4 rfl ?_
      refine yT.zlt2 (t := 21) (pc' := 19) rfl rfl rfl (fun c5 => ?_) (fun c5 => ?_)
      · replace j := j.1 c5
        refine yT.aan (pc' := 22) g0 rfl rfl rfl ?_
        refine yT.aan (pc' := 23) g0 rfl rfl rfl ?_
        refine yT.gI (pc' := 26) rfl rfl hT o0 rfl ?_
        refine zRa (yT.cw (G2 := 0) (pc' := 29) rfl rfl rfl hT o0 xM_74 (kWe_roomFor hT o0 ((mm h).iv q0 2) j) rfl (by decide) (by decide) rfl) (fun h6 ks8 kg9 hT7 j => ?_) (fun h6 ks8 kg9 p10 hT7 o12 j => ?_)
        · replace j := j.1 rfl
          refine yT.p (pc' := 31) (lv' := xst1 _ 6 (.null)) rfl rfl (fun _ _ _ _ => rfl) ?_
          refine yT.aa_ (pc' := 33) xg_eq rfl rfl rfl ?_
          refine yT.p (pc' := 46) rfl rfl (fun _ _ _ _ => rfl) ?_
          refine yT.aan (pc' := 47) (xg_ne g0 rfl) rfl rfl rfl ?_
          refine yT.p (pc' := 48) rfl rfl (fun _ _ _ _ => rfl) ?_
          refine yT.gI (pc' := 51) rfl rfl hT7 (kg9.up o0) rfl ?_
          refine yT.zk (pc' := 52) (z := 1) rfl rfl (by decide) ?_
          refine yT.p (pc' := 53) rfl rfl (fun _ _ _ _ => rfl) ?_
          refine yT.sI (pc' := 56) rfl rfl hT7 (kg9.up o0) rfl rfl (fun h13 hT14 e15 => ?_)
          replace j := j _ e15
          refine yT.aan (pc' := 57) (xg_ne g0 rfl) rfl rfl rfl ?_
          refine yT.gI (pc' := 60) rfl rfl hT14 (kg9.up o0) rfl ?_
          refine yT.zk (pc' := 61) (z := 1) rfl rfl (by decide) ?_
          refine yT.p (pc' := 62) rfl rfl (fun _ _ _ _ => rfl) ?_
          exact yT.retI rfl rfl ⟨_, rfl, _, kg9, hT14, j⟩
        · replace j := j.2 _ rfl
          refine yT.p (pc' := 31) (lv' := xst1 _ 6 (.ref (p10 + 1))) rfl rfl (fun _ _ _ _ => rfl) ?_
          refine yT.aa_ (pc' := 33) xg_eq rfl rfl rfl ?_
          refine yT.p (pc' := 36) rfl rfl (fun _ _ _ _ => rfl) ?_
          refine yT.aa_ (pc' := 38) xg_eq rfl rfl rfl ?_
          refine yT.iln (pc' := 39) (xg_ne g1 rfl) rfl rfl ?_
          refine yT.iln (pc' := 40) (xg_ne g2 rfl) rfl rfl ?_
          refine yT.lln (pc' := 41) (xg_ne g3 rfl) rfl rfl ?_
          refine yT.aa_ (pc' := 43) (xg_ne g5 rfl) rfl rfl rfl ?_
          refine zV (yT.cw (G2 := 0) (pc' := 46) rfl rfl rfl hT7 o12 xM_6 (kCe_become hT7 o12 x1 x2 x3 (Or.inl ⟨rfl, rfl⟩) j) rfl (by decide) (by decide) rfl) (fun h16 hT17 j => ?_)
          refine yT.aan (pc' := 47) (xg_ne g0 rfl) rfl rfl rfl ?_
          refine yT.p (pc' := 48) rfl rfl (fun _ _ _ _ => rfl) ?_
          refine yT.gI (pc' := 51) rfl rfl hT17 (kg9.up o0) rfl ?_
          refine yT.zk (pc' := 52) (z := 1) rfl rfl (by decide) ?_
          refine yT.p (pc' := 53) rfl rfl (fun _ _ _ _ => rfl) ?_
          refine yT.sI (pc' := 56) rfl rfl hT17 (kg9.up o0) rfl rfl (fun h18 hT19 e20 => ?_)
          replace j := j _ e20
          refine yT.aan (pc' := 57) (xg_ne g0 rfl) rfl rfl rfl ?_
          refine yT.gI (pc' := 60) rfl rfl hT19 (kg9.up o0) rfl ?_
          refine yT.zk (pc' := 61) (z := 1) rfl rfl (by decide) ?_
          refine yT.p (pc' := 62) rfl rfl (fun _ _ _ _ => rfl) ?_
          exact yT.retI rfl rfl ⟨_, rfl, _, kg9, hT19, j⟩
      · replace j := j.2 c5
        refine yT.zk (pc' := 20) (z := (-1)) rfl rfl (by decide) ?_
        exact yT.retI rfl rfl ⟨_, rfl, _, KG.rf, hT, j⟩
  · replace j := j.2 q5 rz5
    refine yM.st xM_73 rfl rfl (fun lv g => ?_)
    have g0 := g 0 _ rfl
    have g1 := g 1 _ rfl
    have g2 := g 2 _ rfl
    have g3 := g 3 _ rfl
    have g5 := g 5 _ rfl
    refine yT.aan (pc' := 1) g0 rfl rfl rfl ?_
    refine yT.gI (pc' := 4) rfl rfl hT o0 rfl ?_
    refine yT.zlt1 (t := 19) (pc' := 7) rfl rfl rfl (fun c21 => ?_) (fun c21 => ?_)
    · replace j := j.1 c21
      refine yT.zk (pc' := 20) (z := (-1)) rfl rfl (by decide) ?_
      exact yT.retI rfl rfl ⟨_, rfl, _, KG.rf, hT, j⟩
    · replace j := j.2 c21
      refine yT.aan (pc' := 8) g0 rfl rfl rfl ?_
      refine yT.gI (pc' := 11) rfl rfl hT o0 rfl ?_
      refine yT.aan (pc' := 12) g0 rfl rfl rfl ?_
      obtain ⟨p22, w23, j⟩ := j
      refine yT.gR (pc' := 15) rfl rfl hT o0 rfl rfl w23 (fun o24 => ?_)
      refine yT.aL (pc' := 16) rfl rfl hT o24 rfl ?_
      refine yT.zlt2 (t := 21) (pc' := 19) rfl rfl rfl (fun c25 => ?_) (fun c25 => ?_)
      · replace j := j.1 c25
        refine yT.aan (pc' := 22) g0 rfl rfl rfl ?_
        refine yT.aan (pc' := 23) g0 rfl rfl rfl ?_
        refine yT.gI (pc' := 26) rfl rfl hT o0 rfl ?_
        refine zRa (yT.cw (G2 := 0) (pc' := 29) rfl rfl rfl hT o0 xM_74 (kWe_roomFor hT o0 ((mm h).iv q0 2) j) rfl (by decide) (by decide) rfl) (fun h26 ks28 kg29 hT27 j => ?_) (fun h26 ks28 kg29 p30 hT27 o32 j => ?_)
        · replace j := j.1 rfl
          refine yT.p (pc' := 31) (lv' := xst1 _ 6 (.null)) rfl rfl (fun _ _ _ _ => rfl) ?_
          refine yT.aa_ (pc' := 33) xg_eq rfl rfl rfl ?_
          refine yT.p (pc' := 46) rfl rfl (fun _ _ _ _ => rfl) ?_
          refine yT.aan (pc' := 47) (xg_ne g0 rfl) rfl rfl rfl ?_
          refine yT.p (pc' := 48) rfl rfl (fun _ _ _ _ => rfl) ?_
          refine yT.gI (pc' := 51) rfl rfl hT27 (kg29.up o0) rfl ?_
          refine yT.zk (pc' := 52) (z := 1) rfl rfl (by decide) ?_
          refine yT.p (pc' := 53) rfl rfl (fun _ _ _ _ => rfl) ?_
          refine yT.sI (pc' := 56) rfl rfl hT27 (kg29.up o0) rfl rfl (fun h33 hT34 e35 => ?_)
          replace j := j _ e35
          refine yT.aan (pc' := 57) (xg_ne g0 rfl) rfl rfl rfl ?_
          refine yT.gI (pc' := 60) rfl rfl hT34 (kg29.up o0) rfl ?_
          refine yT.zk (pc' := 61) (z := 1) rfl rfl (by decide) ?_
          refine yT.p (pc' := 62) rfl rfl (fun _ _ _ _ => rfl) ?_
          exact yT.retI rfl rfl ⟨_, rfl, _, kg29, hT34, j⟩
        · replace j := j.2 _ rfl
          refine yT.p (pc' := 31) (lv' := xst1 _ 6 (.ref (p30 + 1))) rfl rfl (fun _ _ _ _ => rfl) ?_
          refine yT.aa_ (pc' := 33) xg_eq rfl rfl rfl ?_
          refine yT.p (pc' := 36) rfl rfl (fun _ _ _ _ => rfl) ?_
          refine yT.aa_ (pc' := 38) xg_eq rfl rfl rfl ?_
          refine yT.iln (pc' := 39) (xg_ne g1 rfl) rfl rfl ?_
          refine yT.iln (pc' := 40) (xg_ne g2 rfl) rfl rfl ?_
          refine yT.lln (pc' := 41) (xg_ne g3 rfl) rfl rfl ?_
          refine yT.aa_ (pc' := 43) (xg_ne g5 rfl) rfl rfl rfl ?_
          refine zV (yT.cw (G2 := 0) (pc' := 46) rfl rfl rfl hT27 o32 xM_6 (kCe_become hT27 o32 x1 x2 x3 (Or.inr ⟨_, rfl, rfl, (kg29.up o5)⟩) j) rfl (by decide) (by decide) rfl) (fun h36 hT37 j => ?_)
          refine yT.aan (pc' := 47) (xg_ne g0 rfl) rfl rfl rfl ?_
          refine yT.p (pc' := 48) rfl rfl (fun _ _ _ _ => rfl) ?_
          refine yT.gI (pc' := 51) rfl rfl hT37 (kg29.up o0) rfl ?_
          refine yT.zk (pc' := 52) (z := 1) rfl rfl (by decide) ?_
          refine yT.p (pc' := 53) rfl rfl (fun _ _ _ _ => rfl) ?_
          refine yT.sI (pc' := 56) rfl rfl hT37 (kg29.up o0) rfl rfl (fun h38 hT39 e40 => ?_)
          replace j := j _ e40
          refine yT.aan (pc' := 57) (xg_ne g0 rfl) rfl rfl rfl ?_
          refine yT.gI (pc' := 60) rfl rfl hT39 (kg29.up o0) rfl ?_
          refine yT.zk (pc' := 61) (z := 1) rfl rfl (by decide) ?_
          refine yT.p (pc' := 62) rfl rfl (fun _ _ _ _ => rfl) ?_
          exact yT.retI rfl rfl ⟨_, rfl, _, kg29, hT39, j⟩
      · replace j := j.2 c25
        refine yT.zk (pc' := 20) (z := (-1)) rfl rfl (by decide) ?_
        exact yT.retI rfl rfl ⟨_, rfl, _, KG.rf, hT, j⟩
-- rX7_ownedBy
def WWe_ownedBy_L4 (q0 : Nat) (x1 : Int32) (K : Mm → Int32 → Prop) : Nat → Int32 → Int32 → Mm → Prop
  | 0, _, _, _ => False
  | n11 + 1, y7, y9, m2 => ((y9.toInt < (m2.iv q0 2).toInt) → ∃ p14, m2.rv q0 0 = p14 + 1 ∧ ((y9.toInt < (Int32.ofNat (m2.ln p14)).toInt) → (0 ≤ y9.toInt ∧ y9.toInt < (m2.ln p14 : Int)) ∧ (m2.rv p14 y9.toInt.toNat = 0 → WWe_ownedBy_L4 q0 x1  K n11 y7 (y9 + 1) m2) ∧ (∀ p19, m2.rv p14 y9.toInt.toNat = p19 + 1 → (m2.iv p19 2 = 0 ∨ m2.iv p19 2 = 1) → (((m2.iv p19 2) = 0) → (((m2.iv p19 1) = x1) → WWe_ownedBy_L4 q0 x1  K n11 (y7 ||| ((1 : Int32) <<< (y9 &&& 31))) (y9 + 1) m2) ∧ (¬ ((m2.iv p19 1) = x1) → WWe_ownedBy_L4 q0 x1  K n11 y7 (y9 + 1) m2)) ∧ (¬ ((m2.iv p19 2) = 0) → WWe_ownedBy_L4 q0 x1  K n11 y7 (y9 + 1) m2))) ∧ (¬ (y9.toInt < (Int32.ofNat (m2.ln p14)).toInt) → K m2 y7)) ∧ (¬ (y9.toInt < (m2.iv q0 2).toInt) → K m2 y7)
set_option maxRecDepth 100000 in
theorem WWe_ownedBy_L4_u {q0 : Nat} {x1 : Int32} {K : Mm → Int32 → Prop} {n11 : Nat} {y7 : Int32} {y9 : Int32} {m2 : Mm} (j : WWe_ownedBy_L4 q0 x1  K (n11 + 1) y7 y9 m2) : ((y9.toInt < (m2.iv q0 2).toInt) → ∃ p14, m2.rv q0 0 = p14 + 1 ∧ ((y9.toInt < (Int32.ofNat (m2.ln p14)).toInt) → (0 ≤ y9.toInt ∧ y9.toInt < (m2.ln p14 : Int)) ∧ (m2.rv p14 y9.toInt.toNat = 0 → WWe_ownedBy_L4 q0 x1  K n11 y7 (y9 + 1) m2) ∧ (∀ p19, m2.rv p14 y9.toInt.toNat = p19 + 1 → (m2.iv p19 2 = 0 ∨ m2.iv p19 2 = 1) → (((m2.iv p19 2) = 0) → (((m2.iv p19 1) = x1) → WWe_ownedBy_L4 q0 x1  K n11 (y7 ||| ((1 : Int32) <<< (y9 &&& 31))) (y9 + 1) m2) ∧ (¬ ((m2.iv p19 1) = x1) → WWe_ownedBy_L4 q0 x1  K n11 y7 (y9 + 1) m2)) ∧ (¬ ((m2.iv p19 2) = 0) → WWe_ownedBy_L4 q0 x1  K n11 y7 (y9 + 1) m2))) ∧ (¬ (y9.toInt < (Int32.ofNat (m2.ln p14)).toInt) → K m2 y7)) ∧ (¬ (y9.toInt < (m2.iv q0 2).toInt) → K m2 y7) := j
set_option maxRecDepth 100000 in
theorem WWe_ownedBy_L4_i {q0 : Nat} {x1 : Int32} {K : Mm → Int32 → Prop} {n11 : Nat} {y7 : Int32} {y9 : Int32} {m2 : Mm} (j : ((y9.toInt < (m2.iv q0 2).toInt) → ∃ p14, m2.rv q0 0 = p14 + 1 ∧ ((y9.toInt < (Int32.ofNat (m2.ln p14)).toInt) → (0 ≤ y9.toInt ∧ y9.toInt < (m2.ln p14 : Int)) ∧ (m2.rv p14 y9.toInt.toNat = 0 → WWe_ownedBy_L4 q0 x1  K n11 y7 (y9 + 1) m2) ∧ (∀ p19, m2.rv p14 y9.toInt.toNat = p19 + 1 → (m2.iv p19 2 = 0 ∨ m2.iv p19 2 = 1) → (((m2.iv p19 2) = 0) → (((m2.iv p19 1) = x1) → WWe_ownedBy_L4 q0 x1  K n11 (y7 ||| ((1 : Int32) <<< (y9 &&& 31))) (y9 + 1) m2) ∧ (¬ ((m2.iv p19 1) = x1) → WWe_ownedBy_L4 q0 x1  K n11 y7 (y9 + 1) m2)) ∧ (¬ ((m2.iv p19 2) = 0) → WWe_ownedBy_L4 q0 x1  K n11 y7 (y9 + 1) m2))) ∧ (¬ (y9.toInt < (Int32.ofNat (m2.ln p14)).toInt) → K m2 y7)) ∧ (¬ (y9.toInt < (m2.iv q0 2).toInt) → K m2 y7)) : WWe_ownedBy_L4 q0 x1  K (n11 + 1) y7 y9 m2 := j
def WWe_ownedBy  (q0 : Nat) (x1 : Int32) (m : Mm) (K : Mm → Int32 → Prop) : Prop := ∃ n25, WWe_ownedBy_L4 q0 x1  K n25 0 0 m
set_option maxRecDepth 100000 in
set_option maxHeartbeats 4000000 in
theorem kWe_ownedBy {ks : List Nat} {h : List xE} (hT : TT ks h) {q0 : Nat} (o0 : xnth ks q0 = some 17) (x1 : Int32)  {K : Mm → Int32 → Prop} (j : WWe_ownedBy  q0 x1 (mm h) K) : yM 75 (0) 0 [.ref (q0 + 1), .int x1] h (PI ks K) := by
  unfold WWe_ownedBy at j
  refine yM.st xM_75 rfl rfl (fun lv g => ?_)
  have g0 := g 0 _ rfl
  have g1 := g 1 _ rfl
  refine yT.zk (pc' := 1) (z := 0) rfl rfl (by decide) ?_
  refine yT.p (pc' := 2) (lv' := xst1 _ 2 (.int 0)) rfl rfl (fun _ _ _ _ => rfl) ?_
  refine yT.zk (pc' := 3) (z := 0) rfl rfl (by decide) ?_
  refine yT.p (pc' := 4) (lv' := xst1 _ 3 (.int 0)) rfl rfl (fun _ _ _ _ => rfl) ?_
  have L10 : ∀ (n11 : Nat) (lv1 : xLv) (h2 : List xE) (y7 : Int32) (y9 : Int32), TT ks h2 → xget lv1 0 = some (.ref (q0 + 1)) → xget lv1 1 = some (.int x1) → xget lv1 2 = some (.int y7) → xget lv1 3 = some (.int y9) → WWe_ownedBy_L4 q0 x1  K n11 y7 y9 (mm h2) → yT 0 [] rX7_ownedBy (0) 0 4 lv1 [] h2 (PI ks K) := by
    intro n11
    induction n11 with
    | zero => intro lv1 h2 y7 y9 hT3 g4 g5 g6 g8 j; exact j.elim
    | succ n11 ih12 =>
      intro lv1 h2 y7 y9 hT3 g4 g5 g6 g8 j
      replace j := WWe_ownedBy_L4_u j
      refine yT.iln (pc' := 5) g8 rfl rfl ?_
      refine yT.aan (pc' := 6) g4 rfl rfl rfl ?_
      refine yT.gI (pc' := 9) rfl rfl hT3 o0 rfl ?_
      refine yT.zge2 (t := 63) (pc' := 12) rfl rfl rfl (fun c13 => ?_) (fun c13 => ?_)
      · replace j := j.1 c13
        refine yT.iln (pc' := 13) g8 rfl rfl ?_
        refine yT.aan (pc' := 14) g4 rfl rfl rfl ?_
        obtain ⟨p14, w15, j⟩ := j
        refine yT.gR (pc' := 17) rfl rfl hT3 o0 rfl rfl w15 (fun o16 => ?_)
        refine yT.aL (pc' := 18) rfl rfl hT3 o16 rfl ?_
        refine yT.zge2 (t := 63) (pc' := 21) rfl rfl rfl (fun c17 => ?_) (fun c17 => ?_)
        · replace j := j.1 c17
          refine yT.aan (pc' := 22) g4 rfl rfl rfl ?_
          refine yT.gR (pc' := 25) rfl rfl hT3 o0 rfl rfl w15 (fun _ => ?_)
          refine yT.iln (pc' := 26) g8 rfl rfl ?_
          obtain ⟨c18, j⟩ := j
          refine yT.cA (pc' := 27) rfl rfl hT3 o16 c18 (fun w20 => ?_) (fun p19 w20 o21 => ?_)
          · replace j := j.1 w20
            refine yT.p (pc' := 29) (lv' := xst1 _ 4 (.null)) rfl rfl (fun _ _ _ _ => rfl) ?_
            refine yT.aa_ (pc' := 31) xg_eq rfl rfl rfl ?_
            refine yT.p (pc' := 57) rfl rfl (fun _ _ _ _ => rfl) ?_
            refine yT.iif (pc' := 60) (z := y9 + 1) (xg_ne g8 rfl) rfl rfl rfl rfl ?_
            refine yT.p (pc' := 4) rfl rfl (fun _ _ _ _ => rfl) ?_
            exact ih12 _ _ _ _ hT3 (xg_ne (xg_ne g4 rfl) rfl) (xg_ne (xg_ne g5 rfl) rfl) (xg_ne (xg_ne g6 rfl) rfl) xg_eq j
          · replace j := j.2 p19 w20
            refine yT.p (pc' := 29) (lv' := xst1 _ 4 (.ref (p19 + 1))) rfl rfl (fun _ _ _ _ => rfl) ?_
            refine yT.aa_ (pc' := 31) xg_eq rfl rfl rfl ?_
            refine yT.p (pc' := 34) rfl rfl (fun _ _ _ _ => rfl) ?_
            refine yT.aa_ (pc' := 36) xg_eq rfl rfl rfl ?_
            refine yT.gZ (pc' := 39) rfl rfl hT3 o21 rfl (fun b22 => ?_)
            replace j := j b22
            refine yT.zne1 (t := 57) (pc' := 42) rfl rfl rfl (fun c23 => ?_) (fun c23 => ?_)
            · replace j := j.1 c23
              refine yT.aa_ (pc' := 44) xg_eq rfl rfl rfl ?_
              refine yT.gI (pc' := 47) rfl rfl hT3 o21 rfl ?_
              refine yT.iln (pc' := 48) (xg_ne g5 rfl) rfl rfl ?_
              refine yT.zne2 (t := 57) (pc' := 51) rfl rfl rfl (fun c24 => ?_) (fun c24 => ?_)
              · replace j := j.1 c24
                refine yT.iln (pc' := 52) (xg_ne g6 rfl) rfl rfl ?_
                refine yT.zk (pc' := 53) (z := 1) rfl rfl (by decide) ?_
                refine yT.iln (pc' := 54) (xg_ne g8 rfl) rfl rfl ?_
                refine yT.p (pc' := 55) rfl rfl (fun _ _ _ _ => rfl) ?_
                refine yT.p (pc' := 56) rfl rfl (fun _ _ _ _ => rfl) ?_
                refine yT.p (pc' := 57) (lv' := xst1 _ 2 (.int (y7 ||| ((1 : Int32) <<< (y9 &&& 31))))) rfl rfl (fun _ _ _ _ => rfl) ?_
                refine yT.iif (pc' := 60) (z := y9 + 1) (xg_ne (xg_ne g8 rfl) rfl) rfl rfl rfl rfl ?_
                refine yT.p (pc' := 4) rfl rfl (fun _ _ _ _ => rfl) ?_
                exact ih12 _ _ _ _ hT3 (xg_ne (xg_ne (xg_ne g4 rfl) rfl) rfl) (xg_ne (xg_ne (xg_ne g5 rfl) rfl) rfl) (xg_ne xg_eq rfl) xg_eq j
              · replace j := j.2 c24
                refine yT.iif (pc' := 60) (z := y9 + 1) (xg_ne g8 rfl) rfl rfl rfl rfl ?_
                refine yT.p (pc' := 4) rfl rfl (fun _ _ _ _ => rfl) ?_
                exact ih12 _ _ _ _ hT3 (xg_ne (xg_ne g4 rfl) rfl) (xg_ne (xg_ne g5 rfl) rfl) (xg_ne (xg_ne g6 rfl) rfl) xg_eq j
            · replace j := j.2 c23
              refine yT.iif (pc' := 60) (z := y9 + 1) (xg_ne g8 rfl) rfl rfl rfl rfl ?_
              refine yT.p (pc' := 4) rfl rfl (fun _ _ _ _ => rfl) ?_
              exact ih12 _ _ _ _ hT3 (xg_ne (xg_ne g4 rfl) rfl) (xg_ne (xg_ne g5 rfl) rfl) (xg_ne (xg_ne g6 rfl) rfl) xg_eq j
        · replace j := j.2 c17
          refine yT.iln (pc' := 64) g6 rfl rfl ?_
          exact yT.retI rfl rfl ⟨_, rfl, hT3, j⟩
      · replace j := j.2 c13
        refine yT.iln (pc' := 64) g6 rfl rfl ?_
        exact yT.retI rfl rfl ⟨_, rfl, hT3, j⟩
  obtain ⟨n25, j⟩ := j
  exact L10 n25 _ _ _ _ hT (xg_ne (xg_ne g0 rfl) rfl) (xg_ne (xg_ne g1 rfl) rfl) (xg_ne xg_eq rfl) xg_eq j
-- rX7_addRead
def WWe_addRead  (q0 : Nat) (x1 : Int32) (x2 : Int32) (m : Mm) (K : Mm → Prop) : Prop := WWe_cell q0 x1 m (fun m1 => nn (K m1) (fun p3 => ((x2.toInt < 0) → K m1) ∧ (¬ (x2.toInt < 0) → ∃ p7, m1.rv q0 1 = p7 + 1 ∧ ((x2.toInt < (Int32.ofNat (m1.ln p7)).toInt) → (0 ≤ x2.toInt ∧ x2.toInt < (m1.ln p7 : Int)) ∧ (((((m1.iv p7 x2.toInt.toNat) >>> (x1 &&& 31)) &&& (1 : Int32)) = 0) → ∃ p13, m1.rv p3 9 = p13 + 1 ∧ WNu_add p13 x2 m1 (fun m16 => ∃ p18, m16.rv q0 1 = p18 + 1 ∧ (0 ≤ x2.toInt ∧ x2.toInt < (m16.ln p18 : Int)) ∧ (0 ≤ x2.toInt ∧ x2.toInt < (m16.ln p18 : Int)) ∧ ∀ m23, m23 = m16.st p18 x2.toInt.toNat (.int ((m16.iv p18 x2.toInt.toNat) ||| ((1 : Int32) <<< (x1 &&& 31)))) → K m23)) ∧ (¬ ((((m1.iv p7 x2.toInt.toNat) >>> (x1 &&& 31)) &&& (1 : Int32)) = 0) → K m1)) ∧ (¬ (x2.toInt < (Int32.ofNat (m1.ln p7)).toInt) → K m1))))
set_option maxRecDepth 100000 in
set_option maxHeartbeats 4000000 in
theorem kWe_addRead {ks : List Nat} {h : List xE} (hT : TT ks h) {q0 : Nat} (o0 : xnth ks q0 = some 17) (x1 : Int32) (x2 : Int32)  {K : Mm → Prop} (j : WWe_addRead  q0 x1 x2 (mm h) K) : yM 76 (1) 0 [.ref (q0 + 1), .int x1, .int x2] h (PV ks K) := by
  unfold WWe_addRead at j
  refine yM.st xM_76 rfl rfl (fun lv g => ?_)
  have g0 := g 0 _ rfl
  have g1 := g 1 _ rfl
  have g2 := g 2 _ rfl
  refine yT.aan (pc' := 1) g0 rfl rfl rfl ?_
  refine yT.iln (pc' := 2) g1 rfl rfl ?_
  refine zR (yT.cw (G2 := 0) (pc' := 5) rfl rfl rfl hT o0 xM_71 (kWe_cell hT o0 x1 j) rfl (by decide) (by decide) rfl) (fun h1 hT2 j => ?_) (fun h1 p3 hT2 o5 j => ?_)
  · replace j := j.1 rfl
    refine yT.p (pc' := 6) (lv' := xst1 _ 3 (.null)) rfl rfl (fun _ _ _ _ => rfl) ?_
    refine yT.aan (pc' := 7) xg_eq rfl rfl rfl ?_
    refine yT.p (pc' := 36) rfl rfl (fun _ _ _ _ => rfl) ?_
    exact yT.retV rfl rfl ⟨rfl, hT2, j⟩
  · replace j := j.2 _ rfl
    refine yT.p (pc' := 6) (lv' := xst1 _ 3 (.ref (p3 + 1))) rfl rfl (fun _ _ _ _ => rfl) ?_
    refine yT.aan (pc' := 7) xg_eq rfl rfl rfl ?_
    refine yT.p (pc' := 10) rfl rfl (fun _ _ _ _ => rfl) ?_
    refine yT.iln (pc' := 11) (xg_ne g2 rfl) rfl rfl ?_
    refine yT.zlt1 (t := 36) (pc' := 14) rfl rfl rfl (fun c6 => ?_) (fun c6 => ?_)
    · replace j := j.1 c6
      exact yT.retV rfl rfl ⟨rfl, hT2, j⟩
    · replace j := j.2 c6
      refine yT.iln (pc' := 15) (xg_ne g2 rfl) rfl rfl ?_
      refine yT.aan (pc' := 16) (xg_ne g0 rfl) rfl rfl rfl ?_
      obtain ⟨p7, w8, j⟩ := j
      refine yT.gR (pc' := 19) rfl rfl hT2 o0 rfl rfl w8 (fun o9 => ?_)
      refine yT.aL (pc' := 20) rfl rfl hT2 o9 rfl ?_
      refine yT.zge2 (t := 36) (pc' := 23) rfl rfl rfl (fun c10 => ?_) (fun c10 => ?_)
      · replace j := j.1 c10
        refine yT.aan (pc' := 24) (xg_ne g0 rfl) rfl rfl rfl ?_
        refine yT.gR (pc' := 27) rfl rfl hT2 o0 rfl rfl w8 (fun _ => ?_)
        refine yT.iln (pc' := 28) (xg_ne g2 rfl) rfl rfl ?_
        obtain ⟨c11, j⟩ := j
        refine yT.iA (pc' := 29) rfl rfl hT2 o9 c11 ?_
        refine yT.iln (pc' := 30) (xg_ne g1 rfl) rfl rfl ?_
        refine yT.p (pc' := 31) rfl rfl (fun _ _ _ _ => rfl) ?_
        refine yT.zk (pc' := 32) (z := 1) rfl rfl (by decide) ?_
        refine yT.p (pc' := 33) rfl rfl (fun _ _ _ _ => rfl) ?_
        refine yT.zeq1 (t := 37) (pc' := 36) rfl rfl rfl (fun c12 => ?_) (fun c12 => ?_)
        · replace j := j.1 c12
          refine yT.aan (pc' := 38) xg_eq rfl rfl rfl ?_
          obtain ⟨p13, w14, j⟩ := j
          refine yT.gR (pc' := 41) rfl rfl hT2 o5 rfl rfl w14 (fun o15 => ?_)
          refine yT.iln (pc' := 42) (xg_ne g2 rfl) rfl rfl ?_
          refine zV (yT.cw (G2 := 0) (pc' := 45) rfl rfl rfl hT2 o15 xM_47 (kNu_add hT2 o15 x2 j) rfl (by decide) (by decide) rfl) (fun h16 hT17 j => ?_)
          refine yT.aan (pc' := 46) (xg_ne g0 rfl) rfl rfl rfl ?_
          obtain ⟨p18, w19, j⟩ := j
          refine yT.gR (pc' := 49) rfl rfl hT17 o0 rfl rfl w19 (fun o20 => ?_)
          refine yT.iln (pc' := 50) (xg_ne g2 rfl) rfl rfl ?_
          refine yT.p (pc' := 51) rfl rfl (fun _ _ _ _ => rfl) ?_
          obtain ⟨c21, j⟩ := j
          refine yT.iA (pc' := 52) rfl rfl hT17 o20 c21 ?_
          refine yT.zk (pc' := 53) (z := 1) rfl rfl (by decide) ?_
          refine yT.iln (pc' := 54) (xg_ne g1 rfl) rfl rfl ?_
          refine yT.p (pc' := 55) rfl rfl (fun _ _ _ _ => rfl) ?_
          refine yT.p (pc' := 56) rfl rfl (fun _ _ _ _ => rfl) ?_
          obtain ⟨c22, j⟩ := j
          refine yT.tI (pc' := 57) rfl rfl hT17 o20 c22 (fun h23 hT24 e25 => ?_)
          replace j := j _ e25
          exact yT.retV rfl rfl ⟨rfl, hT24, j⟩
        · replace j := j.2 c12
          exact yT.retV rfl rfl ⟨rfl, hT2, j⟩
      · replace j := j.2 c10
        exact yT.retV rfl rfl ⟨rfl, hT2, j⟩
-- rX7_clearReads
def WWe_clearReads_L13 (q0 : Nat) (x1 : Int32) (p3 : Nat) (K : Mm → Prop) : Nat → Int32 → Mm → Prop
  | 0, _, _ => False
  | n15 + 1, y13, m7 => ∃ p17, m7.rv p3 9 = p17 + 1 ∧ WNu_size p17 m7 (fun m20 x22 => ((y13.toInt < x22.toInt) → ∃ p24, m20.rv p3 9 = p24 + 1 ∧ WNu_at p24 y13 m20 (fun m27 x29 => ((x29.toInt < 0) → WWe_clearReads_L13 q0 x1 p3  K n15 (y13 + 1) m27) ∧ (¬ (x29.toInt < 0) → ∃ p31, m27.rv q0 1 = p31 + 1 ∧ ((x29.toInt < (Int32.ofNat (m27.ln p31)).toInt) → (0 ≤ x29.toInt ∧ x29.toInt < (m27.ln p31 : Int)) ∧ (0 ≤ x29.toInt ∧ x29.toInt < (m27.ln p31 : Int)) ∧ ∀ m37, m37 = m27.st p31 x29.toInt.toNat (.int ((m27.iv p31 x29.toInt.toNat) &&& (((1 : Int32) <<< (x1 &&& 31)) ^^^ (-1 : Int32)))) → WWe_clearReads_L13 q0 x1 p3  K n15 (y13 + 1) m37) ∧ (¬ (x29.toInt < (Int32.ofNat (m27.ln p31)).toInt) → WWe_clearReads_L13 q0 x1 p3  K n15 (y13 + 1) m27)))) ∧ (¬ (y13.toInt < x22.toInt) → ∃ p40, m20.rv p3 9 = p40 + 1 ∧ WNu_clear p40 m20 (fun m43 => K m43)))
set_option maxRecDepth 100000 in
theorem WWe_clearReads_L13_u {q0 : Nat} {x1 : Int32} {p3 : Nat} {K : Mm → Prop} {n15 : Nat} {y13 : Int32} {m7 : Mm} (j : WWe_clearReads_L13 q0 x1 p3  K (n15 + 1) y13 m7) : ∃ p17, m7.rv p3 9 = p17 + 1 ∧ WNu_size p17 m7 (fun m20 x22 => ((y13.toInt < x22.toInt) → ∃ p24, m20.rv p3 9 = p24 + 1 ∧ WNu_at p24 y13 m20 (fun m27 x29 => ((x29.toInt < 0) → WWe_clearReads_L13 q0 x1 p3  K n15 (y13 + 1) m27) ∧ (¬ (x29.toInt < 0) → ∃ p31, m27.rv q0 1 = p31 + 1 ∧ ((x29.toInt < (Int32.ofNat (m27.ln p31)).toInt) → (0 ≤ x29.toInt ∧ x29.toInt < (m27.ln p31 : Int)) ∧ (0 ≤ x29.toInt ∧ x29.toInt < (m27.ln p31 : Int)) ∧ ∀ m37, m37 = m27.st p31 x29.toInt.toNat (.int ((m27.iv p31 x29.toInt.toNat) &&& (((1 : Int32) <<< (x1 &&& 31)) ^^^ (-1 : Int32)))) → WWe_clearReads_L13 q0 x1 p3  K n15 (y13 + 1) m37) ∧ (¬ (x29.toInt < (Int32.ofNat (m27.ln p31)).toInt) → WWe_clearReads_L13 q0 x1 p3  K n15 (y13 + 1) m27)))) ∧ (¬ (y13.toInt < x22.toInt) → ∃ p40, m20.rv p3 9 = p40 + 1 ∧ WNu_clear p40 m20 (fun m43 => K m43))) := j
set_option maxRecDepth 100000 in
theorem WWe_clearReads_L13_i {q0 : Nat} {x1 : Int32} {p3 : Nat} {K : Mm → Prop} {n15 : Nat} {y13 : Int32} {m7 : Mm} (j : ∃ p17, m7.rv p3 9 = p17 + 1 ∧ WNu_size p17 m7 (fun m20 x22 => ((y13.toInt < x22.toInt) → ∃ p24, m20.rv p3 9 = p24 + 1 ∧ WNu_at p24 y13 m20 (fun m27 x29 => ((x29.toInt < 0) → WWe_clearReads_L13 q0 x1 p3  K n15 (y13 + 1) m27) ∧ (¬ (x29.toInt < 0) → ∃ p31, m27.rv q0 1 = p31 + 1 ∧ ((x29.toInt < (Int32.ofNat (m27.ln p31)).toInt) → (0 ≤ x29.toInt ∧ x29.toInt < (m27.ln p31 : Int)) ∧ (0 ≤ x29.toInt ∧ x29.toInt < (m27.ln p31 : Int)) ∧ ∀ m37, m37 = m27.st p31 x29.toInt.toNat (.int ((m27.iv p31 x29.toInt.toNat) &&& (((1 : Int32) <<< (x1 &&& 31)) ^^^ (-1 : Int32)))) → WWe_clearReads_L13 q0 x1 p3  K n15 (y13 + 1) m37) ∧ (¬ (x29.toInt < (Int32.ofNat (m27.ln p31)).toInt) → WWe_clearReads_L13 q0 x1 p3  K n15 (y13 + 1) m27)))) ∧ (¬ (y13.toInt < x22.toInt) → ∃ p40, m20.rv p3 9 = p40 + 1 ∧ WNu_clear p40 m20 (fun m43 => K m43)))) : WWe_clearReads_L13 q0 x1 p3  K (n15 + 1) y13 m7 := j
def WWe_clearReads  (q0 : Nat) (x1 : Int32) (m : Mm) (K : Mm → Prop) : Prop := WWe_cell q0 x1 m (fun m1 => nn (K m1) (fun p3 => ∃ n45, WWe_clearReads_L13 q0 x1 p3  K n45 0 m1))
set_option maxRecDepth 100000 in
set_option maxHeartbeats 4000000 in
theorem kWe_clearReads {ks : List Nat} {h : List xE} (hT : TT ks h) {q0 : Nat} (o0 : xnth ks q0 = some 17) (x1 : Int32)  {K : Mm → Prop} (j : WWe_clearReads  q0 x1 (mm h) K) : yM 77 (1) 0 [.ref (q0 + 1), .int x1] h (PV ks K) := by
  unfold WWe_clearReads at j
  refine yM.st xM_77 rfl rfl (fun lv g => ?_)
  have g0 := g 0 _ rfl
  have g1 := g 1 _ rfl
  refine yT.aan (pc' := 1) g0 rfl rfl rfl ?_
  refine yT.iln (pc' := 2) g1 rfl rfl ?_
  refine zR (yT.cw (G2 := 0) (pc' := 5) rfl rfl rfl hT o0 xM_71 (kWe_cell hT o0 x1 j) rfl (by decide) (by decide) rfl) (fun h1 hT2 j => ?_) (fun h1 p3 hT2 o5 j => ?_)
  · replace j := j.1 rfl
    refine yT.p (pc' := 6) (lv' := xst1 _ 2 (.null)) rfl rfl (fun _ _ _ _ => rfl) ?_
    refine yT.aan (pc' := 7) xg_eq rfl rfl rfl ?_
    refine yT.p (pc' := 10) rfl rfl (fun _ _ _ _ => rfl) ?_
    exact yT.retV rfl rfl ⟨rfl, hT2, j⟩
  · replace j := j.2 _ rfl
    refine yT.p (pc' := 6) (lv' := xst1 _ 2 (.ref (p3 + 1))) rfl rfl (fun _ _ _ _ => rfl) ?_
    refine yT.aan (pc' := 7) xg_eq rfl rfl rfl ?_
    refine yT.p (pc' := 11) rfl rfl (fun _ _ _ _ => rfl) ?_
    refine yT.zk (pc' := 12) (z := 0) rfl rfl (by decide) ?_
    refine yT.p (pc' := 13) (lv' := xst1 _ 3 (.int 0)) rfl rfl (fun _ _ _ _ => rfl) ?_
    have L14 : ∀ (n15 : Nat) (lv6 : xLv) (h7 : List xE) (y13 : Int32), TT ks h7 → xget lv6 0 = some (.ref (q0 + 1)) → xget lv6 1 = some (.int x1) → xget lv6 2 = some (.ref (p3 + 1)) → xget lv6 3 = some (.int y13) → WWe_clearReads_L13 q0 x1 p3  K n15 y13 (mm h7) → yT 0 [] rX7_clearReads (1) 0 13 lv6 [] h7 (PV ks K) := by
      intro n15
      induction n15 with
      | zero => intro lv6 h7 y13 hT8 g9 g10 g11 g12 j; exact j.elim
      | succ n15 ih16 =>
        intro lv6 h7 y13 hT8 g9 g10 g11 g12 j
        replace j := WWe_clearReads_L13_u j
        refine yT.iln (pc' := 14) g12 rfl rfl ?_
        refine yT.aan (pc' := 15) g11 rfl rfl rfl ?_
        obtain ⟨p17, w18, j⟩ := j
        refine yT.gR (pc' := 18) rfl rfl hT8 o5 rfl rfl w18 (fun o19 => ?_)
        refine zI (yT.cw (G2 := 0) (pc' := 21) rfl rfl rfl hT8 o19 xM_41 (kNu_size hT8 o19 j) rfl (by decide) (by decide) rfl) (fun h20 x22 hT21 j => ?_)
        refine yT.zge2 (t := 70) (pc' := 24) rfl rfl rfl (fun c23 => ?_) (fun c23 => ?_)
        · replace j := j.1 c23
          refine yT.aan (pc' := 25) g11 rfl rfl rfl ?_
          obtain ⟨p24, w25, j⟩ := j
          refine yT.gR (pc' := 28) rfl rfl hT21 o5 rfl rfl w25 (fun o26 => ?_)
          refine yT.iln (pc' := 29) g12 rfl rfl ?_
          refine zI (yT.cw (G2 := 0) (pc' := 32) rfl rfl rfl hT21 o26 xM_43 (kNu_at hT21 o26 y13 j) rfl (by decide) (by decide) rfl) (fun h27 x29 hT28 j => ?_)
          refine yT.p (pc' := 34) (lv' := xst1 _ 4 (.int x29)) rfl rfl (fun _ _ _ _ => rfl) ?_
          refine yT.il (pc' := 36) xg_eq rfl rfl ?_
          refine yT.zlt1 (t := 64) (pc' := 39) rfl rfl rfl (fun c30 => ?_) (fun c30 => ?_)
          · replace j := j.1 c30
            refine yT.iif (pc' := 67) (z := y13 + 1) (xg_ne g12 rfl) rfl rfl rfl rfl ?_
            refine yT.p (pc' := 13) rfl rfl (fun _ _ _ _ => rfl) ?_
            exact ih16 _ _ _ hT28 (xg_ne (xg_ne g9 rfl) rfl) (xg_ne (xg_ne g10 rfl) rfl) (xg_ne (xg_ne g11 rfl) rfl) xg_eq j
          · replace j := j.2 c30
            refine yT.il (pc' := 41) xg_eq rfl rfl ?_
            refine yT.aan (pc' := 42) (xg_ne g9 rfl) rfl rfl rfl ?_
            obtain ⟨p31, w32, j⟩ := j
            refine yT.gR (pc' := 45) rfl rfl hT28 o0 rfl rfl w32 (fun o33 => ?_)
            refine yT.aL (pc' := 46) rfl rfl hT28 o33 rfl ?_
            refine yT.zge2 (t := 64) (pc' := 49) rfl rfl rfl (fun c34 => ?_) (fun c34 => ?_)
            · replace j := j.1 c34
              refine yT.aan (pc' := 50) (xg_ne g9 rfl) rfl rfl rfl ?_
              refine yT.gR (pc' := 53) rfl rfl hT28 o0 rfl rfl w32 (fun _ => ?_)
              refine yT.il (pc' := 55) xg_eq rfl rfl ?_
              refine yT.p (pc' := 56) rfl rfl (fun _ _ _ _ => rfl) ?_
              obtain ⟨c35, j⟩ := j
              refine yT.iA (pc' := 57) rfl rfl hT28 o33 c35 ?_
              refine yT.zk (pc' := 58) (z := 1) rfl rfl (by decide) ?_
              refine yT.iln (pc' := 59) (xg_ne g10 rfl) rfl rfl ?_
              refine yT.p (pc' := 60) rfl rfl (fun _ _ _ _ => rfl) ?_
              refine yT.zk (pc' := 61) (z := (-1)) rfl rfl (by decide) ?_
              refine yT.p (pc' := 62) rfl rfl (fun _ _ _ _ => rfl) ?_
              refine yT.p (pc' := 63) rfl rfl (fun _ _ _ _ => rfl) ?_
              obtain ⟨c36, j⟩ := j
              refine yT.tI (pc' := 64) rfl rfl hT28 o33 c36 (fun h37 hT38 e39 => ?_)
              replace j := j _ e39
              refine yT.iif (pc' := 67) (z := y13 + 1) (xg_ne g12 rfl) rfl rfl rfl rfl ?_
              refine yT.p (pc' := 13) rfl rfl (fun _ _ _ _ => rfl) ?_
              exact ih16 _ _ _ hT38 (xg_ne (xg_ne g9 rfl) rfl) (xg_ne (xg_ne g10 rfl) rfl) (xg_ne (xg_ne g11 rfl) rfl) xg_eq j
            · replace j := j.2 c34
              refine yT.iif (pc' := 67) (z := y13 + 1) (xg_ne g12 rfl) rfl rfl rfl rfl ?_
              refine yT.p (pc' := 13) rfl rfl (fun _ _ _ _ => rfl) ?_
              exact ih16 _ _ _ hT28 (xg_ne (xg_ne g9 rfl) rfl) (xg_ne (xg_ne g10 rfl) rfl) (xg_ne (xg_ne g11 rfl) rfl) xg_eq j
        · replace j := j.2 c23
          refine yT.aan (pc' := 71) g11 rfl rfl rfl ?_
          obtain ⟨p40, w41, j⟩ := j
          refine yT.gR (pc' := 74) rfl rfl hT21 o5 rfl rfl w41 (fun o42 => ?_)
          refine zV (yT.cw (G2 := 0) (pc' := 77) rfl rfl rfl hT21 o42 xM_52 (kNu_clear hT21 o42 j) rfl (by decide) (by decide) rfl) (fun h43 hT44 j => ?_)
          exact yT.retV rfl rfl ⟨rfl, hT44, j⟩
    obtain ⟨n45, j⟩ := j
    exact L14 n45 _ _ _ hT2 (xg_ne (xg_ne g0 rfl) rfl) (xg_ne (xg_ne g1 rfl) rfl) (xg_ne xg_eq rfl) xg_eq j
-- rX7_readersOf
def WWe_readersOf  (q0 : Nat) (x1 : Int32) (m : Mm) (K : Mm → Int32 → Prop) : Prop := ((x1.toInt < 0) → K m 0) ∧ (¬ (x1.toInt < 0) → ∃ p2, m.rv q0 1 = p2 + 1 ∧ ((x1.toInt < (Int32.ofNat (m.ln p2)).toInt) → (0 ≤ x1.toInt ∧ x1.toInt < (m.ln p2 : Int)) ∧ K m (m.iv p2 x1.toInt.toNat)) ∧ (¬ (x1.toInt < (Int32.ofNat (m.ln p2)).toInt) → K m 0))
set_option maxRecDepth 100000 in
set_option maxHeartbeats 4000000 in
theorem kWe_readersOf {ks : List Nat} {h : List xE} (hT : TT ks h) {q0 : Nat} (o0 : xnth ks q0 = some 17) (x1 : Int32)  {K : Mm → Int32 → Prop} (j : WWe_readersOf  q0 x1 (mm h) K) : yM 78 (0) 0 [.ref (q0 + 1), .int x1] h (PI ks K) := by
  unfold WWe_readersOf at j
  refine yM.st xM_78 rfl rfl (fun lv g => ?_)
  have g0 := g 0 _ rfl
  have g1 := g 1 _ rfl
  refine yT.iln (pc' := 1) g1 rfl rfl ?_
  refine yT.zlt1 (t := 22) (pc' := 4) rfl rfl rfl (fun c1 => ?_) (fun c1 => ?_)
  · replace j := j.1 c1
    refine yT.zk (pc' := 23) (z := 0) rfl rfl (by decide) ?_
    exact yT.retI rfl rfl ⟨_, rfl, hT, j⟩
  · replace j := j.2 c1
    refine yT.iln (pc' := 5) g1 rfl rfl ?_
    refine yT.aan (pc' := 6) g0 rfl rfl rfl ?_
    obtain ⟨p2, w3, j⟩ := j
    refine yT.gR (pc' := 9) rfl rfl hT o0 rfl rfl w3 (fun o4 => ?_)
    refine yT.aL (pc' := 10) rfl rfl hT o4 rfl ?_
    refine yT.zge2 (t := 22) (pc' := 13) rfl rfl rfl (fun c5 => ?_) (fun c5 => ?_)
    · replace j := j.1 c5
      refine yT.aan (pc' := 14) g0 rfl rfl rfl ?_
      refine yT.gR (pc' := 17) rfl rfl hT o0 rfl rfl w3 (fun _ => ?_)
      refine yT.iln (pc' := 18) g1 rfl rfl ?_
      obtain ⟨c6, j⟩ := j
      refine yT.iA (pc' := 19) rfl rfl hT o4 c6 ?_
      refine yT.p (pc' := 23) rfl rfl (fun _ _ _ _ => rfl) ?_
      exact yT.retI rfl rfl ⟨_, rfl, hT, j⟩
    · replace j := j.2 c5
      refine yT.zk (pc' := 23) (z := 0) rfl rfl (by decide) ?_
      exact yT.retI rfl rfl ⟨_, rfl, hT, j⟩
-- rX7_furtherReadersOf
def WWe_furtherReadersOf_L28 (q0 : Nat) (y9 : Int32) (y11 : Int32) (y13 : Int32) (rl11 : Int32 → Int32 → Int32 → Mm → Prop) (K : Mm → Int32 → Prop) : Nat → Int32 → Int32 → Mm → Prop
  | 0, _, _, _ => False
  | n31 + 1, y27, y29, m20 => ∃ p33, m20.rv q0 1 = p33 + 1 ∧ ((y29.toInt < (Int32.ofNat (m20.ln p33)).toInt) → ((((y11 >>> (y29 &&& 31)) &&& (1 : Int32)) = 0) → WWe_furtherReadersOf_L28 q0 y9 y11 y13 rl11 K n31 y27 (y29 + 1) m20) ∧ (¬ (((y11 >>> (y29 &&& 31)) &&& (1 : Int32)) = 0) → (0 ≤ y29.toInt ∧ y29.toInt < (m20.ln p33 : Int)) ∧ WWe_furtherReadersOf_L28 q0 y9 y11 y13 rl11 K n31 (y27 ||| (m20.iv p33 y29.toInt.toNat)) (y29 + 1) m20)) ∧ (¬ (y29.toInt < (Int32.ofNat (m20.ln p33)).toInt) → rl11 (y9 ||| y27) (y27 &&& (y9 ^^^ (-1 : Int32))) (y13 + 1) m20)
set_option maxRecDepth 100000 in
theorem WWe_furtherReadersOf_L28_u {q0 : Nat} {y9 : Int32} {y11 : Int32} {y13 : Int32} {rl11 : Int32 → Int32 → Int32 → Mm → Prop} {K : Mm → Int32 → Prop} {n31 : Nat} {y27 : Int32} {y29 : Int32} {m20 : Mm} (j : WWe_furtherReadersOf_L28 q0 y9 y11 y13 rl11 K (n31 + 1) y27 y29 m20) : ∃ p33, m20.rv q0 1 = p33 + 1 ∧ ((y29.toInt < (Int32.ofNat (m20.ln p33)).toInt) → ((((y11 >>> (y29 &&& 31)) &&& (1 : Int32)) = 0) → WWe_furtherReadersOf_L28 q0 y9 y11 y13 rl11 K n31 y27 (y29 + 1) m20) ∧ (¬ (((y11 >>> (y29 &&& 31)) &&& (1 : Int32)) = 0) → (0 ≤ y29.toInt ∧ y29.toInt < (m20.ln p33 : Int)) ∧ WWe_furtherReadersOf_L28 q0 y9 y11 y13 rl11 K n31 (y27 ||| (m20.iv p33 y29.toInt.toNat)) (y29 + 1) m20)) ∧ (¬ (y29.toInt < (Int32.ofNat (m20.ln p33)).toInt) → rl11 (y9 ||| y27) (y27 &&& (y9 ^^^ (-1 : Int32))) (y13 + 1) m20) := j
set_option maxRecDepth 100000 in
theorem WWe_furtherReadersOf_L28_i {q0 : Nat} {y9 : Int32} {y11 : Int32} {y13 : Int32} {rl11 : Int32 → Int32 → Int32 → Mm → Prop} {K : Mm → Int32 → Prop} {n31 : Nat} {y27 : Int32} {y29 : Int32} {m20 : Mm} (j : ∃ p33, m20.rv q0 1 = p33 + 1 ∧ ((y29.toInt < (Int32.ofNat (m20.ln p33)).toInt) → ((((y11 >>> (y29 &&& 31)) &&& (1 : Int32)) = 0) → WWe_furtherReadersOf_L28 q0 y9 y11 y13 rl11 K n31 y27 (y29 + 1) m20) ∧ (¬ (((y11 >>> (y29 &&& 31)) &&& (1 : Int32)) = 0) → (0 ≤ y29.toInt ∧ y29.toInt < (m20.ln p33 : Int)) ∧ WWe_furtherReadersOf_L28 q0 y9 y11 y13 rl11 K n31 (y27 ||| (m20.iv p33 y29.toInt.toNat)) (y29 + 1) m20)) ∧ (¬ (y29.toInt < (Int32.ofNat (m20.ln p33)).toInt) → rl11 (y9 ||| y27) (y27 &&& (y9 ^^^ (-1 : Int32))) (y13 + 1) m20)) : WWe_furtherReadersOf_L28 q0 y9 y11 y13 rl11 K (n31 + 1) y27 y29 m20 := j
def WWe_furtherReadersOf_L11 (q0 : Nat) (K : Mm → Int32 → Prop) : Nat → Int32 → Int32 → Int32 → Mm → Prop
  | 0, _, _, _, _ => False
  | n15 + 1, y9, y11, y13, m5 => (((24 : Int32).toInt < y13.toInt) → K m5 y9) ∧ (¬ ((24 : Int32).toInt < y13.toInt) → ((y11 = 0) → K m5 y9) ∧ (¬ (y11 = 0) → ∃ n39, WWe_furtherReadersOf_L28 q0 y9 y11 y13 (WWe_furtherReadersOf_L11 q0  K n15) K n39 0 0 m5))
set_option maxRecDepth 100000 in
theorem WWe_furtherReadersOf_L11_u {q0 : Nat} {K : Mm → Int32 → Prop} {n15 : Nat} {y9 : Int32} {y11 : Int32} {y13 : Int32} {m5 : Mm} (j : WWe_furtherReadersOf_L11 q0  K (n15 + 1) y9 y11 y13 m5) : (((24 : Int32).toInt < y13.toInt) → K m5 y9) ∧ (¬ ((24 : Int32).toInt < y13.toInt) → ((y11 = 0) → K m5 y9) ∧ (¬ (y11 = 0) → ∃ n39, WWe_furtherReadersOf_L28 q0 y9 y11 y13 (WWe_furtherReadersOf_L11 q0  K n15) K n39 0 0 m5)) := j
set_option maxRecDepth 100000 in
theorem WWe_furtherReadersOf_L11_i {q0 : Nat} {K : Mm → Int32 → Prop} {n15 : Nat} {y9 : Int32} {y11 : Int32} {y13 : Int32} {m5 : Mm} (j : (((24 : Int32).toInt < y13.toInt) → K m5 y9) ∧ (¬ ((24 : Int32).toInt < y13.toInt) → ((y11 = 0) → K m5 y9) ∧ (¬ (y11 = 0) → ∃ n39, WWe_furtherReadersOf_L28 q0 y9 y11 y13 (WWe_furtherReadersOf_L11 q0  K n15) K n39 0 0 m5))) : WWe_furtherReadersOf_L11 q0  K (n15 + 1) y9 y11 y13 m5 := j
def WWe_furtherReadersOf  (q0 : Nat) (x1 : Int32) (m : Mm) (K : Mm → Int32 → Prop) : Prop := WWe_readersOf q0 x1 m (fun m1 x3 => ∃ n40, WWe_furtherReadersOf_L11 q0  K n40 0 x3 0 m1)
set_option maxRecDepth 100000 in
set_option maxHeartbeats 4000000 in
theorem kWe_furtherReadersOf {ks : List Nat} {h : List xE} (hT : TT ks h) {q0 : Nat} (o0 : xnth ks q0 = some 17) (x1 : Int32)  {K : Mm → Int32 → Prop} (j : WWe_furtherReadersOf  q0 x1 (mm h) K) : yM 79 (1) 0 [.ref (q0 + 1), .int x1] h (PI ks K) := by
  unfold WWe_furtherReadersOf at j
  refine yM.st xM_79 rfl rfl (fun lv g => ?_)
  have g0 := g 0 _ rfl
  have g1 := g 1 _ rfl
  refine yT.zk (pc' := 1) (z := 0) rfl rfl (by decide) ?_
  refine yT.p (pc' := 2) (lv' := xst1 _ 2 (.int 0)) rfl rfl (fun _ _ _ _ => rfl) ?_
  refine yT.aan (pc' := 3) (xg_ne g0 rfl) rfl rfl rfl ?_
  refine yT.iln (pc' := 4) (xg_ne g1 rfl) rfl rfl ?_
  refine zI (yT.cw (G2 := 0) (pc' := 7) rfl rfl rfl hT o0 xM_78 (kWe_readersOf hT o0 x1 j) rfl (by decide) (by decide) rfl) (fun h1 x3 hT2 j => ?_)
  refine yT.p (pc' := 8) (lv' := xst1 _ 3 (.int x3)) rfl rfl (fun _ _ _ _ => rfl) ?_
  refine yT.zk (pc' := 9) (z := 0) rfl rfl (by decide) ?_
  refine yT.p (pc' := 11) (lv' := xst1 _ 4 (.int 0)) rfl rfl (fun _ _ _ _ => rfl) ?_
  have L14 : ∀ (n15 : Nat) (lv4 : xLv) (h5 : List xE) (y9 : Int32) (y11 : Int32) (y13 : Int32), TT ks h5 → xget lv4 0 = some (.ref (q0 + 1)) → xget lv4 2 = some (.int y9) → xget lv4 3 = some (.int y11) → xget lv4 4 = some (.int y13) → WWe_furtherReadersOf_L11 q0  K n15 y9 y11 y13 (mm h5) → yT 0 [] rX7_furtherReadersOf (1) 0 11 lv4 [] h5 (PI ks K) := by
    intro n15
    induction n15 with
    | zero => intro lv4 h5 y9 y11 y13 hT6 g7 g8 g10 g12 j; exact j.elim
    | succ n15 ih16 =>
      intro lv4 h5 y9 y11 y13 hT6 g7 g8 g10 g12 j
      replace j := WWe_furtherReadersOf_L11_u j
      refine yT.il (pc' := 13) g12 rfl rfl ?_
      refine yT.zb (pc' := 15) (z := 24) rfl rfl (by decide) ?_
      refine yT.zgt2 (t := 83) (pc' := 18) rfl rfl rfl (fun c17 => ?_) (fun c17 => ?_)
      · replace j := j.1 c17
        refine yT.iln (pc' := 84) g8 rfl rfl ?_
        exact yT.retI rfl rfl ⟨_, rfl, hT6, j⟩
      · replace j := j.2 c17
        refine yT.iln (pc' := 19) g10 rfl rfl ?_
        refine yT.zeq1 (t := 83) (pc' := 22) rfl rfl rfl (fun c18 => ?_) (fun c18 => ?_)
        · replace j := j.1 c18
          refine yT.iln (pc' := 84) g8 rfl rfl ?_
          exact yT.retI rfl rfl ⟨_, rfl, hT6, j⟩
        · replace j := j.2 c18
          refine yT.zk (pc' := 23) (z := 0) rfl rfl (by decide) ?_
          refine yT.p (pc' := 25) (lv' := xst1 _ 5 (.int 0)) rfl rfl (fun _ _ _ _ => rfl) ?_
          refine yT.zk (pc' := 26) (z := 0) rfl rfl (by decide) ?_
          refine yT.p (pc' := 28) (lv' := xst1 _ 6 (.int 0)) rfl rfl (fun _ _ _ _ => rfl) ?_
          have L30 : ∀ (n31 : Nat) (lv19 : xLv) (h20 : List xE) (y27 : Int32) (y29 : Int32), TT ks h20 → xget lv19 0 = some (.ref (q0 + 1)) → xget lv19 2 = some (.int y9) → xget lv19 3 = some (.int y11) → xget lv19 4 = some (.int y13) → xget lv19 5 = some (.int y27) → xget lv19 6 = some (.int y29) → WWe_furtherReadersOf_L28 q0 y9 y11 y13 (WWe_furtherReadersOf_L11 q0  K n15) K n31 y27 y29 (mm h20) → yT 0 [] rX7_furtherReadersOf (1) 0 28 lv19 [] h20 (PI ks K) := by
            intro n31
            induction n31 with
            | zero => intro lv19 h20 y27 y29 hT21 g22 g23 g24 g25 g26 g28 j; exact j.elim
            | succ n31 ih32 =>
              intro lv19 h20 y27 y29 hT21 g22 g23 g24 g25 g26 g28 j
              replace j := WWe_furtherReadersOf_L28_u j
              refine yT.il (pc' := 30) g28 rfl rfl ?_
              refine yT.aan (pc' := 31) g22 rfl rfl rfl ?_
              obtain ⟨p33, w34, j⟩ := j
              refine yT.gR (pc' := 34) rfl rfl hT21 o0 rfl rfl w34 (fun o35 => ?_)
              refine yT.aL (pc' := 35) rfl rfl hT21 o35 rfl ?_
              refine yT.zge2 (t := 65) (pc' := 38) rfl rfl rfl (fun c36 => ?_) (fun c36 => ?_)
              · replace j := j.1 c36
                refine yT.iln (pc' := 39) g24 rfl rfl ?_
                refine yT.il (pc' := 41) g28 rfl rfl ?_
                refine yT.p (pc' := 42) rfl rfl (fun _ _ _ _ => rfl) ?_
                refine yT.zk (pc' := 43) (z := 1) rfl rfl (by decide) ?_
                refine yT.p (pc' := 44) rfl rfl (fun _ _ _ _ => rfl) ?_
                refine yT.zeq1 (t := 59) (pc' := 47) rfl rfl rfl (fun c37 => ?_) (fun c37 => ?_)
                · replace j := j.1 c37
                  refine yT.iif (pc' := 62) (z := y29 + 1) g28 rfl rfl rfl rfl ?_
                  refine yT.p (pc' := 28) rfl rfl (fun _ _ _ _ => rfl) ?_
                  exact ih32 _ _ _ _ hT21 (xg_ne g22 rfl) (xg_ne g23 rfl) (xg_ne g24 rfl) (xg_ne g25 rfl) (xg_ne g26 rfl) xg_eq j
                · replace j := j.2 c37
                  refine yT.il (pc' := 49) g26 rfl rfl ?_
                  refine yT.aan (pc' := 50) g22 rfl rfl rfl ?_
                  refine yT.gR (pc' := 53) rfl rfl hT21 o0 rfl rfl w34 (fun _ => ?_)
                  refine yT.il (pc' := 55) g28 rfl rfl ?_
                  obtain ⟨c38, j⟩ := j
                  refine yT.iA (pc' := 56) rfl rfl hT21 o35 c38 ?_
                  refine yT.p (pc' := 57) rfl rfl (fun _ _ _ _ => rfl) ?_
                  refine yT.p (pc' := 59) (lv' := xst1 _ 5 (.int (y27 ||| ((mm h20).iv p33 y29.toInt.toNat)))) rfl rfl (fun _ _ _ _ => rfl) ?_
                  refine yT.iif (pc' := 62) (z := y29 + 1) (xg_ne g28 rfl) rfl rfl rfl rfl ?_
                  refine yT.p (pc' := 28) rfl rfl (fun _ _ _ _ => rfl) ?_
                  exact ih32 _ _ _ _ hT21 (xg_ne (xg_ne g22 rfl) rfl) (xg_ne (xg_ne g23 rfl) rfl) (xg_ne (xg_ne g24 rfl) rfl) (xg_ne (xg_ne g25 rfl) rfl) (xg_ne xg_eq rfl) xg_eq j
              · replace j := j.2 c36
                refine yT.il (pc' := 67) g26 rfl rfl ?_
                refine yT.iln (pc' := 68) g23 rfl rfl ?_
                refine yT.zk (pc' := 69) (z := (-1)) rfl rfl (by decide) ?_
                refine yT.p (pc' := 70) rfl rfl (fun _ _ _ _ => rfl) ?_
                refine yT.p (pc' := 71) rfl rfl (fun _ _ _ _ => rfl) ?_
                refine yT.p (pc' := 72) (lv' := xst1 _ 3 (.int (y27 &&& (y9 ^^^ (-1 : Int32))))) rfl rfl (fun _ _ _ _ => rfl) ?_
                refine yT.iln (pc' := 73) (xg_ne g23 rfl) rfl rfl ?_
                refine yT.il (pc' := 75) (xg_ne g26 rfl) rfl rfl ?_
                refine yT.p (pc' := 76) rfl rfl (fun _ _ _ _ => rfl) ?_
                refine yT.p (pc' := 77) (lv' := xst1 _ 2 (.int (y9 ||| y27))) rfl rfl (fun _ _ _ _ => rfl) ?_
                refine yT.iif (pc' := 80) (z := y13 + 1) (xg_ne (xg_ne g25 rfl) rfl) rfl rfl rfl rfl ?_
                refine yT.p (pc' := 11) rfl rfl (fun _ _ _ _ => rfl) ?_
                exact ih16 _ _ _ _ _ hT21 (xg_ne (xg_ne (xg_ne g22 rfl) rfl) rfl) (xg_ne xg_eq rfl) (xg_ne (xg_ne xg_eq rfl) rfl) xg_eq j
          obtain ⟨n39, j⟩ := j
          exact L30 n39 _ _ _ _ hT6 (xg_ne (xg_ne g7 rfl) rfl) (xg_ne (xg_ne g8 rfl) rfl) (xg_ne (xg_ne g10 rfl) rfl) (xg_ne (xg_ne g12 rfl) rfl) (xg_ne xg_eq rfl) xg_eq j
  obtain ⟨n40, j⟩ := j
  exact L14 n40 _ _ _ _ _ hT2 (xg_ne (xg_ne (xg_ne g0 rfl) rfl) rfl) (xg_ne (xg_ne xg_eq rfl) rfl) (xg_ne xg_eq rfl) xg_eq j
-- rX7_allRuns
def WWe_allRuns_L4 (q0 : Nat) (K : Mm → Int32 → Prop) : Nat → Int32 → Int32 → Mm → Prop
  | 0, _, _, _ => False
  | n10 + 1, y6, y8, m2 => ((y8.toInt < (m2.iv q0 2).toInt) → ∃ p13, m2.rv q0 0 = p13 + 1 ∧ ((y8.toInt < (Int32.ofNat (m2.ln p13)).toInt) → (0 ≤ y8.toInt ∧ y8.toInt < (m2.ln p13 : Int)) ∧ (m2.rv p13 y8.toInt.toNat = 0 → WWe_allRuns_L4 q0  K n10 y6 (y8 + 1) m2) ∧ (∀ p18, m2.rv p13 y8.toInt.toNat = p18 + 1 → WWe_allRuns_L4 q0  K n10 (y6 + (m2.iv p18 6)) (y8 + 1) m2)) ∧ (¬ (y8.toInt < (Int32.ofNat (m2.ln p13)).toInt) → K m2 y6)) ∧ (¬ (y8.toInt < (m2.iv q0 2).toInt) → K m2 y6)
set_option maxRecDepth 100000 in
theorem WWe_allRuns_L4_u {q0 : Nat} {K : Mm → Int32 → Prop} {n10 : Nat} {y6 : Int32} {y8 : Int32} {m2 : Mm} (j : WWe_allRuns_L4 q0  K (n10 + 1) y6 y8 m2) : ((y8.toInt < (m2.iv q0 2).toInt) → ∃ p13, m2.rv q0 0 = p13 + 1 ∧ ((y8.toInt < (Int32.ofNat (m2.ln p13)).toInt) → (0 ≤ y8.toInt ∧ y8.toInt < (m2.ln p13 : Int)) ∧ (m2.rv p13 y8.toInt.toNat = 0 → WWe_allRuns_L4 q0  K n10 y6 (y8 + 1) m2) ∧ (∀ p18, m2.rv p13 y8.toInt.toNat = p18 + 1 → WWe_allRuns_L4 q0  K n10 (y6 + (m2.iv p18 6)) (y8 + 1) m2)) ∧ (¬ (y8.toInt < (Int32.ofNat (m2.ln p13)).toInt) → K m2 y6)) ∧ (¬ (y8.toInt < (m2.iv q0 2).toInt) → K m2 y6) := j
set_option maxRecDepth 100000 in
theorem WWe_allRuns_L4_i {q0 : Nat} {K : Mm → Int32 → Prop} {n10 : Nat} {y6 : Int32} {y8 : Int32} {m2 : Mm} (j : ((y8.toInt < (m2.iv q0 2).toInt) → ∃ p13, m2.rv q0 0 = p13 + 1 ∧ ((y8.toInt < (Int32.ofNat (m2.ln p13)).toInt) → (0 ≤ y8.toInt ∧ y8.toInt < (m2.ln p13 : Int)) ∧ (m2.rv p13 y8.toInt.toNat = 0 → WWe_allRuns_L4 q0  K n10 y6 (y8 + 1) m2) ∧ (∀ p18, m2.rv p13 y8.toInt.toNat = p18 + 1 → WWe_allRuns_L4 q0  K n10 (y6 + (m2.iv p18 6)) (y8 + 1) m2)) ∧ (¬ (y8.toInt < (Int32.ofNat (m2.ln p13)).toInt) → K m2 y6)) ∧ (¬ (y8.toInt < (m2.iv q0 2).toInt) → K m2 y6)) : WWe_allRuns_L4 q0  K (n10 + 1) y6 y8 m2 := j
def WWe_allRuns  (q0 : Nat) (m : Mm) (K : Mm → Int32 → Prop) : Prop := ∃ n21, WWe_allRuns_L4 q0  K n21 0 0 m
set_option maxRecDepth 100000 in
set_option maxHeartbeats 4000000 in
theorem kWe_allRuns {ks : List Nat} {h : List xE} (hT : TT ks h) {q0 : Nat} (o0 : xnth ks q0 = some 17)  {K : Mm → Int32 → Prop} (j : WWe_allRuns  q0 (mm h) K) : yM 82 (0) 0 [.ref (q0 + 1)] h (PI ks K) := by
  unfold WWe_allRuns at j
  refine yM.st xM_82 rfl rfl (fun lv g => ?_)
  have g0 := g 0 _ rfl
  refine yT.zk (pc' := 1) (z := 0) rfl rfl (by decide) ?_
  refine yT.p (pc' := 2) (lv' := xst1 _ 1 (.int 0)) rfl rfl (fun _ _ _ _ => rfl) ?_
  refine yT.zk (pc' := 3) (z := 0) rfl rfl (by decide) ?_
  refine yT.p (pc' := 4) (lv' := xst1 _ 2 (.int 0)) rfl rfl (fun _ _ _ _ => rfl) ?_
  have L9 : ∀ (n10 : Nat) (lv1 : xLv) (h2 : List xE) (y6 : Int32) (y8 : Int32), TT ks h2 → xget lv1 0 = some (.ref (q0 + 1)) → xget lv1 1 = some (.int y6) → xget lv1 2 = some (.int y8) → WWe_allRuns_L4 q0  K n10 y6 y8 (mm h2) → yT 0 [] rX7_allRuns (0) 0 4 lv1 [] h2 (PI ks K) := by
    intro n10
    induction n10 with
    | zero => intro lv1 h2 y6 y8 hT3 g4 g5 g7 j; exact j.elim
    | succ n10 ih11 =>
      intro lv1 h2 y6 y8 hT3 g4 g5 g7 j
      replace j := WWe_allRuns_L4_u j
      refine yT.iln (pc' := 5) g7 rfl rfl ?_
      refine yT.aan (pc' := 6) g4 rfl rfl rfl ?_
      refine yT.gI (pc' := 9) rfl rfl hT3 o0 rfl ?_
      refine yT.zge2 (t := 45) (pc' := 12) rfl rfl rfl (fun c12 => ?_) (fun c12 => ?_)
      · replace j := j.1 c12
        refine yT.iln (pc' := 13) g7 rfl rfl ?_
        refine yT.aan (pc' := 14) g4 rfl rfl rfl ?_
        obtain ⟨p13, w14, j⟩ := j
        refine yT.gR (pc' := 17) rfl rfl hT3 o0 rfl rfl w14 (fun o15 => ?_)
        refine yT.aL (pc' := 18) rfl rfl hT3 o15 rfl ?_
        refine yT.zge2 (t := 45) (pc' := 21) rfl rfl rfl (fun c16 => ?_) (fun c16 => ?_)
        · replace j := j.1 c16
          refine yT.aan (pc' := 22) g4 rfl rfl rfl ?_
          refine yT.gR (pc' := 25) rfl rfl hT3 o0 rfl rfl w14 (fun _ => ?_)
          refine yT.iln (pc' := 26) g7 rfl rfl ?_
          obtain ⟨c17, j⟩ := j
          refine yT.cA (pc' := 27) rfl rfl hT3 o15 c17 (fun w19 => ?_) (fun p18 w19 o20 => ?_)
          · replace j := j.1 w19
            refine yT.p (pc' := 28) (lv' := xst1 _ 3 (.null)) rfl rfl (fun _ _ _ _ => rfl) ?_
            refine yT.aan (pc' := 29) xg_eq rfl rfl rfl ?_
            refine yT.p (pc' := 39) rfl rfl (fun _ _ _ _ => rfl) ?_
            refine yT.iif (pc' := 42) (z := y8 + 1) (xg_ne g7 rfl) rfl rfl rfl rfl ?_
            refine yT.p (pc' := 4) rfl rfl (fun _ _ _ _ => rfl) ?_
            exact ih11 _ _ _ _ hT3 (xg_ne (xg_ne g4 rfl) rfl) (xg_ne (xg_ne g5 rfl) rfl) xg_eq j
          · replace j := j.2 p18 w19
            refine yT.p (pc' := 28) (lv' := xst1 _ 3 (.ref (p18 + 1))) rfl rfl (fun _ _ _ _ => rfl) ?_
            refine yT.aan (pc' := 29) xg_eq rfl rfl rfl ?_
            refine yT.p (pc' := 32) rfl rfl (fun _ _ _ _ => rfl) ?_
            refine yT.iln (pc' := 33) (xg_ne g5 rfl) rfl rfl ?_
            refine yT.aan (pc' := 34) xg_eq rfl rfl rfl ?_
            refine yT.gI (pc' := 37) rfl rfl hT3 o20 rfl ?_
            refine yT.p (pc' := 38) rfl rfl (fun _ _ _ _ => rfl) ?_
            refine yT.p (pc' := 39) (lv' := xst1 _ 1 (.int (y6 + ((mm h2).iv p18 6)))) rfl rfl (fun _ _ _ _ => rfl) ?_
            refine yT.iif (pc' := 42) (z := y8 + 1) (xg_ne (xg_ne g7 rfl) rfl) rfl rfl rfl rfl ?_
            refine yT.p (pc' := 4) rfl rfl (fun _ _ _ _ => rfl) ?_
            exact ih11 _ _ _ _ hT3 (xg_ne (xg_ne (xg_ne g4 rfl) rfl) rfl) (xg_ne xg_eq rfl) xg_eq j
        · replace j := j.2 c16
          refine yT.iln (pc' := 46) g5 rfl rfl ?_
          exact yT.retI rfl rfl ⟨_, rfl, hT3, j⟩
      · replace j := j.2 c12
        refine yT.iln (pc' := 46) g5 rfl rfl ?_
        exact yT.retI rfl rfl ⟨_, rfl, hT3, j⟩
  obtain ⟨n21, j⟩ := j
  exact L9 n21 _ _ _ _ hT (xg_ne (xg_ne g0 rfl) rfl) (xg_ne xg_eq rfl) xg_eq j
-- rX7_addToLog
def WWe_addToLog  (q0 : Nat) (x1 : Int32) (x2 : Int64) (m : Mm) (K : Mm → Prop) : Prop := ∃ p1, m.rv q0 4 = p1 + 1 ∧ WNu_size p1 m (fun m4 x6 => ((x6.toInt < 0) → ∃ p8, m4.rv q0 4 = p8 + 1 ∧ WNu_add p8 x1 m4 (fun m11 => K m11)) ∧ (¬ (x6.toInt < 0) → ∃ p13, m4.rv q0 5 = p13 + 1 ∧ ((x6.toInt < (Int32.ofNat (m4.ln p13)).toInt) → (0 ≤ x6.toInt ∧ x6.toInt < (m4.ln p13 : Int)) ∧ ∀ m18, m18 = m4.st p13 x6.toInt.toNat (.long x2) → ∃ p21, m18.rv q0 4 = p21 + 1 ∧ WNu_add p21 x1 m18 (fun m24 => K m24)) ∧ (¬ (x6.toInt < (Int32.ofNat (m4.ln p13)).toInt) → ∃ p26, m4.rv q0 4 = p26 + 1 ∧ WNu_add p26 x1 m4 (fun m29 => K m29))))
set_option maxRecDepth 100000 in
set_option maxHeartbeats 4000000 in
theorem kWe_addToLog {ks : List Nat} {h : List xE} (hT : TT ks h) {q0 : Nat} (o0 : xnth ks q0 = some 17) (x1 : Int32) (x2 : Int64)  {K : Mm → Prop} (j : WWe_addToLog  q0 x1 x2 (mm h) K) : yM 83 (1) 0 [.ref (q0 + 1), .int x1, .long x2] h (PV ks K) := by
  unfold WWe_addToLog at j
  refine yM.st xM_83 rfl rfl (fun lv g => ?_)
  have g0 := g 0 _ rfl
  have g1 := g 1 _ rfl
  have g2 := g 2 _ rfl
  refine yT.aan (pc' := 1) g0 rfl rfl rfl ?_
  obtain ⟨p1, w2, j⟩ := j
  refine yT.gR (pc' := 4) rfl rfl hT o0 rfl rfl w2 (fun o3 => ?_)
  refine zI (yT.cw (G2 := 0) (pc' := 7) rfl rfl rfl hT o3 xM_41 (kNu_size hT o3 j) rfl (by decide) (by decide) rfl) (fun h4 x6 hT5 j => ?_)
  refine yT.p (pc' := 9) (lv' := xst1 _ 4 (.int x6)) rfl rfl (fun _ _ _ _ => rfl) ?_
  refine yT.il (pc' := 11) xg_eq rfl rfl ?_
  refine yT.zlt1 (t := 32) (pc' := 14) rfl rfl rfl (fun c7 => ?_) (fun c7 => ?_)
  · replace j := j.1 c7
    refine yT.aan (pc' := 33) (xg_ne g0 rfl) rfl rfl rfl ?_
    obtain ⟨p8, w9, j⟩ := j
    refine yT.gR (pc' := 36) rfl rfl hT5 o0 rfl rfl w9 (fun o10 => ?_)
    refine yT.iln (pc' := 37) (xg_ne g1 rfl) rfl rfl ?_
    refine zV (yT.cw (G2 := 0) (pc' := 40) rfl rfl rfl hT5 o10 xM_47 (kNu_add hT5 o10 x1 j) rfl (by decide) (by decide) rfl) (fun h11 hT12 j => ?_)
    exact yT.retV rfl rfl ⟨rfl, hT12, j⟩
  · replace j := j.2 c7
    refine yT.il (pc' := 16) xg_eq rfl rfl ?_
    refine yT.aan (pc' := 17) (xg_ne g0 rfl) rfl rfl rfl ?_
    obtain ⟨p13, w14, j⟩ := j
    refine yT.gR (pc' := 20) rfl rfl hT5 o0 rfl rfl w14 (fun o15 => ?_)
    refine yT.aL (pc' := 21) rfl rfl hT5 o15 rfl ?_
    refine yT.zge2 (t := 32) (pc' := 24) rfl rfl rfl (fun c16 => ?_) (fun c16 => ?_)
    · replace j := j.1 c16
      refine yT.aan (pc' := 25) (xg_ne g0 rfl) rfl rfl rfl ?_
      refine yT.gR (pc' := 28) rfl rfl hT5 o0 rfl rfl w14 (fun _ => ?_)
      refine yT.il (pc' := 30) xg_eq rfl rfl ?_
      refine yT.lln (pc' := 31) (xg_ne g2 rfl) rfl rfl ?_
      obtain ⟨c17, j⟩ := j
      refine yT.tL (pc' := 32) rfl rfl hT5 o15 c17 (fun h18 hT19 e20 => ?_)
      replace j := j _ e20
      refine yT.aan (pc' := 33) (xg_ne g0 rfl) rfl rfl rfl ?_
      obtain ⟨p21, w22, j⟩ := j
      refine yT.gR (pc' := 36) rfl rfl hT19 o0 rfl rfl w22 (fun o23 => ?_)
      refine yT.iln (pc' := 37) (xg_ne g1 rfl) rfl rfl ?_
      refine zV (yT.cw (G2 := 0) (pc' := 40) rfl rfl rfl hT19 o23 xM_47 (kNu_add hT19 o23 x1 j) rfl (by decide) (by decide) rfl) (fun h24 hT25 j => ?_)
      exact yT.retV rfl rfl ⟨rfl, hT25, j⟩
    · replace j := j.2 c16
      refine yT.aan (pc' := 33) (xg_ne g0 rfl) rfl rfl rfl ?_
      obtain ⟨p26, w27, j⟩ := j
      refine yT.gR (pc' := 36) rfl rfl hT5 o0 rfl rfl w27 (fun o28 => ?_)
      refine yT.iln (pc' := 37) (xg_ne g1 rfl) rfl rfl ?_
      refine zV (yT.cw (G2 := 0) (pc' := 40) rfl rfl rfl hT5 o28 xM_47 (kNu_add hT5 o28 x1 j) rfl (by decide) (by decide) rfl) (fun h29 hT30 j => ?_)
      exact yT.retV rfl rfl ⟨rfl, hT30, j⟩
