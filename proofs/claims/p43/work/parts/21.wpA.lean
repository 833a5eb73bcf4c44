-- rX4_init
def WNu_init  (q0 : Nat) (x1 : Int32) (m : Mm) (K : Mm → Prop) : Prop := ((x1.toInt < 0) → (0 ≤ (0 : Int32).toInt ∧ (0 : Int32).toInt ≤ 750) ∧ ∀ m2, m2 = m.nw (fun _ => .int 0) (0 : Int32).toInt.toNat → ∀ m9, m9 = m2.st q0 0 (.ref ((m.nx) + 1)) → K m9) ∧ (¬ (x1.toInt < 0) → (0 ≤ x1.toInt ∧ x1.toInt ≤ 750) ∧ ∀ m12, m12 = m.nw (fun _ => .int 0) x1.toInt.toNat → ∀ m19, m19 = m12.st q0 0 (.ref ((m.nx) + 1)) → K m19)
set_option maxRecDepth 100000 in
set_option maxHeartbeats 4000000 in
theorem kNu_init {ks : List Nat} {h : List xE} (hT : TT ks h) {q0 : Nat} (o0 : xnth ks q0 = some 14) (x1 : Int32)  {K : Mm → Prop} (j : WNu_init  q0 x1 (mm h) K) : yM 40 (1) 750 [.ref (q0 + 1), .int x1] h (PVa ks K) := by
  unfold WNu_init at j
  refine yM.st xM_40 rfl rfl (fun lv g => ?_)
  have g0 := g 0 _ rfl
  have g1 := g 1 _ rfl
  refine yT.aan (pc' := 1) g0 rfl rfl rfl ?_
  refine yT.obj (pc' := 4) rfl rfl (by decide) rfl ?_
  refine yT.aan (pc' := 5) g0 rfl rfl rfl ?_
  refine yT.iln (pc' := 6) g1 rfl rfl ?_
  refine yT.zge1 (t := 13) (pc' := 9) rfl rfl rfl (fun c1 => ?_) (fun c1 => ?_)
  · replace j := j.1 c1
    refine yT.zk (pc' := 10) (z := 0) rfl rfl (by decide) ?_
    refine yT.p (pc' := 14) rfl rfl (fun _ _ _ _ => rfl) ?_
    obtain ⟨c8, j⟩ := j
    refine yT.nI (G2 := 0) (S := 750) (pc' := 16) rfl rfl (by decide) hT c8 (fun h2 ks6 kg5 hT3 o7 e4 => ?_)
    replace j := j _ e4
    refine yT.sR (pc' := 19) rfl rfl hT3 (kg5.up o0) rfl rfl rfl (Or.inr ⟨_, rfl, o7⟩) (fun h9 hT10 e11 => ?_)
    replace j := j _ e11
    exact yT.retV rfl rfl ⟨rfl, _, kg5, hT10, j⟩
  · replace j := j.2 c1
    refine yT.iln (pc' := 14) g1 rfl rfl ?_
    obtain ⟨c18, j⟩ := j
    refine yT.nI (G2 := 0) (S := 750) (pc' := 16) rfl rfl (by decide) hT c18 (fun h12 ks16 kg15 hT13 o17 e14 => ?_)
    replace j := j _ e14
    refine yT.sR (pc' := 19) rfl rfl hT13 (kg15.up o0) rfl rfl rfl (Or.inr ⟨_, rfl, o17⟩) (fun h19 hT20 e21 => ?_)
    replace j := j _ e21
    exact yT.retV rfl rfl ⟨rfl, _, kg15, hT20, j⟩
-- rX4_size
def WNu_size  (q0 : Nat) (m : Mm) (K : Mm → Int32 → Prop) : Prop := K m (m.iv q0 1)
set_option maxRecDepth 100000 in
set_option maxHeartbeats 4000000 in
theorem kNu_size {ks : List Nat} {h : List xE} (hT : TT ks h) {q0 : Nat} (o0 : xnth ks q0 = some 14)  {K : Mm → Int32 → Prop} (j : WNu_size  q0 (mm h) K) : yM 41 (0) 0 [.ref (q0 + 1)] h (PI ks K) := by
  unfold WNu_size at j
  refine yM.st xM_41 rfl rfl (fun lv g => ?_)
  have g0 := g 0 _ rfl
  refine yT.aan (pc' := 1) g0 rfl rfl rfl ?_
  refine yT.gI (pc' := 4) rfl rfl hT o0 rfl ?_
  exact yT.retI rfl rfl ⟨_, rfl, hT, j⟩
-- rX4_at
def WNu_at  (q0 : Nat) (x1 : Int32) (m : Mm) (K : Mm → Int32 → Prop) : Prop := ((x1.toInt < 0) → K m (-1)) ∧ (¬ (x1.toInt < 0) → ((x1.toInt < (m.iv q0 1).toInt) → ∃ p3, m.rv q0 0 = p3 + 1 ∧ ((x1.toInt < (Int32.ofNat (m.ln p3)).toInt) → (0 ≤ x1.toInt ∧ x1.toInt < (m.ln p3 : Int)) ∧ K m (m.iv p3 x1.toInt.toNat)) ∧ (¬ (x1.toInt < (Int32.ofNat (m.ln p3)).toInt) → K m (-1))) ∧ (¬ (x1.toInt < (m.iv q0 1).toInt) → K m (-1)))
set_option maxRecDepth 100000 in
set_option maxHeartbeats 4000000 in
theorem kNu_at {ks : List Nat} {h : List xE} (hT : TT ks h) {q0 : Nat} (o0 : xnth ks q0 = some 14) (x1 : Int32)  {K : Mm → Int32 → Prop} (j : WNu_at  q0 x1 (mm h) K) : yM 43 (0) 0 [.ref (q0 + 1), .int x1] h (PI ks K) := by
  unfold WNu_at at j
  refine yM.st xM_43 rfl rfl (fun lv g => ?_)
  have g0 := g 0 _ rfl
  have g1 := g 1 _ rfl
  refine yT.iln (pc' := 1) g1 rfl rfl ?_
  refine yT.zlt1 (t := 30) (pc' := 4) rfl rfl rfl (fun c1 => ?_) (fun c1 => ?_)
  · replace j := j.1 c1
    refine yT.zk (pc' := 31) (z := (-1)) rfl rfl (by decide) ?_
    exact yT.retI rfl rfl ⟨_, rfl, hT, j⟩
  · replace j := j.2 c1
    refine yT.iln (pc' := 5) g1 rfl rfl ?_
    refine yT.aan (pc' := 6) g0 rfl rfl rfl ?_
    refine yT.gI (pc' := 9) rfl rfl hT o0 rfl ?_
    refine yT.zge2 (t := 30) (pc' := 12) rfl rfl rfl (fun c2 => ?_) (fun c2 => ?_)
    · replace j := j.1 c2
      refine yT.iln (pc' := 13) g1 rfl rfl ?_
      refine yT.aan (pc' := 14) g0 rfl rfl rfl ?_
      obtain ⟨p3, w4, j⟩ := j
      refine yT.gR (pc' := 17) rfl rfl hT o0 rfl rfl w4 (fun o5 => ?_)
      refine yT.aL (pc' := 18) rfl rfl hT o5 rfl ?_
      refine yT.zge2 (t := 30) (pc' := 21) rfl rfl rfl (fun c6 => ?_) (fun c6 => ?_)
      · replace j := j.1 c6
        refine yT.aan (pc' := 22) g0 rfl rfl rfl ?_
        refine yT.gR (pc' := 25) rfl rfl hT o0 rfl rfl w4 (fun _ => ?_)
        refine yT.iln (pc' := 26) g1 rfl rfl ?_
        obtain ⟨c7, j⟩ := j
        refine yT.iA (pc' := 27) rfl rfl hT o5 c7 ?_
        refine yT.p (pc' := 31) rfl rfl (fun _ _ _ _ => rfl) ?_
        exact yT.retI rfl rfl ⟨_, rfl, hT, j⟩
      · replace j := j.2 c6
        refine yT.zk (pc' := 31) (z := (-1)) rfl rfl (by decide) ?_
        exact yT.retI rfl rfl ⟨_, rfl, hT, j⟩
    · replace j := j.2 c2
      refine yT.zk (pc' := 31) (z := (-1)) rfl rfl (by decide) ?_
      exact yT.retI rfl rfl ⟨_, rfl, hT, j⟩
-- rX4_last
def WNu_last  (q0 : Nat) (m : Mm) (K : Mm → Int32 → Prop) : Prop := ((0 < (m.iv q0 1).toInt) → ∃ p2, m.rv q0 0 = p2 + 1 ∧ (((Int32.ofNat (m.ln p2)).toInt < (m.iv q0 1).toInt) → K m (-1)) ∧ (¬ ((Int32.ofNat (m.ln p2)).toInt < (m.iv q0 1).toInt) → (0 ≤ ((m.iv q0 1) - (1 : Int32)).toInt ∧ ((m.iv q0 1) - (1 : Int32)).toInt < (m.ln p2 : Int)) ∧ K m (m.iv p2 ((m.iv q0 1) - (1 : Int32)).toInt.toNat))) ∧ (¬ (0 < (m.iv q0 1).toInt) → K m (-1))
set_option maxRecDepth 100000 in
set_option maxHeartbeats 4000000 in
theorem kNu_last {ks : List Nat} {h : List xE} (hT : TT ks h) {q0 : Nat} (o0 : xnth ks q0 = some 14)  {K : Mm → Int32 → Prop} (j : WNu_last  q0 (mm h) K) : yM 44 (0) 0 [.ref (q0 + 1)] h (PI ks K) := by
  unfold WNu_last at j
  refine yM.st xM_44 rfl rfl (fun lv g => ?_)
  have g0 := g 0 _ rfl
  refine yT.aan (pc' := 1) g0 rfl rfl rfl ?_
  refine yT.gI (pc' := 4) rfl rfl hT o0 rfl ?_
  refine yT.zle1 (t := 33) (pc' := 7) rfl rfl rfl (fun c1 => ?_) (fun c1 => ?_)
  · replace j := j.1 c1
    refine yT.aan (pc' := 8) g0 rfl rfl rfl ?_
    refine yT.gI (pc' := 11) rfl rfl hT o0 rfl ?_
    refine yT.aan (pc' := 12) g0 rfl rfl rfl ?_
    obtain ⟨p2, w3, j⟩ := j
    refine yT.gR (pc' := 15) rfl rfl hT o0 rfl rfl w3 (fun o4 => ?_)
    refine yT.aL (pc' := 16) rfl rfl hT o4 rfl ?_
    refine yT.zgt2 (t := 33) (pc' := 19) rfl rfl rfl (fun c5 => ?_) (fun c5 => ?_)
    · replace j := j.1 c5
      refine yT.zk (pc' := 34) (z := (-1)) rfl rfl (by decide) ?_
      exact yT.retI rfl rfl ⟨_, rfl, hT, j⟩
    · replace j := j.2 c5
      refine yT.aan (pc' := 20) g0 rfl rfl rfl ?_
      refine yT.gR (pc' := 23) rfl rfl hT o0 rfl rfl w3 (fun _ => ?_)
      refine yT.aan (pc' := 24) g0 rfl rfl rfl ?_
      refine yT.gI (pc' := 27) rfl rfl hT o0 rfl ?_
      refine yT.zk (pc' := 28) (z := 1) rfl rfl (by decide) ?_
      refine yT.p (pc' := 29) rfl rfl (fun _ _ _ _ => rfl) ?_
      obtain ⟨c6, j⟩ := j
      refine yT.iA (pc' := 30) rfl rfl hT o4 c6 ?_
      refine yT.p (pc' := 34) rfl rfl (fun _ _ _ _ => rfl) ?_
      exact yT.retI rfl rfl ⟨_, rfl, hT, j⟩
  · replace j := j.2 c1
    refine yT.zk (pc' := 34) (z := (-1)) rfl rfl (by decide) ?_
    exact yT.retI rfl rfl ⟨_, rfl, hT, j⟩
-- rX4_take
def WNu_take  (q0 : Nat) (m : Mm) (K : Mm → Int32 → Prop) : Prop := ((0 < (m.iv q0 1).toInt) → ∃ p2, m.rv q0 0 = p2 + 1 ∧ (((Int32.ofNat (m.ln p2)).toInt < (m.iv q0 1).toInt) → K m (-1)) ∧ (¬ ((Int32.ofNat (m.ln p2)).toInt < (m.iv q0 1).toInt) → ∀ m6, m6 = m.st q0 1 (.int ((m.iv q0 1) - (1 : Int32))) → ∃ p9, m6.rv q0 0 = p9 + 1 ∧ (0 ≤ (m6.iv q0 1).toInt ∧ (m6.iv q0 1).toInt < (m6.ln p9 : Int)) ∧ K m6 (m6.iv p9 (m6.iv q0 1).toInt.toNat))) ∧ (¬ (0 < (m.iv q0 1).toInt) → K m (-1))
set_option maxRecDepth 100000 in
set_option maxHeartbeats 4000000 in
theorem kNu_take {ks : List Nat} {h : List xE} (hT : TT ks h) {q0 : Nat} (o0 : xnth ks q0 = some 14)  {K : Mm → Int32 → Prop} (j : WNu_take  q0 (mm h) K) : yM 45 (0) 0 [.ref (q0 + 1)] h (PI ks K) := by
  unfold WNu_take at j
  refine yM.st xM_45 rfl rfl (fun lv g => ?_)
  have g0 := g 0 _ rfl
  refine yT.aan (pc' := 1) g0 rfl rfl rfl ?_
  refine yT.gI (pc' := 4) rfl rfl hT o0 rfl ?_
  refine yT.zle1 (t := 19) (pc' := 7) rfl rfl rfl (fun c1 => ?_) (fun c1 => ?_)
  · replace j := j.1 c1
    refine yT.aan (pc' := 8) g0 rfl rfl rfl ?_
    refine yT.gI (pc' := 11) rfl rfl hT o0 rfl ?_
    refine yT.aan (pc' := 12) g0 rfl rfl rfl ?_
    obtain ⟨p2, w3, j⟩ := j
    refine yT.gR (pc' := 15) rfl rfl hT o0 rfl rfl w3 (fun o4 => ?_)
    refine yT.aL (pc' := 16) rfl rfl hT o4 rfl ?_
    refine yT.zle2 (t := 21) (pc' := 19) rfl rfl rfl (fun c5 => ?_) (fun c5 => ?_)
    · replace j := j.1 c5
      refine yT.zk (pc' := 20) (z := (-1)) rfl rfl (by decide) ?_
      exact yT.retI rfl rfl ⟨_, rfl, hT, j⟩
    · replace j := j.2 c5
      refine yT.aan (pc' := 22) g0 rfl rfl rfl ?_
      refine yT.p (pc' := 23) rfl rfl (fun _ _ _ _ => rfl) ?_
      refine yT.gI (pc' := 26) rfl rfl hT o0 rfl ?_
      refine yT.zk (pc' := 27) (z := 1) rfl rfl (by decide) ?_
      refine yT.p (pc' := 28) rfl rfl (fun _ _ _ _ => rfl) ?_
      refine yT.sI (pc' := 31) rfl rfl hT o0 rfl rfl (fun h6 hT7 e8 => ?_)
      replace j := j _ e8
      refine yT.aan (pc' := 32) g0 rfl rfl rfl ?_
      obtain ⟨p9, w10, j⟩ := j
      refine yT.gR (pc' := 35) rfl rfl hT7 o0 rfl rfl w10 (fun o11 => ?_)
      refine yT.aan (pc' := 36) g0 rfl rfl rfl ?_
      refine yT.gI (pc' := 39) rfl rfl hT7 o0 rfl ?_
      obtain ⟨c12, j⟩ := j
      refine yT.iA (pc' := 40) rfl rfl hT7 o11 c12 ?_
      exact yT.retI rfl rfl ⟨_, rfl, hT7, j⟩
  · replace j := j.2 c1
    refine yT.zk (pc' := 20) (z := (-1)) rfl rfl (by decide) ?_
    exact yT.retI rfl rfl ⟨_, rfl, hT, j⟩
-- rX4_add
def WNu_add  (q0 : Nat) (x1 : Int32) (m : Mm) (K : Mm → Prop) : Prop := ∀ m1, m1 = m.st q0 2 (.int ((m.iv q0 2) + (1 : Int32))) → (((m1.iv q0 1).toInt < 0) → K m1) ∧ (¬ ((m1.iv q0 1).toInt < 0) → ∃ p5, m1.rv q0 0 = p5 + 1 ∧ (((m1.iv q0 1).toInt < (Int32.ofNat (m1.ln p5)).toInt) → (0 ≤ (m1.iv q0 1).toInt ∧ (m1.iv q0 1).toInt < (m1.ln p5 : Int)) ∧ ∀ m10, m10 = m1.st p5 (m1.iv q0 1).toInt.toNat (.int x1) → ∀ m13, m13 = m10.st q0 1 (.int ((m10.iv q0 1) + (1 : Int32))) → K m13) ∧ (¬ ((m1.iv q0 1).toInt < (Int32.ofNat (m1.ln p5)).toInt) → K m1))
set_option maxRecDepth 100000 in
set_option maxHeartbeats 4000000 in
theorem kNu_add {ks : List Nat} {h : List xE} (hT : TT ks h) {q0 : Nat} (o0 : xnth ks q0 = some 14) (x1 : Int32)  {K : Mm → Prop} (j : WNu_add  q0 x1 (mm h) K) : yM 47 (0) 0 [.ref (q0 + 1), .int x1] h (PV ks K) := by
  unfold WNu_add at j
  refine yM.st xM_47 rfl rfl (fun lv g => ?_)
  have g0 := g 0 _ rfl
  have g1 := g 1 _ rfl
  refine yT.aan (pc' := 1) g0 rfl rfl rfl ?_
  refine yT.p (pc' := 2) rfl rfl (fun _ _ _ _ => rfl) ?_
  refine yT.gI (pc' := 5) rfl rfl hT o0 rfl ?_
  refine yT.zk (pc' := 6) (z := 1) rfl rfl (by decide) ?_
  refine yT.p (pc' := 7) rfl rfl (fun _ _ _ _ => rfl) ?_
  refine yT.sI (pc' := 10) rfl rfl hT o0 rfl rfl (fun h1 hT2 e3 => ?_)
  replace j := j _ e3
  refine yT.aan (pc' := 11) g0 rfl rfl rfl ?_
  refine yT.gI (pc' := 14) rfl rfl hT2 o0 rfl ?_
  refine yT.zlt1 (t := 49) (pc' := 17) rfl rfl rfl (fun c4 => ?_) (fun c4 => ?_)
  · replace j := j.1 c4
    exact yT.retV rfl rfl ⟨rfl, hT2, j⟩
  · replace j := j.2 c4
    refine yT.aan (pc' := 18) g0 rfl rfl rfl ?_
    refine yT.gI (pc' := 21) rfl rfl hT2 o0 rfl ?_
    refine yT.aan (pc' := 22) g0 rfl rfl rfl ?_
    obtain ⟨p5, w6, j⟩ := j
    refine yT.gR (pc' := 25) rfl rfl hT2 o0 rfl rfl w6 (fun o7 => ?_)
    refine yT.aL (pc' := 26) rfl rfl hT2 o7 rfl ?_
    refine yT.zge2 (t := 49) (pc' := 29) rfl rfl rfl (fun c8 => ?_) (fun c8 => ?_)
    · replace j := j.1 c8
      refine yT.aan (pc' := 30) g0 rfl rfl rfl ?_
      refine yT.gR (pc' := 33) rfl rfl hT2 o0 rfl rfl w6 (fun _ => ?_)
      refine yT.aan (pc' := 34) g0 rfl rfl rfl ?_
      refine yT.gI (pc' := 37) rfl rfl hT2 o0 rfl ?_
      refine yT.iln (pc' := 38) g1 rfl rfl ?_
      obtain ⟨c9, j⟩ := j
      refine yT.tI (pc' := 39) rfl rfl hT2 o7 c9 (fun h10 hT11 e12 => ?_)
      replace j := j _ e12
      refine yT.aan (pc' := 40) g0 rfl rfl rfl ?_
      refine yT.p (pc' := 41) rfl rfl (fun _ _ _ _ => rfl) ?_
      refine yT.gI (pc' := 44) rfl rfl hT11 o0 rfl ?_
      refine yT.zk (pc' := 45) (z := 1) rfl rfl (by decide) ?_
      refine yT.p (pc' := 46) rfl rfl (fun _ _ _ _ => rfl) ?_
      refine yT.sI (pc' := 49) rfl rfl hT11 o0 rfl rfl (fun h13 hT14 e15 => ?_)
      replace j := j _ e15
      exact yT.retV rfl rfl ⟨rfl, hT14, j⟩
    · replace j := j.2 c8
      exact yT.retV rfl rfl ⟨rfl, hT2, j⟩
-- rX4_put
def WNu_put  (q0 : Nat) (x1 : Int32) (x2 : Int32) (m : Mm) (K : Mm → Prop) : Prop := ((x1.toInt < 0) → K m) ∧ (¬ (x1.toInt < 0) → ((x1.toInt < (m.iv q0 1).toInt) → ∃ p3, m.rv q0 0 = p3 + 1 ∧ ((x1.toInt < (Int32.ofNat (m.ln p3)).toInt) → (0 ≤ x1.toInt ∧ x1.toInt < (m.ln p3 : Int)) ∧ ∀ m8, m8 = m.st p3 x1.toInt.toNat (.int x2) → K m8) ∧ (¬ (x1.toInt < (Int32.ofNat (m.ln p3)).toInt) → K m)) ∧ (¬ (x1.toInt < (m.iv q0 1).toInt) → K m))
set_option maxRecDepth 100000 in
set_option maxHeartbeats 4000000 in
theorem kNu_put {ks : List Nat} {h : List xE} (hT : TT ks h) {q0 : Nat} (o0 : xnth ks q0 = some 14) (x1 : Int32) (x2 : Int32)  {K : Mm → Prop} (j : WNu_put  q0 x1 x2 (mm h) K) : yM 48 (0) 0 [.ref (q0 + 1), .int x1, .int x2] h (PV ks K) := by
  unfold WNu_put at j
  refine yM.st xM_48 rfl rfl (fun lv g => ?_)
  have g0 := g 0 _ rfl
  have g1 := g 1 _ rfl
  have g2 := g 2 _ rfl
  refine yT.iln (pc' := 1) g1 rfl rfl ?_
  refine yT.zlt1 (t := 28) (pc' := 4) rfl rfl rfl (fun c1 => ?_) (fun c1 => ?_)
  · replace j := j.1 c1
    exact yT.retV rfl rfl ⟨rfl, hT, j⟩
  · replace j := j.2 c1
    refine yT.iln (pc' := 5) g1 rfl rfl ?_
    refine yT.aan (pc' := 6) g0 rfl rfl rfl ?_
    refine yT.gI (pc' := 9) rfl rfl hT o0 rfl ?_
    refine yT.zge2 (t := 28) (pc' := 12) rfl rfl rfl (fun c2 => ?_) (fun c2 => ?_)
    · replace j := j.1 c2
      refine yT.iln (pc' := 13) g1 rfl rfl ?_
      refine yT.aan (pc' := 14) g0 rfl rfl rfl ?_
      obtain ⟨p3, w4, j⟩ := j
      refine yT.gR (pc' := 17) rfl rfl hT o0 rfl rfl w4 (fun o5 => ?_)
      refine yT.aL (pc' := 18) rfl rfl hT o5 rfl ?_
      refine yT.zge2 (t := 28) (pc' := 21) rfl rfl rfl (fun c6 => ?_) (fun c6 => ?_)
      · replace j := j.1 c6
        refine yT.aan (pc' := 22) g0 rfl rfl rfl ?_
        refine yT.gR (pc' := 25) rfl rfl hT o0 rfl rfl w4 (fun _ => ?_)
        refine yT.iln (pc' := 26) g1 rfl rfl ?_
        refine yT.iln (pc' := 27) g2 rfl rfl ?_
        obtain ⟨c7, j⟩ := j
        refine yT.tI (pc' := 28) rfl rfl hT o5 c7 (fun h8 hT9 e10 => ?_)
        replace j := j _ e10
        exact yT.retV rfl rfl ⟨rfl, hT9, j⟩
      · replace j := j.2 c6
        exact yT.retV rfl rfl ⟨rfl, hT, j⟩
    · replace j := j.2 c2
      exact yT.retV rfl rfl ⟨rfl, hT, j⟩
-- rX4_insert
def WNu_insert_L30 (q0 : Nat) (x1 : Int32) (x2 : Int32) (K : Mm → Prop) : Nat → Int32 → Mm → Prop
  | 0, _, _ => False
  | n16 + 1, y14, m8 => ((x1.toInt < y14.toInt) → ∃ p19, m8.rv q0 0 = p19 + 1 ∧ (0 ≤ (y14 - (1 : Int32)).toInt ∧ (y14 - (1 : Int32)).toInt < (m8.ln p19 : Int)) ∧ (0 ≤ y14.toInt ∧ y14.toInt < (m8.ln p19 : Int)) ∧ ∀ m24, m24 = m8.st p19 y14.toInt.toNat (.int (m8.iv p19 (y14 - (1 : Int32)).toInt.toNat)) → WNu_insert_L30 q0 x1 x2  K n16 (y14 - 1) m24) ∧ (¬ (x1.toInt < y14.toInt) → ∃ p27, m8.rv q0 0 = p27 + 1 ∧ (0 ≤ x1.toInt ∧ x1.toInt < (m8.ln p27 : Int)) ∧ ∀ m31, m31 = m8.st p27 x1.toInt.toNat (.int x2) → ∀ m34, m34 = m31.st q0 1 (.int ((m31.iv q0 1) + (1 : Int32))) → K m34)
set_option maxRecDepth 100000 in
theorem WNu_insert_L30_u {q0 : Nat} {x1 : Int32} {x2 : Int32} {K : Mm → Prop} {n16 : Nat} {y14 : Int32} {m8 : Mm} (j : WNu_insert_L30 q0 x1 x2  K (n16 + 1) y14 m8) : ((x1.toInt < y14.toInt) → ∃ p19, m8.rv q0 0 = p19 + 1 ∧ (0 ≤ (y14 - (1 : Int32)).toInt ∧ (y14 - (1 : Int32)).toInt < (m8.ln p19 : Int)) ∧ (0 ≤ y14.toInt ∧ y14.toInt < (m8.ln p19 : Int)) ∧ ∀ m24, m24 = m8.st p19 y14.toInt.toNat (.int (m8.iv p19 (y14 - (1 : Int32)).toInt.toNat)) → WNu_insert_L30 q0 x1 x2  K n16 (y14 - 1) m24) ∧ (¬ (x1.toInt < y14.toInt) → ∃ p27, m8.rv q0 0 = p27 + 1 ∧ (0 ≤ x1.toInt ∧ x1.toInt < (m8.ln p27 : Int)) ∧ ∀ m31, m31 = m8.st p27 x1.toInt.toNat (.int x2) → ∀ m34, m34 = m31.st q0 1 (.int ((m31.iv q0 1) + (1 : Int32))) → K m34) := j
set_option maxRecDepth 100000 in
theorem WNu_insert_L30_i {q0 : Nat} {x1 : Int32} {x2 : Int32} {K : Mm → Prop} {n16 : Nat} {y14 : Int32} {m8 : Mm} (j : ((x1.toInt < y14.toInt) → ∃ p19, m8.rv q0 0 = p19 + 1 ∧ (0 ≤ (y14 - (1 : Int32)).toInt ∧ (y14 - (1 : Int32)).toInt < (m8.ln p19 : Int)) ∧ (0 ≤ y14.toInt ∧ y14.toInt < (m8.ln p19 : Int)) ∧ ∀ m24, m24 = m8.st p19 y14.toInt.toNat (.int (m8.iv p19 (y14 - (1 : Int32)).toInt.toNat)) → WNu_insert_L30 q0 x1 x2  K n16 (y14 - 1) m24) ∧ (¬ (x1.toInt < y14.toInt) → ∃ p27, m8.rv q0 0 = p27 + 1 ∧ (0 ≤ x1.toInt ∧ x1.toInt < (m8.ln p27 : Int)) ∧ ∀ m31, m31 = m8.st p27 x1.toInt.toNat (.int x2) → ∀ m34, m34 = m31.st q0 1 (.int ((m31.iv q0 1) + (1 : Int32))) → K m34)) : WNu_insert_L30 q0 x1 x2  K (n16 + 1) y14 m8 := j
def WNu_insert  (q0 : Nat) (x1 : Int32) (x2 : Int32) (m : Mm) (K : Mm → Prop) : Prop := ((x1.toInt < 0) → K m) ∧ (¬ (x1.toInt < 0) → (((m.iv q0 1).toInt < x1.toInt) → K m) ∧ (¬ ((m.iv q0 1).toInt < x1.toInt) → ∃ p3, m.rv q0 0 = p3 + 1 ∧ (((m.iv q0 1).toInt < (Int32.ofNat (m.ln p3)).toInt) → ∃ n37, WNu_insert_L30 q0 x1 x2  K n37 (m.iv q0 1) m) ∧ (¬ ((m.iv q0 1).toInt < (Int32.ofNat (m.ln p3)).toInt) → K m)))
set_option maxRecDepth 100000 in
set_option maxHeartbeats 4000000 in
theorem kNu_insert {ks : List Nat} {h : List xE} (hT : TT ks h) {q0 : Nat} (o0 : xnth ks q0 = some 14) (x1 : Int32) (x2 : Int32)  {K : Mm → Prop} (j : WNu_insert  q0 x1 x2 (mm h) K) : yM 49 (0) 0 [.ref (q0 + 1), .int x1, .int x2] h (PV ks K) := by
  unfold WNu_insert at j
  refine yM.st xM_49 rfl rfl (fun lv g => ?_)
  have g0 := g 0 _ rfl
  have g1 := g 1 _ rfl
  have g2 := g 2 _ rfl
  refine yT.iln (pc' := 1) g1 rfl rfl ?_
  refine yT.zlt1 (t := 24) (pc' := 4) rfl rfl rfl (fun c1 => ?_) (fun c1 => ?_)
  · replace j := j.1 c1
    exact yT.retV rfl rfl ⟨rfl, hT, j⟩
  · replace j := j.2 c1
    refine yT.iln (pc' := 5) g1 rfl rfl ?_
    refine yT.aan (pc' := 6) g0 rfl rfl rfl ?_
    refine yT.gI (pc' := 9) rfl rfl hT o0 rfl ?_
    refine yT.zgt2 (t := 24) (pc' := 12) rfl rfl rfl (fun c2 => ?_) (fun c2 => ?_)
    · replace j := j.1 c2
      exact yT.retV rfl rfl ⟨rfl, hT, j⟩
    · replace j := j.2 c2
      refine yT.aan (pc' := 13) g0 rfl rfl rfl ?_
      refine yT.gI (pc' := 16) rfl rfl hT o0 rfl ?_
      refine yT.aan (pc' := 17) g0 rfl rfl rfl ?_
      obtain ⟨p3, w4, j⟩ := j
      refine yT.gR (pc' := 20) rfl rfl hT o0 rfl rfl w4 (fun o5 => ?_)
      refine yT.aL (pc' := 21) rfl rfl hT o5 rfl ?_
      refine yT.zlt2 (t := 25) (pc' := 24) rfl rfl rfl (fun c6 => ?_) (fun c6 => ?_)
      · replace j := j.1 c6
        refine yT.aan (pc' := 26) g0 rfl rfl rfl ?_
        refine yT.gI (pc' := 29) rfl rfl hT o0 rfl ?_
        refine yT.p (pc' := 30) (lv' := xst1 _ 3 (.int ((mm h).iv q0 1))) rfl rfl (fun _ _ _ _ => rfl) ?_
        have L15 : ∀ (n16 : Nat) (lv7 : xLv) (h8 : List xE) (y14 : Int32), TT ks h8 → xget lv7 0 = some (.ref (q0 + 1)) → xget lv7 1 = some (.int x1) → xget lv7 2 = some (.int x2) → xget lv7 3 = some (.int y14) → WNu_insert_L30 q0 x1 x2  K n16 y14 (mm h8) → yT 0 [] rX4_insert (0) 0 30 lv7 [] h8 (PV ks K) := by
          intro n16
          induction n16 with
          | zero => intro lv7 h8 y14 hT9 g10 g11 g12 g13 j; exact j.elim
          | succ n16 ih17 =>
            intro lv7 h8 y14 hT9 g10 g11 g12 g13 j
            replace j := WNu_insert_L30_u j
            refine yT.iln (pc' := 31) g13 rfl rfl ?_
            refine yT.iln (pc' := 32) g11 rfl rfl ?_
            refine yT.zle2 (t := 55) (pc' := 35) rfl rfl rfl (fun c18 => ?_) (fun c18 => ?_)
            · replace j := j.1 c18
              refine yT.aan (pc' := 36) g10 rfl rfl rfl ?_
              obtain ⟨p19, w20, j⟩ := j
              refine yT.gR (pc' := 39) rfl rfl hT9 o0 rfl rfl w20 (fun o21 => ?_)
              refine yT.iln (pc' := 40) g13 rfl rfl ?_
              refine yT.aan (pc' := 41) g10 rfl rfl rfl ?_
              refine yT.gR (pc' := 44) rfl rfl hT9 o0 rfl rfl w20 (fun _ => ?_)
              refine yT.iln (pc' := 45) g13 rfl rfl ?_
              refine yT.zk (pc' := 46) (z := 1) rfl rfl (by decide) ?_
              refine yT.p (pc' := 47) rfl rfl (fun _ _ _ _ => rfl) ?_
              obtain ⟨c22, j⟩ := j
              refine yT.iA (pc' := 48) rfl rfl hT9 o21 c22 ?_
              obtain ⟨c23, j⟩ := j
              refine yT.tI (pc' := 49) rfl rfl hT9 o21 c23 (fun h24 hT25 e26 => ?_)
              replace j := j _ e26
              refine yT.iif (pc' := 52) (z := y14 - 1) g13 (i32_dec _) rfl rfl rfl ?_
              refine yT.p (pc' := 30) rfl rfl (fun _ _ _ _ => rfl) ?_
              exact ih17 _ _ _ hT25 (xg_ne g10 rfl) (xg_ne g11 rfl) (xg_ne g12 rfl) xg_eq j
            · replace j := j.2 c18
              refine yT.aan (pc' := 56) g10 rfl rfl rfl ?_
              obtain ⟨p27, w28, j⟩ := j
              refine yT.gR (pc' := 59) rfl rfl hT9 o0 rfl rfl w28 (fun o29 => ?_)
              refine yT.iln (pc' := 60) g11 rfl rfl ?_
              refine yT.iln (pc' := 61) g12 rfl rfl ?_
              obtain ⟨c30, j⟩ := j
              refine yT.tI (pc' := 62) rfl rfl hT9 o29 c30 (fun h31 hT32 e33 => ?_)
              replace j := j _ e33
              refine yT.aan (pc' := 63) g10 rfl rfl rfl ?_
              refine yT.p (pc' := 64) rfl rfl (fun _ _ _ _ => rfl) ?_
              refine yT.gI (pc' := 67) rfl rfl hT32 o0 rfl ?_
              refine yT.zk (pc' := 68) (z := 1) rfl rfl (by decide) ?_
              refine yT.p (pc' := 69) rfl rfl (fun _ _ _ _ => rfl) ?_
              refine yT.sI (pc' := 72) rfl rfl hT32 o0 rfl rfl (fun h34 hT35 e36 => ?_)
              replace j := j _ e36
              exact yT.retV rfl rfl ⟨rfl, hT35, j⟩
        obtain ⟨n37, j⟩ := j
        exact L15 n37 _ _ _ hT (xg_ne g0 rfl) (xg_ne g1 rfl) (xg_ne g2 rfl) xg_eq j
      · replace j := j.2 c6
        exact yT.retV rfl rfl ⟨rfl, hT, j⟩
-- rX4_dropLast
def WNu_dropLast  (q0 : Nat) (m : Mm) (K : Mm → Prop) : Prop := ((0 < (m.iv q0 1).toInt) → ∀ m2, m2 = m.st q0 1 (.int ((m.iv q0 1) - (1 : Int32))) → K m2) ∧ (¬ (0 < (m.iv q0 1).toInt) → K m)
set_option maxRecDepth 100000 in
set_option maxHeartbeats 4000000 in
theorem kNu_dropLast {ks : List Nat} {h : List xE} (hT : TT ks h) {q0 : Nat} (o0 : xnth ks q0 = some 14)  {K : Mm → Prop} (j : WNu_dropLast  q0 (mm h) K) : yM 50 (0) 0 [.ref (q0 + 1)] h (PV ks K) := by
  unfold WNu_dropLast at j
  refine yM.st xM_50 rfl rfl (fun lv g => ?_)
  have g0 := g 0 _ rfl
  refine yT.aan (pc' := 1) g0 rfl rfl rfl ?_
  refine yT.gI (pc' := 4) rfl rfl hT o0 rfl ?_
  refine yT.zle1 (t := 17) (pc' := 7) rfl rfl rfl (fun c1 => ?_) (fun c1 => ?_)
  · replace j := j.1 c1
    refine yT.aan (pc' := 8) g0 rfl rfl rfl ?_
    refine yT.p (pc' := 9) rfl rfl (fun _ _ _ _ => rfl) ?_
    refine yT.gI (pc' := 12) rfl rfl hT o0 rfl ?_
    refine yT.zk (pc' := 13) (z := 1) rfl rfl (by decide) ?_
    refine yT.p (pc' := 14) rfl rfl (fun _ _ _ _ => rfl) ?_
    refine yT.sI (pc' := 17) rfl rfl hT o0 rfl rfl (fun h2 hT3 e4 => ?_)
    replace j := j _ e4
    exact yT.retV rfl rfl ⟨rfl, hT3, j⟩
  · replace j := j.2 c1
    exact yT.retV rfl rfl ⟨rfl, hT, j⟩
-- rX4_drop
def WNu_drop_L4 (q0 : Nat) (x1 : Int32) (K : Mm → Prop) : Nat → Int32 → Int32 → Mm → Prop
  | 0, _, _, _ => False
  | n11 + 1, y7, y9, m2 => ((y9.toInt < (m2.iv q0 1).toInt) → ∃ p14, m2.rv q0 0 = p14 + 1 ∧ ((y9.toInt < (Int32.ofNat (m2.ln p14)).toInt) → (0 ≤ y9.toInt ∧ y9.toInt < (m2.ln p14 : Int)) ∧ (((m2.iv p14 y9.toInt.toNat) = x1) → WNu_drop_L4 q0 x1  K n11 y7 (y9 + 1) m2) ∧ (¬ ((m2.iv p14 y9.toInt.toNat) = x1) → (0 ≤ y9.toInt ∧ y9.toInt < (m2.ln p14 : Int)) ∧ (0 ≤ y7.toInt ∧ y7.toInt < (m2.ln p14 : Int)) ∧ ∀ m22, m22 = m2.st p14 y7.toInt.toNat (.int (m2.iv p14 y9.toInt.toNat)) → WNu_drop_L4 q0 x1  K n11 (y7 + 1) (y9 + 1) m22)) ∧ (¬ (y9.toInt < (Int32.ofNat (m2.ln p14)).toInt) → ∀ m25, m25 = m2.st q0 1 (.int y7) → K m25)) ∧ (¬ (y9.toInt < (m2.iv q0 1).toInt) → ∀ m28, m28 = m2.st q0 1 (.int y7) → K m28)
set_option maxRecDepth 100000 in
theorem WNu_drop_L4_u {q0 : Nat} {x1 : Int32} {K : Mm → Prop} {n11 : Nat} {y7 : Int32} {y9 : Int32} {m2 : Mm} (j : WNu_drop_L4 q0 x1  K (n11 + 1) y7 y9 m2) : ((y9.toInt < (m2.iv q0 1).toInt) → ∃ p14, m2.rv q0 0 = p14 + 1 ∧ ((y9.toInt < (Int32.ofNat (m2.ln p14)).toInt) → (0 ≤ y9.toInt ∧ y9.toInt < (m2.ln p14 : Int)) ∧ (((m2.iv p14 y9.toInt.toNat) = x1) → WNu_drop_L4 q0 x1  K n11 y7 (y9 + 1) m2) ∧ (¬ ((m2.iv p14 y9.toInt.toNat) = x1) → (0 ≤ y9.toInt ∧ y9.toInt < (m2.ln p14 : Int)) ∧ (0 ≤ y7.toInt ∧ y7.toInt < (m2.ln p14 : Int)) ∧ ∀ m22, m22 = m2.st p14 y7.toInt.toNat (.int (m2.iv p14 y9.toInt.toNat)) → WNu_drop_L4 q0 x1  K n11 (y7 + 1) (y9 + 1) m22)) ∧ (¬ (y9.toInt < (Int32.ofNat (m2.ln p14)).toInt) → ∀ m25, m25 = m2.st q0 1 (.int y7) → K m25)) ∧ (¬ (y9.toInt < (m2.iv q0 1).toInt) → ∀ m28, m28 = m2.st q0 1 (.int y7) → K m28) := j
set_option maxRecDepth 100000 in
theorem WNu_drop_L4_i {q0 : Nat} {x1 : Int32} {K : Mm → Prop} {n11 : Nat} {y7 : Int32} {y9 : Int32} {m2 : Mm} (j : ((y9.toInt < (m2.iv q0 1).toInt) → ∃ p14, m2.rv q0 0 = p14 + 1 ∧ ((y9.toInt < (Int32.ofNat (m2.ln p14)).toInt) → (0 ≤ y9.toInt ∧ y9.toInt < (m2.ln p14 : Int)) ∧ (((m2.iv p14 y9.toInt.toNat) = x1) → WNu_drop_L4 q0 x1  K n11 y7 (y9 + 1) m2) ∧ (¬ ((m2.iv p14 y9.toInt.toNat) = x1) → (0 ≤ y9.toInt ∧ y9.toInt < (m2.ln p14 : Int)) ∧ (0 ≤ y7.toInt ∧ y7.toInt < (m2.ln p14 : Int)) ∧ ∀ m22, m22 = m2.st p14 y7.toInt.toNat (.int (m2.iv p14 y9.toInt.toNat)) → WNu_drop_L4 q0 x1  K n11 (y7 + 1) (y9 + 1) m22)) ∧ (¬ (y9.toInt < (Int32.ofNat (m2.ln p14)).toInt) → ∀ m25, m25 = m2.st q0 1 (.int y7) → K m25)) ∧ (¬ (y9.toInt < (m2.iv q0 1).toInt) → ∀ m28, m28 = m2.st q0 1 (.int y7) → K m28)) : WNu_drop_L4 q0 x1  K (n11 + 1) y7 y9 m2 := j
def WNu_drop  (q0 : Nat) (x1 : Int32) (m : Mm) (K : Mm → Prop) : Prop := ∃ n31, WNu_drop_L4 q0 x1  K n31 0 0 m
set_option maxRecDepth 100000 in
set_option maxHeartbeats 4000000 in
theorem kNu_drop {ks : List Nat} {h : List xE} (hT : TT ks h) {q0 : Nat} (o0 : xnth ks q0 = some 14) (x1 : Int32)  {K : Mm → Prop} (j : WNu_drop  q0 x1 (mm h) K) : yM 51 (0) 0 [.ref (q0 + 1), .int x1] h (PV ks K) := by
  unfold WNu_drop at j
  refine yM.st xM_51 rfl rfl (fun lv g => ?_)
  have g0 := g 0 _ rfl
  have g1 := g 1 _ rfl
  refine yT.zk (pc' := 1) (z := 0) rfl rfl (by decide) ?_
  refine yT.p (pc' := 2) (lv' := xst1 _ 2 (.int 0)) rfl rfl (fun _ _ _ _ => rfl) ?_
  refine yT.zk (pc' := 3) (z := 0) rfl rfl (by decide) ?_
  refine yT.p (pc' := 4) (lv' := xst1 _ 3 (.int 0)) rfl rfl (fun _ _ _ _ => rfl) ?_
  have L10 : ∀ (n11 : Nat) (lv1 : xLv) (h2 : List xE) (y7 : Int32) (y9 : Int32), TT ks h2 → xget lv1 0 = some (.ref (q0 + 1)) → xget lv1 1 = some (.int x1) → xget lv1 2 = some (.int y7) → xget lv1 3 = some (.int y9) → WNu_drop_L4 q0 x1  K n11 y7 y9 (mm h2) → yT 0 [] rX4_drop (0) 0 4 lv1 [] h2 (PV ks K) := by
    intro n11
    induction n11 with
    | zero => intro lv1 h2 y7 y9 hT3 g4 g5 g6 g8 j; exact j.elim
    | succ n11 ih12 =>
      intro lv1 h2 y7 y9 hT3 g4 g5 g6 g8 j
      replace j := WNu_drop_L4_u j
      refine yT.iln (pc' := 5) g8 rfl rfl ?_
      refine yT.aan (pc' := 6) g4 rfl rfl rfl ?_
      refine yT.gI (pc' := 9) rfl rfl hT3 o0 rfl ?_
      refine yT.zge2 (t := 52) (pc' := 12) rfl rfl rfl (fun c13 => ?_) (fun c13 => ?_)
      · replace j := j.1 c13
        refine yT.iln (pc' := 13) g8 rfl rfl ?_
        refine yT.aan (pc' := 14) g4 rfl rfl rfl ?_
        obtain ⟨p14, w15, j⟩ := j
        refine yT.gR (pc' := 17) rfl rfl hT3 o0 rfl rfl w15 (fun o16 => ?_)
        refine yT.aL (pc' := 18) rfl rfl hT3 o16 rfl ?_
        refine yT.zge2 (t := 52) (pc' := 21) rfl rfl rfl (fun c17 => ?_) (fun c17 => ?_)
        · replace j := j.1 c17
          refine yT.aan (pc' := 22) g4 rfl rfl rfl ?_
          refine yT.gR (pc' := 25) rfl rfl hT3 o0 rfl rfl w15 (fun _ => ?_)
          refine yT.iln (pc' := 26) g8 rfl rfl ?_
          obtain ⟨c18, j⟩ := j
          refine yT.iA (pc' := 27) rfl rfl hT3 o16 c18 ?_
          refine yT.iln (pc' := 28) g5 rfl rfl ?_
          refine yT.zeq2 (t := 46) (pc' := 31) rfl rfl rfl (fun c19 => ?_) (fun c19 => ?_)
          · replace j := j.1 c19
            refine yT.iif (pc' := 49) (z := y9 + 1) g8 rfl rfl rfl rfl ?_
            refine yT.p (pc' := 4) rfl rfl (fun _ _ _ _ => rfl) ?_
            exact ih12 _ _ _ _ hT3 (xg_ne g4 rfl) (xg_ne g5 rfl) (xg_ne g6 rfl) xg_eq j
          · replace j := j.2 c19
            refine yT.aan (pc' := 32) g4 rfl rfl rfl ?_
            refine yT.gR (pc' := 35) rfl rfl hT3 o0 rfl rfl w15 (fun _ => ?_)
            refine yT.iln (pc' := 36) g6 rfl rfl ?_
            refine yT.aan (pc' := 37) g4 rfl rfl rfl ?_
            refine yT.gR (pc' := 40) rfl rfl hT3 o0 rfl rfl w15 (fun _ => ?_)
            refine yT.iln (pc' := 41) g8 rfl rfl ?_
            obtain ⟨c20, j⟩ := j
            refine yT.iA (pc' := 42) rfl rfl hT3 o16 c20 ?_
            obtain ⟨c21, j⟩ := j
            refine yT.tI (pc' := 43) rfl rfl hT3 o16 c21 (fun h22 hT23 e24 => ?_)
            replace j := j _ e24
            refine yT.iif (pc' := 46) (z := y7 + 1) g6 rfl rfl rfl rfl ?_
            refine yT.iif (pc' := 49) (z := y9 + 1) (xg_ne g8 rfl) rfl rfl rfl rfl ?_
            refine yT.p (pc' := 4) rfl rfl (fun _ _ _ _ => rfl) ?_
            exact ih12 _ _ _ _ hT23 (xg_ne (xg_ne g4 rfl) rfl) (xg_ne (xg_ne g5 rfl) rfl) (xg_ne xg_eq rfl) xg_eq j
        · replace j := j.2 c17
          refine yT.aan (pc' := 53) g4 rfl rfl rfl ?_
          refine yT.iln (pc' := 54) g6 rfl rfl ?_
          refine yT.sI (pc' := 57) rfl rfl hT3 o0 rfl rfl (fun h25 hT26 e27 => ?_)
          replace j := j _ e27
          exact yT.retV rfl rfl ⟨rfl, hT26, j⟩
      · replace j := j.2 c13
        refine yT.aan (pc' := 53) g4 rfl rfl rfl ?_
        refine yT.iln (pc' := 54) g6 rfl rfl ?_
        refine yT.sI (pc' := 57) rfl rfl hT3 o0 rfl rfl (fun h28 hT29 e30 => ?_)
        replace j := j _ e30
        exact yT.retV rfl rfl ⟨rfl, hT29, j⟩
  obtain ⟨n31, j⟩ := j
  exact L10 n31 _ _ _ _ hT (xg_ne (xg_ne g0 rfl) rfl) (xg_ne (xg_ne g1 rfl) rfl) (xg_ne xg_eq rfl) xg_eq j
-- rX4_clear
def WNu_clear  (q0 : Nat) (m : Mm) (K : Mm → Prop) : Prop := ∀ m1, m1 = m.st q0 1 (.int 0) → ∀ m4, m4 = m1.st q0 2 (.int 0) → K m4
set_option maxRecDepth 100000 in
set_option maxHeartbeats 4000000 in
theorem kNu_clear {ks : List Nat} {h : List xE} (hT : TT ks h) {q0 : Nat} (o0 : xnth ks q0 = some 14)  {K : Mm → Prop} (j : WNu_clear  q0 (mm h) K) : yM 52 (0) 0 [.ref (q0 + 1)] h (PV ks K) := by
  unfold WNu_clear at j
  refine yM.st xM_52 rfl rfl (fun lv g => ?_)
  have g0 := g 0 _ rfl
  refine yT.aan (pc' := 1) g0 rfl rfl rfl ?_
  refine yT.zk (pc' := 2) (z := 0) rfl rfl (by decide) ?_
  refine yT.sI (pc' := 5) rfl rfl hT o0 rfl rfl (fun h1 hT2 e3 => ?_)
  replace j := j _ e3
  refine yT.aan (pc' := 6) g0 rfl rfl rfl ?_
  refine yT.zk (pc' := 7) (z := 0) rfl rfl (by decide) ?_
  refine yT.sI (pc' := 10) rfl rfl hT2 o0 rfl rfl (fun h4 hT5 e6 => ?_)
  replace j := j _ e6
  exact yT.retV rfl rfl ⟨rfl, hT5, j⟩
-- rX4_takeFrom
def WNu_takeFrom_L6 (q0 : Nat) (q1 : Nat) (K : Mm → Prop) : Nat → Int32 → Mm → Prop
  | 0, _, _ => False
  | n11 + 1, y9, m4 => ((y9.toInt < (m4.iv q1 1).toInt) → ∃ p14, m4.rv q1 0 = p14 + 1 ∧ ((y9.toInt < (Int32.ofNat (m4.ln p14)).toInt) → ∃ p18, m4.rv q0 0 = p18 + 1 ∧ ((y9.toInt < (Int32.ofNat (m4.ln p18)).toInt) → (0 ≤ y9.toInt ∧ y9.toInt < (m4.ln p14 : Int)) ∧ (0 ≤ y9.toInt ∧ y9.toInt < (m4.ln p18 : Int)) ∧ ∀ m24, m24 = m4.st p18 y9.toInt.toNat (.int (m4.iv p14 y9.toInt.toNat)) → ∀ m27, m27 = m24.st q0 1 (.int ((m24.iv q0 1) + (1 : Int32))) → WNu_takeFrom_L6 q0 q1  K n11 (y9 + 1) m27) ∧ (¬ (y9.toInt < (Int32.ofNat (m4.ln p18)).toInt) → ∀ m30, m30 = m4.st q0 2 (.int (m4.iv q1 2)) → K m30)) ∧ (¬ (y9.toInt < (Int32.ofNat (m4.ln p14)).toInt) → ∀ m33, m33 = m4.st q0 2 (.int (m4.iv q1 2)) → K m33)) ∧ (¬ (y9.toInt < (m4.iv q1 1).toInt) → ∀ m36, m36 = m4.st q0 2 (.int (m4.iv q1 2)) → K m36)
set_option maxRecDepth 100000 in
theorem WNu_takeFrom_L6_u {q0 : Nat} {q1 : Nat} {K : Mm → Prop} {n11 : Nat} {y9 : Int32} {m4 : Mm} (j : WNu_takeFrom_L6 q0 q1  K (n11 + 1) y9 m4) : ((y9.toInt < (m4.iv q1 1).toInt) → ∃ p14, m4.rv q1 0 = p14 + 1 ∧ ((y9.toInt < (Int32.ofNat (m4.ln p14)).toInt) → ∃ p18, m4.rv q0 0 = p18 + 1 ∧ ((y9.toInt < (Int32.ofNat (m4.ln p18)).toInt) → (0 ≤ y9.toInt ∧ y9.toInt < (m4.ln p14 : Int)) ∧ (0 ≤ y9.toInt ∧ y9.toInt < (m4.ln p18 : Int)) ∧ ∀ m24, m24 = m4.st p18 y9.toInt.toNat (.int (m4.iv p14 y9.toInt.toNat)) → ∀ m27, m27 = m24.st q0 1 (.int ((m24.iv q0 1) + (1 : Int32))) → WNu_takeFrom_L6 q0 q1  K n11 (y9 + 1) m27) ∧ (¬ (y9.toInt < (Int32.ofNat (m4.ln p18)).toInt) → ∀ m30, m30 = m4.st q0 2 (.int (m4.iv q1 2)) → K m30)) ∧ (¬ (y9.toInt < (Int32.ofNat (m4.ln p14)).toInt) → ∀ m33, m33 = m4.st q0 2 (.int (m4.iv q1 2)) → K m33)) ∧ (¬ (y9.toInt < (m4.iv q1 1).toInt) → ∀ m36, m36 = m4.st q0 2 (.int (m4.iv q1 2)) → K m36) := j
set_option maxRecDepth 100000 in
theorem WNu_takeFrom_L6_i {q0 : Nat} {q1 : Nat} {K : Mm → Prop} {n11 : Nat} {y9 : Int32} {m4 : Mm} (j : ((y9.toInt < (m4.iv q1 1).toInt) → ∃ p14, m4.rv q1 0 = p14 + 1 ∧ ((y9.toInt < (Int32.ofNat (m4.ln p14)).toInt) → ∃ p18, m4.rv q0 0 = p18 + 1 ∧ ((y9.toInt < (Int32.ofNat (m4.ln p18)).toInt) → (0 ≤ y9.toInt ∧ y9.toInt < (m4.ln p14 : Int)) ∧ (0 ≤ y9.toInt ∧ y9.toInt < (m4.ln p18 : Int)) ∧ ∀ m24, m24 = m4.st p18 y9.toInt.toNat (.int (m4.iv p14 y9.toInt.toNat)) → ∀ m27, m27 = m24.st q0 1 (.int ((m24.iv q0 1) + (1 : Int32))) → WNu_takeFrom_L6 q0 q1  K n11 (y9 + 1) m27) ∧ (¬ (y9.toInt < (Int32.ofNat (m4.ln p18)).toInt) → ∀ m30, m30 = m4.st q0 2 (.int (m4.iv q1 2)) → K m30)) ∧ (¬ (y9.toInt < (Int32.ofNat (m4.ln p14)).toInt) → ∀ m33, m33 = m4.st q0 2 (.int (m4.iv q1 2)) → K m33)) ∧ (¬ (y9.toInt < (m4.iv q1 1).toInt) → ∀ m36, m36 = m4.st q0 2 (.int (m4.iv q1 2)) → K m36)) : WNu_takeFrom_L6 q0 q1  K (n11 + 1) y9 m4 := j
def WNu_takeFrom  (q0 : Nat) (q1 : Nat) (m : Mm) (K : Mm → Prop) : Prop := WNu_clear q0 m (fun m1 => ∃ n39, WNu_takeFrom_L6 q0 q1  K n39 0 m1)
set_option maxRecDepth 100000 in
set_option maxHeartbeats 4000000 in
theorem kNu_takeFrom {ks : List Nat} {h : List xE} (hT : TT ks h) {q0 : Nat} (o0 : xnth ks q0 = some 14) {q1 : Nat} (o1 : xnth ks q1 = some 14)  {K : Mm → Prop} (j : WNu_takeFrom  q0 q1 (mm h) K) : yM 53 (1) 0 [.ref (q0 + 1), .ref (q1 + 1)] h (PV ks K) := by
  unfold WNu_takeFrom at j
  refine yM.st xM_53 rfl rfl (fun lv g => ?_)
  have g0 := g 0 _ rfl
  have g1 := g 1 _ rfl
  refine yT.aan (pc' := 1) g0 rfl rfl rfl ?_
  refine zV (yT.cw (G2 := 0) (pc' := 4) rfl rfl rfl hT o0 xM_52 (kNu_clear hT o0 j) rfl (by decide) (by decide) rfl) (fun h1 hT2 j => ?_)
  refine yT.zk (pc' := 5) (z := 0) rfl rfl (by decide) ?_
  refine yT.p (pc' := 6) (lv' := xst1 _ 2 (.int 0)) rfl rfl (fun _ _ _ _ => rfl) ?_
  have L10 : ∀ (n11 : Nat) (lv3 : xLv) (h4 : List xE) (y9 : Int32), TT ks h4 → xget lv3 0 = some (.ref (q0 + 1)) → xget lv3 1 = some (.ref (q1 + 1)) → xget lv3 2 = some (.int y9) → WNu_takeFrom_L6 q0 q1  K n11 y9 (mm h4) → yT 0 [] rX4_takeFrom (1) 0 6 lv3 [] h4 (PV ks K) := by
    intro n11
    induction n11 with
    | zero => intro lv3 h4 y9 hT5 g6 g7 g8 j; exact j.elim
    | succ n11 ih12 =>
      intro lv3 h4 y9 hT5 g6 g7 g8 j
      replace j := WNu_takeFrom_L6_u j
      refine yT.iln (pc' := 7) g8 rfl rfl ?_
      refine yT.aan (pc' := 8) g7 rfl rfl rfl ?_
      refine yT.gI (pc' := 11) rfl rfl hT5 o1 rfl ?_
      refine yT.zge2 (t := 60) (pc' := 14) rfl rfl rfl (fun c13 => ?_) (fun c13 => ?_)
      · replace j := j.1 c13
        refine yT.iln (pc' := 15) g8 rfl rfl ?_
        refine yT.aan (pc' := 16) g7 rfl rfl rfl ?_
        obtain ⟨p14, w15, j⟩ := j
        refine yT.gR (pc' := 19) rfl rfl hT5 o1 rfl rfl w15 (fun o16 => ?_)
        refine yT.aL (pc' := 20) rfl rfl hT5 o16 rfl ?_
        refine yT.zge2 (t := 60) (pc' := 23) rfl rfl rfl (fun c17 => ?_) (fun c17 => ?_)
        · replace j := j.1 c17
          refine yT.iln (pc' := 24) g8 rfl rfl ?_
          refine yT.aan (pc' := 25) g6 rfl rfl rfl ?_
          obtain ⟨p18, w19, j⟩ := j
          refine yT.gR (pc' := 28) rfl rfl hT5 o0 rfl rfl w19 (fun o20 => ?_)
          refine yT.aL (pc' := 29) rfl rfl hT5 o20 rfl ?_
          refine yT.zge2 (t := 60) (pc' := 32) rfl rfl rfl (fun c21 => ?_) (fun c21 => ?_)
          · replace j := j.1 c21
            refine yT.aan (pc' := 33) g6 rfl rfl rfl ?_
            refine yT.gR (pc' := 36) rfl rfl hT5 o0 rfl rfl w19 (fun _ => ?_)
            refine yT.iln (pc' := 37) g8 rfl rfl ?_
            refine yT.aan (pc' := 38) g7 rfl rfl rfl ?_
            refine yT.gR (pc' := 41) rfl rfl hT5 o1 rfl rfl w15 (fun _ => ?_)
            refine yT.iln (pc' := 42) g8 rfl rfl ?_
            obtain ⟨c22, j⟩ := j
            refine yT.iA (pc' := 43) rfl rfl hT5 o16 c22 ?_
            obtain ⟨c23, j⟩ := j
            refine yT.tI (pc' := 44) rfl rfl hT5 o20 c23 (fun h24 hT25 e26 => ?_)
            replace j := j _ e26
            refine yT.aan (pc' := 45) g6 rfl rfl rfl ?_
            refine yT.p (pc' := 46) rfl rfl (fun _ _ _ _ => rfl) ?_
            refine yT.gI (pc' := 49) rfl rfl hT25 o0 rfl ?_
            refine yT.zk (pc' := 50) (z := 1) rfl rfl (by decide) ?_
            refine yT.p (pc' := 51) rfl rfl (fun _ _ _ _ => rfl) ?_
            refine yT.sI (pc' := 54) rfl rfl hT25 o0 rfl rfl (fun h27 hT28 e29 => ?_)
            replace j := j _ e29
            refine yT.iif (pc' := 57) (z := y9 + 1) g8 rfl rfl rfl rfl ?_
            refine yT.p (pc' := 6) rfl rfl (fun _ _ _ _ => rfl) ?_
            exact ih12 _ _ _ hT28 (xg_ne g6 rfl) (xg_ne g7 rfl) xg_eq j
          · replace j := j.2 c21
            refine yT.aan (pc' := 61) g6 rfl rfl rfl ?_
            refine yT.aan (pc' := 62) g7 rfl rfl rfl ?_
            refine yT.gI (pc' := 65) rfl rfl hT5 o1 rfl ?_
            refine yT.sI (pc' := 68) rfl rfl hT5 o0 rfl rfl (fun h30 hT31 e32 => ?_)
            replace j := j _ e32
            exact yT.retV rfl rfl ⟨rfl, hT31, j⟩
        · replace j := j.2 c17
          refine yT.aan (pc' := 61) g6 rfl rfl rfl ?_
          refine yT.aan (pc' := 62) g7 rfl rfl rfl ?_
          refine yT.gI (pc' := 65) rfl rfl hT5 o1 rfl ?_
          refine yT.sI (pc' := 68) rfl rfl hT5 o0 rfl rfl (fun h33 hT34 e35 => ?_)
          replace j := j _ e35
          exact yT.retV rfl rfl ⟨rfl, hT34, j⟩
      · replace j := j.2 c13
        refine yT.aan (pc' := 61) g6 rfl rfl rfl ?_
        refine yT.aan (pc' := 62) g7 rfl rfl rfl ?_
        refine yT.gI (pc' := 65) rfl rfl hT5 o1 rfl ?_
        refine yT.sI (pc' := 68) rfl rfl hT5 o0 rfl rfl (fun h36 hT37 e38 => ?_)
        replace j := j _ e38
        exact yT.retV rfl rfl ⟨rfl, hT37, j⟩
  obtain ⟨n39, j⟩ := j
  exact L10 n39 _ _ _ hT2 (xg_ne g0 rfl) (xg_ne g1 rfl) xg_eq j
-- rX4_trimmed
def WNu_trimmed  (q0 : Nat) (m : Mm) (K : Mm → Nat → Prop) : Prop := ∀ m1, m1 = m.nw (eV (.inr (4, xDf 4 3))) 0 → WNu_init (m.nx) (m1.iv q0 1) m1 (fun m7 => WNu_takeFrom (m.nx) q0 m7 (fun m11 => K m11 ((m.nx) + 1)))
set_option maxRecDepth 100000 in
set_option maxHeartbeats 4000000 in
theorem kNu_trimmed {ks : List Nat} {h : List xE} (hT : TT ks h) {q0 : Nat} (o0 : xnth ks q0 = some 14)  {K : Mm → Nat → Prop} (j : WNu_trimmed  q0 (mm h) K) : yM 54 (2) 753 [.ref (q0 + 1)] h (PRa ks 14 K) := by
  unfold WNu_trimmed at j
  refine yM.st xM_54 rfl rfl (fun lv g => ?_)
  have g0 := g 0 _ rfl
  refine yT.nO (G2 := 750) (n := 3) (pc' := 3) rfl rfl rfl rfl (by decide) hT rfl (fun h1 ks5 kg4 hT2 o6 e3 => ?_)
  replace j := j _ e3
  refine yT.p (pc' := 4) rfl rfl (fun _ _ _ _ => rfl) ?_
  refine yT.aan (pc' := 5) g0 rfl rfl rfl ?_
  refine yT.gI (pc' := 8) rfl rfl hT2 (kg4.up o0) rfl ?_
  refine zVa (yT.cw (G2 := 0) (pc' := 11) rfl rfl rfl hT2 o6 xM_40 (kNu_init hT2 o6 ((mm h1).iv q0 1) j) rfl (by decide) (by decide) rfl) (fun h7 ks9 kg10 hT8 j => ?_)
  refine yT.p (pc' := 12) (lv' := xst1 _ 1 (.ref (((mm h).nx) + 1))) rfl rfl (fun _ _ _ _ => rfl) ?_
  refine yT.aan (pc' := 13) xg_eq rfl rfl rfl ?_
  refine yT.aan (pc' := 14) (xg_ne g0 rfl) rfl rfl rfl ?_
  refine zV (yT.cw (G2 := 0) (pc' := 17) rfl rfl rfl hT8 (kg10.up o6) xM_53 (kNu_takeFrom hT8 (kg10.up o6) (kg10.up (kg4.up o0)) j) rfl (by decide) (by decide) rfl) (fun h11 hT12 j => ?_)
  refine yT.aan (pc' := 18) xg_eq rfl rfl rfl ?_
  exact yT.retA rfl rfl rfl ⟨_, rfl, _, (kg4.tr kg10), Or.inr ⟨_, rfl, (kg10.up o6)⟩, hT12, j⟩
-- rX8_joined
def WPS_joined  (x0 : Int32) (x1 : Int32) (x2 : Int32) (m : Mm) (K : Mm → Int32 → Prop) : Prop := (x0.toInt = 0 → K m (x1 + x2)) ∧ (¬ x0.toInt = 0 → (x0.toInt = 1 → K m (x1 - x2)) ∧ (¬ x0.toInt = 1 → (x0.toInt = 2 → K m (x1 * x2)) ∧ (¬ x0.toInt = 2 → (x0.toInt = 3 → ((x2 = 0) → K m 0) ∧ (¬ (x2 = 0) → x2 ≠ 0 ∧ K m (x1 / x2))) ∧ (¬ x0.toInt = 3 → (x0.toInt = 4 → ((x2 = 0) → K m 0) ∧ (¬ (x2 = 0) → x2 ≠ 0 ∧ K m (x1 - x1 / x2 * x2))) ∧ (¬ x0.toInt = 4 → (x0.toInt = 5 → ((x1.toInt < x2.toInt) → K m 1) ∧ (¬ (x1.toInt < x2.toInt) → K m 0)) ∧ (¬ x0.toInt = 5 → (x0.toInt = 6 → ((x1 = x2) → K m 1) ∧ (¬ (x1 = x2) → K m 0)) ∧ (¬ x0.toInt = 6 → (x0.toInt = 7 → ((x2.toInt < x1.toInt) → K m 1) ∧ (¬ (x2.toInt < x1.toInt) → K m 0)) ∧ (¬ x0.toInt = 7 → ((x2.toInt < x1.toInt) → K m x1) ∧ (¬ (x2.toInt < x1.toInt) → K m x2)))))))))
set_option maxRecDepth 100000 in
set_option maxHeartbeats 4000000 in
theorem kPS_joined {ks : List Nat} {h : List xE} (hT : TT ks h) (x0 : Int32) (x1 : Int32) (x2 : Int32)  {K : Mm → Int32 → Prop} (j : WPS_joined  x0 x1 x2 (mm h) K) : yM 108 (0) 0 [.int x0, .int x1, .int x2] h (PI ks K) := by
  unfold WPS_joined at j
  refine yM.st xM_108 rfl rfl (fun lv g => ?_)
  have g0 := g 0 _ rfl
  have g1 := g 1 _ rfl
  have g2 := g 2 _ rfl
  refine yT.iln (pc' := 1) g0 rfl rfl ?_
  by_cases c1 : x0.toInt = 0
  · replace j := j.1 c1
    refine yT.tswK 0 (t := 48) rfl rfl (by omega) rfl rfl ?_
    refine yT.iln (pc' := 49) g1 rfl rfl ?_
    refine yT.iln (pc' := 50) g2 rfl rfl ?_
    refine yT.p (pc' := 51) rfl rfl (fun _ _ _ _ => rfl) ?_
    exact yT.retI rfl rfl ⟨_, rfl, hT, j⟩
  · replace j := j.2 c1
    by_cases c2 : x0.toInt = 1
    · replace j := j.1 c2
      refine yT.tswK 1 (t := 52) rfl rfl (by omega) rfl rfl ?_
      refine yT.iln (pc' := 53) g1 rfl rfl ?_
      refine yT.iln (pc' := 54) g2 rfl rfl ?_
      refine yT.p (pc' := 55) rfl rfl (fun _ _ _ _ => rfl) ?_
      exact yT.retI rfl rfl ⟨_, rfl, hT, j⟩
    · replace j := j.2 c2
      by_cases c3 : x0.toInt = 2
      · replace j := j.1 c3
        refine yT.tswK 2 (t := 56) rfl rfl (by omega) rfl rfl ?_
        refine yT.iln (pc' := 57) g1 rfl rfl ?_
        refine yT.iln (pc' := 58) g2 rfl rfl ?_
        refine yT.p (pc' := 59) rfl rfl (fun _ _ _ _ => rfl) ?_
        exact yT.retI rfl rfl ⟨_, rfl, hT, j⟩
      · replace j := j.2 c3
        by_cases c4 : x0.toInt = 3
        · replace j := j.1 c4
          refine yT.tswK 3 (t := 60) rfl rfl (by omega) rfl rfl ?_
          refine yT.iln (pc' := 61) g2 rfl rfl ?_
          refine yT.zne1 (t := 68) (pc' := 64) rfl rfl rfl (fun c5 => ?_) (fun c5 => ?_)
          · replace j := j.1 c5
            refine yT.zk (pc' := 65) (z := 0) rfl rfl (by decide) ?_
            refine yT.p (pc' := 71) rfl rfl (fun _ _ _ _ => rfl) ?_
            exact yT.retI rfl rfl ⟨_, rfl, hT, j⟩
          · replace j := j.2 c5
            refine yT.iln (pc' := 69) g1 rfl rfl ?_
            refine yT.iln (pc' := 70) g2 rfl rfl ?_
            obtain ⟨c6, j⟩ := j
            refine yT.div (pc' := 71) c6 rfl rfl ?_
            exact yT.retI rfl rfl ⟨_, rfl, hT, j⟩
        · replace j := j.2 c4
          by_cases c7 : x0.toInt = 4
          · replace j := j.1 c7
            refine yT.tswK 4 (t := 72) rfl rfl (by omega) rfl rfl ?_
            refine yT.iln (pc' := 73) g2 rfl rfl ?_
            refine yT.zne1 (t := 80) (pc' := 76) rfl rfl rfl (fun c8 => ?_) (fun c8 => ?_)
            · replace j := j.1 c8
              refine yT.zk (pc' := 77) (z := 0) rfl rfl (by decide) ?_
              refine yT.p (pc' := 83) rfl rfl (fun _ _ _ _ => rfl) ?_
              exact yT.retI rfl rfl ⟨_, rfl, hT, j⟩
            · replace j := j.2 c8
              refine yT.iln (pc' := 81) g1 rfl rfl ?_
              refine yT.iln (pc' := 82) g2 rfl rfl ?_
              obtain ⟨c9, j⟩ := j
              refine yT.rem (pc' := 83) c9 rfl rfl ?_
              exact yT.retI rfl rfl ⟨_, rfl, hT, j⟩
          · replace j := j.2 c7
            by_cases c10 : x0.toInt = 5
            · replace j := j.1 c10
              refine yT.tswK 5 (t := 84) rfl rfl (by omega) rfl rfl ?_
              refine yT.iln (pc' := 85) g1 rfl rfl ?_
              refine yT.iln (pc' := 86) g2 rfl rfl ?_
              refine yT.zge2 (t := 93) (pc' := 89) rfl rfl rfl (fun c11 => ?_) (fun c11 => ?_)
              · replace j := j.1 c11
                refine yT.zk (pc' := 90) (z := 1) rfl rfl (by decide) ?_
                refine yT.p (pc' := 94) rfl rfl (fun _ _ _ _ => rfl) ?_
                exact yT.retI rfl rfl ⟨_, rfl, hT, j⟩
              · replace j := j.2 c11
                refine yT.zk (pc' := 94) (z := 0) rfl rfl (by decide) ?_
                exact yT.retI rfl rfl ⟨_, rfl, hT, j⟩
            · replace j := j.2 c10
              by_cases c12 : x0.toInt = 6
              · replace j := j.1 c12
                refine yT.tswK 6 (t := 95) rfl rfl (by omega) rfl rfl ?_
                refine yT.iln (pc' := 96) g1 rfl rfl ?_
                refine yT.iln (pc' := 97) g2 rfl rfl ?_
                refine yT.zne2 (t := 104) (pc' := 100) rfl rfl rfl (fun c13 => ?_) (fun c13 => ?_)
                · replace j := j.1 c13
                  refine yT.zk (pc' := 101) (z := 1) rfl rfl (by decide) ?_
                  refine yT.p (pc' := 105) rfl rfl (fun _ _ _ _ => rfl) ?_
                  exact yT.retI rfl rfl ⟨_, rfl, hT, j⟩
                · replace j := j.2 c13
                  refine yT.zk (pc' := 105) (z := 0) rfl rfl (by decide) ?_
                  exact yT.retI rfl rfl ⟨_, rfl, hT, j⟩
              · replace j := j.2 c12
                by_cases c14 : x0.toInt = 7
                · replace j := j.1 c14
                  refine yT.tswK 7 (t := 106) rfl rfl (by omega) rfl rfl ?_
                  refine yT.iln (pc' := 107) g1 rfl rfl ?_
                  refine yT.iln (pc' := 108) g2 rfl rfl ?_
                  refine yT.zle2 (t := 115) (pc' := 111) rfl rfl rfl (fun c15 => ?_) (fun c15 => ?_)
                  · replace j := j.1 c15
                    refine yT.zk (pc' := 112) (z := 1) rfl rfl (by decide) ?_
                    refine yT.p (pc' := 116) rfl rfl (fun _ _ _ _ => rfl) ?_
                    exact yT.retI rfl rfl ⟨_, rfl, hT, j⟩
                  · replace j := j.2 c15
                    refine yT.zk (pc' := 116) (z := 0) rfl rfl (by decide) ?_
                    exact yT.retI rfl rfl ⟨_, rfl, hT, j⟩
                · replace j := j.2 c14
                  refine yT.tswD (t := 117) rfl rfl rfl (by omega) ?_
                  refine yT.iln (pc' := 118) g1 rfl rfl ?_
                  refine yT.iln (pc' := 119) g2 rfl rfl ?_
                  refine yT.zle2 (t := 126) (pc' := 122) rfl rfl rfl (fun c16 => ?_) (fun c16 => ?_)
                  · replace j := j.1 c16
                    refine yT.iln (pc' := 123) g1 rfl rfl ?_
                    refine yT.p (pc' := 127) rfl rfl (fun _ _ _ _ => rfl) ?_
                    exact yT.retI rfl rfl ⟨_, rfl, hT, j⟩
                  · replace j := j.2 c16
                    refine yT.iln (pc' := 127) g2 rfl rfl ?_
                    exact yT.retI rfl rfl ⟨_, rfl, hT, j⟩
-- rX8_isFail
def WPS_isFail  (x0 : Int64) (m : Mm) (K : Mm → Int32 → Prop) : Prop := ((0 < (lg_cmp x0 4000000000).toInt) → K m 1) ∧ (¬ (0 < (lg_cmp x0 4000000000).toInt) → K m 0)
set_option maxRecDepth 100000 in
set_option maxHeartbeats 4000000 in
theorem kPS_isFail {ks : List Nat} {h : List xE} (hT : TT ks h) (x0 : Int64)  {K : Mm → Int32 → Prop} (j : WPS_isFail  x0 (mm h) K) : yM 107 (0) 0 [.long x0] h (PZ ks K) := by
  unfold WPS_isFail at j
  refine yM.st xM_107 rfl rfl (fun lv g => ?_)
  have g0 := g 0 _ rfl
  refine yT.lln (pc' := 1) g0 rfl rfl ?_
  refine yT.zw (pc' := 4) (z := 4000000000) rfl rfl rfl rfl ?_
  refine yT.p (pc' := 5) rfl rfl (fun _ _ _ _ => rfl) ?_
  refine yT.zle1 (t := 12) (pc' := 8) rfl rfl rfl (fun c1 => ?_) (fun c1 => ?_)
  · replace j := j.1 c1
    refine yT.zk (pc' := 9) (z := 1) rfl rfl (by decide) ?_
    refine yT.p (pc' := 13) rfl rfl (fun _ _ _ _ => rfl) ?_
    exact yT.retZ rfl rfl (Or.inr rfl) ⟨_, rfl, hT, (Or.inr rfl), j⟩
  · replace j := j.2 c1
    refine yT.zk (pc' := 13) (z := 0) rfl rfl (by decide) ?_
    exact yT.retZ rfl rfl (Or.inl rfl) ⟨_, rfl, hT, (Or.inl rfl), j⟩
-- rX2_init
def WFo_init  (q0 : Nat) (q1 : Nat) (q2 : Nat) (q3 : Nat) (x4 : Int32) (m : Mm) (K : Mm → Prop) : Prop := WNu_trimmed q1 m (nz fun m1 p5 => ∀ m8, m8 = m1.st q0 0 (.ref (p5 + 1)) → WNu_trimmed q2 m8 (nz fun m11 p15 => ∀ m18, m18 = m11.st q0 1 (.ref (p15 + 1)) → WNu_trimmed q3 m18 (nz fun m21 p25 => ∀ m28, m28 = m21.st q0 2 (.ref (p25 + 1)) → ∀ m31, m31 = m28.nw (eV (.inr (4, xDf 4 3))) 0 → WNu_init (m28.nx) x4 m31 (fun m37 => ∀ m41, m41 = m37.st q0 3 (.ref ((m28.nx) + 1)) → K m41))))
set_option maxRecDepth 100000 in
set_option maxHeartbeats 4000000 in
theorem kFo_init {ks : List Nat} {h : List xE} (hT : TT ks h) {q0 : Nat} (o0 : xnth ks q0 = some 12) {q1 : Nat} (o1 : xnth ks q1 = some 14) {q2 : Nat} (o2 : xnth ks q2 = some 14) {q3 : Nat} (o3 : xnth ks q3 = some 14) (x4 : Int32)  {K : Mm → Prop} (j : WFo_init  q0 q1 q2 q3 x4 (mm h) K) : yM 8 (3) 3012 [.ref (q0 + 1), .ref (q1 + 1), .ref (q2 + 1), .ref (q3 + 1), .int x4] h (PVa ks K) := by
  unfold WFo_init at j
  refine yM.st xM_8 rfl rfl (fun lv g => ?_)
  have g0 := g 0 _ rfl
  have g1 := g 1 _ rfl
  have g2 := g 2 _ rfl
  have g3 := g 3 _ rfl
  have g4 := g 4 _ rfl
  refine yT.aan (pc' := 1) g0 rfl rfl rfl ?_
  refine yT.obj (pc' := 4) rfl rfl (by decide) rfl ?_
  refine yT.aan (pc' := 5) g0 rfl rfl rfl ?_
  refine yT.aan (pc' := 6) g1 rfl rfl rfl ?_
  refine zR1a (yT.cw (G2 := 2259) (pc' := 9) rfl rfl rfl hT o1 xM_54 (kNu_trimmed hT o1 j) rfl (by decide) (by decide) rfl) (fun h1 ks3 kg4 p5 hT2 o7 j => ?_)
  refine yT.sR (pc' := 12) rfl rfl hT2 (kg4.up o0) rfl rfl rfl (Or.inr ⟨_, rfl, o7⟩) (fun h8 hT9 e10 => ?_)
  replace j := j _ e10
  refine yT.aan (pc' := 13) g0 rfl rfl rfl ?_
  refine yT.aan (pc' := 14) g2 rfl rfl rfl ?_
  refine zR1a (yT.cw (G2 := 1506) (pc' := 17) rfl rfl rfl hT9 (kg4.up o2) xM_54 (kNu_trimmed hT9 (kg4.up o2) j) rfl (by decide) (by decide) rfl) (fun h11 ks13 kg14 p15 hT12 o17 j => ?_)
  refine yT.sR (pc' := 20) rfl rfl hT12 (kg14.up (kg4.up o0)) rfl rfl rfl (Or.inr ⟨_, rfl, o17⟩) (fun h18 hT19 e20 => ?_)
  replace j := j _ e20
  refine yT.aan (pc' := 21) g0 rfl rfl rfl ?_
  refine yT.aan (pc' := 22) g3 rfl rfl rfl ?_
  refine zR1a (yT.cw (G2 := 753) (pc' := 25) rfl rfl rfl hT19 (kg14.up (kg4.up o3)) xM_54 (kNu_trimmed hT19 (kg14.up (kg4.up o3)) j) rfl (by decide) (by decide) rfl) (fun h21 ks23 kg24 p25 hT22 o27 j => ?_)
  refine yT.sR (pc' := 28) rfl rfl hT22 (kg24.up (kg14.up (kg4.up o0))) rfl rfl rfl (Or.inr ⟨_, rfl, o27⟩) (fun h28 hT29 e30 => ?_)
  replace j := j _ e30
  refine yT.aan (pc' := 29) g0 rfl rfl rfl ?_
  refine yT.nO (G2 := 750) (n := 3) (pc' := 32) rfl rfl rfl rfl (by decide) hT29 rfl (fun h31 ks35 kg34 hT32 o36 e33 => ?_)
  replace j := j _ e33
  refine yT.p (pc' := 33) rfl rfl (fun _ _ _ _ => rfl) ?_
  refine yT.il (pc' := 35) g4 rfl rfl ?_
  refine zVa (yT.cw (G2 := 0) (pc' := 38) rfl rfl rfl hT32 o36 xM_40 (kNu_init hT32 o36 x4 j) rfl (by decide) (by decide) rfl) (fun h37 ks39 kg40 hT38 j => ?_)
  refine yT.sR (pc' := 41) rfl rfl hT38 (kg40.up (kg34.up (kg24.up (kg14.up (kg4.up o0))))) rfl rfl rfl (Or.inr ⟨_, rfl, (kg40.up o36)⟩) (fun h41 hT42 e43 => ?_)
  replace j := j _ e43
  exact yT.retV rfl rfl ⟨rfl, _, ((((kg4.tr kg14).tr kg24).tr kg34).tr kg40), hT42, j⟩
-- rX2_asked
def WFo_asked  (q0 : Nat) (m : Mm) (K : Mm → Int32 → Prop) : Prop := K m (m.iv q0 6)
set_option maxRecDepth 100000 in
set_option maxHeartbeats 4000000 in
theorem kFo_asked {ks : List Nat} {h : List xE} (hT : TT ks h) {q0 : Nat} (o0 : xnth ks q0 = some 12)  {K : Mm → Int32 → Prop} (j : WFo_asked  q0 (mm h) K) : yM 9 (0) 0 [.ref (q0 + 1)] h (PI ks K) := by
  unfold WFo_asked at j
  refine yM.st xM_9 rfl rfl (fun lv g => ?_)
  have g0 := g 0 _ rfl
  refine yT.aan (pc' := 1) g0 rfl rfl rfl ?_
  refine yT.gI (pc' := 4) rfl rfl hT o0 rfl ?_
  exact yT.retI rfl rfl ⟨_, rfl, hT, j⟩
-- rX2_isTracked
def WFo_isTracked  (q0 : Nat) (m : Mm) (K : Mm → Int32 → Prop) : Prop := (m.iv q0 7 = 0 ∨ m.iv q0 7 = 1) → K m (m.iv q0 7)
set_option maxRecDepth 100000 in
set_option maxHeartbeats 4000000 in
theorem kFo_isTracked {ks : List Nat} {h : List xE} (hT : TT ks h) {q0 : Nat} (o0 : xnth ks q0 = some 12)  {K : Mm → Int32 → Prop} (j : WFo_isTracked  q0 (mm h) K) : yM 10 (0) 0 [.ref (q0 + 1)] h (PZ ks K) := by
  unfold WFo_isTracked at j
  refine yM.st xM_10 rfl rfl (fun lv g => ?_)
  have g0 := g 0 _ rfl
  refine yT.aan (pc' := 1) g0 rfl rfl rfl ?_
  refine yT.gZ (pc' := 4) rfl rfl hT o0 rfl (fun b1 => ?_)
  replace j := j b1
  exact yT.retZ rfl rfl b1 ⟨_, rfl, hT, b1, j⟩
-- rX2_start
def WFo_start  (q0 : Nat) (m : Mm) (K : Mm → Prop) : Prop := ∀ m1, m1 = m.st q0 4 (.int 0) → ∀ m4, m4 = m1.st q0 5 (.long 0) → ∃ p7, m4.rv q0 3 = p7 + 1 ∧ WNu_clear p7 m4 (fun m10 => K m10)
set_option maxRecDepth 100000 in
set_option maxHeartbeats 4000000 in
theorem kFo_start {ks : List Nat} {h : List xE} (hT : TT ks h) {q0 : Nat} (o0 : xnth ks q0 = some 12)  {K : Mm → Prop} (j : WFo_start  q0 (mm h) K) : yM 11 (1) 0 [.ref (q0 + 1)] h (PV ks K) := by
  unfold WFo_start at j
  refine yM.st xM_11 rfl rfl (fun lv g => ?_)
  have g0 := g 0 _ rfl
  refine yT.aan (pc' := 1) g0 rfl rfl rfl ?_
  refine yT.zk (pc' := 2) (z := 0) rfl rfl (by decide) ?_
  refine yT.sI (pc' := 5) rfl rfl hT o0 rfl rfl (fun h1 hT2 e3 => ?_)
  replace j := j _ e3
  refine yT.aan (pc' := 6) g0 rfl rfl rfl ?_
  refine yT.zl (pc' := 7) (z := 0) rfl rfl (by decide) ?_
  refine yT.sL (pc' := 10) rfl rfl hT2 o0 rfl rfl (fun h4 hT5 e6 => ?_)
  replace j := j _ e6
  refine yT.aan (pc' := 11) g0 rfl rfl rfl ?_
  obtain ⟨p7, w8, j⟩ := j
  refine yT.gR (pc' := 14) rfl rfl hT5 o0 rfl rfl w8 (fun o9 => ?_)
  refine zV (yT.cw (G2 := 0) (pc' := 17) rfl rfl rfl hT5 o9 xM_52 (kNu_clear hT5 o9 j) rfl (by decide) (by decide) rfl) (fun h10 hT11 j => ?_)
  exact yT.retV rfl rfl ⟨rfl, hT11, j⟩
-- rX2_join
def WFo_join  (q0 : Nat) (x1 : Int32) (m : Mm) (K : Mm → Prop) : Prop := ∃ p1, m.rv q0 3 = p1 + 1 ∧ WNu_take p1 m (fun m4 x6 => ∃ p7, m4.rv q0 3 = p7 + 1 ∧ WNu_take p7 m4 (fun m10 x12 => ((x6 = 0) → ((x1 = 3) → ∀ m15, m15 = m10.st q0 5 (.long 4000000001) → K m15) ∧ (¬ (x1 = 3) → ((x1 = 4) → ∀ m19, m19 = m10.st q0 5 (.long 4000000001) → K m19) ∧ (¬ (x1 = 4) → ∃ p22, m10.rv q0 3 = p22 + 1 ∧ WPS_joined x1 x12 x6 m10 (fun m25 x27 => WNu_add p22 x27 m25 (fun m28 => K m28))))) ∧ (¬ (x6 = 0) → ∃ p30, m10.rv q0 3 = p30 + 1 ∧ WPS_joined x1 x12 x6 m10 (fun m33 x35 => WNu_add p30 x35 m33 (fun m36 => K m36)))))
set_option maxRecDepth 100000 in
set_option maxHeartbeats 4000000 in
theorem kFo_join {ks : List Nat} {h : List xE} (hT : TT ks h) {q0 : Nat} (o0 : xnth ks q0 = some 12) (x1 : Int32)  {K : Mm → Prop} (j : WFo_join  q0 x1 (mm h) K) : yM 16 (1) 0 [.ref (q0 + 1), .int x1] h (PV ks K) := by
  unfold WFo_join at j
  refine yM.st xM_16 rfl rfl (fun lv g => ?_)
  have g0 := g 0 _ rfl
  have g1 := g 1 _ rfl
  refine yT.aan (pc' := 1) g0 rfl rfl rfl ?_
  obtain ⟨p1, w2, j⟩ := j
  refine yT.gR (pc' := 4) rfl rfl hT o0 rfl rfl w2 (fun o3 => ?_)
  refine zI (yT.cw (G2 := 0) (pc' := 7) rfl rfl rfl hT o3 xM_45 (kNu_take hT o3 j) rfl (by decide) (by decide) rfl) (fun h4 x6 hT5 j => ?_)
  refine yT.p (pc' := 8) (lv' := xst1 _ 2 (.int x6)) rfl rfl (fun _ _ _ _ => rfl) ?_
  refine yT.aan (pc' := 9) (xg_ne g0 rfl) rfl rfl rfl ?_
  obtain ⟨p7, w8, j⟩ := j
  refine yT.gR (pc' := 12) rfl rfl hT5 o0 rfl rfl w8 (fun o9 => ?_)
  refine zI (yT.cw (G2 := 0) (pc' := 15) rfl rfl rfl hT5 o9 xM_45 (kNu_take hT5 o9 j) rfl (by decide) (by decide) rfl) (fun h10 x12 hT11 j => ?_)
  refine yT.p (pc' := 16) (lv' := xst1 _ 3 (.int x12)) rfl rfl (fun _ _ _ _ => rfl) ?_
  refine yT.iln (pc' := 17) (xg_ne xg_eq rfl) rfl rfl ?_
  refine yT.zne1 (t := 40) (pc' := 20) rfl rfl rfl (fun c13 => ?_) (fun c13 => ?_)
  · replace j := j.1 c13
    refine yT.iln (pc' := 21) (xg_ne (xg_ne g1 rfl) rfl) rfl rfl ?_
    refine yT.zk (pc' := 22) (z := 3) rfl rfl (by decide) ?_
    refine yT.zeq2 (t := 30) (pc' := 25) rfl rfl rfl (fun c14 => ?_) (fun c14 => ?_)
    · replace j := j.1 c14
      refine yT.aan (pc' := 31) (xg_ne (xg_ne g0 rfl) rfl) rfl rfl rfl ?_
      refine yT.zw (pc' := 34) (z := 4000000001) rfl rfl rfl rfl ?_
      refine yT.sL (pc' := 37) rfl rfl hT11 o0 rfl rfl (fun h15 hT16 e17 => ?_)
      replace j := j _ e17
      refine yT.p (pc' := 53) rfl rfl (fun _ _ _ _ => rfl) ?_
      exact yT.retV rfl rfl ⟨rfl, hT16, j⟩
    · replace j := j.2 c14
      refine yT.iln (pc' := 26) (xg_ne (xg_ne g1 rfl) rfl) rfl rfl ?_
      refine yT.zk (pc' := 27) (z := 4) rfl rfl (by decide) ?_
      refine yT.zne2 (t := 40) (pc' := 30) rfl rfl rfl (fun c18 => ?_) (fun c18 => ?_)
      · replace j := j.1 c18
        refine yT.aan (pc' := 31) (xg_ne (xg_ne g0 rfl) rfl) rfl rfl rfl ?_
        refine yT.zw (pc' := 34) (z := 4000000001) rfl rfl rfl rfl ?_
        refine yT.sL (pc' := 37) rfl rfl hT11 o0 rfl rfl (fun h19 hT20 e21 => ?_)
        replace j := j _ e21
        refine yT.p (pc' := 53) rfl rfl (fun _ _ _ _ => rfl) ?_
        exact yT.retV rfl rfl ⟨rfl, hT20, j⟩
      · replace j := j.2 c18
        refine yT.aan (pc' := 41) (xg_ne (xg_ne g0 rfl) rfl) rfl rfl rfl ?_
        obtain ⟨p22, w23, j⟩ := j
        refine yT.gR (pc' := 44) rfl rfl hT11 o0 rfl rfl w23 (fun o24 => ?_)
        refine yT.iln (pc' := 45) (xg_ne (xg_ne g1 rfl) rfl) rfl rfl ?_
        refine yT.iln (pc' := 46) xg_eq rfl rfl ?_
        refine yT.iln (pc' := 47) (xg_ne xg_eq rfl) rfl rfl ?_
        refine zI (yT.cst (G2 := 0) (pc' := 50) rfl rfl xM_108 (kPS_joined hT11 x1 x12 x6 j) rfl (by decide) (by decide) rfl) (fun h25 x27 hT26 j => ?_)
        refine zV (yT.cw (G2 := 0) (pc' := 53) rfl rfl rfl hT26 o24 xM_47 (kNu_add hT26 o24 x27 j) rfl (by decide) (by decide) rfl) (fun h28 hT29 j => ?_)
        exact yT.retV rfl rfl ⟨rfl, hT29, j⟩
  · replace j := j.2 c13
    refine yT.aan (pc' := 41) (xg_ne (xg_ne g0 rfl) rfl) rfl rfl rfl ?_
    obtain ⟨p30, w31, j⟩ := j
    refine yT.gR (pc' := 44) rfl rfl hT11 o0 rfl rfl w31 (fun o32 => ?_)
    refine yT.iln (pc' := 45) (xg_ne (xg_ne g1 rfl) rfl) rfl rfl ?_
    refine yT.iln (pc' := 46) xg_eq rfl rfl ?_
    refine yT.iln (pc' := 47) (xg_ne xg_eq rfl) rfl rfl ?_
    refine zI (yT.cst (G2 := 0) (pc' := 50) rfl rfl xM_108 (kPS_joined hT11 x1 x12 x6 j) rfl (by decide) (by decide) rfl) (fun h33 x35 hT34 j => ?_)
    refine zV (yT.cw (G2 := 0) (pc' := 53) rfl rfl rfl hT34 o32 xM_47 (kNu_add hT34 o32 x35 j) rfl (by decide) (by decide) rfl) (fun h36 hT37 j => ?_)
    exact yT.retV rfl rfl ⟨rfl, hT37, j⟩
-- rX2_takeStep
def WFo_takeStep  (q0 : Nat) (x1 : Int32) (x2 : Int32) (m : Mm) (K : Mm → Prop) : Prop := (x1.toInt = 9 → ∃ p2, m.rv q0 3 = p2 + 1 ∧ WNu_take p2 m (fun m5 x7 => WNu_add p2 (-x7) m5 (fun m8 => K m8))) ∧ (¬ x1.toInt = 9 → (x1.toInt = 10 → ∃ p11, m.rv q0 3 = p11 + 1 ∧ WNu_add p11 x2 m (fun m14 => K m14)) ∧ (¬ x1.toInt = 10 → (x1.toInt = 13 → ∀ m17, m17 = m.st q0 4 (.int x2) → K m17) ∧ (¬ x1.toInt = 13 → (x1.toInt = 14 → ∃ p21, m.rv q0 3 = p21 + 1 ∧ WNu_take p21 m (fun m24 x26 => ((x26 = 0) → ∀ m28, m28 = m24.st q0 4 (.int x2) → K m28) ∧ (¬ (x26 = 0) → K m24))) ∧ (¬ x1.toInt = 14 → WFo_join q0 x1 m (fun m34 => K m34)))))
set_option maxRecDepth 100000 in
set_option maxHeartbeats 4000000 in
theorem kFo_takeStep {ks : List Nat} {h : List xE} (hT : TT ks h) {q0 : Nat} (o0 : xnth ks q0 = some 12) (x1 : Int32) (x2 : Int32)  {K : Mm → Prop} (j : WFo_takeStep  q0 x1 x2 (mm h) K) : yM 15 (2) 0 [.ref (q0 + 1), .int x1, .int x2] h (PV ks K) := by
  unfold WFo_takeStep at j
  refine yM.st xM_15 rfl rfl (fun lv g => ?_)
  have g0 := g 0 _ rfl
  have g1 := g 1 _ rfl
  have g2 := g 2 _ rfl
  refine yT.iln (pc' := 1) g1 rfl rfl ?_
  by_cases c1 : x1.toInt = 9
  · replace j := j.1 c1
    refine yT.tswK 0 (t := 77) rfl rfl (by omega) rfl rfl ?_
    refine yT.aan (pc' := 78) g0 rfl rfl rfl ?_
    obtain ⟨p2, w3, j⟩ := j
    refine yT.gR (pc' := 81) rfl rfl hT o0 rfl rfl w3 (fun o4 => ?_)
    refine yT.aan (pc' := 82) g0 rfl rfl rfl ?_
    refine yT.gR (pc' := 85) rfl rfl hT o0 rfl rfl w3 (fun _ => ?_)
    refine zI (yT.cw (G2 := 0) (pc' := 88) rfl rfl rfl hT o4 xM_45 (kNu_take hT o4 j) rfl (by decide) (by decide) rfl) (fun h5 x7 hT6 j => ?_)
    refine yT.p (pc' := 89) rfl rfl (fun _ _ _ _ => rfl) ?_
    refine zV (yT.cw (G2 := 0) (pc' := 92) rfl rfl rfl hT6 o4 xM_47 (kNu_add hT6 o4 (-x7) j) rfl (by decide) (by decide) rfl) (fun h8 hT9 j => ?_)
    refine yT.p (pc' := 100) rfl rfl (fun _ _ _ _ => rfl) ?_
    exact yT.retV rfl rfl ⟨rfl, hT9, j⟩
  · replace j := j.2 c1
    by_cases c10 : x1.toInt = 10
    · replace j := j.1 c10
      refine yT.tswK 1 (t := 40) rfl rfl (by omega) rfl rfl ?_
      refine yT.aan (pc' := 41) g0 rfl rfl rfl ?_
      obtain ⟨p11, w12, j⟩ := j
      refine yT.gR (pc' := 44) rfl rfl hT o0 rfl rfl w12 (fun o13 => ?_)
      refine yT.iln (pc' := 45) g2 rfl rfl ?_
      refine zV (yT.cw (G2 := 0) (pc' := 48) rfl rfl rfl hT o13 xM_47 (kNu_add hT o13 x2 j) rfl (by decide) (by decide) rfl) (fun h14 hT15 j => ?_)
      refine yT.p (pc' := 100) rfl rfl (fun _ _ _ _ => rfl) ?_
      exact yT.retV rfl rfl ⟨rfl, hT15, j⟩
    · replace j := j.2 c10
      by_cases c16 : x1.toInt = 13
      · replace j := j.1 c16
        refine yT.tswK 4 (t := 51) rfl rfl (by omega) rfl rfl ?_
        refine yT.aan (pc' := 52) g0 rfl rfl rfl ?_
        refine yT.iln (pc' := 53) g2 rfl rfl ?_
        refine yT.sI (pc' := 56) rfl rfl hT o0 rfl rfl (fun h17 hT18 e19 => ?_)
        replace j := j _ e19
        refine yT.p (pc' := 100) rfl rfl (fun _ _ _ _ => rfl) ?_
        exact yT.retV rfl rfl ⟨rfl, hT18, j⟩
      · replace j := j.2 c16
        by_cases c20 : x1.toInt = 14
        · replace j := j.1 c20
          refine yT.tswK 5 (t := 59) rfl rfl (by omega) rfl rfl ?_
          refine yT.aan (pc' := 60) g0 rfl rfl rfl ?_
          obtain ⟨p21, w22, j⟩ := j
          refine yT.gR (pc' := 63) rfl rfl hT o0 rfl rfl w22 (fun o23 => ?_)
          refine zI (yT.cw (G2 := 0) (pc' := 66) rfl rfl rfl hT o23 xM_45 (kNu_take hT o23 j) rfl (by decide) (by decide) rfl) (fun h24 x26 hT25 j => ?_)
          refine yT.zne1 (t := 100) (pc' := 69) rfl rfl rfl (fun c27 => ?_) (fun c27 => ?_)
          · replace j := j.1 c27
            refine yT.aan (pc' := 70) g0 rfl rfl rfl ?_
            refine yT.iln (pc' := 71) g2 rfl rfl ?_
            refine yT.sI (pc' := 74) rfl rfl hT25 o0 rfl rfl (fun h28 hT29 e30 => ?_)
            replace j := j _ e30
            refine yT.p (pc' := 100) rfl rfl (fun _ _ _ _ => rfl) ?_
            exact yT.retV rfl rfl ⟨rfl, hT29, j⟩
          · replace j := j.2 c27
            exact yT.retV rfl rfl ⟨rfl, hT25, j⟩
        · replace j := j.2 c20
          refine yT.tswJ (t := 95) ?_ ?_
          · intro J31
            by_cases c32 : x1.toInt = 11
            · exact yT.tswK 2 (t := 95) rfl rfl (by omega) rfl rfl J31
            · by_cases c33 : x1.toInt = 12
              · exact yT.tswK 3 (t := 95) rfl rfl (by omega) rfl rfl J31
              · exact yT.tswD (t := 95) rfl rfl rfl (by omega) J31
          · refine yT.aan (pc' := 96) g0 rfl rfl rfl ?_
            refine yT.iln (pc' := 97) g1 rfl rfl ?_
            refine zV (yT.cw (G2 := 0) (pc' := 100) rfl rfl rfl hT o0 xM_16 (kFo_join hT o0 x1 j) rfl (by decide) (by decide) rfl) (fun h34 hT35 j => ?_)
            exact yT.retV rfl rfl ⟨rfl, hT35, j⟩
