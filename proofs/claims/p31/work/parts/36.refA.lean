-- rX9_logs
set_option maxRecDepth 100000 in
set_option maxHeartbeats 4000000 in
theorem r184 {ks : List cT} {B0 : Nat} (K : KE KS0 ks B0) {σ : sg} {ρ : Nat → xE} {h : List xE} (hT : HT ks σ ρ h) {c : Nat} {x1 : Int32} (e1 : x1.toInt = (c : Int)) (x2 : Int64) (p0 : c < 24) (p1 : 0 ≤ nw σ 6795 ∧ nw σ 6795 ≤ 1000000000) : yM 184 (0) 0 [.ref (60 + 1), .int x1, .long x2] h (RQV ks ρ (fun σ' => LG σ σ')) := by
  refine yM.st xM_184 rfl rfl (fun lv g => ?_)
  have g0 := g 0 _ rfl
  have g1 := g 1 _ rfl
  have g2 := g 2 _ rfl
  refine yT.aan (pc' := 1) g0 rfl rfl rfl ?_
  refine yT.cg8 (pc' := 4) rfl rfl hT (K.up rfl) rfl rfl (fun _ => ?_)
  refine yT.ks (pc' := 7) rfl rfl (by decide) (fun x101 e102 => ?_)
  refine yT.tia (6795) (pc' := 8) rfl rfl hT (K.up rfl) e102 (by omega) (fun x103 z105 => ?_)
  have e104 : x103.toInt = nw σ (6795) := congrArg Int32.toInt z105
  refine yT.p (pc' := 10) (lv' := xst1 _ 4 (.int x103)) rfl rfl (fun _ _ _ _ => rfl) ?_
  refine yT.il (pc' := 12) xg_eq rfl rfl ?_
  refine yT.kb (pc' := 14) rfl rfl (by decide) (fun x106 e107 => ?_)
  refine yT.if2 (t := 37) (pc' := 17) rfl rfl rfl (c2_ge e104 e107) (fun c108 => ?_) (fun c108 => ?_)
  · refine yT.aan (pc' := 38) (xg_ne g0 rfl) rfl rfl rfl ?_
    refine yT.cg8 (pc' := 41) rfl rfl hT (K.up rfl) rfl rfl (fun _ => ?_)
    refine yT.ks (pc' := 44) rfl rfl (by decide) (fun x109 e110 => ?_)
    refine yT.il (pc' := 46) xg_eq rfl rfl ?_
    refine yT.kI (pc' := 47) rfl rfl (by decide) (fun x111 e112 => ?_)
    refine yT.ad2 (pc' := 48) (Z := (nw σ (6795)) + 1) e104 e112 rfl rfl (by omega) (fun x113 e114 => ?_)
    refine yT.tis (6795) (pc' := 49) rfl rfl hT (K.up rfl) e110 (by omega) (fun h115 hT116 => ?_)
    refine yT.aan (pc' := 50) (xg_ne g0 rfl) rfl rfl rfl ?_
    refine yT.cg8 (pc' := 53) rfl rfl hT116 (K.up rfl) rfl rfl (fun _ => ?_)
    refine yT.iln (pc' := 54) (xg_ne g1 rfl) rfl rfl ?_
    refine yT.p (pc' := 55) rfl rfl (fun _ _ _ _ => rfl) ?_
    refine yT.cia (pc' := 56) rfl rfl hT116 (K.up rfl) e1 (by omega) (fun x117 => ?_)
    refine yT.kI (pc' := 57) rfl rfl (by decide) (fun x120 e121 => ?_)
    refine yT.fi (pc' := 58) rfl rfl (fun _ _ _ _ => rfl) (fun x122 => ?_)
    refine yT.cis (pc' := 59) rfl rfl hT116 (K.up rfl) e1 (by omega) (fun h123 hT124 _ => ?_)
    exact yT.retV rfl rfl ⟨_, hT124, rfl, (by first | exact LG.of1 (by omega) (by omega) | exact LG.of2 (by omega) (by omega) (by omega))⟩
  · refine yT.aan (pc' := 18) (xg_ne g0 rfl) rfl rfl rfl ?_
    refine yT.cg8 (pc' := 21) rfl rfl hT (K.up rfl) rfl rfl (fun _ => ?_)
    refine yT.ks (pc' := 24) rfl rfl (by decide) (fun x125 e126 => ?_)
    refine yT.il (pc' := 26) xg_eq rfl rfl ?_
    refine yT.ad2 (pc' := 27) (Z := (nw σ (6795)) + 6796) e126 e104 rfl rfl (by omega) (fun x127 e128 => ?_)
    refine yT.iln (pc' := 28) (xg_ne g1 rfl) rfl rfl ?_
    refine yT.tis ((nw σ (6795)).toNat + 6796) (pc' := 29) rfl rfl hT (K.up rfl) e128 (by omega) (fun h129 hT130 => ?_)
    refine yT.aan (pc' := 30) (xg_ne g0 rfl) rfl rfl rfl ?_
    refine yT.cg8 (pc' := 33) rfl rfl hT130 (K.up rfl) rfl rfl (fun _ => ?_)
    refine yT.il (pc' := 35) xg_eq rfl rfl ?_
    refine yT.lln (pc' := 36) (xg_ne g2 rfl) rfl rfl ?_
    refine yT.cls (pc' := 37) rfl rfl hT130 (K.up rfl) e104 (by omega) (fun h131 hT132 _ => ?_)
    refine yT.aan (pc' := 38) (xg_ne g0 rfl) rfl rfl rfl ?_
    refine yT.cg8 (pc' := 41) rfl rfl hT132 (K.up rfl) rfl rfl (fun _ => ?_)
    refine yT.ks (pc' := 44) rfl rfl (by decide) (fun x133 e134 => ?_)
    refine yT.il (pc' := 46) xg_eq rfl rfl ?_
    refine yT.kI (pc' := 47) rfl rfl (by decide) (fun x135 e136 => ?_)
    refine yT.ad2 (pc' := 48) (Z := (nw σ (6795)) + 1) e104 e136 rfl rfl (by omega) (fun x137 e138 => ?_)
    refine yT.tis (6795) (pc' := 49) rfl rfl hT132 (K.up rfl) e134 (by omega) (fun h139 hT140 => ?_)
    refine yT.aan (pc' := 50) (xg_ne g0 rfl) rfl rfl rfl ?_
    refine yT.cg8 (pc' := 53) rfl rfl hT140 (K.up rfl) rfl rfl (fun _ => ?_)
    refine yT.iln (pc' := 54) (xg_ne g1 rfl) rfl rfl ?_
    refine yT.p (pc' := 55) rfl rfl (fun _ _ _ _ => rfl) ?_
    refine yT.cia (pc' := 56) rfl rfl hT140 (K.up rfl) e1 (by omega) (fun x141 => ?_)
    refine yT.kI (pc' := 57) rfl rfl (by decide) (fun x144 e145 => ?_)
    refine yT.fi (pc' := 58) rfl rfl (fun _ _ _ _ => rfl) (fun x146 => ?_)
    refine yT.cis (pc' := 59) rfl rfl hT140 (K.up rfl) e1 (by omega) (fun h147 hT148 _ => ?_)
    exact yT.retV rfl rfl ⟨_, hT148, rfl, (by first | exact LG.of1 (by omega) (by omega) | exact LG.of2 (by omega) (by omega) (by omega))⟩
-- rX9_isQueued
set_option maxRecDepth 100000 in
set_option maxHeartbeats 4000000 in
theorem r186 {ks : List cT} {B0 : Nat} (K : KE KS0 ks B0) {σ : sg} {ρ : Nat → xE} {h : List xE} (hT : HT ks σ ρ h) (x1 : Int32) (p0 : 0 ≤ nw σ 6770 ∧ nw σ 6770 ≤ 24) : yM 186 (0) 0 [.ref (60 + 1), .int x1] h (SQI ks σ ρ (fun r => (r.toInt = 0 ∨ r.toInt = 1) ∧ (r.toInt = 0 → ∀ k : Nat, (k : Int) < nw σ 6770 → nw σ (k + 6771) ≠ x1.toInt))) := by
  refine yM.st xM_186 rfl rfl (fun lv g => ?_)
  have g0 := g 0 _ rfl
  have g1 := g 1 _ rfl
  refine yT.kI (pc' := 1) rfl rfl (by decide) (fun x101 e102 => ?_)
  refine yT.p (pc' := 2) (lv' := xst1 _ 2 (.int x101)) rfl rfl (fun _ _ _ _ => rfl) ?_
  have L103 : ∀ (n114 : Nat) (lv104 : xLv) (h105 : List xE) (k108 : Nat) (x107 : Int32), HT ks σ ρ h105 → x107.toInt = (k108 : Int) → xget lv104 0 = some (.ref (60 + 1)) → xget lv104 1 = some (.int x1) → xget lv104 2 = some (.int x107) → (∀ j : Nat, j < (k108) → nw σ (j + 6771) ≠ x1.toInt) → 24 - (k108) < n114 → yT 0 [] rX9_isQueued (0) 0 2 lv104 [] h105 (SQI ks σ ρ (fun r => (r.toInt = 0 ∨ r.toInt = 1) ∧ (r.toInt = 0 → ∀ k : Nat, (k : Int) < nw σ 6770 → nw σ (k + 6771) ≠ x1.toInt))) := by
    intro n114
    induction n114 with
    | zero => intro lv104 h105 k108 x107 hT106 e109 g110 g111 g112 i113 m115; exact absurd m115 (Nat.not_lt_zero _)
    | succ n114 ih116 =>
      intro lv104 h105 k108 x107 hT106 e109 g110 g111 g112 i113 m115
      refine yT.iln (pc' := 3) g112 rfl rfl ?_
      refine yT.aan (pc' := 4) g110 rfl rfl rfl ?_
      refine yT.cg8 (pc' := 7) rfl rfl hT106 (K.up rfl) rfl rfl (fun _ => ?_)
      refine yT.ks (pc' := 10) rfl rfl (by decide) (fun x117 e118 => ?_)
      refine yT.tia (6770) (pc' := 11) rfl rfl hT106 (K.up rfl) e118 (by omega) (fun x119 z121 => ?_)
      have e120 : x119.toInt = nw σ (6770) := congrArg Int32.toInt z121
      refine yT.if2 (t := 36) (pc' := 14) rfl rfl rfl (c2_ge e109 e120) (fun c122 => ?_) (fun c122 => ?_)
      · refine yT.kI (pc' := 37) rfl rfl (by decide) (fun x123 e124 => ?_)
        exact yT.retZ rfl rfl (b01 (by omega) (by omega)) ⟨hT106, _, rfl, ⟨Or.inl e124, fun _ k hk => i113 k (by omega)⟩⟩
      · refine yT.aan (pc' := 15) g110 rfl rfl rfl ?_
        refine yT.cg8 (pc' := 18) rfl rfl hT106 (K.up rfl) rfl rfl (fun _ => ?_)
        refine yT.ks (pc' := 21) rfl rfl (by decide) (fun x125 e126 => ?_)
        refine yT.iln (pc' := 22) g112 rfl rfl ?_
        refine yT.ad2 (pc' := 23) (Z := (k108 : Int) + 6771) e126 e109 rfl rfl (by omega) (fun x127 e128 => ?_)
        refine yT.tia (k108 + 6771) (pc' := 24) rfl rfl hT106 (K.up rfl) e128 (by omega) (fun x129 z131 => ?_)
        have e130 : x129.toInt = nw σ (k108 + 6771) := congrArg Int32.toInt z131
        refine yT.iln (pc' := 25) g111 rfl rfl ?_
        refine yT.if2 (t := 30) (pc' := 28) rfl rfl rfl (c2_ne e130 rfl) (fun c132 => ?_) (fun c132 => ?_)
        · refine yT.inc2 (pc' := 33) (Z := (k108 : Int) + 1) g112 e109 rfl rfl rfl ⟨by decide, by omega⟩ (fun x133 e134 => ?_)
          refine yT.p (pc' := 2) rfl rfl (fun _ _ _ _ => rfl) ?_
          exact ih116 _ _ (k108 + 1) x133 hT106 (by omega) (xg_ne g110 rfl) (xg_ne g111 rfl) xg_eq (fun j hj => by
      by_cases h : j = k108
      · subst h; omega
      · exact i113 j (by omega)) (by omega)
        · refine yT.kI (pc' := 29) rfl rfl (by decide) (fun x135 e136 => ?_)
          exact yT.retZ rfl rfl (b01 (by omega) (by omega)) ⟨hT106, _, rfl, ⟨Or.inr e136, fun h => by omega⟩⟩
  exact L103 _ _ _ (0) x101 hT (by omega) (xg_ne g0 rfl) (xg_ne g1 rfl) xg_eq (fun j hj => absurd hj (Nat.not_lt_zero _)) (Nat.lt_succ_self _)
-- rX9_queues
set_option maxRecDepth 100000 in
set_option maxHeartbeats 4000000 in
theorem r185 {ks : List cT} {B0 : Nat} (K : KE KS0 ks B0) {σ : sg} {ρ : Nat → xE} {h : List xE} (hT : HT ks σ ρ h) {c : Nat} {x1 : Int32} (e1 : x1.toInt = (c : Int)) {x2 : Int32} (e2 : x2.toInt = 0 ∨ x2.toInt = 1) (p0 : c < 24) (p1 : QOK σ) : yM 185 (1) 0 [.ref (60 + 1), .int x1, .int x2] h (RQV ks ρ (fun σ' => QS σ σ')) := by
  refine yM.st xM_185 rfl rfl (fun lv g => ?_)
  have g0 := g 0 _ rfl
  have g1 := g 1 _ rfl
  have g2 := g 2 _ rfl
  have hq0 := p1.1
  refine yT.iln (pc' := 1) g2 rfl rfl ?_
  refine yT.if1 (t := 61) (pc' := 4) rfl rfl rfl (c1_eq rfl) (fun c101 => ?_) (fun c101 => ?_)
  · exact yT.retV rfl rfl ⟨_, hT, rfl, (by first | exact QS.rf p1 | exact QOK.push p1 p0 (by omega) (fun k hk => by have := hnq (by omega) k hk; omega) (by omega) (by omega) (by omega))⟩
  · refine yT.aan (pc' := 5) g0 rfl rfl rfl ?_
    refine yT.iln (pc' := 6) g1 rfl rfl ?_
    refine yT.kI (pc' := 7) rfl rfl (by decide) (fun x102 e103 => ?_)
    refine kSI (yT.cc (G2 := 0) (pc' := 10) rfl rfl rfl hT (K.up rfl : xnth ks 60 = some (19, 0)) xM_166 (r166 (c := c) (w := 0) K hT e1 (by omega) (by omega)) rfl (by omega) (by decide) rfl) (fun h104 x107 hT105 E106 => ?_)
    refine yT.kI (pc' := 11) rfl rfl (by decide) (fun x108 e109 => ?_)
    refine yT.if2 (t := 61) (pc' := 14) rfl rfl rfl (c2_ne E106 e109) (fun c110 => ?_) (fun c110 => ?_)
    · exact yT.retV rfl rfl ⟨_, hT105, rfl, (by first | exact QS.rf p1 | exact QOK.push p1 p0 (by omega) (fun k hk => by have := hnq (by omega) k hk; omega) (by omega) (by omega) (by omega))⟩
    · refine yT.aan (pc' := 15) g0 rfl rfl rfl ?_
      refine yT.iln (pc' := 16) g1 rfl rfl ?_
      refine yT.kI (pc' := 17) rfl rfl (by decide) (fun x111 e112 => ?_)
      refine kSI (yT.cc (G2 := 0) (pc' := 20) rfl rfl rfl hT105 (K.up rfl : xnth ks 60 = some (19, 0)) xM_166 (r166 (c := c) (w := 2) K hT105 e1 (by omega) (by omega)) rfl (by omega) (by decide) rfl) (fun h113 x116 hT114 E115 => ?_)
      refine yT.if1 (t := 61) (pc' := 23) rfl rfl rfl (c1_ne E115) (fun c117 => ?_) (fun c117 => ?_)
      · exact yT.retV rfl rfl ⟨_, hT114, rfl, (by first | exact QS.rf p1 | exact QOK.push p1 p0 (by omega) (fun k hk => by have := hnq (by omega) k hk; omega) (by omega) (by omega) (by omega))⟩
      · refine yT.aan (pc' := 24) g0 rfl rfl rfl ?_
        refine yT.iln (pc' := 25) g1 rfl rfl ?_
        refine kSI (yT.cc (G2 := 0) (pc' := 28) rfl rfl rfl hT114 (K.up rfl : xnth ks 60 = some (19, 0)) xM_186 (r186  K hT114 x1 p1.1) rfl (by omega) (by decide) rfl) (fun h118 x121 hT119 E120 => ?_)
        have hnq := E120.2
        refine yT.if1 (t := 61) (pc' := 31) rfl rfl rfl (c1_ne rfl) (fun c122 => ?_) (fun c122 => ?_)
        · exact yT.retV rfl rfl ⟨_, hT119, rfl, (by first | exact QS.rf p1 | exact QOK.push p1 p0 (by omega) (fun k hk => by have := hnq (by omega) k hk; omega) (by omega) (by omega) (by omega))⟩
        · refine yT.aan (pc' := 32) g0 rfl rfl rfl ?_
          refine yT.cg8 (pc' := 35) rfl rfl hT119 (K.up rfl) rfl rfl (fun _ => ?_)
          refine yT.ks (pc' := 38) rfl rfl (by decide) (fun x123 e124 => ?_)
          refine yT.aan (pc' := 39) g0 rfl rfl rfl ?_
          refine yT.cg8 (pc' := 42) rfl rfl hT119 (K.up rfl) rfl rfl (fun _ => ?_)
          refine yT.ks (pc' := 45) rfl rfl (by decide) (fun x125 e126 => ?_)
          refine yT.tia (6770) (pc' := 46) rfl rfl hT119 (K.up rfl) e126 (by omega) (fun x127 z129 => ?_)
          have e128 : x127.toInt = nw σ (6770) := congrArg Int32.toInt z129
          refine yT.ad2 (pc' := 47) (Z := (nw σ (6770)) + 6771) e124 e128 rfl rfl (by omega) (fun x130 e131 => ?_)
          refine yT.iln (pc' := 48) g1 rfl rfl ?_
          refine yT.tis ((nw σ (6770)).toNat + 6771) (pc' := 49) rfl rfl hT119 (K.up rfl) e131 (by omega) (fun h132 hT133 => ?_)
          have hs := nw_us (σ := σ) (i := (nw σ 6770).toNat + 6771) (j := 6770) (v := x1) (by omega)
          refine yT.aan (pc' := 50) g0 rfl rfl rfl ?_
          refine yT.cg8 (pc' := 53) rfl rfl hT133 (K.up rfl) rfl rfl (fun _ => ?_)
          refine yT.ks (pc' := 56) rfl rfl (by decide) (fun x134 e135 => ?_)
          refine yT.p (pc' := 57) rfl rfl (fun _ _ _ _ => rfl) ?_
          refine yT.tia (6770) (pc' := 58) rfl rfl hT133 (K.up rfl) e135 (by omega) (fun x136 z138 => ?_)
          have e137 : x136.toInt = nw (us σ 61 ((nw σ (6770)).toNat + 6771) x1) (6770) := congrArg Int32.toInt z138
          refine yT.kI (pc' := 59) rfl rfl (by decide) (fun x139 e140 => ?_)
          refine yT.ad2 (pc' := 60) (Z := (nw (us σ 61 ((nw σ (6770)).toNat + 6771) x1) (6770)) + 1) e137 e140 rfl rfl (by omega) (fun x141 e142 => ?_)
          refine yT.tis (6770) (pc' := 61) rfl rfl hT133 (K.up rfl) e135 (by omega) (fun h143 hT144 => ?_)
          exact yT.retV rfl rfl ⟨_, hT144, rfl, (by first | exact QS.rf p1 | exact QOK.push p1 p0 (by omega) (fun k hk => by have := hnq (by omega) k hk; omega) (by omega) (by omega) (by omega))⟩
-- rX9_unqueues
set_option maxRecDepth 100000 in
set_option maxHeartbeats 4000000 in
theorem r187 {ks : List cT} {B0 : Nat} (K : KE KS0 ks B0) {σ : sg} {ρ : Nat → xE} {h : List xE} (hT : HT ks σ ρ h) (x1 : Int32) (p0 : QOK σ) : yM 187 (0) 0 [.ref (60 + 1), .int x1] h (RQV ks ρ (fun σ' => QS σ σ')) := by
  refine yM.st xM_187 rfl rfl (fun lv g => ?_)
  have g0 := g 0 _ rfl
  have g1 := g 1 _ rfl
  have hq0 := p0.1
  refine yT.kI (pc' := 1) rfl rfl (by decide) (fun x101 e102 => ?_)
  refine yT.p (pc' := 2) (lv' := xst1 _ 2 (.int x101)) rfl rfl (fun _ _ _ _ => rfl) ?_
  refine yT.kI (pc' := 3) rfl rfl (by decide) (fun x103 e104 => ?_)
  refine yT.p (pc' := 4) (lv' := xst1 _ 3 (.int x103)) rfl rfl (fun _ _ _ _ => rfl) ?_
  have L105 : ∀ (n122 : Nat) (lv106 : xLv) (σ107 : sg) (h108 : List xE) (n111 : Nat) (x110 : Int32) (k114 : Nat) (x113 : Int32), HT ks σ107 ρ h108 → x110.toInt = (n111 : Int) → x113.toInt = (k114 : Int) → xget lv106 0 = some (.ref (60 + 1)) → xget lv106 1 = some (.int x1) → xget lv106 2 = some (.int x110) → xget lv106 3 = some (.int x113) → UQ σ σ107 (n111) (k114) → ((k114 : Int)) ≤ nw σ 6770 → 24 - (k114) < n122 → yT 0 [] rX9_unqueues (0) 0 4 lv106 [] h108 (RQV ks ρ (fun σ' => QS σ σ')) := by
    intro n122
    induction n122 with
    | zero => intro lv106 σ107 h108 n111 x110 k114 x113 hT109 e112 e115 g116 g117 g118 g119 i120 i121 m123; exact absurd m123 (Nat.not_lt_zero _)
    | succ n122 ih124 =>
      intro lv106 σ107 h108 n111 x110 k114 x113 hT109 e112 e115 g116 g117 g118 g119 i120 i121 m123
      have hc := i120.2.1 6770 (by omega)
      have hnk := i120.2.2.2.1
      refine yT.iln (pc' := 5) g119 rfl rfl ?_
      refine yT.aan (pc' := 6) g116 rfl rfl rfl ?_
      refine yT.cg8 (pc' := 9) rfl rfl hT109 (K.up rfl) rfl rfl (fun _ => ?_)
      refine yT.ks (pc' := 12) rfl rfl (by decide) (fun x125 e126 => ?_)
      refine yT.tia (6770) (pc' := 13) rfl rfl hT109 (K.up rfl) e126 (by omega) (fun x127 z129 => ?_)
      have e128 : x127.toInt = nw σ107 (6770) := congrArg Int32.toInt z129
      refine yT.if2 (t := 59) (pc' := 16) rfl rfl rfl (c2_ge e115 e128) (fun c130 => ?_) (fun c130 => ?_)
      · refine yT.aan (pc' := 60) g116 rfl rfl rfl ?_
        refine yT.cg8 (pc' := 63) rfl rfl hT109 (K.up rfl) rfl rfl (fun _ => ?_)
        refine yT.ks (pc' := 66) rfl rfl (by decide) (fun x131 e132 => ?_)
        refine yT.iln (pc' := 67) g118 rfl rfl ?_
        refine yT.tis (6770) (pc' := 68) rfl rfl hT109 (K.up rfl) e132 (by omega) (fun h133 hT134 => ?_)
        exact yT.retV rfl rfl ⟨_, hT134, rfl, (UQ.fin i120 p0 (by omega) (by omega))⟩
      · refine yT.aan (pc' := 17) g116 rfl rfl rfl ?_
        refine yT.cg8 (pc' := 20) rfl rfl hT109 (K.up rfl) rfl rfl (fun _ => ?_)
        refine yT.ks (pc' := 23) rfl rfl (by decide) (fun x135 e136 => ?_)
        refine yT.iln (pc' := 24) g119 rfl rfl ?_
        refine yT.ad2 (pc' := 25) (Z := (k114 : Int) + 6771) e136 e115 rfl rfl (by omega) (fun x137 e138 => ?_)
        refine yT.tia (k114 + 6771) (pc' := 26) rfl rfl hT109 (K.up rfl) e138 (by omega) (fun x139 z141 => ?_)
        have e140 : x139.toInt = nw σ107 (k114 + 6771) := congrArg Int32.toInt z141
        refine yT.iln (pc' := 27) g117 rfl rfl ?_
        refine yT.if2 (t := 53) (pc' := 30) rfl rfl rfl (c2_eq e140 rfl) (fun c142 => ?_) (fun c142 => ?_)
        · refine yT.inc2 (pc' := 56) (Z := (k114 : Int) + 1) g119 e115 rfl rfl rfl ⟨by decide, by omega⟩ (fun x143 e144 => ?_)
          refine yT.p (pc' := 4) rfl rfl (fun _ _ _ _ => rfl) ?_
          exact ih124 _ σ107 _ (n111) x110 (k114 + 1) x143 hT109 (by omega) (by omega) (xg_ne g116 rfl) (xg_ne g117 rfl) (xg_ne g118 rfl) xg_eq (by first | exact UQ.skip i120 | exact UQ.keep i120 (by omega) (by omega)) (by omega) (by omega)
        · refine yT.aan (pc' := 31) g116 rfl rfl rfl ?_
          refine yT.cg8 (pc' := 34) rfl rfl hT109 (K.up rfl) rfl rfl (fun _ => ?_)
          refine yT.ks (pc' := 37) rfl rfl (by decide) (fun x145 e146 => ?_)
          refine yT.iln (pc' := 38) g118 rfl rfl ?_
          refine yT.ad2 (pc' := 39) (Z := (n111 : Int) + 6771) e146 e112 rfl rfl (by omega) (fun x147 e148 => ?_)
          refine yT.aan (pc' := 40) g116 rfl rfl rfl ?_
          refine yT.cg8 (pc' := 43) rfl rfl hT109 (K.up rfl) rfl rfl (fun _ => ?_)
          refine yT.ks (pc' := 46) rfl rfl (by decide) (fun x149 e150 => ?_)
          refine yT.iln (pc' := 47) g119 rfl rfl ?_
          refine yT.ad2 (pc' := 48) (Z := (k114 : Int) + 6771) e150 e115 rfl rfl (by omega) (fun x151 e152 => ?_)
          refine yT.tia (k114 + 6771) (pc' := 49) rfl rfl hT109 (K.up rfl) e152 (by omega) (fun x153 z155 => ?_)
          have e154 : x153.toInt = nw σ107 (k114 + 6771) := congrArg Int32.toInt z155
          refine yT.tis (n111 + 6771) (pc' := 50) rfl rfl hT109 (K.up rfl) e148 (by omega) (fun h156 hT157 => ?_)
          refine yT.inc2 (pc' := 53) (Z := (n111 : Int) + 1) g118 e112 rfl rfl rfl ⟨by decide, by omega⟩ (fun x158 e159 => ?_)
          refine yT.inc2 (pc' := 56) (Z := (k114 : Int) + 1) (xg_ne g119 rfl) e115 rfl rfl rfl ⟨by decide, by omega⟩ (fun x160 e161 => ?_)
          refine yT.p (pc' := 4) rfl rfl (fun _ _ _ _ => rfl) ?_
          exact ih124 _ (us σ107 61 (n111 + 6771) x153) _ (n111 + 1) x158 (k114 + 1) x160 hT157 (by omega) (by omega) (xg_ne (xg_ne g116 rfl) rfl) (xg_ne (xg_ne g117 rfl) rfl) (xg_ne xg_eq rfl) xg_eq (by first | exact UQ.skip i120 | exact UQ.keep i120 (by omega) (by omega)) (by omega) (by omega)
  exact L105 _ _ σ _ (0) x101 (0) x103 hT (by omega) (by omega) (xg_ne (xg_ne g0 rfl) rfl) (xg_ne (xg_ne g1 rfl) rfl) (xg_ne xg_eq rfl) xg_eq UQ.rf (by omega) (Nat.lt_succ_self _)
-- rX9_marks
set_option maxRecDepth 100000 in
set_option maxHeartbeats 4000000 in
theorem r188 {ks : List cT} {B0 : Nat} (K : KE KS0 ks B0) {σ : sg} {ρ : Nat → xE} {h : List xE} (hT : HT ks σ ρ h) (x1 : Int32) (x2 : Int32) (p0 : 0 ≤ nw σ 6768 ∧ nw σ 6768 ≤ 24) (p1 : QOK σ) (p2 : ∀ r : Nat, r < 24 → nw σ (282 * r + 6) ≤ 24) : yM 188 (2) 0 [.ref (60 + 1), .int x1, .int x2] h (RQV ks ρ (fun σ' => MK σ σ')) := by
  refine yM.st xM_188 rfl rfl (fun lv g => ?_)
  have g0 := g 0 _ rfl
  have g1 := g 1 _ rfl
  have g2 := g 2 _ rfl
  refine yT.kI (pc' := 1) rfl rfl (by decide) (fun x101 e102 => ?_)
  refine yT.p (pc' := 2) (lv' := xst1 _ 3 (.int x101)) rfl rfl (fun _ _ _ _ => rfl) ?_
  refine yT.aan (pc' := 3) (xg_ne g0 rfl) rfl rfl rfl ?_
  refine yT.cg8 (pc' := 6) rfl rfl hT (K.up rfl) rfl rfl (fun _ => ?_)
  refine yT.ks (pc' := 9) rfl rfl (by decide) (fun x103 e104 => ?_)
  refine yT.tia (6768) (pc' := 10) rfl rfl hT (K.up rfl) e104 (by omega) (fun x105 z107 => ?_)
  have e106 : x105.toInt = nw σ (6768) := congrArg Int32.toInt z107
  refine yT.p (pc' := 12) (lv' := xst1 _ 4 (.int x105)) rfl rfl (fun _ _ _ _ => rfl) ?_
  refine yT.kI (pc' := 13) rfl rfl (by decide) (fun x108 e109 => ?_)
  refine yT.p (pc' := 15) (lv' := xst1 _ 5 (.int x108)) rfl rfl (fun _ _ _ _ => rfl) ?_
  have L110 : ∀ (n124 : Nat) (lv111 : xLv) (h112 : List xE) (x114 : Int32) (r116 : Nat) (x115 : Int32), HT ks σ ρ h112 → x115.toInt = (r116 : Int) → xget lv111 0 = some (.ref (60 + 1)) → xget lv111 1 = some (.int x1) → xget lv111 2 = some (.int x2) → xget lv111 3 = some (.int x114) → xget lv111 4 = some (.int x105) → xget lv111 5 = some (.int x115) → 24 - (r116) < n124 → yT 0 [] rX9_marks (2) 0 15 lv111 [] h112 (RQV ks ρ (fun σ' => MK σ σ')) := by
    intro n124
    induction n124 with
    | zero => intro lv111 h112 x114 r116 x115 hT113 e117 g118 g119 g120 g121 g122 g123 m125; exact absurd m125 (Nat.not_lt_zero _)
    | succ n124 ih126 =>
      intro lv111 h112 x114 r116 x115 hT113 e117 g118 g119 g120 g121 g122 g123 m125
      refine yT.il (pc' := 17) g123 rfl rfl ?_
      refine yT.il (pc' := 19) g122 rfl rfl ?_
      refine yT.if2 (t := 49) (pc' := 22) rfl rfl rfl (c2_ge e117 e106) (fun c127 => ?_) (fun c127 => ?_)
      · refine yT.kI (pc' := 50) rfl rfl (by decide) (fun x128 e129 => ?_)
        refine yT.p (pc' := 52) (lv' := xst1 _ 5 (.int x128)) rfl rfl (fun _ _ _ _ => rfl) ?_
        refine yT.kI (pc' := 53) rfl rfl (by decide) (fun x130 e131 => ?_)
        refine yT.p (pc' := 55) (lv' := xst1 _ 6 (.int x130)) rfl rfl (fun _ _ _ _ => rfl) ?_
        have L132 : ∀ (n147 : Nat) (lv133 : xLv) (h134 : List xE) (x136 : Int32) (r138 : Nat) (x137 : Int32), HT ks σ ρ h134 → x137.toInt = (r138 : Int) → xget lv133 0 = some (.ref (60 + 1)) → xget lv133 1 = some (.int x1) → xget lv133 2 = some (.int x2) → xget lv133 3 = some (.int x114) → xget lv133 4 = some (.int x105) → xget lv133 5 = some (.int x136) → xget lv133 6 = some (.int x137) → 24 - (r138) < n147 → yT 0 [] rX9_marks (2) 0 55 lv133 [] h134 (RQV ks ρ (fun σ' => MK σ σ')) := by
          intro n147
          induction n147 with
          | zero => intro lv133 h134 x136 r138 x137 hT135 e139 g140 g141 g142 g143 g144 g145 g146 m148; exact absurd m148 (Nat.not_lt_zero _)
          | succ n147 ih149 =>
            intro lv133 h134 x136 r138 x137 hT135 e139 g140 g141 g142 g143 g144 g145 g146 m148
            refine yT.il (pc' := 57) g146 rfl rfl ?_
            refine yT.il (pc' := 59) g144 rfl rfl ?_
            refine yT.if2 (t := 97) (pc' := 62) rfl rfl rfl (c2_ge e139 e106) (fun c150 => ?_) (fun c150 => ?_)
            · refine yT.il (pc' := 99) g145 rfl rfl ?_
              refine yT.p (pc' := 101) (lv' := xst1 _ 6 (.int x136)) rfl rfl (fun _ _ _ _ => rfl) ?_
              refine yT.kI (pc' := 102) rfl rfl (by decide) (fun x151 e152 => ?_)
              refine yT.p (pc' := 104) (lv' := xst1 _ 7 (.int x151)) rfl rfl (fun _ _ _ _ => rfl) ?_
              have L153 : ∀ (n167 : Nat) (lv154 : xLv) (h155 : List xE) (x157 : Int32) (x158 : Int32), HT ks σ ρ h155 → xget lv154 0 = some (.ref (60 + 1)) → xget lv154 2 = some (.int x2) → xget lv154 3 = some (.int x114) → xget lv154 4 = some (.int x105) → xget lv154 5 = some (.int x157) → xget lv154 6 = some (.int x136) → xget lv154 7 = some (.int x158) → (x158.toInt) = 0 ∨ (x158.toInt) = 1 → (4294967296 - un x157) + (x158.toInt).toNat < n167 → yT 0 [] rX9_marks (2) 0 104 lv154 [] h155 (RQV ks ρ (fun σ' => MK σ σ')) := by
                intro n167
                induction n167 with
                | zero => intro lv154 h155 x157 x158 hT156 g159 g160 g161 g162 g163 g164 g165 i166 m168; exact absurd m168 (Nat.not_lt_zero _)
                | succ n167 ih169 =>
                  intro lv154 h155 x157 x158 hT156 g159 g160 g161 g162 g163 g164 g165 i166 m168
                  refine yT.il (pc' := 106) g165 rfl rfl ?_
                  refine yT.if1 (t := 207) (pc' := 109) rfl rfl rfl (c1_eq rfl) (fun c170 => ?_) (fun c170 => ?_)
                  · refine yT.kI (pc' := 208) rfl rfl (by decide) (fun x171 e172 => ?_)
                    refine yT.p (pc' := 210) (lv' := xst1 _ 8 (.int x171)) rfl rfl (fun _ _ _ _ => rfl) ?_
                    have L173 : ∀ (n189 : Nat) (lv174 : xLv) (σ175 : sg) (h176 : List xE) (r179 : Nat) (x178 : Int32), HT ks σ175 ρ h176 → x178.toInt = (r179 : Int) → xget lv174 0 = some (.ref (60 + 1)) → xget lv174 2 = some (.int x2) → xget lv174 3 = some (.int x114) → xget lv174 4 = some (.int x105) → xget lv174 5 = some (.int x157) → xget lv174 6 = some (.int x136) → xget lv174 8 = some (.int x178) → MC σ σ175 → 24 - (r179) < n189 → yT 0 [] rX9_marks (2) 0 210 lv174 [] h176 (RQV ks ρ (fun σ' => MK σ σ')) := by
                      intro n189
                      induction n189 with
                      | zero => intro lv174 σ175 h176 r179 x178 hT177 e180 g181 g182 g183 g184 g185 g186 g187 i188 m190; exact absurd m190 (Nat.not_lt_zero _)
                      | succ n189 ih191 =>
                        intro lv174 σ175 h176 r179 x178 hT177 e180 g181 g182 g183 g184 g185 g186 g187 i188 m190
                        refine yT.il (pc' := 212) g187 rfl rfl ?_
                        refine yT.il (pc' := 214) g184 rfl rfl ?_
                        refine yT.if2 (t := 279) (pc' := 217) rfl rfl rfl (c2_ge e180 e106) (fun c192 => ?_) (fun c192 => ?_)
                        · refine yT.kI (pc' := 280) rfl rfl (by decide) (fun x193 e194 => ?_)
                          refine yT.p (pc' := 282) (lv' := xst1 _ 8 (.int x193)) rfl rfl (fun _ _ _ _ => rfl) ?_
                          have L195 : ∀ (n208 : Nat) (lv196 : xLv) (σ197 : sg) (h198 : List xE) (r201 : Nat) (x200 : Int32), HT ks σ197 ρ h198 → x200.toInt = (r201 : Int) → xget lv196 0 = some (.ref (60 + 1)) → xget lv196 3 = some (.int x114) → xget lv196 4 = some (.int x105) → xget lv196 8 = some (.int x200) → MK σ σ197 → 24 - (r201) < n208 → yT 0 [] rX9_marks (2) 0 282 lv196 [] h198 (RQV ks ρ (fun σ' => MK σ σ')) := by
                            intro n208
                            induction n208 with
                            | zero => intro lv196 σ197 h198 r201 x200 hT199 e202 g203 g204 g205 g206 i207 m209; exact absurd m209 (Nat.not_lt_zero _)
                            | succ n208 ih210 =>
                              intro lv196 σ197 h198 r201 x200 hT199 e202 g203 g204 g205 g206 i207 m209
                              refine yT.il (pc' := 284) g206 rfl rfl ?_
                              refine yT.il (pc' := 286) g205 rfl rfl ?_
                              refine yT.if2 (t := 326) (pc' := 289) rfl rfl rfl (c2_ge e202 e106) (fun c211 => ?_) (fun c211 => ?_)
                              · exact yT.retV rfl rfl ⟨_, hT199, rfl, i207⟩
                              · refine yT.aan (pc' := 290) g203 rfl rfl rfl ?_
                                refine yT.il (pc' := 292) g206 rfl rfl ?_
                                refine yT.iln (pc' := 293) g204 rfl rfl ?_
                                refine yT.il (pc' := 295) g206 rfl rfl ?_
                                refine yT.fi (pc' := 296) rfl rfl (fun _ _ _ _ => rfl) (fun x212 => ?_)
                                refine yT.kI (pc' := 297) rfl rfl (by decide) (fun x213 e214 => ?_)
                                refine yT.fi (pc' := 298) rfl rfl (fun _ _ _ _ => rfl) (fun x215 => ?_)
                                refine yT.kI (pc' := 299) rfl rfl (by decide) (fun x216 e217 => ?_)
                                refine yT.if2 (t := 316) (pc' := 302) rfl rfl rfl (c2_ne rfl e217) (fun c218 => ?_) (fun c218 => ?_)
                                · refine yT.kI (pc' := 317) rfl rfl (by decide) (fun x219 e220 => ?_)
                                  refine kRV (yT.cc (G2 := 0) (pc' := 320) rfl rfl rfl hT199 (K.up rfl : xnth ks 60 = some (19, 0)) xM_185 (r185 (c := r201) K hT199 e202 (by omega) (by omega) i207.2.2) rfl (by omega) (by decide) rfl) (fun h221 σ225 hT222 E223 => ?_)
                                  refine yT.inc2 (pc' := 323) (Z := (r201 : Int) + 1) g206 e202 rfl rfl rfl ⟨by decide, by omega⟩ (fun x226 e227 => ?_)
                                  refine yT.p (pc' := 282) rfl rfl (fun _ _ _ _ => rfl) ?_
                                  exact ih210 _ σ225 _ (r201 + 1) x226 hT222 (by omega) (xg_ne g203 rfl) (xg_ne g204 rfl) (xg_ne g205 rfl) xg_eq (MK.q i207 E223) (by omega)
                                · refine yT.aan (pc' := 303) g203 rfl rfl rfl ?_
                                  refine yT.il (pc' := 305) g206 rfl rfl ?_
                                  refine yT.kI (pc' := 306) rfl rfl (by decide) (fun x228 e229 => ?_)
                                  refine kSI (yT.cc (G2 := 0) (pc' := 309) rfl rfl rfl hT199 (K.up rfl : xnth ks 60 = some (19, 0)) xM_166 (r166 (c := r201) (w := 3) K hT199 e202 (by omega) (by omega)) rfl (by omega) (by decide) rfl) (fun h230 x233 hT231 E232 => ?_)
                                  refine yT.if1 (t := 316) (pc' := 312) rfl rfl rfl (c1_eq E232) (fun c234 => ?_) (fun c234 => ?_)
                                  · refine yT.kI (pc' := 317) rfl rfl (by decide) (fun x235 e236 => ?_)
                                    refine kRV (yT.cc (G2 := 0) (pc' := 320) rfl rfl rfl hT231 (K.up rfl : xnth ks 60 = some (19, 0)) xM_185 (r185 (c := r201) K hT231 e202 (by omega) (by omega) i207.2.2) rfl (by omega) (by decide) rfl) (fun h237 σ241 hT238 E239 => ?_)
                                    refine yT.inc2 (pc' := 323) (Z := (r201 : Int) + 1) g206 e202 rfl rfl rfl ⟨by decide, by omega⟩ (fun x242 e243 => ?_)
                                    refine yT.p (pc' := 282) rfl rfl (fun _ _ _ _ => rfl) ?_
                                    exact ih210 _ σ241 _ (r201 + 1) x242 hT238 (by omega) (xg_ne g203 rfl) (xg_ne g204 rfl) (xg_ne g205 rfl) xg_eq (MK.q i207 E239) (by omega)
                                  · refine yT.kI (pc' := 313) rfl rfl (by decide) (fun x244 e245 => ?_)
                                    refine yT.p (pc' := 317) rfl rfl (fun _ _ _ _ => rfl) ?_
                                    refine kRV (yT.cc (G2 := 0) (pc' := 320) rfl rfl rfl hT231 (K.up rfl : xnth ks 60 = some (19, 0)) xM_185 (r185 (c := r201) K hT231 e202 (by omega) (by omega) i207.2.2) rfl (by omega) (by decide) rfl) (fun h246 σ250 hT247 E248 => ?_)
                                    refine yT.inc2 (pc' := 323) (Z := (r201 : Int) + 1) g206 e202 rfl rfl rfl ⟨by decide, by omega⟩ (fun x251 e252 => ?_)
                                    refine yT.p (pc' := 282) rfl rfl (fun _ _ _ _ => rfl) ?_
                                    exact ih210 _ σ250 _ (r201 + 1) x251 hT247 (by omega) (xg_ne g203 rfl) (xg_ne g204 rfl) (xg_ne g205 rfl) xg_eq (MK.q i207 E248) (by omega)
                          exact L195 _ _ σ175 _ (0) x193 hT177 (by omega) (xg_ne g181 rfl) (xg_ne g183 rfl) (xg_ne g184 rfl) xg_eq (MC.q i188 p1) (Nat.lt_succ_self _)
                        · refine yT.il (pc' := 219) g186 rfl rfl ?_
                          refine yT.il (pc' := 221) g187 rfl rfl ?_
                          refine yT.fi (pc' := 222) rfl rfl (fun _ _ _ _ => rfl) (fun x253 => ?_)
                          refine yT.kI (pc' := 223) rfl rfl (by decide) (fun x254 e255 => ?_)
                          refine yT.fi (pc' := 224) rfl rfl (fun _ _ _ _ => rfl) (fun x256 => ?_)
                          refine yT.kI (pc' := 225) rfl rfl (by decide) (fun x257 e258 => ?_)
                          refine yT.if2 (t := 244) (pc' := 228) rfl rfl rfl (c2_ne rfl e258) (fun c259 => ?_) (fun c259 => ?_)
                          · refine yT.il (pc' := 246) g185 rfl rfl ?_
                            refine yT.il (pc' := 248) g187 rfl rfl ?_
                            refine yT.fi (pc' := 249) rfl rfl (fun _ _ _ _ => rfl) (fun x260 => ?_)
                            refine yT.kI (pc' := 250) rfl rfl (by decide) (fun x261 e262 => ?_)
                            refine yT.fi (pc' := 251) rfl rfl (fun _ _ _ _ => rfl) (fun x263 => ?_)
                            refine yT.kI (pc' := 252) rfl rfl (by decide) (fun x264 e265 => ?_)
                            refine yT.if2 (t := 273) (pc' := 255) rfl rfl rfl (c2_ne rfl e265) (fun c266 => ?_) (fun c266 => ?_)
                            · refine yT.inc2 (pc' := 276) (Z := (r179 : Int) + 1) g187 e180 rfl rfl rfl ⟨by decide, by omega⟩ (fun x267 e268 => ?_)
                              refine yT.p (pc' := 210) rfl rfl (fun _ _ _ _ => rfl) ?_
                              exact ih191 _ σ175 _ (r179 + 1) x267 hT177 (by omega) (xg_ne g181 rfl) (xg_ne g182 rfl) (xg_ne g183 rfl) (xg_ne g184 rfl) (xg_ne g185 rfl) (xg_ne g186 rfl) xg_eq (by first | exact i188 | exact MC.st i188 trivial (by omega)) (by omega)
                            · refine yT.aan (pc' := 256) g181 rfl rfl rfl ?_
                              refine yT.il (pc' := 258) g187 rfl rfl ?_
                              refine yT.kI (pc' := 259) rfl rfl (by decide) (fun x269 e270 => ?_)
                              refine kSI (yT.cc (G2 := 0) (pc' := 262) rfl rfl rfl hT177 (K.up rfl : xnth ks 60 = some (19, 0)) xM_166 (r166 (c := r179) (w := 3) K hT177 e180 (by omega) (by omega)) rfl (by omega) (by decide) rfl) (fun h271 x274 hT272 E273 => ?_)
                              refine yT.if1 (t := 273) (pc' := 265) rfl rfl rfl (c1_ne E273) (fun c275 => ?_) (fun c275 => ?_)
                              · refine yT.inc2 (pc' := 276) (Z := (r179 : Int) + 1) g187 e180 rfl rfl rfl ⟨by decide, by omega⟩ (fun x276 e277 => ?_)
                                refine yT.p (pc' := 210) rfl rfl (fun _ _ _ _ => rfl) ?_
                                exact ih191 _ σ175 _ (r179 + 1) x276 hT272 (by omega) (xg_ne g181 rfl) (xg_ne g182 rfl) (xg_ne g183 rfl) (xg_ne g184 rfl) (xg_ne g185 rfl) (xg_ne g186 rfl) xg_eq (by first | exact i188 | exact MC.st i188 trivial (by omega)) (by omega)
                              · refine yT.aan (pc' := 266) g181 rfl rfl rfl ?_
                                refine yT.il (pc' := 268) g187 rfl rfl ?_
                                refine yT.kI (pc' := 269) rfl rfl (by decide) (fun x278 e279 => ?_)
                                refine yT.kI (pc' := 270) rfl rfl (by decide) (fun x280 e281 => ?_)
                                refine kRV (yT.cc (G2 := 0) (pc' := 273) rfl rfl rfl hT272 (K.up rfl : xnth ks 60 = some (19, 0)) xM_167 (r167 (c := r179) (w := 3) K hT272 e180 (by omega) x280 (by omega)) rfl (by omega) (by decide) rfl) (fun h282 σ286 hT283 E284 => ?_)
                                refine yT.inc2 (pc' := 276) (Z := (r179 : Int) + 1) g187 e180 rfl rfl rfl ⟨by decide, by omega⟩ (fun x287 e288 => ?_)
                                refine yT.p (pc' := 210) rfl rfl (fun _ _ _ _ => rfl) ?_
                                exact ih191 _ σ286 _ (r179 + 1) x287 hT283 (by omega) (xg_ne g181 rfl) (xg_ne g182 rfl) (xg_ne g183 rfl) (xg_ne g184 rfl) (xg_ne g185 rfl) (xg_ne g186 rfl) xg_eq (by first | exact i188 | exact MC.st i188 E284 (by omega)) (by omega)
                          · refine yT.iln (pc' := 229) g182 rfl rfl ?_
                            refine yT.kI (pc' := 230) rfl rfl (by decide) (fun x289 e290 => ?_)
                            refine yT.if2 (t := 244) (pc' := 233) rfl rfl rfl (c2_ne rfl e290) (fun c291 => ?_) (fun c291 => ?_)
                            · refine yT.il (pc' := 246) g185 rfl rfl ?_
                              refine yT.il (pc' := 248) g187 rfl rfl ?_
                              refine yT.fi (pc' := 249) rfl rfl (fun _ _ _ _ => rfl) (fun x292 => ?_)
                              refine yT.kI (pc' := 250) rfl rfl (by decide) (fun x293 e294 => ?_)
                              refine yT.fi (pc' := 251) rfl rfl (fun _ _ _ _ => rfl) (fun x295 => ?_)
                              refine yT.kI (pc' := 252) rfl rfl (by decide) (fun x296 e297 => ?_)
                              refine yT.if2 (t := 273) (pc' := 255) rfl rfl rfl (c2_ne rfl e297) (fun c298 => ?_) (fun c298 => ?_)
                              · refine yT.inc2 (pc' := 276) (Z := (r179 : Int) + 1) g187 e180 rfl rfl rfl ⟨by decide, by omega⟩ (fun x299 e300 => ?_)
                                refine yT.p (pc' := 210) rfl rfl (fun _ _ _ _ => rfl) ?_
                                exact ih191 _ σ175 _ (r179 + 1) x299 hT177 (by omega) (xg_ne g181 rfl) (xg_ne g182 rfl) (xg_ne g183 rfl) (xg_ne g184 rfl) (xg_ne g185 rfl) (xg_ne g186 rfl) xg_eq (by first | exact i188 | exact MC.st i188 trivial (by omega)) (by omega)
                              · refine yT.aan (pc' := 256) g181 rfl rfl rfl ?_
                                refine yT.il (pc' := 258) g187 rfl rfl ?_
                                refine yT.kI (pc' := 259) rfl rfl (by decide) (fun x301 e302 => ?_)
                                refine kSI (yT.cc (G2 := 0) (pc' := 262) rfl rfl rfl hT177 (K.up rfl : xnth ks 60 = some (19, 0)) xM_166 (r166 (c := r179) (w := 3) K hT177 e180 (by omega) (by omega)) rfl (by omega) (by decide) rfl) (fun h303 x306 hT304 E305 => ?_)
                                refine yT.if1 (t := 273) (pc' := 265) rfl rfl rfl (c1_ne E305) (fun c307 => ?_) (fun c307 => ?_)
                                · refine yT.inc2 (pc' := 276) (Z := (r179 : Int) + 1) g187 e180 rfl rfl rfl ⟨by decide, by omega⟩ (fun x308 e309 => ?_)
                                  refine yT.p (pc' := 210) rfl rfl (fun _ _ _ _ => rfl) ?_
                                  exact ih191 _ σ175 _ (r179 + 1) x308 hT304 (by omega) (xg_ne g181 rfl) (xg_ne g182 rfl) (xg_ne g183 rfl) (xg_ne g184 rfl) (xg_ne g185 rfl) (xg_ne g186 rfl) xg_eq (by first | exact i188 | exact MC.st i188 trivial (by omega)) (by omega)
                                · refine yT.aan (pc' := 266) g181 rfl rfl rfl ?_
                                  refine yT.il (pc' := 268) g187 rfl rfl ?_
                                  refine yT.kI (pc' := 269) rfl rfl (by decide) (fun x310 e311 => ?_)
                                  refine yT.kI (pc' := 270) rfl rfl (by decide) (fun x312 e313 => ?_)
                                  refine kRV (yT.cc (G2 := 0) (pc' := 273) rfl rfl rfl hT304 (K.up rfl : xnth ks 60 = some (19, 0)) xM_167 (r167 (c := r179) (w := 3) K hT304 e180 (by omega) x312 (by omega)) rfl (by omega) (by decide) rfl) (fun h314 σ318 hT315 E316 => ?_)
                                  refine yT.inc2 (pc' := 276) (Z := (r179 : Int) + 1) g187 e180 rfl rfl rfl ⟨by decide, by omega⟩ (fun x319 e320 => ?_)
                                  refine yT.p (pc' := 210) rfl rfl (fun _ _ _ _ => rfl) ?_
                                  exact ih191 _ σ318 _ (r179 + 1) x319 hT315 (by omega) (xg_ne g181 rfl) (xg_ne g182 rfl) (xg_ne g183 rfl) (xg_ne g184 rfl) (xg_ne g185 rfl) (xg_ne g186 rfl) xg_eq (by first | exact i188 | exact MC.st i188 E316 (by omega)) (by omega)
                            · refine yT.aan (pc' := 234) g181 rfl rfl rfl ?_
                              refine yT.il (pc' := 236) g187 rfl rfl ?_
                              refine yT.kI (pc' := 237) rfl rfl (by decide) (fun x321 e322 => ?_)
                              refine yT.kI (pc' := 238) rfl rfl (by decide) (fun x323 e324 => ?_)
                              refine kRV (yT.cc (G2 := 0) (pc' := 241) rfl rfl rfl hT177 (K.up rfl : xnth ks 60 = some (19, 0)) xM_167 (r167 (c := r179) (w := 3) K hT177 e180 (by omega) x323 (by omega)) rfl (by omega) (by decide) rfl) (fun h325 σ329 hT326 E327 => ?_)
                              refine yT.p (pc' := 273) rfl rfl (fun _ _ _ _ => rfl) ?_
                              refine yT.inc2 (pc' := 276) (Z := (r179 : Int) + 1) g187 e180 rfl rfl rfl ⟨by decide, by omega⟩ (fun x330 e331 => ?_)
                              refine yT.p (pc' := 210) rfl rfl (fun _ _ _ _ => rfl) ?_
                              exact ih191 _ σ329 _ (r179 + 1) x330 hT326 (by omega) (xg_ne g181 rfl) (xg_ne g182 rfl) (xg_ne g183 rfl) (xg_ne g184 rfl) (xg_ne g185 rfl) (xg_ne g186 rfl) xg_eq (by first | exact i188 | exact MC.st i188 E327 (by omega)) (by omega)
                    exact L173 _ _ σ _ (0) x171 hT156 (by omega) (xg_ne g159 rfl) (xg_ne g160 rfl) (xg_ne g161 rfl) (xg_ne g162 rfl) (xg_ne g163 rfl) (xg_ne g164 rfl) xg_eq MC.rf (Nat.lt_succ_self _)
                  · refine yT.il (pc' := 111) g163 rfl rfl ?_
                    refine yT.p (pc' := 113) (lv' := xst1 _ 8 (.int x157)) rfl rfl (fun _ _ _ _ => rfl) ?_
                    refine yT.kI (pc' := 114) rfl rfl (by decide) (fun x332 e333 => ?_)
                    refine yT.p (pc' := 116) (lv' := xst1 _ 9 (.int x332)) rfl rfl (fun _ _ _ _ => rfl) ?_
                    have L334 : ∀ (n351 : Nat) (lv335 : xLv) (h336 : List xE) (x338 : Int32) (a340 : Nat) (x339 : Int32), HT ks σ ρ h336 → x339.toInt = (a340 : Int) → xget lv335 0 = some (.ref (60 + 1)) → xget lv335 2 = some (.int x2) → xget lv335 3 = some (.int x114) → xget lv335 4 = some (.int x105) → xget lv335 5 = some (.int x338) → xget lv335 6 = some (.int x136) → xget lv335 8 = some (.int x157) → xget lv335 9 = some (.int x339) → un x157 ≤ un x338 → 24 - (a340) < n351 → yT 0 [] rX9_marks (2) 0 116 lv335 [] h336 (RQV ks ρ (fun σ' => MK σ σ')) := by
                      intro n351
                      induction n351 with
                      | zero => intro lv335 h336 x338 a340 x339 hT337 e341 g342 g343 g344 g345 g346 g347 g348 g349 i350 m352; exact absurd m352 (Nat.not_lt_zero _)
                      | succ n351 ih353 =>
                        intro lv335 h336 x338 a340 x339 hT337 e341 g342 g343 g344 g345 g346 g347 g348 g349 i350 m352
                        refine yT.il (pc' := 118) g349 rfl rfl ?_
                        refine yT.il (pc' := 120) g345 rfl rfl ?_
                        refine yT.if2 (t := 190) (pc' := 123) rfl rfl rfl (c2_ge e341 e106) (fun c354 => ?_) (fun c354 => ?_)
                        · refine yT.il (pc' := 192) g346 rfl rfl ?_
                          refine yT.il (pc' := 194) g348 rfl rfl ?_
                          refine yT.if2 (t := 201) (pc' := 197) rfl rfl rfl (c2_eq rfl rfl) (fun c355 => ?_) (fun c355 => ?_)
                          · refine yT.kI (pc' := 202) rfl rfl (by decide) (fun x356 e357 => ?_)
                            refine yT.p (pc' := 204) (lv' := xst1 _ 7 (.int x356)) rfl rfl (fun _ _ _ _ => rfl) ?_
                            refine yT.p (pc' := 104) rfl rfl (fun _ _ _ _ => rfl) ?_
                            exact ih169 _ _ x338 x356 hT337 (xg_ne g342 rfl) (xg_ne g343 rfl) (xg_ne g344 rfl) (xg_ne g345 rfl) (xg_ne g346 rfl) (xg_ne g347 rfl) xg_eq (by omega) (by omega)
                          · have hu := un_lt (x := x157) (y := x338) (by omega) (by omega)
                            have hb := un_b x338
                            refine yT.kI (pc' := 198) rfl rfl (by decide) (fun x358 e359 => ?_)
                            refine yT.p (pc' := 202) rfl rfl (fun _ _ _ _ => rfl) ?_
                            refine yT.p (pc' := 204) (lv' := xst1 _ 7 (.int x358)) rfl rfl (fun _ _ _ _ => rfl) ?_
                            refine yT.p (pc' := 104) rfl rfl (fun _ _ _ _ => rfl) ?_
                            exact ih169 _ _ x338 x358 hT337 (xg_ne g342 rfl) (xg_ne g343 rfl) (xg_ne g344 rfl) (xg_ne g345 rfl) (xg_ne g346 rfl) (xg_ne g347 rfl) xg_eq (by omega) (by omega)
                        · refine yT.kI (pc' := 124) rfl rfl (by decide) (fun x360 e361 => ?_)
                          refine yT.p (pc' := 126) (lv' := xst1 _ 10 (.int x360)) rfl rfl (fun _ _ _ _ => rfl) ?_
                          have L362 : ∀ (n380 : Nat) (lv363 : xLv) (h364 : List xE) (x366 : Int32) (b368 : Nat) (x367 : Int32), HT ks σ ρ h364 → x367.toInt = (b368 : Int) → xget lv363 0 = some (.ref (60 + 1)) → xget lv363 2 = some (.int x2) → xget lv363 3 = some (.int x114) → xget lv363 4 = some (.int x105) → xget lv363 5 = some (.int x366) → xget lv363 6 = some (.int x136) → xget lv363 8 = some (.int x157) → xget lv363 9 = some (.int x339) → xget lv363 10 = some (.int x367) → un x157 ≤ un x366 → 24 - (b368) < n380 → yT 0 [] rX9_marks (2) 0 126 lv363 [] h364 (RQV ks ρ (fun σ' => MK σ σ')) := by
                            intro n380
                            induction n380 with
                            | zero => intro lv363 h364 x366 b368 x367 hT365 e369 g370 g371 g372 g373 g374 g375 g376 g377 g378 i379 m381; exact absurd m381 (Nat.not_lt_zero _)
                            | succ n380 ih382 =>
                              intro lv363 h364 x366 b368 x367 hT365 e369 g370 g371 g372 g373 g374 g375 g376 g377 g378 i379 m381
                              refine yT.il (pc' := 128) g378 rfl rfl ?_
                              refine yT.il (pc' := 130) g373 rfl rfl ?_
                              refine yT.if2 (t := 184) (pc' := 133) rfl rfl rfl (c2_ge e369 e106) (fun c383 => ?_) (fun c383 => ?_)
                              · refine yT.inc2 (pc' := 187) (Z := (a340 : Int) + 1) g377 e341 rfl rfl rfl ⟨by decide, by omega⟩ (fun x384 e385 => ?_)
                                refine yT.p (pc' := 116) rfl rfl (fun _ _ _ _ => rfl) ?_
                                exact ih353 _ _ x366 (a340 + 1) x384 hT365 (by omega) (xg_ne g370 rfl) (xg_ne g371 rfl) (xg_ne g372 rfl) (xg_ne g373 rfl) (xg_ne g374 rfl) (xg_ne g375 rfl) (xg_ne g376 rfl) xg_eq (by omega) (by omega)
                              · refine yT.il (pc' := 135) g374 rfl rfl ?_
                                refine yT.il (pc' := 137) g376 rfl rfl ?_
                                refine yT.il (pc' := 139) g378 rfl rfl ?_
                                refine yT.fi (pc' := 140) rfl rfl (fun _ _ _ _ => rfl) (fun x386 => ?_)
                                refine yT.kI (pc' := 141) rfl rfl (by decide) (fun x387 e388 => ?_)
                                refine yT.fi (pc' := 142) rfl rfl (fun _ _ _ _ => rfl) (fun x389 => ?_)
                                refine yT.kI (pc' := 143) rfl rfl (by decide) (fun x390 e391 => ?_)
                                refine yT.if2 (t := 174) (pc' := 146) rfl rfl rfl (c2_ne rfl e391) (fun c392 => ?_) (fun c392 => ?_)
                                · refine yT.kI (pc' := 175) rfl rfl (by decide) (fun x393 e394 => ?_)
                                  refine yT.or2 (pc' := 176) rfl rfl (fun x395 u396 => ?_)
                                  refine yT.p (pc' := 178) (lv' := xst1 _ 5 (.int x395)) rfl rfl (fun _ _ _ _ => rfl) ?_
                                  refine yT.inc2 (pc' := 181) (Z := (b368 : Int) + 1) (xg_ne g378 rfl) e369 rfl rfl rfl ⟨by decide, by omega⟩ (fun x397 e398 => ?_)
                                  refine yT.p (pc' := 126) rfl rfl (fun _ _ _ _ => rfl) ?_
                                  exact ih382 _ _ x395 (b368 + 1) x397 hT365 (by omega) (xg_ne (xg_ne g370 rfl) rfl) (xg_ne (xg_ne g371 rfl) rfl) (xg_ne (xg_ne g372 rfl) rfl) (xg_ne (xg_ne g373 rfl) rfl) (xg_ne xg_eq rfl) (xg_ne (xg_ne g375 rfl) rfl) (xg_ne (xg_ne g376 rfl) rfl) (xg_ne (xg_ne g377 rfl) rfl) xg_eq (by omega) (by omega)
                                · refine yT.aan (pc' := 147) g370 rfl rfl rfl ?_
                                  refine yT.il (pc' := 149) g377 rfl rfl ?_
                                  refine yT.kI (pc' := 150) rfl rfl (by decide) (fun x399 e400 => ?_)
                                  refine kSI (yT.cc (G2 := 0) (pc' := 153) rfl rfl rfl hT365 (K.up rfl : xnth ks 60 = some (19, 0)) xM_166 (r166 (c := a340) (w := 2) K hT365 e341 (by omega) (by omega)) rfl (by omega) (by decide) rfl) (fun h401 x404 hT402 E403 => ?_)
                                  refine yT.if1 (t := 174) (pc' := 156) rfl rfl rfl (c1_ne E403) (fun c405 => ?_) (fun c405 => ?_)
                                  · refine yT.kI (pc' := 175) rfl rfl (by decide) (fun x406 e407 => ?_)
                                    refine yT.or2 (pc' := 176) rfl rfl (fun x408 u409 => ?_)
                                    refine yT.p (pc' := 178) (lv' := xst1 _ 5 (.int x408)) rfl rfl (fun _ _ _ _ => rfl) ?_
                                    refine yT.inc2 (pc' := 181) (Z := (b368 : Int) + 1) (xg_ne g378 rfl) e369 rfl rfl rfl ⟨by decide, by omega⟩ (fun x410 e411 => ?_)
                                    refine yT.p (pc' := 126) rfl rfl (fun _ _ _ _ => rfl) ?_
                                    exact ih382 _ _ x408 (b368 + 1) x410 hT402 (by omega) (xg_ne (xg_ne g370 rfl) rfl) (xg_ne (xg_ne g371 rfl) rfl) (xg_ne (xg_ne g372 rfl) rfl) (xg_ne (xg_ne g373 rfl) rfl) (xg_ne xg_eq rfl) (xg_ne (xg_ne g375 rfl) rfl) (xg_ne (xg_ne g376 rfl) rfl) (xg_ne (xg_ne g377 rfl) rfl) xg_eq (by omega) (by omega)
                                  · refine yT.aan (pc' := 157) g370 rfl rfl rfl ?_
                                    refine yT.il (pc' := 159) g377 rfl rfl ?_
                                    refine yT.il (pc' := 161) g378 rfl rfl ?_
                                    refine kSI (yT.cc (G2 := 0) (pc' := 164) rfl rfl rfl hT402 (K.up rfl : xnth ks 60 = some (19, 0)) xM_180 (r180 (x := a340) K hT402 e341 x367 (by omega) (p2 _ (by omega))) rfl (by omega) (by decide) rfl) (fun h412 x415 hT413 E414 => ?_)
                                    refine yT.if1 (t := 174) (pc' := 167) rfl rfl rfl (c1_eq rfl) (fun c416 => ?_) (fun c416 => ?_)
                                    · refine yT.kI (pc' := 175) rfl rfl (by decide) (fun x417 e418 => ?_)
                                      refine yT.or2 (pc' := 176) rfl rfl (fun x419 u420 => ?_)
                                      refine yT.p (pc' := 178) (lv' := xst1 _ 5 (.int x419)) rfl rfl (fun _ _ _ _ => rfl) ?_
                                      refine yT.inc2 (pc' := 181) (Z := (b368 : Int) + 1) (xg_ne g378 rfl) e369 rfl rfl rfl ⟨by decide, by omega⟩ (fun x421 e422 => ?_)
                                      refine yT.p (pc' := 126) rfl rfl (fun _ _ _ _ => rfl) ?_
                                      exact ih382 _ _ x419 (b368 + 1) x421 hT413 (by omega) (xg_ne (xg_ne g370 rfl) rfl) (xg_ne (xg_ne g371 rfl) rfl) (xg_ne (xg_ne g372 rfl) rfl) (xg_ne (xg_ne g373 rfl) rfl) (xg_ne xg_eq rfl) (xg_ne (xg_ne g375 rfl) rfl) (xg_ne (xg_ne g376 rfl) rfl) (xg_ne (xg_ne g377 rfl) rfl) xg_eq (by omega) (by omega)
                                    · refine yT.kI (pc' := 168) rfl rfl (by decide) (fun x423 e424 => ?_)
                                      refine yT.il (pc' := 170) g377 rfl rfl ?_
                                      refine yT.fi (pc' := 171) rfl rfl (fun _ _ _ _ => rfl) (fun x425 => ?_)
                                      refine yT.p (pc' := 175) rfl rfl (fun _ _ _ _ => rfl) ?_
                                      refine yT.or2 (pc' := 176) rfl rfl (fun x426 u427 => ?_)
                                      refine yT.p (pc' := 178) (lv' := xst1 _ 5 (.int x426)) rfl rfl (fun _ _ _ _ => rfl) ?_
                                      refine yT.inc2 (pc' := 181) (Z := (b368 : Int) + 1) (xg_ne g378 rfl) e369 rfl rfl rfl ⟨by decide, by omega⟩ (fun x428 e429 => ?_)
                                      refine yT.p (pc' := 126) rfl rfl (fun _ _ _ _ => rfl) ?_
                                      exact ih382 _ _ x426 (b368 + 1) x428 hT413 (by omega) (xg_ne (xg_ne g370 rfl) rfl) (xg_ne (xg_ne g371 rfl) rfl) (xg_ne (xg_ne g372 rfl) rfl) (xg_ne (xg_ne g373 rfl) rfl) (xg_ne xg_eq rfl) (xg_ne (xg_ne g375 rfl) rfl) (xg_ne (xg_ne g376 rfl) rfl) (xg_ne (xg_ne g377 rfl) rfl) xg_eq (by omega) (by omega)
                          exact L362 _ _ _ x338 (0) x360 hT337 (by omega) (xg_ne g342 rfl) (xg_ne g343 rfl) (xg_ne g344 rfl) (xg_ne g345 rfl) (xg_ne g346 rfl) (xg_ne g347 rfl) (xg_ne g348 rfl) (xg_ne g349 rfl) xg_eq (by omega) (Nat.lt_succ_self _)
                    exact L334 _ _ _ x157 (0) x332 hT156 (by omega) (xg_ne (xg_ne g159 rfl) rfl) (xg_ne (xg_ne g160 rfl) rfl) (xg_ne (xg_ne g161 rfl) rfl) (xg_ne (xg_ne g162 rfl) rfl) (xg_ne (xg_ne g163 rfl) rfl) (xg_ne (xg_ne g164 rfl) rfl) (xg_ne xg_eq rfl) xg_eq (by omega) (Nat.lt_succ_self _)
              exact L153 _ _ _ x136 x151 hT135 (xg_ne (xg_ne g140 rfl) rfl) (xg_ne (xg_ne g142 rfl) rfl) (xg_ne (xg_ne g143 rfl) rfl) (xg_ne (xg_ne g144 rfl) rfl) (xg_ne (xg_ne g145 rfl) rfl) (xg_ne xg_eq rfl) xg_eq (by omega) (Nat.lt_succ_self _)
            · refine yT.aan (pc' := 63) g140 rfl rfl rfl ?_
              refine yT.il (pc' := 65) g146 rfl rfl ?_
              refine yT.kI (pc' := 66) rfl rfl (by decide) (fun x430 e431 => ?_)
              refine kSI (yT.cc (G2 := 0) (pc' := 69) rfl rfl rfl hT135 (K.up rfl : xnth ks 60 = some (19, 0)) xM_166 (r166 (c := r138) (w := 2) K hT135 e139 (by omega) (by omega)) rfl (by omega) (by decide) rfl) (fun h432 x435 hT433 E434 => ?_)
              refine yT.if1 (t := 91) (pc' := 72) rfl rfl rfl (c1_ne E434) (fun c436 => ?_) (fun c436 => ?_)
              · refine yT.inc2 (pc' := 94) (Z := (r138 : Int) + 1) g146 e139 rfl rfl rfl ⟨by decide, by omega⟩ (fun x437 e438 => ?_)
                refine yT.p (pc' := 55) rfl rfl (fun _ _ _ _ => rfl) ?_
                exact ih149 _ _ x136 (r138 + 1) x437 hT433 (by omega) (xg_ne g140 rfl) (xg_ne g141 rfl) (xg_ne g142 rfl) (xg_ne g143 rfl) (xg_ne g144 rfl) (xg_ne g145 rfl) xg_eq (by omega)
              · refine yT.aan (pc' := 73) g140 rfl rfl rfl ?_
                refine yT.il (pc' := 75) g146 rfl rfl ?_
                refine yT.iln (pc' := 76) g141 rfl rfl ?_
                refine kSI (yT.cc (G2 := 0) (pc' := 79) rfl rfl rfl hT433 (K.up rfl : xnth ks 60 = some (19, 0)) xM_180 (r180 (x := r138) K hT433 e139 x1 (by omega) (p2 _ (by omega))) rfl (by omega) (by decide) rfl) (fun h439 x442 hT440 E441 => ?_)
                refine yT.if1 (t := 91) (pc' := 82) rfl rfl rfl (c1_eq rfl) (fun c443 => ?_) (fun c443 => ?_)
                · refine yT.inc2 (pc' := 94) (Z := (r138 : Int) + 1) g146 e139 rfl rfl rfl ⟨by decide, by omega⟩ (fun x444 e445 => ?_)
                  refine yT.p (pc' := 55) rfl rfl (fun _ _ _ _ => rfl) ?_
                  exact ih149 _ _ x136 (r138 + 1) x444 hT440 (by omega) (xg_ne g140 rfl) (xg_ne g141 rfl) (xg_ne g142 rfl) (xg_ne g143 rfl) (xg_ne g144 rfl) (xg_ne g145 rfl) xg_eq (by omega)
                · refine yT.il (pc' := 84) g145 rfl rfl ?_
                  refine yT.kI (pc' := 85) rfl rfl (by decide) (fun x446 e447 => ?_)
                  refine yT.il (pc' := 87) g146 rfl rfl ?_
                  refine yT.fi (pc' := 88) rfl rfl (fun _ _ _ _ => rfl) (fun x448 => ?_)
                  refine yT.or2 (pc' := 89) rfl rfl (fun x449 u450 => ?_)
                  refine yT.p (pc' := 91) (lv' := xst1 _ 5 (.int x449)) rfl rfl (fun _ _ _ _ => rfl) ?_
                  refine yT.inc2 (pc' := 94) (Z := (r138 : Int) + 1) (xg_ne g146 rfl) e139 rfl rfl rfl ⟨by decide, by omega⟩ (fun x451 e452 => ?_)
                  refine yT.p (pc' := 55) rfl rfl (fun _ _ _ _ => rfl) ?_
                  exact ih149 _ _ x449 (r138 + 1) x451 hT440 (by omega) (xg_ne (xg_ne g140 rfl) rfl) (xg_ne (xg_ne g141 rfl) rfl) (xg_ne (xg_ne g142 rfl) rfl) (xg_ne (xg_ne g143 rfl) rfl) (xg_ne (xg_ne g144 rfl) rfl) (xg_ne xg_eq rfl) xg_eq (by omega)
        exact L132 _ _ _ x128 (0) x130 hT113 (by omega) (xg_ne (xg_ne g118 rfl) rfl) (xg_ne (xg_ne g119 rfl) rfl) (xg_ne (xg_ne g120 rfl) rfl) (xg_ne (xg_ne g121 rfl) rfl) (xg_ne (xg_ne g122 rfl) rfl) (xg_ne xg_eq rfl) xg_eq (Nat.lt_succ_self _)
      · refine yT.iln (pc' := 23) g121 rfl rfl ?_
        refine yT.aan (pc' := 24) g118 rfl rfl rfl ?_
        refine yT.il (pc' := 26) g123 rfl rfl ?_
        refine yT.kI (pc' := 27) rfl rfl (by decide) (fun x453 e454 => ?_)
        refine kSI (yT.cc (G2 := 0) (pc' := 30) rfl rfl rfl hT113 (K.up rfl : xnth ks 60 = some (19, 0)) xM_166 (r166 (c := r116) (w := 3) K hT113 e117 (by omega) (by omega)) rfl (by omega) (by decide) rfl) (fun h455 x458 hT456 E457 => ?_)
        refine yT.if1 (t := 40) (pc' := 33) rfl rfl rfl (c1_ne E457) (fun c459 => ?_) (fun c459 => ?_)
        · refine yT.kI (pc' := 41) rfl rfl (by decide) (fun x460 e461 => ?_)
          refine yT.or2 (pc' := 42) rfl rfl (fun x462 u463 => ?_)
          refine yT.p (pc' := 43) (lv' := xst1 _ 3 (.int x462)) rfl rfl (fun _ _ _ _ => rfl) ?_
          refine yT.inc2 (pc' := 46) (Z := (r116 : Int) + 1) (xg_ne g123 rfl) e117 rfl rfl rfl ⟨by decide, by omega⟩ (fun x464 e465 => ?_)
          refine yT.p (pc' := 15) rfl rfl (fun _ _ _ _ => rfl) ?_
          exact ih126 _ _ x462 (r116 + 1) x464 hT456 (by omega) (xg_ne (xg_ne g118 rfl) rfl) (xg_ne (xg_ne g119 rfl) rfl) (xg_ne (xg_ne g120 rfl) rfl) (xg_ne xg_eq rfl) (xg_ne (xg_ne g122 rfl) rfl) xg_eq (by omega)
        · refine yT.kI (pc' := 34) rfl rfl (by decide) (fun x466 e467 => ?_)
          refine yT.il (pc' := 36) g123 rfl rfl ?_
          refine yT.fi (pc' := 37) rfl rfl (fun _ _ _ _ => rfl) (fun x468 => ?_)
          refine yT.p (pc' := 41) rfl rfl (fun _ _ _ _ => rfl) ?_
          refine yT.or2 (pc' := 42) rfl rfl (fun x469 u470 => ?_)
          refine yT.p (pc' := 43) (lv' := xst1 _ 3 (.int x469)) rfl rfl (fun _ _ _ _ => rfl) ?_
          refine yT.inc2 (pc' := 46) (Z := (r116 : Int) + 1) (xg_ne g123 rfl) e117 rfl rfl rfl ⟨by decide, by omega⟩ (fun x471 e472 => ?_)
          refine yT.p (pc' := 15) rfl rfl (fun _ _ _ _ => rfl) ?_
          exact ih126 _ _ x469 (r116 + 1) x471 hT456 (by omega) (xg_ne (xg_ne g118 rfl) rfl) (xg_ne (xg_ne g119 rfl) rfl) (xg_ne (xg_ne g120 rfl) rfl) (xg_ne xg_eq rfl) (xg_ne (xg_ne g122 rfl) rfl) xg_eq (by omega)
  exact L110 _ _ _ x101 (0) x108 hT (by omega) (xg_ne (xg_ne (xg_ne g0 rfl) rfl) rfl) (xg_ne (xg_ne (xg_ne g1 rfl) rfl) rfl) (xg_ne (xg_ne (xg_ne g2 rfl) rfl) rfl) (xg_ne (xg_ne xg_eq rfl) rfl) (xg_ne xg_eq rfl) xg_eq (Nat.lt_succ_self _)
