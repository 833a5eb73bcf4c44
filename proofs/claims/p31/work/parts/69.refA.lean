-- rX9_isShelf
set_option maxRecDepth 100000 in
set_option maxHeartbeats 4000000 in
theorem r211 {ks : List cT} {B0 : Nat} (K : KE KS0 ks B0) {σ : sg} {ρ : Nat → xE} {h : List xE} (hT : HT ks σ ρ h) (x0 : Int32) : yM 211 (1) 0 [.int x0] h (SQI ks σ ρ (fun r => (r.toInt = 0 ∨ r.toInt = 1) ∧ (r.toInt = 1 ↔ 0 ≤ x0.toInt ∧ x0.toInt ≤ 7))) := by
  refine yM.st xM_211 rfl rfl (fun lv g => ?_)
  have g0 := g 0 _ rfl
  refine yT.iln (pc' := 1) g0 rfl rfl ?_
  refine yT.i2l2 (pc' := 2) (X := x0.toInt) rfl rfl rfl (fun y101 e102 => ?_)
  refine yT.lc2 (pc' := 3) (X := 0) rfl rfl rfl (fun y103 e104 => ?_)
  refine yT.ld2 (pc' := 6) (X := 7) rfl rfl rfl (by decide) (fun y105 e106 => ?_)
  refine kSI (yT.cst (G2 := 0) (pc' := 9) rfl rfl xM_163 (r163 (v := x0.toInt) (lo := 0) (hi := 7) K hT e102 e104 e106) rfl (by omega) (by decide) rfl) (fun h107 x110 hT108 E109 => ?_)
  exact yT.retZ rfl rfl (b01 (by omega) (by omega)) ⟨hT108, _, rfl, (by omega)⟩
-- rX9_isTelling
set_option maxRecDepth 100000 in
set_option maxHeartbeats 4000000 in
theorem r240 {ks : List cT} {B0 : Nat} (K : KE KS0 ks B0) {σ : sg} {ρ : Nat → xE} {h : List xE} (hT : HT ks σ ρ h) (x1 : Int32) (p0 : RO σ) : yM 240 (2) 0 [.ref (60 + 1), .int x1] h (SQI ks σ ρ (fun r => (r.toInt = 0 ∨ r.toInt = 1) ∧ (r.toInt = 1 ↔ (0 ≤ x1.toInt ∧ x1.toInt < nw σ 6768) ∧ nw σ (282 * (x1.toInt).toNat + 0) ≠ 5))) := by
  refine yM.st xM_240 rfl rfl (fun lv g => ?_)
  have g0 := g 0 _ rfl
  have g1 := g 1 _ rfl
  have hcm := p0.1
  have hrd := p0.rd
  have hq0 := p0.2.1.1
  refine yT.aan (pc' := 1) g0 rfl rfl rfl ?_
  refine yT.iln (pc' := 2) g1 rfl rfl ?_
  refine kSI (yT.cc (G2 := 0) (pc' := 5) rfl rfl rfl hT (K.up rfl : xnth ks 60 = some (19, 0)) xM_168 (r168  K hT x1 (by omega)) rfl (by omega) (by decide) rfl) (fun h101 x104 hT102 E103 => ?_)
  refine yT.if1 (t := 22) (pc' := 8) rfl rfl rfl (c1_eq rfl) (fun c105 => ?_) (fun c105 => ?_)
  · refine yT.kI (pc' := 23) rfl rfl (by decide) (fun x106 e107 => ?_)
    exact yT.retZ rfl rfl (b01 (by omega) (by omega)) ⟨hT102, _, rfl, (by omega)⟩
  · refine yT.aan (pc' := 9) g0 rfl rfl rfl ?_
    refine yT.iln (pc' := 10) g1 rfl rfl ?_
    refine yT.kI (pc' := 11) rfl rfl (by decide) (fun x108 e109 => ?_)
    refine kSI (yT.cc (G2 := 0) (pc' := 14) rfl rfl rfl hT102 (K.up rfl : xnth ks 60 = some (19, 0)) xM_166 (r166 (c := (x1.toInt).toNat) (w := 0) K hT102 (by omega) (by omega) (by omega)) rfl (by omega) (by decide) rfl) (fun h110 x113 hT111 E112 => ?_)
    refine yT.kI (pc' := 15) rfl rfl (by decide) (fun x114 e115 => ?_)
    refine yT.if2 (t := 22) (pc' := 18) rfl rfl rfl (c2_eq E112 e115) (fun c116 => ?_) (fun c116 => ?_)
    · refine yT.kI (pc' := 23) rfl rfl (by decide) (fun x117 e118 => ?_)
      exact yT.retZ rfl rfl (b01 (by omega) (by omega)) ⟨hT111, _, rfl, (by omega)⟩
    · refine yT.kI (pc' := 19) rfl rfl (by decide) (fun x119 e120 => ?_)
      refine yT.p (pc' := 23) rfl rfl (fun _ _ _ _ => rfl) ?_
      exact yT.retZ rfl rfl (b01 (by omega) (by omega)) ⟨hT111, _, rfl, (by omega)⟩
-- rX9_isSource
set_option maxRecDepth 100000 in
set_option maxHeartbeats 4000000 in
theorem r235 {ks : List cT} {B0 : Nat} (K : KE KS0 ks B0) {σ : sg} {ρ : Nat → xE} {h : List xE} (hT : HT ks σ ρ h) (x1 : Int32) (p0 : RO σ) : yM 235 (2) 0 [.ref (60 + 1), .int x1] h (SQI ks σ ρ (fun r => (r.toInt = 0 ∨ r.toInt = 1) ∧ (r.toInt = 1 ↔ (0 ≤ x1.toInt ∧ x1.toInt < nw σ 6768) ∧ nw σ (282 * (x1.toInt).toNat + 0) = 1))) := by
  refine yM.st xM_235 rfl rfl (fun lv g => ?_)
  have g0 := g 0 _ rfl
  have g1 := g 1 _ rfl
  have hcm := p0.1
  have hrd := p0.rd
  have hq0 := p0.2.1.1
  refine yT.aan (pc' := 1) g0 rfl rfl rfl ?_
  refine yT.iln (pc' := 2) g1 rfl rfl ?_
  refine kSI (yT.cc (G2 := 0) (pc' := 5) rfl rfl rfl hT (K.up rfl : xnth ks 60 = some (19, 0)) xM_168 (r168  K hT x1 (by omega)) rfl (by omega) (by decide) rfl) (fun h101 x104 hT102 E103 => ?_)
  refine yT.if1 (t := 22) (pc' := 8) rfl rfl rfl (c1_eq rfl) (fun c105 => ?_) (fun c105 => ?_)
  · refine yT.kI (pc' := 23) rfl rfl (by decide) (fun x106 e107 => ?_)
    exact yT.retZ rfl rfl (b01 (by omega) (by omega)) ⟨hT102, _, rfl, (by omega)⟩
  · refine yT.aan (pc' := 9) g0 rfl rfl rfl ?_
    refine yT.iln (pc' := 10) g1 rfl rfl ?_
    refine yT.kI (pc' := 11) rfl rfl (by decide) (fun x108 e109 => ?_)
    refine kSI (yT.cc (G2 := 0) (pc' := 14) rfl rfl rfl hT102 (K.up rfl : xnth ks 60 = some (19, 0)) xM_166 (r166 (c := (x1.toInt).toNat) (w := 0) K hT102 (by omega) (by omega) (by omega)) rfl (by omega) (by decide) rfl) (fun h110 x113 hT111 E112 => ?_)
    refine yT.kI (pc' := 15) rfl rfl (by decide) (fun x114 e115 => ?_)
    refine yT.if2 (t := 22) (pc' := 18) rfl rfl rfl (c2_ne E112 e115) (fun c116 => ?_) (fun c116 => ?_)
    · refine yT.kI (pc' := 23) rfl rfl (by decide) (fun x117 e118 => ?_)
      exact yT.retZ rfl rfl (b01 (by omega) (by omega)) ⟨hT111, _, rfl, (by omega)⟩
    · refine yT.kI (pc' := 19) rfl rfl (by decide) (fun x119 e120 => ?_)
      refine yT.p (pc' := 23) rfl rfl (fun _ _ _ _ => rfl) ?_
      exact yT.retZ rfl rfl (b01 (by omega) (by omega)) ⟨hT111, _, rfl, (by omega)⟩
-- rX9_isUnder
set_option maxRecDepth 100000 in
set_option maxHeartbeats 4000000 in
theorem r219 {ks : List cT} {B0 : Nat} (K : KE KS0 ks B0) {σ : sg} {ρ : Nat → xE} {h : List xE} (hT : HT ks σ ρ h) (x1 : Int32) (x2 : Int32) : yM 219 (0) 0 [.ref (60 + 1), .int x1, .int x2] h (SQI ks σ ρ (fun r => (r.toInt = 0 ∨ r.toInt = 1) ∧ True)) := by
  refine yM.st xM_219 rfl rfl (fun lv g => ?_)
  have g0 := g 0 _ rfl
  have g1 := g 1 _ rfl
  have g2 := g 2 _ rfl
  refine yT.iln (pc' := 1) g2 rfl rfl ?_
  refine yT.if1 (t := 24) (pc' := 4) rfl rfl rfl (c1_eq rfl) (fun c101 => ?_) (fun c101 => ?_)
  · refine yT.kI (pc' := 25) rfl rfl (by decide) (fun x102 e103 => ?_)
    refine yT.p (pc' := 29) rfl rfl (fun _ _ _ _ => rfl) ?_
    exact yT.retZ rfl rfl (b01 (by omega) (by omega)) ⟨hT, _, rfl, ⟨by omega, trivial⟩⟩
  · refine yT.iln (pc' := 5) g1 rfl rfl ?_
    refine yT.iln (pc' := 6) g2 rfl rfl ?_
    refine yT.if2 (t := 24) (pc' := 9) rfl rfl rfl (c2_eq rfl rfl) (fun c104 => ?_) (fun c104 => ?_)
    · refine yT.kI (pc' := 25) rfl rfl (by decide) (fun x105 e106 => ?_)
      refine yT.p (pc' := 29) rfl rfl (fun _ _ _ _ => rfl) ?_
      exact yT.retZ rfl rfl (b01 (by omega) (by omega)) ⟨hT, _, rfl, ⟨by omega, trivial⟩⟩
    · refine yT.iln (pc' := 10) g2 rfl rfl ?_
      refine yT.kI (pc' := 11) rfl rfl (by decide) (fun x107 e108 => ?_)
      refine yT.if2 (t := 28) (pc' := 14) rfl rfl rfl (c2_ne rfl e108) (fun c109 => ?_) (fun c109 => ?_)
      · refine yT.kI (pc' := 29) rfl rfl (by decide) (fun x110 e111 => ?_)
        exact yT.retZ rfl rfl (b01 (by omega) (by omega)) ⟨hT, _, rfl, ⟨by omega, trivial⟩⟩
      · refine yT.iln (pc' := 15) g1 rfl rfl ?_
        refine yT.kI (pc' := 16) rfl rfl (by decide) (fun x112 e113 => ?_)
        refine yT.if2 (t := 24) (pc' := 19) rfl rfl rfl (c2_eq rfl e113) (fun c114 => ?_) (fun c114 => ?_)
        · refine yT.kI (pc' := 25) rfl rfl (by decide) (fun x115 e116 => ?_)
          refine yT.p (pc' := 29) rfl rfl (fun _ _ _ _ => rfl) ?_
          exact yT.retZ rfl rfl (b01 (by omega) (by omega)) ⟨hT, _, rfl, ⟨by omega, trivial⟩⟩
        · refine yT.iln (pc' := 20) g1 rfl rfl ?_
          refine yT.kI (pc' := 21) rfl rfl (by decide) (fun x117 e118 => ?_)
          refine yT.if2 (t := 28) (pc' := 24) rfl rfl rfl (c2_ne rfl e118) (fun c119 => ?_) (fun c119 => ?_)
          · refine yT.kI (pc' := 29) rfl rfl (by decide) (fun x120 e121 => ?_)
            exact yT.retZ rfl rfl (b01 (by omega) (by omega)) ⟨hT, _, rfl, ⟨by omega, trivial⟩⟩
          · refine yT.kI (pc' := 25) rfl rfl (by decide) (fun x122 e123 => ?_)
            refine yT.p (pc' := 29) rfl rfl (fun _ _ _ _ => rfl) ?_
            exact yT.retZ rfl rfl (b01 (by omega) (by omega)) ⟨hT, _, rfl, ⟨by omega, trivial⟩⟩
-- rX9_readsOf
set_option maxRecDepth 100000 in
set_option maxHeartbeats 4000000 in
theorem r243 {ks : List cT} {B0 : Nat} (K : KE KS0 ks B0) {σ : sg} {ρ : Nat → xE} {h : List xE} (hT : HT ks σ ρ h) {c : Nat} {x1 : Int32} (e1 : x1.toInt = (c : Int)) (p0 : RO σ) (p1 : c < 24) : yM 243 (1) 0 [.ref (60 + 1), .int x1] h (SQI ks σ ρ (fun r => True)) := by
  refine yM.st xM_243 rfl rfl (fun lv g => ?_)
  have g0 := g 0 _ rfl
  have g1 := g 1 _ rfl
  have hrd := p0.rd c p1
  refine yT.kI (pc' := 1) rfl rfl (by decide) (fun x101 e102 => ?_)
  refine yT.p (pc' := 2) (lv' := xst1 _ 2 (.int x101)) rfl rfl (fun _ _ _ _ => rfl) ?_
  refine yT.kI (pc' := 3) rfl rfl (by decide) (fun x103 e104 => ?_)
  refine yT.p (pc' := 4) (lv' := xst1 _ 3 (.int x103)) rfl rfl (fun _ _ _ _ => rfl) ?_
  have L105 : ∀ (n117 : Nat) (lv106 : xLv) (h107 : List xE) (x109 : Int32) (k111 : Nat) (x110 : Int32), HT ks σ ρ h107 → x110.toInt = (k111 : Int) → xget lv106 0 = some (.ref (60 + 1)) → xget lv106 1 = some (.int x1) → xget lv106 2 = some (.int x109) → xget lv106 3 = some (.int x110) → 24 - (k111) < n117 → yT 0 [] rX9_readsOf (1) 0 4 lv106 [] h107 (SQI ks σ ρ (fun r => True)) := by
    intro n117
    induction n117 with
    | zero => intro lv106 h107 x109 k111 x110 hT108 e112 g113 g114 g115 g116 m118; exact absurd m118 (Nat.not_lt_zero _)
    | succ n117 ih119 =>
      intro lv106 h107 x109 k111 x110 hT108 e112 g113 g114 g115 g116 m118
      refine yT.iln (pc' := 5) g116 rfl rfl ?_
      refine yT.aan (pc' := 6) g113 rfl rfl rfl ?_
      refine yT.iln (pc' := 7) g114 rfl rfl ?_
      refine yT.kb (pc' := 9) rfl rfl (by decide) (fun x120 e121 => ?_)
      refine kSI (yT.cc (G2 := 0) (pc' := 12) rfl rfl rfl hT108 (K.up rfl : xnth ks 60 = some (19, 0)) xM_166 (r166 (c := c) (w := 6) K hT108 e1 (by omega) (by omega)) rfl (by omega) (by decide) rfl) (fun h122 x125 hT123 E124 => ?_)
      refine yT.if2 (t := 35) (pc' := 15) rfl rfl rfl (c2_ge e112 E124) (fun c126 => ?_) (fun c126 => ?_)
      · refine yT.iln (pc' := 36) g115 rfl rfl ?_
        exact yT.retI rfl rfl ⟨hT123, _, rfl, trivial⟩
      · refine yT.iln (pc' := 16) g115 rfl rfl ?_
        refine yT.kI (pc' := 17) rfl rfl (by decide) (fun x127 e128 => ?_)
        refine yT.aan (pc' := 18) g113 rfl rfl rfl ?_
        refine yT.iln (pc' := 19) g114 rfl rfl ?_
        refine yT.kb (pc' := 21) rfl rfl (by decide) (fun x129 e130 => ?_)
        refine yT.iln (pc' := 22) g116 rfl rfl ?_
        refine yT.ad2 (pc' := 23) (Z := (k111 : Int) + 7) e130 e112 rfl rfl (by omega) (fun x131 e132 => ?_)
        refine kSI (yT.cc (G2 := 0) (pc' := 26) rfl rfl rfl hT123 (K.up rfl : xnth ks 60 = some (19, 0)) xM_166 (r166 (c := c) (w := k111 + 7) K hT123 e1 (by omega) (by omega)) rfl (by omega) (by decide) rfl) (fun h133 x136 hT134 E135 => ?_)
        refine yT.fi (pc' := 27) rfl rfl (fun _ _ _ _ => rfl) (fun x137 => ?_)
        refine yT.or2 (pc' := 28) rfl rfl (fun x138 u139 => ?_)
        refine yT.p (pc' := 29) (lv' := xst1 _ 2 (.int x138)) rfl rfl (fun _ _ _ _ => rfl) ?_
        refine yT.inc2 (pc' := 32) (Z := (k111 : Int) + 1) (xg_ne g116 rfl) e112 rfl rfl rfl ⟨by decide, by omega⟩ (fun x140 e141 => ?_)
        refine yT.p (pc' := 4) rfl rfl (fun _ _ _ _ => rfl) ?_
        exact ih119 _ _ x138 (k111 + 1) x140 hT134 (by omega) (xg_ne (xg_ne g113 rfl) rfl) (xg_ne (xg_ne g114 rfl) rfl) (xg_ne xg_eq rfl) xg_eq (by omega)
  exact L105 _ _ _ x101 (0) x103 hT (by omega) (xg_ne (xg_ne g0 rfl) rfl) (xg_ne (xg_ne g1 rfl) rfl) (xg_ne xg_eq rfl) xg_eq (Nat.lt_succ_self _)
-- rX9_reached
set_option maxRecDepth 100000 in
set_option maxHeartbeats 4000000 in
theorem r244 {ks : List cT} {B0 : Nat} (K : KE KS0 ks B0) {σ : sg} {ρ : Nat → xE} {h : List xE} (hT : HT ks σ ρ h) {c : Nat} {x1 : Int32} (e1 : x1.toInt = (c : Int)) (p0 : RO σ) (p1 : c < 24) : yM 244 (2) 0 [.ref (60 + 1), .int x1] h (SQI ks σ ρ (fun r => True)) := by
  refine yM.st xM_244 rfl rfl (fun lv g => ?_)
  have g0 := g 0 _ rfl
  have g1 := g 1 _ rfl
  have hcm := p0.1
  refine yT.aan (pc' := 1) g0 rfl rfl rfl ?_
  refine yT.iln (pc' := 2) g1 rfl rfl ?_
  refine kSI (yT.cc (G2 := 0) (pc' := 5) rfl rfl rfl hT (K.up rfl : xnth ks 60 = some (19, 0)) xM_243 (r243 (c := c) K hT e1 p0 (by omega)) rfl (by omega) (by decide) rfl) (fun h101 x104 hT102 E103 => ?_)
  refine yT.p (pc' := 6) (lv' := xst1 _ 2 (.int x104)) rfl rfl (fun _ _ _ _ => rfl) ?_
  have L105 : ∀ (n112 : Nat) (lv106 : xLv) (h107 : List xE) (x109 : Int32), HT ks σ ρ h107 → xget lv106 0 = some (.ref (60 + 1)) → xget lv106 2 = some (.int x109) → 4294967296 - un x109 < n112 → yT 0 [] rX9_reached (2) 0 6 lv106 [] h107 (SQI ks σ ρ (fun r => True)) := by
    intro n112
    induction n112 with
    | zero => intro lv106 h107 x109 hT108 g110 g111 m113; exact absurd m113 (Nat.not_lt_zero _)
    | succ n112 ih114 =>
      intro lv106 h107 x109 hT108 g110 g111 m113
      refine yT.iln (pc' := 7) g111 rfl rfl ?_
      refine yT.p (pc' := 8) (lv' := xst1 _ 3 (.int x109)) rfl rfl (fun _ _ _ _ => rfl) ?_
      refine yT.kI (pc' := 9) rfl rfl (by decide) (fun x115 e116 => ?_)
      refine yT.p (pc' := 11) (lv' := xst1 _ 4 (.int x115)) rfl rfl (fun _ _ _ _ => rfl) ?_
      have L117 : ∀ (n130 : Nat) (lv118 : xLv) (h119 : List xE) (x121 : Int32) (x123 : Nat) (x122 : Int32), HT ks σ ρ h119 → x122.toInt = (x123 : Int) → xget lv118 0 = some (.ref (60 + 1)) → xget lv118 2 = some (.int x109) → xget lv118 3 = some (.int x121) → xget lv118 4 = some (.int x122) → un x109 ≤ un x121 → 24 - (x123) < n130 → yT 0 [] rX9_reached (2) 0 11 lv118 [] h119 (SQI ks σ ρ (fun r => True)) := by
        intro n130
        induction n130 with
        | zero => intro lv118 h119 x121 x123 x122 hT120 e124 g125 g126 g127 g128 i129 m131; exact absurd m131 (Nat.not_lt_zero _)
        | succ n130 ih132 =>
          intro lv118 h119 x121 x123 x122 hT120 e124 g125 g126 g127 g128 i129 m131
          refine yT.il (pc' := 13) g128 rfl rfl ?_
          refine yT.aan (pc' := 14) g125 rfl rfl rfl ?_
          refine yT.cg8 (pc' := 17) rfl rfl hT120 (K.up rfl) rfl rfl (fun _ => ?_)
          refine yT.ks (pc' := 20) rfl rfl (by decide) (fun x133 e134 => ?_)
          refine yT.tia (6768) (pc' := 21) rfl rfl hT120 (K.up rfl) e134 (by omega) (fun x135 z137 => ?_)
          have e136 : x135.toInt = nw σ (6768) := congrArg Int32.toInt z137
          refine yT.if2 (t := 53) (pc' := 24) rfl rfl rfl (c2_ge e124 e136) (fun c138 => ?_) (fun c138 => ?_)
          · refine yT.iln (pc' := 54) g127 rfl rfl ?_
            refine yT.iln (pc' := 55) g126 rfl rfl ?_
            refine yT.if2 (t := 60) (pc' := 58) rfl rfl rfl (c2_ne rfl rfl) (fun c139 => ?_) (fun c139 => ?_)
            · have hu := un_lt (x := x109) (y := x121) (by omega) (by omega)
              have hb := un_b x121
              refine yT.iln (pc' := 61) g127 rfl rfl ?_
              refine yT.p (pc' := 62) (lv' := xst1 _ 2 (.int x121)) rfl rfl (fun _ _ _ _ => rfl) ?_
              refine yT.p (pc' := 6) rfl rfl (fun _ _ _ _ => rfl) ?_
              exact ih114 _ _ x121 hT120 (xg_ne g125 rfl) xg_eq (by omega)
            · refine yT.iln (pc' := 59) g126 rfl rfl ?_
              exact yT.retI rfl rfl ⟨hT120, _, rfl, trivial⟩
          · refine yT.iln (pc' := 25) g127 rfl rfl ?_
            refine yT.iln (pc' := 26) g126 rfl rfl ?_
            refine yT.il (pc' := 28) g128 rfl rfl ?_
            refine yT.fi (pc' := 29) rfl rfl (fun _ _ _ _ => rfl) (fun x140 => ?_)
            refine yT.kI (pc' := 30) rfl rfl (by decide) (fun x141 e142 => ?_)
            refine yT.fi (pc' := 31) rfl rfl (fun _ _ _ _ => rfl) (fun x143 => ?_)
            refine yT.kI (pc' := 32) rfl rfl (by decide) (fun x144 e145 => ?_)
            refine yT.if2 (t := 44) (pc' := 35) rfl rfl rfl (c2_ne rfl e145) (fun c146 => ?_) (fun c146 => ?_)
            · refine yT.kI (pc' := 45) rfl rfl (by decide) (fun x147 e148 => ?_)
              refine yT.or2 (pc' := 46) rfl rfl (fun x149 u150 => ?_)
              refine yT.p (pc' := 47) (lv' := xst1 _ 3 (.int x149)) rfl rfl (fun _ _ _ _ => rfl) ?_
              refine yT.inc2 (pc' := 50) (Z := (x123 : Int) + 1) (xg_ne g128 rfl) e124 rfl rfl rfl ⟨by decide, by omega⟩ (fun x151 e152 => ?_)
              refine yT.p (pc' := 11) rfl rfl (fun _ _ _ _ => rfl) ?_
              exact ih132 _ _ x149 (x123 + 1) x151 hT120 (by omega) (xg_ne (xg_ne g125 rfl) rfl) (xg_ne (xg_ne g126 rfl) rfl) (xg_ne xg_eq rfl) xg_eq (by omega) (by omega)
            · refine yT.aan (pc' := 36) g125 rfl rfl rfl ?_
              refine yT.il (pc' := 38) g128 rfl rfl ?_
              refine kSI (yT.cc (G2 := 0) (pc' := 41) rfl rfl rfl hT120 (K.up rfl : xnth ks 60 = some (19, 0)) xM_243 (r243 (c := x123) K hT120 e124 p0 (by omega)) rfl (by omega) (by decide) rfl) (fun h153 x156 hT154 E155 => ?_)
              refine yT.p (pc' := 45) rfl rfl (fun _ _ _ _ => rfl) ?_
              refine yT.or2 (pc' := 46) rfl rfl (fun x157 u158 => ?_)
              refine yT.p (pc' := 47) (lv' := xst1 _ 3 (.int x157)) rfl rfl (fun _ _ _ _ => rfl) ?_
              refine yT.inc2 (pc' := 50) (Z := (x123 : Int) + 1) (xg_ne g128 rfl) e124 rfl rfl rfl ⟨by decide, by omega⟩ (fun x159 e160 => ?_)
              refine yT.p (pc' := 11) rfl rfl (fun _ _ _ _ => rfl) ?_
              exact ih132 _ _ x157 (x123 + 1) x159 hT154 (by omega) (xg_ne (xg_ne g125 rfl) rfl) (xg_ne (xg_ne g126 rfl) rfl) (xg_ne xg_eq rfl) xg_eq (by omega) (by omega)
      exact L117 _ _ _ x109 (0) x115 hT108 (by omega) (xg_ne (xg_ne g110 rfl) rfl) (xg_ne (xg_ne g111 rfl) rfl) (xg_ne xg_eq rfl) xg_eq (by omega) (Nat.lt_succ_self _)
  exact L105 _ _ _ x104 hT102 (xg_ne g0 rfl) xg_eq (Nat.lt_succ_self _)
-- rX9_readersOf
set_option maxRecDepth 100000 in
set_option maxHeartbeats 4000000 in
theorem r245 {ks : List cT} {B0 : Nat} (K : KE KS0 ks B0) {σ : sg} {ρ : Nat → xE} {h : List xE} (hT : HT ks σ ρ h) (x1 : Int32) (p0 : RO σ) : yM 245 (2) 0 [.ref (60 + 1), .int x1] h (SQI ks σ ρ (fun r => True)) := by
  refine yM.st xM_245 rfl rfl (fun lv g => ?_)
  have g0 := g 0 _ rfl
  have g1 := g 1 _ rfl
  have hcm := p0.1
  have hrd := p0.rd
  have hq0 := p0.2.1.1
  refine yT.kI (pc' := 1) rfl rfl (by decide) (fun x101 e102 => ?_)
  refine yT.p (pc' := 2) (lv' := xst1 _ 2 (.int x101)) rfl rfl (fun _ _ _ _ => rfl) ?_
  refine yT.kI (pc' := 3) rfl rfl (by decide) (fun x103 e104 => ?_)
  refine yT.p (pc' := 4) (lv' := xst1 _ 3 (.int x103)) rfl rfl (fun _ _ _ _ => rfl) ?_
  have L105 : ∀ (n117 : Nat) (lv106 : xLv) (h107 : List xE) (x109 : Int32) (r111 : Nat) (x110 : Int32), HT ks σ ρ h107 → x110.toInt = (r111 : Int) → xget lv106 0 = some (.ref (60 + 1)) → xget lv106 1 = some (.int x1) → xget lv106 2 = some (.int x109) → xget lv106 3 = some (.int x110) → 24 - (r111) < n117 → yT 0 [] rX9_readersOf (2) 0 4 lv106 [] h107 (SQI ks σ ρ (fun r => True)) := by
    intro n117
    induction n117 with
    | zero => intro lv106 h107 x109 r111 x110 hT108 e112 g113 g114 g115 g116 m118; exact absurd m118 (Nat.not_lt_zero _)
    | succ n117 ih119 =>
      intro lv106 h107 x109 r111 x110 hT108 e112 g113 g114 g115 g116 m118
      refine yT.iln (pc' := 5) g116 rfl rfl ?_
      refine yT.aan (pc' := 6) g113 rfl rfl rfl ?_
      refine yT.cg8 (pc' := 9) rfl rfl hT108 (K.up rfl) rfl rfl (fun _ => ?_)
      refine yT.ks (pc' := 12) rfl rfl (by decide) (fun x120 e121 => ?_)
      refine yT.tia (6768) (pc' := 13) rfl rfl hT108 (K.up rfl) e121 (by omega) (fun x122 z124 => ?_)
      have e123 : x122.toInt = nw σ (6768) := congrArg Int32.toInt z124
      refine yT.if2 (t := 41) (pc' := 16) rfl rfl rfl (c2_ge e112 e123) (fun c125 => ?_) (fun c125 => ?_)
      · refine yT.iln (pc' := 42) g115 rfl rfl ?_
        exact yT.retI rfl rfl ⟨hT108, _, rfl, trivial⟩
      · refine yT.iln (pc' := 17) g115 rfl rfl ?_
        refine yT.aan (pc' := 18) g113 rfl rfl rfl ?_
        refine yT.iln (pc' := 19) g116 rfl rfl ?_
        refine yT.iln (pc' := 20) g114 rfl rfl ?_
        refine kSI (yT.cc (G2 := 0) (pc' := 23) rfl rfl rfl hT108 (K.up rfl : xnth ks 60 = some (19, 0)) xM_180 (r180 (x := r111) K hT108 e112 x1 (by omega) (hrd _ (by omega))) rfl (by omega) (by decide) rfl) (fun h126 x129 hT127 E128 => ?_)
        refine yT.if1 (t := 32) (pc' := 26) rfl rfl rfl (c1_eq rfl) (fun c130 => ?_) (fun c130 => ?_)
        · refine yT.kI (pc' := 33) rfl rfl (by decide) (fun x131 e132 => ?_)
          refine yT.or2 (pc' := 34) rfl rfl (fun x133 u134 => ?_)
          refine yT.p (pc' := 35) (lv' := xst1 _ 2 (.int x133)) rfl rfl (fun _ _ _ _ => rfl) ?_
          refine yT.inc2 (pc' := 38) (Z := (r111 : Int) + 1) (xg_ne g116 rfl) e112 rfl rfl rfl ⟨by decide, by omega⟩ (fun x135 e136 => ?_)
          refine yT.p (pc' := 4) rfl rfl (fun _ _ _ _ => rfl) ?_
          exact ih119 _ _ x133 (r111 + 1) x135 hT127 (by omega) (xg_ne (xg_ne g113 rfl) rfl) (xg_ne (xg_ne g114 rfl) rfl) (xg_ne xg_eq rfl) xg_eq (by omega)
        · refine yT.kI (pc' := 27) rfl rfl (by decide) (fun x137 e138 => ?_)
          refine yT.iln (pc' := 28) g116 rfl rfl ?_
          refine yT.fi (pc' := 29) rfl rfl (fun _ _ _ _ => rfl) (fun x139 => ?_)
          refine yT.p (pc' := 33) rfl rfl (fun _ _ _ _ => rfl) ?_
          refine yT.or2 (pc' := 34) rfl rfl (fun x140 u141 => ?_)
          refine yT.p (pc' := 35) (lv' := xst1 _ 2 (.int x140)) rfl rfl (fun _ _ _ _ => rfl) ?_
          refine yT.inc2 (pc' := 38) (Z := (r111 : Int) + 1) (xg_ne g116 rfl) e112 rfl rfl rfl ⟨by decide, by omega⟩ (fun x142 e143 => ?_)
          refine yT.p (pc' := 4) rfl rfl (fun _ _ _ _ => rfl) ?_
          exact ih119 _ _ x140 (r111 + 1) x142 hT127 (by omega) (xg_ne (xg_ne g113 rfl) rfl) (xg_ne (xg_ne g114 rfl) rfl) (xg_ne xg_eq rfl) xg_eq (by omega)
  exact L105 _ _ _ x101 (0) x103 hT (by omega) (xg_ne (xg_ne g0 rfl) rfl) (xg_ne (xg_ne g1 rfl) rfl) (xg_ne xg_eq rfl) xg_eq (Nat.lt_succ_self _)
-- rX9_owns
set_option maxRecDepth 100000 in
set_option maxHeartbeats 4000000 in
theorem r220 {ks : List cT} {B0 : Nat} (K : KE KS0 ks B0) {σ : sg} {ρ : Nat → xE} {h : List xE} (hT : HT ks σ ρ h) (x1 : Int32) (p0 : RO σ) : yM 220 (1) 0 [.ref (60 + 1), .int x1] h (SQI ks σ ρ (fun r => True)) := by
  refine yM.st xM_220 rfl rfl (fun lv g => ?_)
  have g0 := g 0 _ rfl
  have g1 := g 1 _ rfl
  have hcm := p0.1
  have hrd := p0.rd
  have hq0 := p0.2.1.1
  refine yT.kI (pc' := 1) rfl rfl (by decide) (fun x101 e102 => ?_)
  refine yT.p (pc' := 2) (lv' := xst1 _ 2 (.int x101)) rfl rfl (fun _ _ _ _ => rfl) ?_
  refine yT.kI (pc' := 3) rfl rfl (by decide) (fun x103 e104 => ?_)
  refine yT.p (pc' := 4) (lv' := xst1 _ 3 (.int x103)) rfl rfl (fun _ _ _ _ => rfl) ?_
  have L105 : ∀ (n117 : Nat) (lv106 : xLv) (h107 : List xE) (x109 : Int32) (k111 : Nat) (x110 : Int32), HT ks σ ρ h107 → x110.toInt = (k111 : Int) → xget lv106 0 = some (.ref (60 + 1)) → xget lv106 1 = some (.int x1) → xget lv106 2 = some (.int x109) → xget lv106 3 = some (.int x110) → 24 - (k111) < n117 → yT 0 [] rX9_owns (1) 0 4 lv106 [] h107 (SQI ks σ ρ (fun r => True)) := by
    intro n117
    induction n117 with
    | zero => intro lv106 h107 x109 k111 x110 hT108 e112 g113 g114 g115 g116 m118; exact absurd m118 (Nat.not_lt_zero _)
    | succ n117 ih119 =>
      intro lv106 h107 x109 k111 x110 hT108 e112 g113 g114 g115 g116 m118
      refine yT.iln (pc' := 5) g116 rfl rfl ?_
      refine yT.aan (pc' := 6) g113 rfl rfl rfl ?_
      refine yT.cg8 (pc' := 9) rfl rfl hT108 (K.up rfl) rfl rfl (fun _ => ?_)
      refine yT.ks (pc' := 12) rfl rfl (by decide) (fun x120 e121 => ?_)
      refine yT.tia (6768) (pc' := 13) rfl rfl hT108 (K.up rfl) e121 (by omega) (fun x122 z124 => ?_)
      have e123 : x122.toInt = nw σ (6768) := congrArg Int32.toInt z124
      refine yT.if2 (t := 51) (pc' := 16) rfl rfl rfl (c2_ge e112 e123) (fun c125 => ?_) (fun c125 => ?_)
      · refine yT.iln (pc' := 52) g115 rfl rfl ?_
        exact yT.retI rfl rfl ⟨hT108, _, rfl, trivial⟩
      · refine yT.iln (pc' := 17) g115 rfl rfl ?_
        refine yT.aan (pc' := 18) g113 rfl rfl rfl ?_
        refine yT.iln (pc' := 19) g116 rfl rfl ?_
        refine yT.kI (pc' := 20) rfl rfl (by decide) (fun x126 e127 => ?_)
        refine kSI (yT.cc (G2 := 0) (pc' := 23) rfl rfl rfl hT108 (K.up rfl : xnth ks 60 = some (19, 0)) xM_166 (r166 (c := k111) (w := 1) K hT108 e112 (by omega) (by omega)) rfl (by omega) (by decide) rfl) (fun h128 x131 hT129 E130 => ?_)
        refine yT.iln (pc' := 24) g114 rfl rfl ?_
        refine yT.if2 (t := 42) (pc' := 27) rfl rfl rfl (c2_ne E130 rfl) (fun c132 => ?_) (fun c132 => ?_)
        · refine yT.kI (pc' := 43) rfl rfl (by decide) (fun x133 e134 => ?_)
          refine yT.or2 (pc' := 44) rfl rfl (fun x135 u136 => ?_)
          refine yT.p (pc' := 45) (lv' := xst1 _ 2 (.int x135)) rfl rfl (fun _ _ _ _ => rfl) ?_
          refine yT.inc2 (pc' := 48) (Z := (k111 : Int) + 1) (xg_ne g116 rfl) e112 rfl rfl rfl ⟨by decide, by omega⟩ (fun x137 e138 => ?_)
          refine yT.p (pc' := 4) rfl rfl (fun _ _ _ _ => rfl) ?_
          exact ih119 _ _ x135 (k111 + 1) x137 hT129 (by omega) (xg_ne (xg_ne g113 rfl) rfl) (xg_ne (xg_ne g114 rfl) rfl) (xg_ne xg_eq rfl) xg_eq (by omega)
        · refine yT.aan (pc' := 28) g113 rfl rfl rfl ?_
          refine yT.iln (pc' := 29) g116 rfl rfl ?_
          refine yT.kI (pc' := 30) rfl rfl (by decide) (fun x139 e140 => ?_)
          refine kSI (yT.cc (G2 := 0) (pc' := 33) rfl rfl rfl hT129 (K.up rfl : xnth ks 60 = some (19, 0)) xM_166 (r166 (c := k111) (w := 2) K hT129 e112 (by omega) (by omega)) rfl (by omega) (by decide) rfl) (fun h141 x144 hT142 E143 => ?_)
          refine yT.if1 (t := 42) (pc' := 36) rfl rfl rfl (c1_ne E143) (fun c145 => ?_) (fun c145 => ?_)
          · refine yT.kI (pc' := 43) rfl rfl (by decide) (fun x146 e147 => ?_)
            refine yT.or2 (pc' := 44) rfl rfl (fun x148 u149 => ?_)
            refine yT.p (pc' := 45) (lv' := xst1 _ 2 (.int x148)) rfl rfl (fun _ _ _ _ => rfl) ?_
            refine yT.inc2 (pc' := 48) (Z := (k111 : Int) + 1) (xg_ne g116 rfl) e112 rfl rfl rfl ⟨by decide, by omega⟩ (fun x150 e151 => ?_)
            refine yT.p (pc' := 4) rfl rfl (fun _ _ _ _ => rfl) ?_
            exact ih119 _ _ x148 (k111 + 1) x150 hT142 (by omega) (xg_ne (xg_ne g113 rfl) rfl) (xg_ne (xg_ne g114 rfl) rfl) (xg_ne xg_eq rfl) xg_eq (by omega)
          · refine yT.kI (pc' := 37) rfl rfl (by decide) (fun x152 e153 => ?_)
            refine yT.iln (pc' := 38) g116 rfl rfl ?_
            refine yT.fi (pc' := 39) rfl rfl (fun _ _ _ _ => rfl) (fun x154 => ?_)
            refine yT.p (pc' := 43) rfl rfl (fun _ _ _ _ => rfl) ?_
            refine yT.or2 (pc' := 44) rfl rfl (fun x155 u156 => ?_)
            refine yT.p (pc' := 45) (lv' := xst1 _ 2 (.int x155)) rfl rfl (fun _ _ _ _ => rfl) ?_
            refine yT.inc2 (pc' := 48) (Z := (k111 : Int) + 1) (xg_ne g116 rfl) e112 rfl rfl rfl ⟨by decide, by omega⟩ (fun x157 e158 => ?_)
            refine yT.p (pc' := 4) rfl rfl (fun _ _ _ _ => rfl) ?_
            exact ih119 _ _ x155 (k111 + 1) x157 hT142 (by omega) (xg_ne (xg_ne g113 rfl) rfl) (xg_ne (xg_ne g114 rfl) rfl) (xg_ne xg_eq rfl) xg_eq (by omega)
  exact L105 _ _ _ x101 (0) x103 hT (by omega) (xg_ne (xg_ne g0 rfl) rfl) (xg_ne (xg_ne g1 rfl) rfl) (xg_ne xg_eq rfl) xg_eq (Nat.lt_succ_self _)
-- rX9_gone
set_option maxRecDepth 100000 in
set_option maxHeartbeats 4000000 in
theorem r268 {ks : List cT} {B0 : Nat} (K : KE KS0 ks B0) {σ : sg} {ρ : Nat → xE} {h : List xE} (hT : HT ks σ ρ h) (p0 : RO σ) : yM 268 (1) 0 [.ref (60 + 1)] h (SQI ks σ ρ (fun r => True)) := by
  refine yM.st xM_268 rfl rfl (fun lv g => ?_)
  have g0 := g 0 _ rfl
  have hcm := p0.1
  have hrd := p0.rd
  have hq0 := p0.2.1.1
  refine yT.kI (pc' := 1) rfl rfl (by decide) (fun x101 e102 => ?_)
  refine yT.p (pc' := 2) (lv' := xst1 _ 1 (.int x101)) rfl rfl (fun _ _ _ _ => rfl) ?_
  refine yT.kI (pc' := 3) rfl rfl (by decide) (fun x103 e104 => ?_)
  refine yT.p (pc' := 4) (lv' := xst1 _ 2 (.int x103)) rfl rfl (fun _ _ _ _ => rfl) ?_
  have L105 : ∀ (n116 : Nat) (lv106 : xLv) (h107 : List xE) (x109 : Int32) (c111 : Nat) (x110 : Int32), HT ks σ ρ h107 → x110.toInt = (c111 : Int) → xget lv106 0 = some (.ref (60 + 1)) → xget lv106 1 = some (.int x109) → xget lv106 2 = some (.int x110) → 24 - (c111) < n116 → yT 0 [] rX9_gone (1) 0 4 lv106 [] h107 (SQI ks σ ρ (fun r => True)) := by
    intro n116
    induction n116 with
    | zero => intro lv106 h107 x109 c111 x110 hT108 e112 g113 g114 g115 m117; exact absurd m117 (Nat.not_lt_zero _)
    | succ n116 ih118 =>
      intro lv106 h107 x109 c111 x110 hT108 e112 g113 g114 g115 m117
      refine yT.iln (pc' := 5) g115 rfl rfl ?_
      refine yT.aan (pc' := 6) g113 rfl rfl rfl ?_
      refine yT.cg8 (pc' := 9) rfl rfl hT108 (K.up rfl) rfl rfl (fun _ => ?_)
      refine yT.ks (pc' := 12) rfl rfl (by decide) (fun x119 e120 => ?_)
      refine yT.tia (6768) (pc' := 13) rfl rfl hT108 (K.up rfl) e120 (by omega) (fun x121 z123 => ?_)
      have e122 : x121.toInt = nw σ (6768) := congrArg Int32.toInt z123
      refine yT.if2 (t := 31) (pc' := 16) rfl rfl rfl (c2_ge e112 e122) (fun c124 => ?_) (fun c124 => ?_)
      · refine yT.iln (pc' := 32) g114 rfl rfl ?_
        exact yT.retI rfl rfl ⟨hT108, _, rfl, trivial⟩
      · refine yT.iln (pc' := 17) g114 rfl rfl ?_
        refine yT.aan (pc' := 18) g113 rfl rfl rfl ?_
        refine yT.iln (pc' := 19) g115 rfl rfl ?_
        refine yT.kI (pc' := 20) rfl rfl (by decide) (fun x125 e126 => ?_)
        refine kSI (yT.cc (G2 := 0) (pc' := 23) rfl rfl rfl hT108 (K.up rfl : xnth ks 60 = some (19, 0)) xM_166 (r166 (c := c111) (w := 2) K hT108 e112 (by omega) (by omega)) rfl (by omega) (by decide) rfl) (fun h127 x130 hT128 E129 => ?_)
        refine yT.fi (pc' := 24) rfl rfl (fun _ _ _ _ => rfl) (fun x131 => ?_)
        refine yT.p (pc' := 25) (lv' := xst1 _ 1 (.int x131)) rfl rfl (fun _ _ _ _ => rfl) ?_
        refine yT.inc2 (pc' := 28) (Z := (c111 : Int) + 1) (xg_ne g115 rfl) e112 rfl rfl rfl ⟨by decide, by omega⟩ (fun x132 e133 => ?_)
        refine yT.p (pc' := 4) rfl rfl (fun _ _ _ _ => rfl) ?_
        exact ih118 _ _ x131 (c111 + 1) x132 hT128 (by omega) (xg_ne (xg_ne g113 rfl) rfl) (xg_ne xg_eq rfl) xg_eq (by omega)
  exact L105 _ _ _ x101 (0) x103 hT (by omega) (xg_ne (xg_ne g0 rfl) rfl) (xg_ne xg_eq rfl) xg_eq (Nat.lt_succ_self _)
-- rX9_runsAll
set_option maxRecDepth 100000 in
set_option maxHeartbeats 4000000 in
theorem r269 {ks : List cT} {B0 : Nat} (K : KE KS0 ks B0) {σ : sg} {ρ : Nat → xE} {h : List xE} (hT : HT ks σ ρ h) (p0 : RO σ) : yM 269 (1) 0 [.ref (60 + 1)] h (SQI ks σ ρ (fun r => True)) := by
  refine yM.st xM_269 rfl rfl (fun lv g => ?_)
  have g0 := g 0 _ rfl
  have hcm := p0.1
  have hrd := p0.rd
  have hq0 := p0.2.1.1
  refine yT.kI (pc' := 1) rfl rfl (by decide) (fun x101 e102 => ?_)
  refine yT.p (pc' := 2) (lv' := xst1 _ 1 (.int x101)) rfl rfl (fun _ _ _ _ => rfl) ?_
  refine yT.kI (pc' := 3) rfl rfl (by decide) (fun x103 e104 => ?_)
  refine yT.p (pc' := 4) (lv' := xst1 _ 2 (.int x103)) rfl rfl (fun _ _ _ _ => rfl) ?_
  have L105 : ∀ (n116 : Nat) (lv106 : xLv) (h107 : List xE) (x109 : Int32) (c111 : Nat) (x110 : Int32), HT ks σ ρ h107 → x110.toInt = (c111 : Int) → xget lv106 0 = some (.ref (60 + 1)) → xget lv106 1 = some (.int x109) → xget lv106 2 = some (.int x110) → 24 - (c111) < n116 → yT 0 [] rX9_runsAll (1) 0 4 lv106 [] h107 (SQI ks σ ρ (fun r => True)) := by
    intro n116
    induction n116 with
    | zero => intro lv106 h107 x109 c111 x110 hT108 e112 g113 g114 g115 m117; exact absurd m117 (Nat.not_lt_zero _)
    | succ n116 ih118 =>
      intro lv106 h107 x109 c111 x110 hT108 e112 g113 g114 g115 m117
      refine yT.iln (pc' := 5) g115 rfl rfl ?_
      refine yT.aan (pc' := 6) g113 rfl rfl rfl ?_
      refine yT.cg8 (pc' := 9) rfl rfl hT108 (K.up rfl) rfl rfl (fun _ => ?_)
      refine yT.ks (pc' := 12) rfl rfl (by decide) (fun x119 e120 => ?_)
      refine yT.tia (6768) (pc' := 13) rfl rfl hT108 (K.up rfl) e120 (by omega) (fun x121 z123 => ?_)
      have e122 : x121.toInt = nw σ (6768) := congrArg Int32.toInt z123
      refine yT.if2 (t := 31) (pc' := 16) rfl rfl rfl (c2_ge e112 e122) (fun c124 => ?_) (fun c124 => ?_)
      · refine yT.iln (pc' := 32) g114 rfl rfl ?_
        exact yT.retI rfl rfl ⟨hT108, _, rfl, trivial⟩
      · refine yT.iln (pc' := 17) g114 rfl rfl ?_
        refine yT.aan (pc' := 18) g113 rfl rfl rfl ?_
        refine yT.iln (pc' := 19) g115 rfl rfl ?_
        refine yT.kI (pc' := 20) rfl rfl (by decide) (fun x125 e126 => ?_)
        refine kSI (yT.cc (G2 := 0) (pc' := 23) rfl rfl rfl hT108 (K.up rfl : xnth ks 60 = some (19, 0)) xM_166 (r166 (c := c111) (w := 5) K hT108 e112 (by omega) (by omega)) rfl (by omega) (by decide) rfl) (fun h127 x130 hT128 E129 => ?_)
        refine yT.fi (pc' := 24) rfl rfl (fun _ _ _ _ => rfl) (fun x131 => ?_)
        refine yT.p (pc' := 25) (lv' := xst1 _ 1 (.int x131)) rfl rfl (fun _ _ _ _ => rfl) ?_
        refine yT.inc2 (pc' := 28) (Z := (c111 : Int) + 1) (xg_ne g115 rfl) e112 rfl rfl rfl ⟨by decide, by omega⟩ (fun x132 e133 => ?_)
        refine yT.p (pc' := 4) rfl rfl (fun _ _ _ _ => rfl) ?_
        exact ih118 _ _ x131 (c111 + 1) x132 hT128 (by omega) (xg_ne (xg_ne g113 rfl) rfl) (xg_ne xg_eq rfl) xg_eq (by omega)
  exact L105 _ _ _ x101 (0) x103 hT (by omega) (xg_ne (xg_ne g0 rfl) rfl) (xg_ne xg_eq rfl) xg_eq (Nat.lt_succ_self _)
-- rX9_held
set_option maxRecDepth 100000 in
set_option maxHeartbeats 4000000 in
theorem r270 {ks : List cT} {B0 : Nat} (K : KE KS0 ks B0) {σ : sg} {ρ : Nat → xE} {h : List xE} (hT : HT ks σ ρ h) : yM 270 (0) 0 [.ref (60 + 1)] h (SQI ks σ ρ (fun r => True)) := by
  refine yM.st xM_270 rfl rfl (fun lv g => ?_)
  have g0 := g 0 _ rfl
  refine yT.kI (pc' := 1) rfl rfl (by decide) (fun x101 e102 => ?_)
  refine yT.p (pc' := 2) (lv' := xst1 _ 1 (.int x101)) rfl rfl (fun _ _ _ _ => rfl) ?_
  refine yT.kI (pc' := 3) rfl rfl (by decide) (fun x103 e104 => ?_)
  refine yT.p (pc' := 4) (lv' := xst1 _ 2 (.int x103)) rfl rfl (fun _ _ _ _ => rfl) ?_
  have L105 : ∀ (n116 : Nat) (lv106 : xLv) (h107 : List xE) (x109 : Int32) (s111 : Nat) (x110 : Int32), HT ks σ ρ h107 → x110.toInt = (s111 : Int) → xget lv106 0 = some (.ref (60 + 1)) → xget lv106 1 = some (.int x109) → xget lv106 2 = some (.int x110) → 8 - (s111) < n116 → yT 0 [] rX9_held (0) 0 4 lv106 [] h107 (SQI ks σ ρ (fun r => True)) := by
    intro n116
    induction n116 with
    | zero => intro lv106 h107 x109 s111 x110 hT108 e112 g113 g114 g115 m117; exact absurd m117 (Nat.not_lt_zero _)
    | succ n116 ih118 =>
      intro lv106 h107 x109 s111 x110 hT108 e112 g113 g114 g115 m117
      refine yT.iln (pc' := 5) g115 rfl rfl ?_
      refine yT.kb (pc' := 7) rfl rfl (by decide) (fun x119 e120 => ?_)
      refine yT.if2 (t := 33) (pc' := 10) rfl rfl rfl (c2_ge e112 e120) (fun c121 => ?_) (fun c121 => ?_)
      · refine yT.iln (pc' := 34) g114 rfl rfl ?_
        exact yT.retI rfl rfl ⟨hT108, _, rfl, trivial⟩
      · refine yT.iln (pc' := 11) g114 rfl rfl ?_
        refine yT.aan (pc' := 12) g113 rfl rfl rfl ?_
        refine yT.cg8 (pc' := 15) rfl rfl hT108 (K.up rfl) rfl rfl (fun _ => ?_)
        refine yT.iln (pc' := 16) g115 rfl rfl ?_
        refine yT.tia (s111) (pc' := 17) rfl rfl hT108 (K.up rfl) e112 (by omega) (fun x122 z124 => ?_)
        have e123 : x122.toInt = (σ 76 (s111)).toInt := congrArg Int32.toInt z124
        refine yT.if1 (t := 24) (pc' := 20) rfl rfl rfl (c1_lt e123) (fun c125 => ?_) (fun c125 => ?_)
        · refine yT.kI (pc' := 25) rfl rfl (by decide) (fun x126 e127 => ?_)
          refine yT.fi (pc' := 26) rfl rfl (fun _ _ _ _ => rfl) (fun x128 => ?_)
          refine yT.p (pc' := 27) (lv' := xst1 _ 1 (.int x128)) rfl rfl (fun _ _ _ _ => rfl) ?_
          refine yT.inc2 (pc' := 30) (Z := (s111 : Int) + 1) (xg_ne g115 rfl) e112 rfl rfl rfl ⟨by decide, by omega⟩ (fun x129 e130 => ?_)
          refine yT.p (pc' := 4) rfl rfl (fun _ _ _ _ => rfl) ?_
          exact ih118 _ _ x128 (s111 + 1) x129 hT108 (by omega) (xg_ne (xg_ne g113 rfl) rfl) (xg_ne xg_eq rfl) xg_eq (by omega)
        · refine yT.kI (pc' := 21) rfl rfl (by decide) (fun x131 e132 => ?_)
          refine yT.p (pc' := 25) rfl rfl (fun _ _ _ _ => rfl) ?_
          refine yT.fi (pc' := 26) rfl rfl (fun _ _ _ _ => rfl) (fun x133 => ?_)
          refine yT.p (pc' := 27) (lv' := xst1 _ 1 (.int x133)) rfl rfl (fun _ _ _ _ => rfl) ?_
          refine yT.inc2 (pc' := 30) (Z := (s111 : Int) + 1) (xg_ne g115 rfl) e112 rfl rfl rfl ⟨by decide, by omega⟩ (fun x134 e135 => ?_)
          refine yT.p (pc' := 4) rfl rfl (fun _ _ _ _ => rfl) ?_
          exact ih118 _ _ x133 (s111 + 1) x134 hT108 (by omega) (xg_ne (xg_ne g113 rfl) rfl) (xg_ne xg_eq rfl) xg_eq (by omega)
  exact L105 _ _ _ x101 (0) x103 hT (by omega) (xg_ne (xg_ne g0 rfl) rfl) (xg_ne xg_eq rfl) xg_eq (Nat.lt_succ_self _)
-- rX9_lowest
set_option maxRecDepth 100000 in
set_option maxHeartbeats 4000000 in
theorem r213 {ks : List cT} {B0 : Nat} (K : KE KS0 ks B0) {σ : sg} {ρ : Nat → xE} {h : List xE} (hT : HT ks σ ρ h) (x0 : Int32) (x1 : Int64) : yM 213 (0) 0 [.int x0, .long x1] h (SQL ks σ ρ (fun r => True)) := by
  refine yM.st xM_213 rfl rfl (fun lv g => ?_)
  have g0 := g 0 _ rfl
  have g1 := g 1 _ rfl
  refine yT.iln (pc' := 1) g0 rfl rfl ?_
  by_cases c101 : x0.toInt = 0
  · refine yT.tswK 0 (t := 32) rfl rfl (by omega) rfl rfl ?_
    refine yT.lln (pc' := 33) g1 rfl rfl ?_
    refine yT.fi (pc' := 34) rfl rfl (fun _ _ _ _ => rfl) (fun x102 => ?_)
    refine yT.fi (pc' := 35) rfl rfl (fun _ _ _ _ => rfl) (fun x103 => ?_)
    refine yT.i2l2 (pc' := 36) (X := x103.toInt) rfl rfl rfl (fun y104 e105 => ?_)
    exact yT.retL rfl rfl ⟨hT, _, rfl, trivial⟩
  · by_cases c106 : x0.toInt = 1
    · refine yT.tswK 1 (t := 37) rfl rfl (by omega) rfl rfl ?_
      refine yT.lln (pc' := 38) g1 rfl rfl ?_
      refine yT.fi (pc' := 39) rfl rfl (fun _ _ _ _ => rfl) (fun x107 => ?_)
      refine yT.fi (pc' := 40) rfl rfl (fun _ _ _ _ => rfl) (fun x108 => ?_)
      refine yT.i2l2 (pc' := 41) (X := x108.toInt) rfl rfl rfl (fun y109 e110 => ?_)
      exact yT.retL rfl rfl ⟨hT, _, rfl, trivial⟩
    · by_cases c111 : x0.toInt = 2
      · refine yT.tswK 2 (t := 42) rfl rfl (by omega) rfl rfl ?_
        refine yT.lln (pc' := 43) g1 rfl rfl ?_
        refine yT.fi (pc' := 44) rfl rfl (fun _ _ _ _ => rfl) (fun x112 => ?_)
        refine yT.i2l2 (pc' := 45) (X := x112.toInt) rfl rfl rfl (fun y113 e114 => ?_)
        exact yT.retL rfl rfl ⟨hT, _, rfl, trivial⟩
      · by_cases c115 : x0.toInt = 3
        · refine yT.tswK 3 (t := 46) rfl rfl (by omega) rfl rfl ?_
          refine yT.lln (pc' := 47) g1 rfl rfl ?_
          exact yT.retL rfl rfl ⟨hT, _, rfl, trivial⟩
        · refine yT.tswD (t := 48) rfl rfl rfl (by omega) ?_
          refine yT.lln (pc' := 49) g1 rfl rfl ?_
          refine yT.lc2 (pc' := 50) (X := 0) rfl rfl rfl (fun y116 e117 => ?_)
          refine yT.cmp2 (pc' := 51) (U := x1.toInt) (V := 0) rfl e117 rfl rfl (fun x118 c119 => ?_)
          refine yT.if1 (t := 58) (pc' := 54) rfl rfl rfl (c1_ne rfl) (fun c120 => ?_) (fun c120 => ?_)
          · refine yT.lc2 (pc' := 59) (X := 1) rfl rfl rfl (fun y121 e122 => ?_)
            exact yT.retL rfl rfl ⟨hT, _, rfl, trivial⟩
          · refine yT.lc2 (pc' := 55) (X := 0) rfl rfl rfl (fun y123 e124 => ?_)
            refine yT.p (pc' := 59) rfl rfl (fun _ _ _ _ => rfl) ?_
            exact yT.retL rfl rfl ⟨hT, _, rfl, trivial⟩
-- rX9_set
set_option maxRecDepth 100000 in
set_option maxHeartbeats 4000000 in
theorem r214 {ks : List cT} {B0 : Nat} (K : KE KS0 ks B0) {σ : sg} {ρ : Nat → xE} {h : List xE} (hT : HT ks σ ρ h) (x1 : Int32) (x2 : Int32) (x3 : Int64) (p0 : SH σ) : yM 214 (2) 0 [.ref (60 + 1), .int x1, .int x2, .long x3] h (SQI ks σ ρ (fun r => True)) := by
  refine yM.st xM_214 rfl rfl (fun lv g => ?_)
  have g0 := g 0 _ rfl
  have g1 := g 1 _ rfl
  have g2 := g 2 _ rfl
  have g3 := g 3 _ rfl
  refine yT.iln (pc' := 1) g1 rfl rfl ?_
  refine kSI (yT.cst (G2 := 0) (pc' := 4) rfl rfl xM_211 (r211  K hT x1) rfl (by omega) (by decide) rfl) (fun h101 x104 hT102 E103 => ?_)
  refine yT.if1 (t := 14) (pc' := 7) rfl rfl rfl (c1_ne rfl) (fun c105 => ?_) (fun c105 => ?_)
  · have hsh := p0 (x1.toInt).toNat (by omega)
    refine yT.aan (pc' := 15) g0 rfl rfl rfl ?_
    refine yT.cg8 (pc' := 18) rfl rfl hT102 (K.up rfl) rfl rfl (fun _ => ?_)
    refine yT.iln (pc' := 19) g1 rfl rfl ?_
    refine yT.tia ((x1.toInt).toNat) (pc' := 20) rfl rfl hT102 (K.up rfl) rfl (by omega) (fun x106 z108 => ?_)
    have e107 : x106.toInt = (σ 76 ((x1.toInt).toNat)).toInt := congrArg Int32.toInt z108
    refine yT.kI (pc' := 21) rfl rfl (by decide) (fun x109 e110 => ?_)
    refine yT.if2 (t := 31) (pc' := 24) rfl rfl rfl (c2_le e107 e110) (fun c111 => ?_) (fun c111 => ?_)
    · refine yT.aan (pc' := 32) g0 rfl rfl rfl ?_
      refine yT.cg8 (pc' := 35) rfl rfl hT102 (K.up rfl) rfl rfl (fun _ => ?_)
      refine yT.iln (pc' := 36) g1 rfl rfl ?_
      refine yT.tia ((x1.toInt).toNat) (pc' := 37) rfl rfl hT102 (K.up rfl) rfl (by omega) (fun x112 z114 => ?_)
      have e113 : x112.toInt = (σ 76 ((x1.toInt).toNat)).toInt := congrArg Int32.toInt z114
      refine yT.if1 (t := 47) (pc' := 40) rfl rfl rfl (c1_ge e113) (fun c115 => ?_) (fun c115 => ?_)
      · refine yT.iln (pc' := 48) g2 rfl rfl ?_
        refine yT.i2l2 (pc' := 49) (X := x2.toInt) rfl rfl rfl (fun y116 e117 => ?_)
        refine yT.lc2 (pc' := 50) (X := 0) rfl rfl rfl (fun y118 e119 => ?_)
        refine yT.aan (pc' := 51) g0 rfl rfl rfl ?_
        refine yT.cg8 (pc' := 54) rfl rfl hT102 (K.up rfl) rfl rfl (fun _ => ?_)
        refine yT.iln (pc' := 55) g1 rfl rfl ?_
        refine yT.tia ((x1.toInt).toNat) (pc' := 56) rfl rfl hT102 (K.up rfl) rfl (by omega) (fun x120 z122 => ?_)
        have e121 : x120.toInt = (σ 77 ((x1.toInt).toNat)).toInt := congrArg Int32.toInt z122
        refine yT.kI (pc' := 57) rfl rfl (by decide) (fun x123 e124 => ?_)
        refine yT.sb2 (pc' := 58) (Z := ((σ 77 ((x1.toInt).toNat)).toInt) - 1) e121 e124 rfl rfl (by omega) (fun x125 e126 => ?_)
        refine yT.i2l2 (pc' := 59) (X := ((σ 77 ((x1.toInt).toNat)).toInt) - 1) e126 rfl rfl (fun y127 e128 => ?_)
        refine kSI (yT.cst (G2 := 0) (pc' := 62) rfl rfl xM_163 (r163 (v := x2.toInt) (lo := 0) (hi := ((σ 77 ((x1.toInt).toNat)).toInt) - 1) K hT102 e117 e119 e128) rfl (by omega) (by decide) rfl) (fun h129 x132 hT130 E131 => ?_)
        refine yT.if1 (t := 72) (pc' := 65) rfl rfl rfl (c1_ne rfl) (fun c133 => ?_) (fun c133 => ?_)
        · refine yT.aan (pc' := 73) g0 rfl rfl rfl ?_
          refine yT.cg8 (pc' := 76) rfl rfl hT130 (K.up rfl) rfl rfl (fun _ => ?_)
          refine yT.kb (pc' := 78) rfl rfl (by decide) (fun x134 e135 => ?_)
          refine yT.iln (pc' := 79) g1 rfl rfl ?_
          refine yT.ml2 (pc' := 80) (Z := 40 * x1.toInt) e135 rfl rfl rfl (by omega) (fun x136 e137 => ?_)
          refine yT.iln (pc' := 81) g2 rfl rfl ?_
          refine yT.ad2 (pc' := 82) (Z := 40 * x1.toInt + x2.toInt) e137 rfl rfl rfl (by omega) (fun x138 e139 => ?_)
          refine yT.aan (pc' := 83) g0 rfl rfl rfl ?_
          refine yT.cg8 (pc' := 86) rfl rfl hT130 (K.up rfl) rfl rfl (fun _ => ?_)
          refine yT.iln (pc' := 87) g1 rfl rfl ?_
          refine yT.tia ((x1.toInt).toNat) (pc' := 88) rfl rfl hT130 (K.up rfl) rfl (by omega) (fun x140 z142 => ?_)
          have e141 : x140.toInt = (σ 76 ((x1.toInt).toNat)).toInt := congrArg Int32.toInt z142
          refine yT.lln (pc' := 89) g3 rfl rfl ?_
          refine kSL (yT.cst (G2 := 0) (pc' := 92) rfl rfl xM_213 (r213  K hT130 x140 x3) rfl (by omega) (by decide) rfl) (fun h143 x146 hT144 E145 => ?_)
          refine yT.cls (pc' := 93) rfl rfl hT144 (K.up rfl) e139 (by omega) (fun h147 hT148 _ => ?_)
          refine yT.kI (pc' := 94) rfl rfl (by decide) (fun x149 e150 => ?_)
          exact yT.retI rfl rfl ⟨hT148, _, rfl, trivial⟩
        · refine yT.aan (pc' := 66) g0 rfl rfl rfl ?_
          refine yT.kb (pc' := 68) rfl rfl (by decide) (fun x151 e152 => ?_)
          refine kSI (yT.cc (G2 := 0) (pc' := 71) rfl rfl rfl hT130 (K.up rfl : xnth ks 60 = some (19, 0)) xM_164 (r164  K hT130 x151 (by omega)) rfl (by omega) (by decide) rfl) (fun h153 x156 hT154 E155 => ?_)
          exact yT.retI rfl rfl ⟨hT154, _, rfl, trivial⟩
      · refine yT.aan (pc' := 41) g0 rfl rfl rfl ?_
        refine yT.kb (pc' := 43) rfl rfl (by decide) (fun x157 e158 => ?_)
        refine kSI (yT.cc (G2 := 0) (pc' := 46) rfl rfl rfl hT102 (K.up rfl : xnth ks 60 = some (19, 0)) xM_164 (r164  K hT102 x157 (by omega)) rfl (by omega) (by decide) rfl) (fun h159 x162 hT160 E161 => ?_)
        exact yT.retI rfl rfl ⟨hT160, _, rfl, trivial⟩
    · refine yT.aan (pc' := 25) g0 rfl rfl rfl ?_
      refine yT.kb (pc' := 27) rfl rfl (by decide) (fun x163 e164 => ?_)
      refine kSI (yT.cc (G2 := 0) (pc' := 30) rfl rfl rfl hT102 (K.up rfl : xnth ks 60 = some (19, 0)) xM_164 (r164  K hT102 x163 (by omega)) rfl (by omega) (by decide) rfl) (fun h165 x168 hT166 E167 => ?_)
      exact yT.retI rfl rfl ⟨hT166, _, rfl, trivial⟩
  · refine yT.aan (pc' := 8) g0 rfl rfl rfl ?_
    refine yT.kb (pc' := 10) rfl rfl (by decide) (fun x169 e170 => ?_)
    refine kSI (yT.cc (G2 := 0) (pc' := 13) rfl rfl rfl hT102 (K.up rfl : xnth ks 60 = some (19, 0)) xM_164 (r164  K hT102 x169 (by omega)) rfl (by omega) (by decide) rfl) (fun h171 x174 hT172 E173 => ?_)
    exact yT.retI rfl rfl ⟨hT172, _, rfl, trivial⟩
-- rX9_copy
set_option maxRecDepth 100000 in
set_option maxHeartbeats 4000000 in
theorem r215 {ks : List cT} {B0 : Nat} (K : KE KS0 ks B0) {σ : sg} {ρ : Nat → xE} {h : List xE} (hT : HT ks σ ρ h) (x1 : Int32) (x2 : Int32) (x3 : Int32) (x4 : Int32) (x5 : Int32) (p0 : SH σ) : yM 215 (2) 0 [.ref (60 + 1), .int x1, .int x2, .int x3, .int x4, .int x5] h (SQI ks σ ρ (fun r => True)) := by
  refine yM.st xM_215 rfl rfl (fun lv g => ?_)
  have g0 := g 0 _ rfl
  have g1 := g 1 _ rfl
  have g2 := g 2 _ rfl
  have g3 := g 3 _ rfl
  have g4 := g 4 _ rfl
  have g5 := g 5 _ rfl
  refine yT.iln (pc' := 1) g1 rfl rfl ?_
  refine kSI (yT.cst (G2 := 0) (pc' := 4) rfl rfl xM_211 (r211  K hT x1) rfl (by omega) (by decide) rfl) (fun h101 x104 hT102 E103 => ?_)
  refine yT.if1 (t := 14) (pc' := 7) rfl rfl rfl (c1_eq rfl) (fun c105 => ?_) (fun c105 => ?_)
  · refine yT.aan (pc' := 15) g0 rfl rfl rfl ?_
    refine yT.kb (pc' := 17) rfl rfl (by decide) (fun x106 e107 => ?_)
    refine kSI (yT.cc (G2 := 0) (pc' := 20) rfl rfl rfl hT102 (K.up rfl : xnth ks 60 = some (19, 0)) xM_164 (r164  K hT102 x106 (by omega)) rfl (by omega) (by decide) rfl) (fun h108 x111 hT109 E110 => ?_)
    exact yT.retI rfl rfl ⟨hT109, _, rfl, trivial⟩
  · refine yT.iln (pc' := 8) g2 rfl rfl ?_
    refine kSI (yT.cst (G2 := 0) (pc' := 11) rfl rfl xM_211 (r211  K hT102 x2) rfl (by omega) (by decide) rfl) (fun h112 x115 hT113 E114 => ?_)
    refine yT.if1 (t := 21) (pc' := 14) rfl rfl rfl (c1_ne rfl) (fun c116 => ?_) (fun c116 => ?_)
    · have hsh := p0 (x1.toInt).toNat (by omega)
      have hsh2 := p0 (x2.toInt).toNat (by omega)
      refine yT.aan (pc' := 22) g0 rfl rfl rfl ?_
      refine yT.cg8 (pc' := 25) rfl rfl hT113 (K.up rfl) rfl rfl (fun _ => ?_)
      refine yT.iln (pc' := 26) g1 rfl rfl ?_
      refine yT.tia ((x1.toInt).toNat) (pc' := 27) rfl rfl hT113 (K.up rfl) rfl (by omega) (fun x117 z119 => ?_)
      have e118 : x117.toInt = (σ 76 ((x1.toInt).toNat)).toInt := congrArg Int32.toInt z119
      refine yT.kI (pc' := 28) rfl rfl (by decide) (fun x120 e121 => ?_)
      refine yT.if2 (t := 74) (pc' := 31) rfl rfl rfl (c2_gt e118 e121) (fun c122 => ?_) (fun c122 => ?_)
      · refine yT.aan (pc' := 75) g0 rfl rfl rfl ?_
        refine yT.kb (pc' := 77) rfl rfl (by decide) (fun x123 e124 => ?_)
        refine kSI (yT.cc (G2 := 0) (pc' := 80) rfl rfl rfl hT113 (K.up rfl : xnth ks 60 = some (19, 0)) xM_164 (r164  K hT113 x123 (by omega)) rfl (by omega) (by decide) rfl) (fun h125 x128 hT126 E127 => ?_)
        exact yT.retI rfl rfl ⟨hT126, _, rfl, trivial⟩
      · refine yT.aan (pc' := 32) g0 rfl rfl rfl ?_
        refine yT.cg8 (pc' := 35) rfl rfl hT113 (K.up rfl) rfl rfl (fun _ => ?_)
        refine yT.iln (pc' := 36) g2 rfl rfl ?_
        refine yT.tia ((x2.toInt).toNat) (pc' := 37) rfl rfl hT113 (K.up rfl) rfl (by omega) (fun x129 z131 => ?_)
        have e130 : x129.toInt = (σ 76 ((x2.toInt).toNat)).toInt := congrArg Int32.toInt z131
        refine yT.kI (pc' := 38) rfl rfl (by decide) (fun x132 e133 => ?_)
        refine yT.if2 (t := 74) (pc' := 41) rfl rfl rfl (c2_gt e130 e133) (fun c134 => ?_) (fun c134 => ?_)
        · refine yT.aan (pc' := 75) g0 rfl rfl rfl ?_
          refine yT.kb (pc' := 77) rfl rfl (by decide) (fun x135 e136 => ?_)
          refine kSI (yT.cc (G2 := 0) (pc' := 80) rfl rfl rfl hT113 (K.up rfl : xnth ks 60 = some (19, 0)) xM_164 (r164  K hT113 x135 (by omega)) rfl (by omega) (by decide) rfl) (fun h137 x140 hT138 E139 => ?_)
          exact yT.retI rfl rfl ⟨hT138, _, rfl, trivial⟩
        · refine yT.aan (pc' := 42) g0 rfl rfl rfl ?_
          refine yT.cg8 (pc' := 45) rfl rfl hT113 (K.up rfl) rfl rfl (fun _ => ?_)
          refine yT.iln (pc' := 46) g1 rfl rfl ?_
          refine yT.tia ((x1.toInt).toNat) (pc' := 47) rfl rfl hT113 (K.up rfl) rfl (by omega) (fun x141 z143 => ?_)
          have e142 : x141.toInt = (σ 76 ((x1.toInt).toNat)).toInt := congrArg Int32.toInt z143
          refine yT.if1 (t := 81) (pc' := 50) rfl rfl rfl (c1_lt e142) (fun c144 => ?_) (fun c144 => ?_)
          · refine yT.aan (pc' := 82) g0 rfl rfl rfl ?_
            refine yT.cg8 (pc' := 85) rfl rfl hT113 (K.up rfl) rfl rfl (fun _ => ?_)
            refine yT.iln (pc' := 86) g1 rfl rfl ?_
            refine yT.tia ((x1.toInt).toNat) (pc' := 87) rfl rfl hT113 (K.up rfl) rfl (by omega) (fun x145 z147 => ?_)
            have e146 : x145.toInt = (σ 76 ((x1.toInt).toNat)).toInt := congrArg Int32.toInt z147
            refine yT.if1 (t := 99) (pc' := 90) rfl rfl rfl (c1_lt e146) (fun c148 => ?_) (fun c148 => ?_)
            · refine yT.aan (pc' := 100) g0 rfl rfl rfl ?_
              refine yT.kb (pc' := 102) rfl rfl (by decide) (fun x149 e150 => ?_)
              refine kSI (yT.cc (G2 := 0) (pc' := 105) rfl rfl rfl hT113 (K.up rfl : xnth ks 60 = some (19, 0)) xM_164 (r164  K hT113 x149 (by omega)) rfl (by omega) (by decide) rfl) (fun h151 x154 hT152 E153 => ?_)
              exact yT.retI rfl rfl ⟨hT152, _, rfl, trivial⟩
            · refine yT.aan (pc' := 91) g0 rfl rfl rfl ?_
              refine yT.cg8 (pc' := 94) rfl rfl hT113 (K.up rfl) rfl rfl (fun _ => ?_)
              refine yT.iln (pc' := 95) g2 rfl rfl ?_
              refine yT.tia ((x2.toInt).toNat) (pc' := 96) rfl rfl hT113 (K.up rfl) rfl (by omega) (fun x155 z157 => ?_)
              have e156 : x155.toInt = (σ 76 ((x2.toInt).toNat)).toInt := congrArg Int32.toInt z157
              refine yT.if1 (t := 106) (pc' := 99) rfl rfl rfl (c1_ge e156) (fun c158 => ?_) (fun c158 => ?_)
              · refine yT.iln (pc' := 107) g3 rfl rfl ?_
                refine yT.if1 (t := 168) (pc' := 110) rfl rfl rfl (c1_lt rfl) (fun c159 => ?_) (fun c159 => ?_)
                · refine yT.aan (pc' := 169) g0 rfl rfl rfl ?_
                  refine yT.kb (pc' := 171) rfl rfl (by decide) (fun x160 e161 => ?_)
                  refine kSI (yT.cc (G2 := 0) (pc' := 174) rfl rfl rfl hT113 (K.up rfl : xnth ks 60 = some (19, 0)) xM_164 (r164  K hT113 x160 (by omega)) rfl (by omega) (by decide) rfl) (fun h162 x165 hT163 E164 => ?_)
                  exact yT.retI rfl rfl ⟨hT163, _, rfl, trivial⟩
                · refine yT.il (pc' := 112) g4 rfl rfl ?_
                  refine yT.if1 (t := 168) (pc' := 115) rfl rfl rfl (c1_lt rfl) (fun c166 => ?_) (fun c166 => ?_)
                  · refine yT.aan (pc' := 169) g0 rfl rfl rfl ?_
                    refine yT.kb (pc' := 171) rfl rfl (by decide) (fun x167 e168 => ?_)
                    refine kSI (yT.cc (G2 := 0) (pc' := 174) rfl rfl rfl hT113 (K.up rfl : xnth ks 60 = some (19, 0)) xM_164 (r164  K hT113 x167 (by omega)) rfl (by omega) (by decide) rfl) (fun h169 x172 hT170 E171 => ?_)
                    exact yT.retI rfl rfl ⟨hT170, _, rfl, trivial⟩
                  · refine yT.il (pc' := 117) g5 rfl rfl ?_
                    refine yT.if1 (t := 168) (pc' := 120) rfl rfl rfl (c1_lt rfl) (fun c173 => ?_) (fun c173 => ?_)
                    · refine yT.aan (pc' := 169) g0 rfl rfl rfl ?_
                      refine yT.kb (pc' := 171) rfl rfl (by decide) (fun x174 e175 => ?_)
                      refine kSI (yT.cc (G2 := 0) (pc' := 174) rfl rfl rfl hT113 (K.up rfl : xnth ks 60 = some (19, 0)) xM_164 (r164  K hT113 x174 (by omega)) rfl (by omega) (by decide) rfl) (fun h176 x179 hT177 E178 => ?_)
                      exact yT.retI rfl rfl ⟨hT177, _, rfl, trivial⟩
                    · refine yT.iln (pc' := 121) g3 rfl rfl ?_
                      refine yT.aan (pc' := 122) g0 rfl rfl rfl ?_
                      refine yT.cg8 (pc' := 125) rfl rfl hT113 (K.up rfl) rfl rfl (fun _ => ?_)
                      refine yT.iln (pc' := 126) g1 rfl rfl ?_
                      refine yT.tia ((x1.toInt).toNat) (pc' := 127) rfl rfl hT113 (K.up rfl) rfl (by omega) (fun x180 z182 => ?_)
                      have e181 : x180.toInt = (σ 77 ((x1.toInt).toNat)).toInt := congrArg Int32.toInt z182
                      refine yT.if2 (t := 168) (pc' := 130) rfl rfl rfl (c2_gt rfl e181) (fun c183 => ?_) (fun c183 => ?_)
                      · refine yT.aan (pc' := 169) g0 rfl rfl rfl ?_
                        refine yT.kb (pc' := 171) rfl rfl (by decide) (fun x184 e185 => ?_)
                        refine kSI (yT.cc (G2 := 0) (pc' := 174) rfl rfl rfl hT113 (K.up rfl : xnth ks 60 = some (19, 0)) xM_164 (r164  K hT113 x184 (by omega)) rfl (by omega) (by decide) rfl) (fun h186 x189 hT187 E188 => ?_)
                        exact yT.retI rfl rfl ⟨hT187, _, rfl, trivial⟩
                      · refine yT.il (pc' := 132) g4 rfl rfl ?_
                        refine yT.aan (pc' := 133) g0 rfl rfl rfl ?_
                        refine yT.cg8 (pc' := 136) rfl rfl hT113 (K.up rfl) rfl rfl (fun _ => ?_)
                        refine yT.iln (pc' := 137) g2 rfl rfl ?_
                        refine yT.tia ((x2.toInt).toNat) (pc' := 138) rfl rfl hT113 (K.up rfl) rfl (by omega) (fun x190 z192 => ?_)
                        have e191 : x190.toInt = (σ 77 ((x2.toInt).toNat)).toInt := congrArg Int32.toInt z192
                        refine yT.if2 (t := 168) (pc' := 141) rfl rfl rfl (c2_gt rfl e191) (fun c193 => ?_) (fun c193 => ?_)
                        · refine yT.aan (pc' := 169) g0 rfl rfl rfl ?_
                          refine yT.kb (pc' := 171) rfl rfl (by decide) (fun x194 e195 => ?_)
                          refine kSI (yT.cc (G2 := 0) (pc' := 174) rfl rfl rfl hT113 (K.up rfl : xnth ks 60 = some (19, 0)) xM_164 (r164  K hT113 x194 (by omega)) rfl (by omega) (by decide) rfl) (fun h196 x199 hT197 E198 => ?_)
                          exact yT.retI rfl rfl ⟨hT197, _, rfl, trivial⟩
                        · refine yT.il (pc' := 143) g5 rfl rfl ?_
                          refine yT.aan (pc' := 144) g0 rfl rfl rfl ?_
                          refine yT.cg8 (pc' := 147) rfl rfl hT113 (K.up rfl) rfl rfl (fun _ => ?_)
                          refine yT.iln (pc' := 148) g1 rfl rfl ?_
                          refine yT.tia ((x1.toInt).toNat) (pc' := 149) rfl rfl hT113 (K.up rfl) rfl (by omega) (fun x200 z202 => ?_)
                          have e201 : x200.toInt = (σ 77 ((x1.toInt).toNat)).toInt := congrArg Int32.toInt z202
                          refine yT.iln (pc' := 150) g3 rfl rfl ?_
                          refine yT.sb2 (pc' := 151) (Z := ((σ 77 ((x1.toInt).toNat)).toInt) - x3.toInt) e201 rfl rfl rfl (by omega) (fun x203 e204 => ?_)
                          refine yT.if2 (t := 168) (pc' := 154) rfl rfl rfl (c2_gt rfl e204) (fun c205 => ?_) (fun c205 => ?_)
                          · refine yT.aan (pc' := 169) g0 rfl rfl rfl ?_
                            refine yT.kb (pc' := 171) rfl rfl (by decide) (fun x206 e207 => ?_)
                            refine kSI (yT.cc (G2 := 0) (pc' := 174) rfl rfl rfl hT113 (K.up rfl : xnth ks 60 = some (19, 0)) xM_164 (r164  K hT113 x206 (by omega)) rfl (by omega) (by decide) rfl) (fun h208 x211 hT209 E210 => ?_)
                            exact yT.retI rfl rfl ⟨hT209, _, rfl, trivial⟩
                          · refine yT.il (pc' := 156) g5 rfl rfl ?_
                            refine yT.aan (pc' := 157) g0 rfl rfl rfl ?_
                            refine yT.cg8 (pc' := 160) rfl rfl hT113 (K.up rfl) rfl rfl (fun _ => ?_)
                            refine yT.iln (pc' := 161) g2 rfl rfl ?_
                            refine yT.tia ((x2.toInt).toNat) (pc' := 162) rfl rfl hT113 (K.up rfl) rfl (by omega) (fun x212 z214 => ?_)
                            have e213 : x212.toInt = (σ 77 ((x2.toInt).toNat)).toInt := congrArg Int32.toInt z214
                            refine yT.il (pc' := 164) g4 rfl rfl ?_
                            refine yT.sb2 (pc' := 165) (Z := ((σ 77 ((x2.toInt).toNat)).toInt) - x4.toInt) e213 rfl rfl rfl (by omega) (fun x215 e216 => ?_)
                            refine yT.if2 (t := 175) (pc' := 168) rfl rfl rfl (c2_le rfl e216) (fun c217 => ?_) (fun c217 => ?_)
                            · refine yT.kI (pc' := 176) rfl rfl (by decide) (fun x218 e219 => ?_)
                              refine yT.p (pc' := 178) (lv' := xst1 _ 6 (.int x218)) rfl rfl (fun _ _ _ _ => rfl) ?_
                              have L220 : ∀ (n234 : Nat) (lv221 : xLv) (h222 : List xE) (k225 : Nat) (x224 : Int32), HT ks σ ρ h222 → x224.toInt = (k225 : Int) → xget lv221 0 = some (.ref (60 + 1)) → xget lv221 1 = some (.int x1) → xget lv221 2 = some (.int x2) → xget lv221 3 = some (.int x3) → xget lv221 4 = some (.int x4) → xget lv221 5 = some (.int x5) → xget lv221 6 = some (.int x224) → (x5.toInt - ((k225 : Int))).toNat < n234 → yT 0 [] rX9_copy (2) 0 178 lv221 [] h222 (SQI ks σ ρ (fun r => True)) := by
                                intro n234
                                induction n234 with
                                | zero => intro lv221 h222 k225 x224 hT223 e226 g227 g228 g229 g230 g231 g232 g233 m235; exact absurd m235 (Nat.not_lt_zero _)
                                | succ n234 ih236 =>
                                  intro lv221 h222 k225 x224 hT223 e226 g227 g228 g229 g230 g231 g232 g233 m235
                                  refine yT.il (pc' := 180) g233 rfl rfl ?_
                                  refine yT.il (pc' := 182) g232 rfl rfl ?_
                                  refine yT.if2 (t := 240) (pc' := 185) rfl rfl rfl (c2_ge e226 rfl) (fun c237 => ?_) (fun c237 => ?_)
                                  · refine yT.il (pc' := 242) g232 rfl rfl ?_
                                    exact yT.retI rfl rfl ⟨hT223, _, rfl, trivial⟩
                                  · refine yT.iln (pc' := 186) g230 rfl rfl ?_
                                    refine yT.il (pc' := 188) g231 rfl rfl ?_
                                    refine yT.if2 (t := 201) (pc' := 191) rfl rfl rfl (c2_ge rfl rfl) (fun c238 => ?_) (fun c238 => ?_)
                                    · refine yT.il (pc' := 203) g233 rfl rfl ?_
                                      refine yT.p (pc' := 205) (lv' := xst1 _ 7 (.int x224)) rfl rfl (fun _ _ _ _ => rfl) ?_
                                      refine yT.aan (pc' := 206) (xg_ne g227 rfl) rfl rfl rfl ?_
                                      refine yT.cg8 (pc' := 209) rfl rfl hT223 (K.up rfl) rfl rfl (fun _ => ?_)
                                      refine yT.kb (pc' := 211) rfl rfl (by decide) (fun x239 e240 => ?_)
                                      refine yT.iln (pc' := 212) (xg_ne g229 rfl) rfl rfl ?_
                                      refine yT.ml2 (pc' := 213) (Z := 40 * x2.toInt) e240 rfl rfl rfl (by omega) (fun x241 e242 => ?_)
                                      refine yT.il (pc' := 215) (xg_ne g231 rfl) rfl rfl ?_
                                      refine yT.ad2 (pc' := 216) (Z := 40 * x2.toInt + x4.toInt) e242 rfl rfl rfl (by omega) (fun x243 e244 => ?_)
                                      refine yT.il (pc' := 218) xg_eq rfl rfl ?_
                                      refine yT.ad2 (pc' := 219) (Z := 40 * x2.toInt + x4.toInt + (k225 : Int)) e244 e226 rfl rfl (by omega) (fun x245 e246 => ?_)
                                      refine yT.aan (pc' := 220) (xg_ne g227 rfl) rfl rfl rfl ?_
                                      refine yT.cg8 (pc' := 223) rfl rfl hT223 (K.up rfl) rfl rfl (fun _ => ?_)
                                      refine yT.kb (pc' := 225) rfl rfl (by decide) (fun x247 e248 => ?_)
                                      refine yT.iln (pc' := 226) (xg_ne g228 rfl) rfl rfl ?_
                                      refine yT.ml2 (pc' := 227) (Z := 40 * x1.toInt) e248 rfl rfl rfl (by omega) (fun x249 e250 => ?_)
                                      refine yT.iln (pc' := 228) (xg_ne g230 rfl) rfl rfl ?_
                                      refine yT.ad2 (pc' := 229) (Z := 40 * x1.toInt + x3.toInt) e250 rfl rfl rfl (by omega) (fun x251 e252 => ?_)
                                      refine yT.il (pc' := 231) xg_eq rfl rfl ?_
                                      refine yT.ad2 (pc' := 232) (Z := 40 * x1.toInt + x3.toInt + (k225 : Int)) e252 e226 rfl rfl (by omega) (fun x253 e254 => ?_)
                                      refine yT.cla (pc' := 233) rfl rfl hT223 (K.up rfl) e254 (by omega) (fun y255 => ?_)
                                      refine yT.cls (pc' := 234) rfl rfl hT223 (K.up rfl) e246 (by omega) (fun h256 hT257 _ => ?_)
                                      refine yT.inc2 (pc' := 237) (Z := (k225 : Int) + 1) (xg_ne g233 rfl) e226 rfl rfl rfl ⟨by decide, by omega⟩ (fun x258 e259 => ?_)
                                      refine yT.p (pc' := 178) rfl rfl (fun _ _ _ _ => rfl) ?_
                                      exact ih236 _ _ (k225 + 1) x258 hT257 (by omega) (xg_ne (xg_ne g227 rfl) rfl) (xg_ne (xg_ne g228 rfl) rfl) (xg_ne (xg_ne g229 rfl) rfl) (xg_ne (xg_ne g230 rfl) rfl) (xg_ne (xg_ne g231 rfl) rfl) (xg_ne (xg_ne g232 rfl) rfl) xg_eq (by omega)
                                    · refine yT.il (pc' := 193) g232 rfl rfl ?_
                                      refine yT.kI (pc' := 194) rfl rfl (by decide) (fun x260 e261 => ?_)
                                      refine yT.sb2 (pc' := 195) (Z := x5.toInt - 1) rfl e261 rfl rfl (by omega) (fun x262 e263 => ?_)
                                      refine yT.il (pc' := 197) g233 rfl rfl ?_
                                      refine yT.sb2 (pc' := 198) (Z := x5.toInt - (k225 : Int) - 1) e263 e226 rfl rfl (by omega) (fun x264 e265 => ?_)
                                      refine yT.p (pc' := 203) rfl rfl (fun _ _ _ _ => rfl) ?_
                                      refine yT.p (pc' := 205) (lv' := xst1 _ 7 (.int x264)) rfl rfl (fun _ _ _ _ => rfl) ?_
                                      refine yT.aan (pc' := 206) (xg_ne g227 rfl) rfl rfl rfl ?_
                                      refine yT.cg8 (pc' := 209) rfl rfl hT223 (K.up rfl) rfl rfl (fun _ => ?_)
                                      refine yT.kb (pc' := 211) rfl rfl (by decide) (fun x266 e267 => ?_)
                                      refine yT.iln (pc' := 212) (xg_ne g229 rfl) rfl rfl ?_
                                      refine yT.ml2 (pc' := 213) (Z := 40 * x2.toInt) e267 rfl rfl rfl (by omega) (fun x268 e269 => ?_)
                                      refine yT.il (pc' := 215) (xg_ne g231 rfl) rfl rfl ?_
                                      refine yT.ad2 (pc' := 216) (Z := 40 * x2.toInt + x4.toInt) e269 rfl rfl rfl (by omega) (fun x270 e271 => ?_)
                                      refine yT.il (pc' := 218) xg_eq rfl rfl ?_
                                      refine yT.ad2 (pc' := 219) (Z := 40 * x2.toInt + x4.toInt + x5.toInt - (k225 : Int) - 1) e271 e265 rfl rfl (by omega) (fun x272 e273 => ?_)
                                      refine yT.aan (pc' := 220) (xg_ne g227 rfl) rfl rfl rfl ?_
                                      refine yT.cg8 (pc' := 223) rfl rfl hT223 (K.up rfl) rfl rfl (fun _ => ?_)
                                      refine yT.kb (pc' := 225) rfl rfl (by decide) (fun x274 e275 => ?_)
                                      refine yT.iln (pc' := 226) (xg_ne g228 rfl) rfl rfl ?_
                                      refine yT.ml2 (pc' := 227) (Z := 40 * x1.toInt) e275 rfl rfl rfl (by omega) (fun x276 e277 => ?_)
                                      refine yT.iln (pc' := 228) (xg_ne g230 rfl) rfl rfl ?_
                                      refine yT.ad2 (pc' := 229) (Z := 40 * x1.toInt + x3.toInt) e277 rfl rfl rfl (by omega) (fun x278 e279 => ?_)
                                      refine yT.il (pc' := 231) xg_eq rfl rfl ?_
                                      refine yT.ad2 (pc' := 232) (Z := 40 * x1.toInt + x3.toInt + x5.toInt - (k225 : Int) - 1) e279 e265 rfl rfl (by omega) (fun x280 e281 => ?_)
                                      refine yT.cla (pc' := 233) rfl rfl hT223 (K.up rfl) e281 (by omega) (fun y282 => ?_)
                                      refine yT.cls (pc' := 234) rfl rfl hT223 (K.up rfl) e273 (by omega) (fun h283 hT284 _ => ?_)
                                      refine yT.inc2 (pc' := 237) (Z := (k225 : Int) + 1) (xg_ne g233 rfl) e226 rfl rfl rfl ⟨by decide, by omega⟩ (fun x285 e286 => ?_)
                                      refine yT.p (pc' := 178) rfl rfl (fun _ _ _ _ => rfl) ?_
                                      exact ih236 _ _ (k225 + 1) x285 hT284 (by omega) (xg_ne (xg_ne g227 rfl) rfl) (xg_ne (xg_ne g228 rfl) rfl) (xg_ne (xg_ne g229 rfl) rfl) (xg_ne (xg_ne g230 rfl) rfl) (xg_ne (xg_ne g231 rfl) rfl) (xg_ne (xg_ne g232 rfl) rfl) xg_eq (by omega)
                              exact L220 _ _ _ (0) x218 hT113 (by omega) (xg_ne g0 rfl) (xg_ne g1 rfl) (xg_ne g2 rfl) (xg_ne g3 rfl) (xg_ne g4 rfl) (xg_ne g5 rfl) xg_eq (Nat.lt_succ_self _)
                            · refine yT.aan (pc' := 169) g0 rfl rfl rfl ?_
                              refine yT.kb (pc' := 171) rfl rfl (by decide) (fun x287 e288 => ?_)
                              refine kSI (yT.cc (G2 := 0) (pc' := 174) rfl rfl rfl hT113 (K.up rfl : xnth ks 60 = some (19, 0)) xM_164 (r164  K hT113 x287 (by omega)) rfl (by omega) (by decide) rfl) (fun h289 x292 hT290 E291 => ?_)
                              exact yT.retI rfl rfl ⟨hT290, _, rfl, trivial⟩
              · refine yT.aan (pc' := 100) g0 rfl rfl rfl ?_
                refine yT.kb (pc' := 102) rfl rfl (by decide) (fun x293 e294 => ?_)
                refine kSI (yT.cc (G2 := 0) (pc' := 105) rfl rfl rfl hT113 (K.up rfl : xnth ks 60 = some (19, 0)) xM_164 (r164  K hT113 x293 (by omega)) rfl (by omega) (by decide) rfl) (fun h295 x298 hT296 E297 => ?_)
                exact yT.retI rfl rfl ⟨hT296, _, rfl, trivial⟩
          · refine yT.aan (pc' := 51) g0 rfl rfl rfl ?_
            refine yT.cg8 (pc' := 54) rfl rfl hT113 (K.up rfl) rfl rfl (fun _ => ?_)
            refine yT.iln (pc' := 55) g2 rfl rfl ?_
            refine yT.tia ((x2.toInt).toNat) (pc' := 56) rfl rfl hT113 (K.up rfl) rfl (by omega) (fun x299 z301 => ?_)
            have e300 : x299.toInt = (σ 76 ((x2.toInt).toNat)).toInt := congrArg Int32.toInt z301
            refine yT.if1 (t := 81) (pc' := 59) rfl rfl rfl (c1_lt e300) (fun c302 => ?_) (fun c302 => ?_)
            · refine yT.aan (pc' := 82) g0 rfl rfl rfl ?_
              refine yT.cg8 (pc' := 85) rfl rfl hT113 (K.up rfl) rfl rfl (fun _ => ?_)
              refine yT.iln (pc' := 86) g1 rfl rfl ?_
              refine yT.tia ((x1.toInt).toNat) (pc' := 87) rfl rfl hT113 (K.up rfl) rfl (by omega) (fun x303 z305 => ?_)
              have e304 : x303.toInt = (σ 76 ((x1.toInt).toNat)).toInt := congrArg Int32.toInt z305
              refine yT.if1 (t := 99) (pc' := 90) rfl rfl rfl (c1_lt e304) (fun c306 => ?_) (fun c306 => ?_)
              · refine yT.aan (pc' := 100) g0 rfl rfl rfl ?_
                refine yT.kb (pc' := 102) rfl rfl (by decide) (fun x307 e308 => ?_)
                refine kSI (yT.cc (G2 := 0) (pc' := 105) rfl rfl rfl hT113 (K.up rfl : xnth ks 60 = some (19, 0)) xM_164 (r164  K hT113 x307 (by omega)) rfl (by omega) (by decide) rfl) (fun h309 x312 hT310 E311 => ?_)
                exact yT.retI rfl rfl ⟨hT310, _, rfl, trivial⟩
              · refine yT.aan (pc' := 91) g0 rfl rfl rfl ?_
                refine yT.cg8 (pc' := 94) rfl rfl hT113 (K.up rfl) rfl rfl (fun _ => ?_)
                refine yT.iln (pc' := 95) g2 rfl rfl ?_
                refine yT.tia ((x2.toInt).toNat) (pc' := 96) rfl rfl hT113 (K.up rfl) rfl (by omega) (fun x313 z315 => ?_)
                have e314 : x313.toInt = (σ 76 ((x2.toInt).toNat)).toInt := congrArg Int32.toInt z315
                refine yT.if1 (t := 106) (pc' := 99) rfl rfl rfl (c1_ge e314) (fun c316 => ?_) (fun c316 => ?_)
                · refine yT.iln (pc' := 107) g3 rfl rfl ?_
                  refine yT.if1 (t := 168) (pc' := 110) rfl rfl rfl (c1_lt rfl) (fun c317 => ?_) (fun c317 => ?_)
                  · refine yT.aan (pc' := 169) g0 rfl rfl rfl ?_
                    refine yT.kb (pc' := 171) rfl rfl (by decide) (fun x318 e319 => ?_)
                    refine kSI (yT.cc (G2 := 0) (pc' := 174) rfl rfl rfl hT113 (K.up rfl : xnth ks 60 = some (19, 0)) xM_164 (r164  K hT113 x318 (by omega)) rfl (by omega) (by decide) rfl) (fun h320 x323 hT321 E322 => ?_)
                    exact yT.retI rfl rfl ⟨hT321, _, rfl, trivial⟩
                  · refine yT.il (pc' := 112) g4 rfl rfl ?_
                    refine yT.if1 (t := 168) (pc' := 115) rfl rfl rfl (c1_lt rfl) (fun c324 => ?_) (fun c324 => ?_)
                    · refine yT.aan (pc' := 169) g0 rfl rfl rfl ?_
                      refine yT.kb (pc' := 171) rfl rfl (by decide) (fun x325 e326 => ?_)
                      refine kSI (yT.cc (G2 := 0) (pc' := 174) rfl rfl rfl hT113 (K.up rfl : xnth ks 60 = some (19, 0)) xM_164 (r164  K hT113 x325 (by omega)) rfl (by omega) (by decide) rfl) (fun h327 x330 hT328 E329 => ?_)
                      exact yT.retI rfl rfl ⟨hT328, _, rfl, trivial⟩
                    · refine yT.il (pc' := 117) g5 rfl rfl ?_
                      refine yT.if1 (t := 168) (pc' := 120) rfl rfl rfl (c1_lt rfl) (fun c331 => ?_) (fun c331 => ?_)
                      · refine yT.aan (pc' := 169) g0 rfl rfl rfl ?_
                        refine yT.kb (pc' := 171) rfl rfl (by decide) (fun x332 e333 => ?_)
                        refine kSI (yT.cc (G2 := 0) (pc' := 174) rfl rfl rfl hT113 (K.up rfl : xnth ks 60 = some (19, 0)) xM_164 (r164  K hT113 x332 (by omega)) rfl (by omega) (by decide) rfl) (fun h334 x337 hT335 E336 => ?_)
                        exact yT.retI rfl rfl ⟨hT335, _, rfl, trivial⟩
                      · refine yT.iln (pc' := 121) g3 rfl rfl ?_
                        refine yT.aan (pc' := 122) g0 rfl rfl rfl ?_
                        refine yT.cg8 (pc' := 125) rfl rfl hT113 (K.up rfl) rfl rfl (fun _ => ?_)
                        refine yT.iln (pc' := 126) g1 rfl rfl ?_
                        refine yT.tia ((x1.toInt).toNat) (pc' := 127) rfl rfl hT113 (K.up rfl) rfl (by omega) (fun x338 z340 => ?_)
                        have e339 : x338.toInt = (σ 77 ((x1.toInt).toNat)).toInt := congrArg Int32.toInt z340
                        refine yT.if2 (t := 168) (pc' := 130) rfl rfl rfl (c2_gt rfl e339) (fun c341 => ?_) (fun c341 => ?_)
                        · refine yT.aan (pc' := 169) g0 rfl rfl rfl ?_
                          refine yT.kb (pc' := 171) rfl rfl (by decide) (fun x342 e343 => ?_)
                          refine kSI (yT.cc (G2 := 0) (pc' := 174) rfl rfl rfl hT113 (K.up rfl : xnth ks 60 = some (19, 0)) xM_164 (r164  K hT113 x342 (by omega)) rfl (by omega) (by decide) rfl) (fun h344 x347 hT345 E346 => ?_)
                          exact yT.retI rfl rfl ⟨hT345, _, rfl, trivial⟩
                        · refine yT.il (pc' := 132) g4 rfl rfl ?_
                          refine yT.aan (pc' := 133) g0 rfl rfl rfl ?_
                          refine yT.cg8 (pc' := 136) rfl rfl hT113 (K.up rfl) rfl rfl (fun _ => ?_)
                          refine yT.iln (pc' := 137) g2 rfl rfl ?_
                          refine yT.tia ((x2.toInt).toNat) (pc' := 138) rfl rfl hT113 (K.up rfl) rfl (by omega) (fun x348 z350 => ?_)
                          have e349 : x348.toInt = (σ 77 ((x2.toInt).toNat)).toInt := congrArg Int32.toInt z350
                          refine yT.if2 (t := 168) (pc' := 141) rfl rfl rfl (c2_gt rfl e349) (fun c351 => ?_) (fun c351 => ?_)
                          · refine yT.aan (pc' := 169) g0 rfl rfl rfl ?_
                            refine yT.kb (pc' := 171) rfl rfl (by decide) (fun x352 e353 => ?_)
                            refine kSI (yT.cc (G2 := 0) (pc' := 174) rfl rfl rfl hT113 (K.up rfl : xnth ks 60 = some (19, 0)) xM_164 (r164  K hT113 x352 (by omega)) rfl (by omega) (by decide) rfl) (fun h354 x357 hT355 E356 => ?_)
                            exact yT.retI rfl rfl ⟨hT355, _, rfl, trivial⟩
                          · refine yT.il (pc' := 143) g5 rfl rfl ?_
                            refine yT.aan (pc' := 144) g0 rfl rfl rfl ?_
                            refine yT.cg8 (pc' := 147) rfl rfl hT113 (K.up rfl) rfl rfl (fun _ => ?_)
                            refine yT.iln (pc' := 148) g1 rfl rfl ?_
                            refine yT.tia ((x1.toInt).toNat) (pc' := 149) rfl rfl hT113 (K.up rfl) rfl (by omega) (fun x358 z360 => ?_)
                            have e359 : x358.toInt = (σ 77 ((x1.toInt).toNat)).toInt := congrArg Int32.toInt z360
                            refine yT.iln (pc' := 150) g3 rfl rfl ?_
                            refine yT.sb2 (pc' := 151) (Z := ((σ 77 ((x1.toInt).toNat)).toInt) - x3.toInt) e359 rfl rfl rfl (by omega) (fun x361 e362 => ?_)
                            refine yT.if2 (t := 168) (pc' := 154) rfl rfl rfl (c2_gt rfl e362) (fun c363 => ?_) (fun c363 => ?_)
                            · refine yT.aan (pc' := 169) g0 rfl rfl rfl ?_
                              refine yT.kb (pc' := 171) rfl rfl (by decide) (fun x364 e365 => ?_)
                              refine kSI (yT.cc (G2 := 0) (pc' := 174) rfl rfl rfl hT113 (K.up rfl : xnth ks 60 = some (19, 0)) xM_164 (r164  K hT113 x364 (by omega)) rfl (by omega) (by decide) rfl) (fun h366 x369 hT367 E368 => ?_)
                              exact yT.retI rfl rfl ⟨hT367, _, rfl, trivial⟩
                            · refine yT.il (pc' := 156) g5 rfl rfl ?_
                              refine yT.aan (pc' := 157) g0 rfl rfl rfl ?_
                              refine yT.cg8 (pc' := 160) rfl rfl hT113 (K.up rfl) rfl rfl (fun _ => ?_)
                              refine yT.iln (pc' := 161) g2 rfl rfl ?_
                              refine yT.tia ((x2.toInt).toNat) (pc' := 162) rfl rfl hT113 (K.up rfl) rfl (by omega) (fun x370 z372 => ?_)
                              have e371 : x370.toInt = (σ 77 ((x2.toInt).toNat)).toInt := congrArg Int32.toInt z372
                              refine yT.il (pc' := 164) g4 rfl rfl ?_
                              refine yT.sb2 (pc' := 165) (Z := ((σ 77 ((x2.toInt).toNat)).toInt) - x4.toInt) e371 rfl rfl rfl (by omega) (fun x373 e374 => ?_)
                              refine yT.if2 (t := 175) (pc' := 168) rfl rfl rfl (c2_le rfl e374) (fun c375 => ?_) (fun c375 => ?_)
                              · refine yT.kI (pc' := 176) rfl rfl (by decide) (fun x376 e377 => ?_)
                                refine yT.p (pc' := 178) (lv' := xst1 _ 6 (.int x376)) rfl rfl (fun _ _ _ _ => rfl) ?_
                                have L378 : ∀ (n392 : Nat) (lv379 : xLv) (h380 : List xE) (k383 : Nat) (x382 : Int32), HT ks σ ρ h380 → x382.toInt = (k383 : Int) → xget lv379 0 = some (.ref (60 + 1)) → xget lv379 1 = some (.int x1) → xget lv379 2 = some (.int x2) → xget lv379 3 = some (.int x3) → xget lv379 4 = some (.int x4) → xget lv379 5 = some (.int x5) → xget lv379 6 = some (.int x382) → (x5.toInt - ((k383 : Int))).toNat < n392 → yT 0 [] rX9_copy (2) 0 178 lv379 [] h380 (SQI ks σ ρ (fun r => True)) := by
                                  intro n392
                                  induction n392 with
                                  | zero => intro lv379 h380 k383 x382 hT381 e384 g385 g386 g387 g388 g389 g390 g391 m393; exact absurd m393 (Nat.not_lt_zero _)
                                  | succ n392 ih394 =>
                                    intro lv379 h380 k383 x382 hT381 e384 g385 g386 g387 g388 g389 g390 g391 m393
                                    refine yT.il (pc' := 180) g391 rfl rfl ?_
                                    refine yT.il (pc' := 182) g390 rfl rfl ?_
                                    refine yT.if2 (t := 240) (pc' := 185) rfl rfl rfl (c2_ge e384 rfl) (fun c395 => ?_) (fun c395 => ?_)
                                    · refine yT.il (pc' := 242) g390 rfl rfl ?_
                                      exact yT.retI rfl rfl ⟨hT381, _, rfl, trivial⟩
                                    · refine yT.iln (pc' := 186) g388 rfl rfl ?_
                                      refine yT.il (pc' := 188) g389 rfl rfl ?_
                                      refine yT.if2 (t := 201) (pc' := 191) rfl rfl rfl (c2_ge rfl rfl) (fun c396 => ?_) (fun c396 => ?_)
                                      · refine yT.il (pc' := 203) g391 rfl rfl ?_
                                        refine yT.p (pc' := 205) (lv' := xst1 _ 7 (.int x382)) rfl rfl (fun _ _ _ _ => rfl) ?_
                                        refine yT.aan (pc' := 206) (xg_ne g385 rfl) rfl rfl rfl ?_
                                        refine yT.cg8 (pc' := 209) rfl rfl hT381 (K.up rfl) rfl rfl (fun _ => ?_)
                                        refine yT.kb (pc' := 211) rfl rfl (by decide) (fun x397 e398 => ?_)
                                        refine yT.iln (pc' := 212) (xg_ne g387 rfl) rfl rfl ?_
                                        refine yT.ml2 (pc' := 213) (Z := 40 * x2.toInt) e398 rfl rfl rfl (by omega) (fun x399 e400 => ?_)
                                        refine yT.il (pc' := 215) (xg_ne g389 rfl) rfl rfl ?_
                                        refine yT.ad2 (pc' := 216) (Z := 40 * x2.toInt + x4.toInt) e400 rfl rfl rfl (by omega) (fun x401 e402 => ?_)
                                        refine yT.il (pc' := 218) xg_eq rfl rfl ?_
                                        refine yT.ad2 (pc' := 219) (Z := 40 * x2.toInt + x4.toInt + (k383 : Int)) e402 e384 rfl rfl (by omega) (fun x403 e404 => ?_)
                                        refine yT.aan (pc' := 220) (xg_ne g385 rfl) rfl rfl rfl ?_
                                        refine yT.cg8 (pc' := 223) rfl rfl hT381 (K.up rfl) rfl rfl (fun _ => ?_)
                                        refine yT.kb (pc' := 225) rfl rfl (by decide) (fun x405 e406 => ?_)
                                        refine yT.iln (pc' := 226) (xg_ne g386 rfl) rfl rfl ?_
                                        refine yT.ml2 (pc' := 227) (Z := 40 * x1.toInt) e406 rfl rfl rfl (by omega) (fun x407 e408 => ?_)
                                        refine yT.iln (pc' := 228) (xg_ne g388 rfl) rfl rfl ?_
                                        refine yT.ad2 (pc' := 229) (Z := 40 * x1.toInt + x3.toInt) e408 rfl rfl rfl (by omega) (fun x409 e410 => ?_)
                                        refine yT.il (pc' := 231) xg_eq rfl rfl ?_
                                        refine yT.ad2 (pc' := 232) (Z := 40 * x1.toInt + x3.toInt + (k383 : Int)) e410 e384 rfl rfl (by omega) (fun x411 e412 => ?_)
                                        refine yT.cla (pc' := 233) rfl rfl hT381 (K.up rfl) e412 (by omega) (fun y413 => ?_)
                                        refine yT.cls (pc' := 234) rfl rfl hT381 (K.up rfl) e404 (by omega) (fun h414 hT415 _ => ?_)
                                        refine yT.inc2 (pc' := 237) (Z := (k383 : Int) + 1) (xg_ne g391 rfl) e384 rfl rfl rfl ⟨by decide, by omega⟩ (fun x416 e417 => ?_)
                                        refine yT.p (pc' := 178) rfl rfl (fun _ _ _ _ => rfl) ?_
                                        exact ih394 _ _ (k383 + 1) x416 hT415 (by omega) (xg_ne (xg_ne g385 rfl) rfl) (xg_ne (xg_ne g386 rfl) rfl) (xg_ne (xg_ne g387 rfl) rfl) (xg_ne (xg_ne g388 rfl) rfl) (xg_ne (xg_ne g389 rfl) rfl) (xg_ne (xg_ne g390 rfl) rfl) xg_eq (by omega)
                                      · refine yT.il (pc' := 193) g390 rfl rfl ?_
                                        refine yT.kI (pc' := 194) rfl rfl (by decide) (fun x418 e419 => ?_)
                                        refine yT.sb2 (pc' := 195) (Z := x5.toInt - 1) rfl e419 rfl rfl (by omega) (fun x420 e421 => ?_)
                                        refine yT.il (pc' := 197) g391 rfl rfl ?_
                                        refine yT.sb2 (pc' := 198) (Z := x5.toInt - (k383 : Int) - 1) e421 e384 rfl rfl (by omega) (fun x422 e423 => ?_)
                                        refine yT.p (pc' := 203) rfl rfl (fun _ _ _ _ => rfl) ?_
                                        refine yT.p (pc' := 205) (lv' := xst1 _ 7 (.int x422)) rfl rfl (fun _ _ _ _ => rfl) ?_
                                        refine yT.aan (pc' := 206) (xg_ne g385 rfl) rfl rfl rfl ?_
                                        refine yT.cg8 (pc' := 209) rfl rfl hT381 (K.up rfl) rfl rfl (fun _ => ?_)
                                        refine yT.kb (pc' := 211) rfl rfl (by decide) (fun x424 e425 => ?_)
                                        refine yT.iln (pc' := 212) (xg_ne g387 rfl) rfl rfl ?_
                                        refine yT.ml2 (pc' := 213) (Z := 40 * x2.toInt) e425 rfl rfl rfl (by omega) (fun x426 e427 => ?_)
                                        refine yT.il (pc' := 215) (xg_ne g389 rfl) rfl rfl ?_
                                        refine yT.ad2 (pc' := 216) (Z := 40 * x2.toInt + x4.toInt) e427 rfl rfl rfl (by omega) (fun x428 e429 => ?_)
                                        refine yT.il (pc' := 218) xg_eq rfl rfl ?_
                                        refine yT.ad2 (pc' := 219) (Z := 40 * x2.toInt + x4.toInt + x5.toInt - (k383 : Int) - 1) e429 e423 rfl rfl (by omega) (fun x430 e431 => ?_)
                                        refine yT.aan (pc' := 220) (xg_ne g385 rfl) rfl rfl rfl ?_
                                        refine yT.cg8 (pc' := 223) rfl rfl hT381 (K.up rfl) rfl rfl (fun _ => ?_)
                                        refine yT.kb (pc' := 225) rfl rfl (by decide) (fun x432 e433 => ?_)
                                        refine yT.iln (pc' := 226) (xg_ne g386 rfl) rfl rfl ?_
                                        refine yT.ml2 (pc' := 227) (Z := 40 * x1.toInt) e433 rfl rfl rfl (by omega) (fun x434 e435 => ?_)
                                        refine yT.iln (pc' := 228) (xg_ne g388 rfl) rfl rfl ?_
                                        refine yT.ad2 (pc' := 229) (Z := 40 * x1.toInt + x3.toInt) e435 rfl rfl rfl (by omega) (fun x436 e437 => ?_)
                                        refine yT.il (pc' := 231) xg_eq rfl rfl ?_
                                        refine yT.ad2 (pc' := 232) (Z := 40 * x1.toInt + x3.toInt + x5.toInt - (k383 : Int) - 1) e437 e423 rfl rfl (by omega) (fun x438 e439 => ?_)
                                        refine yT.cla (pc' := 233) rfl rfl hT381 (K.up rfl) e439 (by omega) (fun y440 => ?_)
                                        refine yT.cls (pc' := 234) rfl rfl hT381 (K.up rfl) e431 (by omega) (fun h441 hT442 _ => ?_)
                                        refine yT.inc2 (pc' := 237) (Z := (k383 : Int) + 1) (xg_ne g391 rfl) e384 rfl rfl rfl ⟨by decide, by omega⟩ (fun x443 e444 => ?_)
                                        refine yT.p (pc' := 178) rfl rfl (fun _ _ _ _ => rfl) ?_
                                        exact ih394 _ _ (k383 + 1) x443 hT442 (by omega) (xg_ne (xg_ne g385 rfl) rfl) (xg_ne (xg_ne g386 rfl) rfl) (xg_ne (xg_ne g387 rfl) rfl) (xg_ne (xg_ne g388 rfl) rfl) (xg_ne (xg_ne g389 rfl) rfl) (xg_ne (xg_ne g390 rfl) rfl) xg_eq (by omega)
                                exact L378 _ _ _ (0) x376 hT113 (by omega) (xg_ne g0 rfl) (xg_ne g1 rfl) (xg_ne g2 rfl) (xg_ne g3 rfl) (xg_ne g4 rfl) (xg_ne g5 rfl) xg_eq (Nat.lt_succ_self _)
                              · refine yT.aan (pc' := 169) g0 rfl rfl rfl ?_
                                refine yT.kb (pc' := 171) rfl rfl (by decide) (fun x445 e446 => ?_)
                                refine kSI (yT.cc (G2 := 0) (pc' := 174) rfl rfl rfl hT113 (K.up rfl : xnth ks 60 = some (19, 0)) xM_164 (r164  K hT113 x445 (by omega)) rfl (by omega) (by decide) rfl) (fun h447 x450 hT448 E449 => ?_)
                                exact yT.retI rfl rfl ⟨hT448, _, rfl, trivial⟩
                · refine yT.aan (pc' := 100) g0 rfl rfl rfl ?_
                  refine yT.kb (pc' := 102) rfl rfl (by decide) (fun x451 e452 => ?_)
                  refine kSI (yT.cc (G2 := 0) (pc' := 105) rfl rfl rfl hT113 (K.up rfl : xnth ks 60 = some (19, 0)) xM_164 (r164  K hT113 x451 (by omega)) rfl (by omega) (by decide) rfl) (fun h453 x456 hT454 E455 => ?_)
                  exact yT.retI rfl rfl ⟨hT454, _, rfl, trivial⟩
            · refine yT.aan (pc' := 60) g0 rfl rfl rfl ?_
              refine yT.cg8 (pc' := 63) rfl rfl hT113 (K.up rfl) rfl rfl (fun _ => ?_)
              refine yT.iln (pc' := 64) g1 rfl rfl ?_
              refine yT.tia ((x1.toInt).toNat) (pc' := 65) rfl rfl hT113 (K.up rfl) rfl (by omega) (fun x457 z459 => ?_)
              have e458 : x457.toInt = (σ 76 ((x1.toInt).toNat)).toInt := congrArg Int32.toInt z459
              refine yT.aan (pc' := 66) g0 rfl rfl rfl ?_
              refine yT.cg8 (pc' := 69) rfl rfl hT113 (K.up rfl) rfl rfl (fun _ => ?_)
              refine yT.iln (pc' := 70) g2 rfl rfl ?_
              refine yT.tia ((x2.toInt).toNat) (pc' := 71) rfl rfl hT113 (K.up rfl) rfl (by omega) (fun x460 z462 => ?_)
              have e461 : x460.toInt = (σ 76 ((x2.toInt).toNat)).toInt := congrArg Int32.toInt z462
              refine yT.if2 (t := 81) (pc' := 74) rfl rfl rfl (c2_eq e458 e461) (fun c463 => ?_) (fun c463 => ?_)
              · refine yT.aan (pc' := 82) g0 rfl rfl rfl ?_
                refine yT.cg8 (pc' := 85) rfl rfl hT113 (K.up rfl) rfl rfl (fun _ => ?_)
                refine yT.iln (pc' := 86) g1 rfl rfl ?_
                refine yT.tia ((x1.toInt).toNat) (pc' := 87) rfl rfl hT113 (K.up rfl) rfl (by omega) (fun x464 z466 => ?_)
                have e465 : x464.toInt = (σ 76 ((x1.toInt).toNat)).toInt := congrArg Int32.toInt z466
                refine yT.if1 (t := 99) (pc' := 90) rfl rfl rfl (c1_lt e465) (fun c467 => ?_) (fun c467 => ?_)
                · refine yT.aan (pc' := 100) g0 rfl rfl rfl ?_
                  refine yT.kb (pc' := 102) rfl rfl (by decide) (fun x468 e469 => ?_)
                  refine kSI (yT.cc (G2 := 0) (pc' := 105) rfl rfl rfl hT113 (K.up rfl : xnth ks 60 = some (19, 0)) xM_164 (r164  K hT113 x468 (by omega)) rfl (by omega) (by decide) rfl) (fun h470 x473 hT471 E472 => ?_)
                  exact yT.retI rfl rfl ⟨hT471, _, rfl, trivial⟩
                · refine yT.aan (pc' := 91) g0 rfl rfl rfl ?_
                  refine yT.cg8 (pc' := 94) rfl rfl hT113 (K.up rfl) rfl rfl (fun _ => ?_)
                  refine yT.iln (pc' := 95) g2 rfl rfl ?_
                  refine yT.tia ((x2.toInt).toNat) (pc' := 96) rfl rfl hT113 (K.up rfl) rfl (by omega) (fun x474 z476 => ?_)
                  have e475 : x474.toInt = (σ 76 ((x2.toInt).toNat)).toInt := congrArg Int32.toInt z476
                  refine yT.if1 (t := 106) (pc' := 99) rfl rfl rfl (c1_ge e475) (fun c477 => ?_) (fun c477 => ?_)
                  · refine yT.iln (pc' := 107) g3 rfl rfl ?_
                    refine yT.if1 (t := 168) (pc' := 110) rfl rfl rfl (c1_lt rfl) (fun c478 => ?_) (fun c478 => ?_)
                    · refine yT.aan (pc' := 169) g0 rfl rfl rfl ?_
                      refine yT.kb (pc' := 171) rfl rfl (by decide) (fun x479 e480 => ?_)
                      refine kSI (yT.cc (G2 := 0) (pc' := 174) rfl rfl rfl hT113 (K.up rfl : xnth ks 60 = some (19, 0)) xM_164 (r164  K hT113 x479 (by omega)) rfl (by omega) (by decide) rfl) (fun h481 x484 hT482 E483 => ?_)
                      exact yT.retI rfl rfl ⟨hT482, _, rfl, trivial⟩
                    · refine yT.il (pc' := 112) g4 rfl rfl ?_
                      refine yT.if1 (t := 168) (pc' := 115) rfl rfl rfl (c1_lt rfl) (fun c485 => ?_) (fun c485 => ?_)
                      · refine yT.aan (pc' := 169) g0 rfl rfl rfl ?_
                        refine yT.kb (pc' := 171) rfl rfl (by decide) (fun x486 e487 => ?_)
                        refine kSI (yT.cc (G2 := 0) (pc' := 174) rfl rfl rfl hT113 (K.up rfl : xnth ks 60 = some (19, 0)) xM_164 (r164  K hT113 x486 (by omega)) rfl (by omega) (by decide) rfl) (fun h488 x491 hT489 E490 => ?_)
                        exact yT.retI rfl rfl ⟨hT489, _, rfl, trivial⟩
                      · refine yT.il (pc' := 117) g5 rfl rfl ?_
                        refine yT.if1 (t := 168) (pc' := 120) rfl rfl rfl (c1_lt rfl) (fun c492 => ?_) (fun c492 => ?_)
                        · refine yT.aan (pc' := 169) g0 rfl rfl rfl ?_
                          refine yT.kb (pc' := 171) rfl rfl (by decide) (fun x493 e494 => ?_)
                          refine kSI (yT.cc (G2 := 0) (pc' := 174) rfl rfl rfl hT113 (K.up rfl : xnth ks 60 = some (19, 0)) xM_164 (r164  K hT113 x493 (by omega)) rfl (by omega) (by decide) rfl) (fun h495 x498 hT496 E497 => ?_)
                          exact yT.retI rfl rfl ⟨hT496, _, rfl, trivial⟩
                        · refine yT.iln (pc' := 121) g3 rfl rfl ?_
                          refine yT.aan (pc' := 122) g0 rfl rfl rfl ?_
                          refine yT.cg8 (pc' := 125) rfl rfl hT113 (K.up rfl) rfl rfl (fun _ => ?_)
                          refine yT.iln (pc' := 126) g1 rfl rfl ?_
                          refine yT.tia ((x1.toInt).toNat) (pc' := 127) rfl rfl hT113 (K.up rfl) rfl (by omega) (fun x499 z501 => ?_)
                          have e500 : x499.toInt = (σ 77 ((x1.toInt).toNat)).toInt := congrArg Int32.toInt z501
                          refine yT.if2 (t := 168) (pc' := 130) rfl rfl rfl (c2_gt rfl e500) (fun c502 => ?_) (fun c502 => ?_)
                          · refine yT.aan (pc' := 169) g0 rfl rfl rfl ?_
                            refine yT.kb (pc' := 171) rfl rfl (by decide) (fun x503 e504 => ?_)
                            refine kSI (yT.cc (G2 := 0) (pc' := 174) rfl rfl rfl hT113 (K.up rfl : xnth ks 60 = some (19, 0)) xM_164 (r164  K hT113 x503 (by omega)) rfl (by omega) (by decide) rfl) (fun h505 x508 hT506 E507 => ?_)
                            exact yT.retI rfl rfl ⟨hT506, _, rfl, trivial⟩
                          · refine yT.il (pc' := 132) g4 rfl rfl ?_
                            refine yT.aan (pc' := 133) g0 rfl rfl rfl ?_
                            refine yT.cg8 (pc' := 136) rfl rfl hT113 (K.up rfl) rfl rfl (fun _ => ?_)
                            refine yT.iln (pc' := 137) g2 rfl rfl ?_
                            refine yT.tia ((x2.toInt).toNat) (pc' := 138) rfl rfl hT113 (K.up rfl) rfl (by omega) (fun x509 z511 => ?_)
                            have e510 : x509.toInt = (σ 77 ((x2.toInt).toNat)).toInt := congrArg Int32.toInt z511
                            refine yT.if2 (t := 168) (pc' := 141) rfl rfl rfl (c2_gt rfl e510) (fun c512 => ?_) (fun c512 => ?_)
                            · refine yT.aan (pc' := 169) g0 rfl rfl rfl ?_
                              refine yT.kb (pc' := 171) rfl rfl (by decide) (fun x513 e514 => ?_)
                              refine kSI (yT.cc (G2 := 0) (pc' := 174) rfl rfl rfl hT113 (K.up rfl : xnth ks 60 = some (19, 0)) xM_164 (r164  K hT113 x513 (by omega)) rfl (by omega) (by decide) rfl) (fun h515 x518 hT516 E517 => ?_)
                              exact yT.retI rfl rfl ⟨hT516, _, rfl, trivial⟩
                            · refine yT.il (pc' := 143) g5 rfl rfl ?_
                              refine yT.aan (pc' := 144) g0 rfl rfl rfl ?_
                              refine yT.cg8 (pc' := 147) rfl rfl hT113 (K.up rfl) rfl rfl (fun _ => ?_)
                              refine yT.iln (pc' := 148) g1 rfl rfl ?_
                              refine yT.tia ((x1.toInt).toNat) (pc' := 149) rfl rfl hT113 (K.up rfl) rfl (by omega) (fun x519 z521 => ?_)
                              have e520 : x519.toInt = (σ 77 ((x1.toInt).toNat)).toInt := congrArg Int32.toInt z521
                              refine yT.iln (pc' := 150) g3 rfl rfl ?_
                              refine yT.sb2 (pc' := 151) (Z := ((σ 77 ((x1.toInt).toNat)).toInt) - x3.toInt) e520 rfl rfl rfl (by omega) (fun x522 e523 => ?_)
                              refine yT.if2 (t := 168) (pc' := 154) rfl rfl rfl (c2_gt rfl e523) (fun c524 => ?_) (fun c524 => ?_)
                              · refine yT.aan (pc' := 169) g0 rfl rfl rfl ?_
                                refine yT.kb (pc' := 171) rfl rfl (by decide) (fun x525 e526 => ?_)
                                refine kSI (yT.cc (G2 := 0) (pc' := 174) rfl rfl rfl hT113 (K.up rfl : xnth ks 60 = some (19, 0)) xM_164 (r164  K hT113 x525 (by omega)) rfl (by omega) (by decide) rfl) (fun h527 x530 hT528 E529 => ?_)
                                exact yT.retI rfl rfl ⟨hT528, _, rfl, trivial⟩
                              · refine yT.il (pc' := 156) g5 rfl rfl ?_
                                refine yT.aan (pc' := 157) g0 rfl rfl rfl ?_
                                refine yT.cg8 (pc' := 160) rfl rfl hT113 (K.up rfl) rfl rfl (fun _ => ?_)
                                refine yT.iln (pc' := 161) g2 rfl rfl ?_
                                refine yT.tia ((x2.toInt).toNat) (pc' := 162) rfl rfl hT113 (K.up rfl) rfl (by omega) (fun x531 z533 => ?_)
                                have e532 : x531.toInt = (σ 77 ((x2.toInt).toNat)).toInt := congrArg Int32.toInt z533
                                refine yT.il (pc' := 164) g4 rfl rfl ?_
                                refine yT.sb2 (pc' := 165) (Z := ((σ 77 ((x2.toInt).toNat)).toInt) - x4.toInt) e532 rfl rfl rfl (by omega) (fun x534 e535 => ?_)
                                refine yT.if2 (t := 175) (pc' := 168) rfl rfl rfl (c2_le rfl e535) (fun c536 => ?_) (fun c536 => ?_)
                                · refine yT.kI (pc' := 176) rfl rfl (by decide) (fun x537 e538 => ?_)
                                  refine yT.p (pc' := 178) (lv' := xst1 _ 6 (.int x537)) rfl rfl (fun _ _ _ _ => rfl) ?_
                                  have L539 : ∀ (n553 : Nat) (lv540 : xLv) (h541 : List xE) (k544 : Nat) (x543 : Int32), HT ks σ ρ h541 → x543.toInt = (k544 : Int) → xget lv540 0 = some (.ref (60 + 1)) → xget lv540 1 = some (.int x1) → xget lv540 2 = some (.int x2) → xget lv540 3 = some (.int x3) → xget lv540 4 = some (.int x4) → xget lv540 5 = some (.int x5) → xget lv540 6 = some (.int x543) → (x5.toInt - ((k544 : Int))).toNat < n553 → yT 0 [] rX9_copy (2) 0 178 lv540 [] h541 (SQI ks σ ρ (fun r => True)) := by
                                    intro n553
                                    induction n553 with
                                    | zero => intro lv540 h541 k544 x543 hT542 e545 g546 g547 g548 g549 g550 g551 g552 m554; exact absurd m554 (Nat.not_lt_zero _)
                                    | succ n553 ih555 =>
                                      intro lv540 h541 k544 x543 hT542 e545 g546 g547 g548 g549 g550 g551 g552 m554
                                      refine yT.il (pc' := 180) g552 rfl rfl ?_
                                      refine yT.il (pc' := 182) g551 rfl rfl ?_
                                      refine yT.if2 (t := 240) (pc' := 185) rfl rfl rfl (c2_ge e545 rfl) (fun c556 => ?_) (fun c556 => ?_)
                                      · refine yT.il (pc' := 242) g551 rfl rfl ?_
                                        exact yT.retI rfl rfl ⟨hT542, _, rfl, trivial⟩
                                      · refine yT.iln (pc' := 186) g549 rfl rfl ?_
                                        refine yT.il (pc' := 188) g550 rfl rfl ?_
                                        refine yT.if2 (t := 201) (pc' := 191) rfl rfl rfl (c2_ge rfl rfl) (fun c557 => ?_) (fun c557 => ?_)
                                        · refine yT.il (pc' := 203) g552 rfl rfl ?_
                                          refine yT.p (pc' := 205) (lv' := xst1 _ 7 (.int x543)) rfl rfl (fun _ _ _ _ => rfl) ?_
                                          refine yT.aan (pc' := 206) (xg_ne g546 rfl) rfl rfl rfl ?_
                                          refine yT.cg8 (pc' := 209) rfl rfl hT542 (K.up rfl) rfl rfl (fun _ => ?_)
                                          refine yT.kb (pc' := 211) rfl rfl (by decide) (fun x558 e559 => ?_)
                                          refine yT.iln (pc' := 212) (xg_ne g548 rfl) rfl rfl ?_
                                          refine yT.ml2 (pc' := 213) (Z := 40 * x2.toInt) e559 rfl rfl rfl (by omega) (fun x560 e561 => ?_)
                                          refine yT.il (pc' := 215) (xg_ne g550 rfl) rfl rfl ?_
                                          refine yT.ad2 (pc' := 216) (Z := 40 * x2.toInt + x4.toInt) e561 rfl rfl rfl (by omega) (fun x562 e563 => ?_)
                                          refine yT.il (pc' := 218) xg_eq rfl rfl ?_
                                          refine yT.ad2 (pc' := 219) (Z := 40 * x2.toInt + x4.toInt + (k544 : Int)) e563 e545 rfl rfl (by omega) (fun x564 e565 => ?_)
                                          refine yT.aan (pc' := 220) (xg_ne g546 rfl) rfl rfl rfl ?_
                                          refine yT.cg8 (pc' := 223) rfl rfl hT542 (K.up rfl) rfl rfl (fun _ => ?_)
                                          refine yT.kb (pc' := 225) rfl rfl (by decide) (fun x566 e567 => ?_)
                                          refine yT.iln (pc' := 226) (xg_ne g547 rfl) rfl rfl ?_
                                          refine yT.ml2 (pc' := 227) (Z := 40 * x1.toInt) e567 rfl rfl rfl (by omega) (fun x568 e569 => ?_)
                                          refine yT.iln (pc' := 228) (xg_ne g549 rfl) rfl rfl ?_
                                          refine yT.ad2 (pc' := 229) (Z := 40 * x1.toInt + x3.toInt) e569 rfl rfl rfl (by omega) (fun x570 e571 => ?_)
                                          refine yT.il (pc' := 231) xg_eq rfl rfl ?_
                                          refine yT.ad2 (pc' := 232) (Z := 40 * x1.toInt + x3.toInt + (k544 : Int)) e571 e545 rfl rfl (by omega) (fun x572 e573 => ?_)
                                          refine yT.cla (pc' := 233) rfl rfl hT542 (K.up rfl) e573 (by omega) (fun y574 => ?_)
                                          refine yT.cls (pc' := 234) rfl rfl hT542 (K.up rfl) e565 (by omega) (fun h575 hT576 _ => ?_)
                                          refine yT.inc2 (pc' := 237) (Z := (k544 : Int) + 1) (xg_ne g552 rfl) e545 rfl rfl rfl ⟨by decide, by omega⟩ (fun x577 e578 => ?_)
                                          refine yT.p (pc' := 178) rfl rfl (fun _ _ _ _ => rfl) ?_
                                          exact ih555 _ _ (k544 + 1) x577 hT576 (by omega) (xg_ne (xg_ne g546 rfl) rfl) (xg_ne (xg_ne g547 rfl) rfl) (xg_ne (xg_ne g548 rfl) rfl) (xg_ne (xg_ne g549 rfl) rfl) (xg_ne (xg_ne g550 rfl) rfl) (xg_ne (xg_ne g551 rfl) rfl) xg_eq (by omega)
                                        · refine yT.il (pc' := 193) g551 rfl rfl ?_
                                          refine yT.kI (pc' := 194) rfl rfl (by decide) (fun x579 e580 => ?_)
                                          refine yT.sb2 (pc' := 195) (Z := x5.toInt - 1) rfl e580 rfl rfl (by omega) (fun x581 e582 => ?_)
                                          refine yT.il (pc' := 197) g552 rfl rfl ?_
                                          refine yT.sb2 (pc' := 198) (Z := x5.toInt - (k544 : Int) - 1) e582 e545 rfl rfl (by omega) (fun x583 e584 => ?_)
                                          refine yT.p (pc' := 203) rfl rfl (fun _ _ _ _ => rfl) ?_
                                          refine yT.p (pc' := 205) (lv' := xst1 _ 7 (.int x583)) rfl rfl (fun _ _ _ _ => rfl) ?_
                                          refine yT.aan (pc' := 206) (xg_ne g546 rfl) rfl rfl rfl ?_
                                          refine yT.cg8 (pc' := 209) rfl rfl hT542 (K.up rfl) rfl rfl (fun _ => ?_)
                                          refine yT.kb (pc' := 211) rfl rfl (by decide) (fun x585 e586 => ?_)
                                          refine yT.iln (pc' := 212) (xg_ne g548 rfl) rfl rfl ?_
                                          refine yT.ml2 (pc' := 213) (Z := 40 * x2.toInt) e586 rfl rfl rfl (by omega) (fun x587 e588 => ?_)
                                          refine yT.il (pc' := 215) (xg_ne g550 rfl) rfl rfl ?_
                                          refine yT.ad2 (pc' := 216) (Z := 40 * x2.toInt + x4.toInt) e588 rfl rfl rfl (by omega) (fun x589 e590 => ?_)
                                          refine yT.il (pc' := 218) xg_eq rfl rfl ?_
                                          refine yT.ad2 (pc' := 219) (Z := 40 * x2.toInt + x4.toInt + x5.toInt - (k544 : Int) - 1) e590 e584 rfl rfl (by omega) (fun x591 e592 => ?_)
                                          refine yT.aan (pc' := 220) (xg_ne g546 rfl) rfl rfl rfl ?_
                                          refine yT.cg8 (pc' := 223) rfl rfl hT542 (K.up rfl) rfl rfl (fun _ => ?_)
                                          refine yT.kb (pc' := 225) rfl rfl (by decide) (fun x593 e594 => ?_)
                                          refine yT.iln (pc' := 226) (xg_ne g547 rfl) rfl rfl ?_
                                          refine yT.ml2 (pc' := 227) (Z := 40 * x1.toInt) e594 rfl rfl rfl (by omega) (fun x595 e596 => ?_)
                                          refine yT.iln (pc' := 228) (xg_ne g549 rfl) rfl rfl ?_
                                          refine yT.ad2 (pc' := 229) (Z := 40 * x1.toInt + x3.toInt) e596 rfl rfl rfl (by omega) (fun x597 e598 => ?_)
                                          refine yT.il (pc' := 231) xg_eq rfl rfl ?_
                                          refine yT.ad2 (pc' := 232) (Z := 40 * x1.toInt + x3.toInt + x5.toInt - (k544 : Int) - 1) e598 e584 rfl rfl (by omega) (fun x599 e600 => ?_)
                                          refine yT.cla (pc' := 233) rfl rfl hT542 (K.up rfl) e600 (by omega) (fun y601 => ?_)
                                          refine yT.cls (pc' := 234) rfl rfl hT542 (K.up rfl) e592 (by omega) (fun h602 hT603 _ => ?_)
                                          refine yT.inc2 (pc' := 237) (Z := (k544 : Int) + 1) (xg_ne g552 rfl) e545 rfl rfl rfl ⟨by decide, by omega⟩ (fun x604 e605 => ?_)
                                          refine yT.p (pc' := 178) rfl rfl (fun _ _ _ _ => rfl) ?_
                                          exact ih555 _ _ (k544 + 1) x604 hT603 (by omega) (xg_ne (xg_ne g546 rfl) rfl) (xg_ne (xg_ne g547 rfl) rfl) (xg_ne (xg_ne g548 rfl) rfl) (xg_ne (xg_ne g549 rfl) rfl) (xg_ne (xg_ne g550 rfl) rfl) (xg_ne (xg_ne g551 rfl) rfl) xg_eq (by omega)
                                  exact L539 _ _ _ (0) x537 hT113 (by omega) (xg_ne g0 rfl) (xg_ne g1 rfl) (xg_ne g2 rfl) (xg_ne g3 rfl) (xg_ne g4 rfl) (xg_ne g5 rfl) xg_eq (Nat.lt_succ_self _)
                                · refine yT.aan (pc' := 169) g0 rfl rfl rfl ?_
                                  refine yT.kb (pc' := 171) rfl rfl (by decide) (fun x606 e607 => ?_)
                                  refine kSI (yT.cc (G2 := 0) (pc' := 174) rfl rfl rfl hT113 (K.up rfl : xnth ks 60 = some (19, 0)) xM_164 (r164  K hT113 x606 (by omega)) rfl (by omega) (by decide) rfl) (fun h608 x611 hT609 E610 => ?_)
                                  exact yT.retI rfl rfl ⟨hT609, _, rfl, trivial⟩
                  · refine yT.aan (pc' := 100) g0 rfl rfl rfl ?_
                    refine yT.kb (pc' := 102) rfl rfl (by decide) (fun x612 e613 => ?_)
                    refine kSI (yT.cc (G2 := 0) (pc' := 105) rfl rfl rfl hT113 (K.up rfl : xnth ks 60 = some (19, 0)) xM_164 (r164  K hT113 x612 (by omega)) rfl (by omega) (by decide) rfl) (fun h614 x617 hT615 E616 => ?_)
                    exact yT.retI rfl rfl ⟨hT615, _, rfl, trivial⟩
              · refine yT.aan (pc' := 75) g0 rfl rfl rfl ?_
                refine yT.kb (pc' := 77) rfl rfl (by decide) (fun x618 e619 => ?_)
                refine kSI (yT.cc (G2 := 0) (pc' := 80) rfl rfl rfl hT113 (K.up rfl : xnth ks 60 = some (19, 0)) xM_164 (r164  K hT113 x618 (by omega)) rfl (by omega) (by decide) rfl) (fun h620 x623 hT621 E622 => ?_)
                exact yT.retI rfl rfl ⟨hT621, _, rfl, trivial⟩
    · refine yT.aan (pc' := 15) g0 rfl rfl rfl ?_
      refine yT.kb (pc' := 17) rfl rfl (by decide) (fun x624 e625 => ?_)
      refine kSI (yT.cc (G2 := 0) (pc' := 20) rfl rfl rfl hT113 (K.up rfl : xnth ks 60 = some (19, 0)) xM_164 (r164  K hT113 x624 (by omega)) rfl (by omega) (by decide) rfl) (fun h626 x629 hT627 E628 => ?_)
      exact yT.retI rfl rfl ⟨hT627, _, rfl, trivial⟩
-- rX9_element
set_option maxRecDepth 100000 in
set_option maxHeartbeats 4000000 in
theorem r216 {ks : List cT} {B0 : Nat} (K : KE KS0 ks B0) {σ : sg} {ρ : Nat → xE} {h : List xE} (hT : HT ks σ ρ h) (x1 : Int32) (x2 : Int32) (p0 : SH σ) : yM 216 (2) 0 [.ref (60 + 1), .int x1, .int x2] h (SQL ks σ ρ (fun r => True)) := by
  refine yM.st xM_216 rfl rfl (fun lv g => ?_)
  have g0 := g 0 _ rfl
  have g1 := g 1 _ rfl
  have g2 := g 2 _ rfl
  refine yT.iln (pc' := 1) g1 rfl rfl ?_
  refine kSI (yT.cst (G2 := 0) (pc' := 4) rfl rfl xM_211 (r211  K hT x1) rfl (by omega) (by decide) rfl) (fun h101 x104 hT102 E103 => ?_)
  refine yT.if1 (t := 56) (pc' := 7) rfl rfl rfl (c1_eq rfl) (fun c105 => ?_) (fun c105 => ?_)
  · refine yT.lc2 (pc' := 57) (X := 0) rfl rfl rfl (fun y106 e107 => ?_)
    exact yT.retL rfl rfl ⟨hT102, _, rfl, trivial⟩
  · have hsh := p0 (x1.toInt).toNat (by omega)
    refine yT.aan (pc' := 8) g0 rfl rfl rfl ?_
    refine yT.cg8 (pc' := 11) rfl rfl hT102 (K.up rfl) rfl rfl (fun _ => ?_)
    refine yT.iln (pc' := 12) g1 rfl rfl ?_
    refine yT.tia ((x1.toInt).toNat) (pc' := 13) rfl rfl hT102 (K.up rfl) rfl (by omega) (fun x108 z110 => ?_)
    have e109 : x108.toInt = (σ 76 ((x1.toInt).toNat)).toInt := congrArg Int32.toInt z110
    refine yT.i2l2 (pc' := 14) (X := ((σ 76 ((x1.toInt).toNat)).toInt)) e109 rfl rfl (fun y111 e112 => ?_)
    refine yT.lc2 (pc' := 15) (X := 0) rfl rfl rfl (fun y113 e114 => ?_)
    refine yT.ld2 (pc' := 18) (X := 4) rfl rfl rfl (by decide) (fun y115 e116 => ?_)
    refine kSI (yT.cst (G2 := 0) (pc' := 21) rfl rfl xM_163 (r163 (v := ((σ 76 ((x1.toInt).toNat)).toInt)) (lo := 0) (hi := 4) K hT102 e112 e114 e116) rfl (by omega) (by decide) rfl) (fun h117 x120 hT118 E119 => ?_)
    refine yT.if1 (t := 56) (pc' := 24) rfl rfl rfl (c1_eq rfl) (fun c121 => ?_) (fun c121 => ?_)
    · refine yT.lc2 (pc' := 57) (X := 0) rfl rfl rfl (fun y122 e123 => ?_)
      exact yT.retL rfl rfl ⟨hT118, _, rfl, trivial⟩
    · refine yT.iln (pc' := 25) g2 rfl rfl ?_
      refine yT.i2l2 (pc' := 26) (X := x2.toInt) rfl rfl rfl (fun y124 e125 => ?_)
      refine yT.lc2 (pc' := 27) (X := 0) rfl rfl rfl (fun y126 e127 => ?_)
      refine yT.aan (pc' := 28) g0 rfl rfl rfl ?_
      refine yT.cg8 (pc' := 31) rfl rfl hT118 (K.up rfl) rfl rfl (fun _ => ?_)
      refine yT.iln (pc' := 32) g1 rfl rfl ?_
      refine yT.tia ((x1.toInt).toNat) (pc' := 33) rfl rfl hT118 (K.up rfl) rfl (by omega) (fun x128 z130 => ?_)
      have e129 : x128.toInt = (σ 77 ((x1.toInt).toNat)).toInt := congrArg Int32.toInt z130
      refine yT.kI (pc' := 34) rfl rfl (by decide) (fun x131 e132 => ?_)
      refine yT.sb2 (pc' := 35) (Z := ((σ 77 ((x1.toInt).toNat)).toInt) - 1) e129 e132 rfl rfl (by omega) (fun x133 e134 => ?_)
      refine yT.i2l2 (pc' := 36) (X := ((σ 77 ((x1.toInt).toNat)).toInt) - 1) e134 rfl rfl (fun y135 e136 => ?_)
      refine kSI (yT.cst (G2 := 0) (pc' := 39) rfl rfl xM_163 (r163 (v := x2.toInt) (lo := 0) (hi := ((σ 77 ((x1.toInt).toNat)).toInt) - 1) K hT118 e125 e127 e136) rfl (by omega) (by decide) rfl) (fun h137 x140 hT138 E139 => ?_)
      refine yT.if1 (t := 56) (pc' := 42) rfl rfl rfl (c1_eq rfl) (fun c141 => ?_) (fun c141 => ?_)
      · refine yT.lc2 (pc' := 57) (X := 0) rfl rfl rfl (fun y142 e143 => ?_)
        exact yT.retL rfl rfl ⟨hT138, _, rfl, trivial⟩
      · refine yT.aan (pc' := 43) g0 rfl rfl rfl ?_
        refine yT.cg8 (pc' := 46) rfl rfl hT138 (K.up rfl) rfl rfl (fun _ => ?_)
        refine yT.kb (pc' := 48) rfl rfl (by decide) (fun x144 e145 => ?_)
        refine yT.iln (pc' := 49) g1 rfl rfl ?_
        refine yT.ml2 (pc' := 50) (Z := 40 * x1.toInt) e145 rfl rfl rfl (by omega) (fun x146 e147 => ?_)
        refine yT.iln (pc' := 51) g2 rfl rfl ?_
        refine yT.ad2 (pc' := 52) (Z := 40 * x1.toInt + x2.toInt) e147 rfl rfl rfl (by omega) (fun x148 e149 => ?_)
        refine yT.cla (pc' := 53) rfl rfl hT138 (K.up rfl) e149 (by omega) (fun y150 => ?_)
        refine yT.p (pc' := 57) rfl rfl (fun _ _ _ _ => rfl) ?_
        exact yT.retL rfl rfl ⟨hT138, _, rfl, trivial⟩
-- rX9_holds
set_option maxRecDepth 100000 in
set_option maxHeartbeats 4000000 in
theorem r217 {ks : List cT} {B0 : Nat} (K : KE KS0 ks B0) {σ : sg} {ρ : Nat → xE} {h : List xE} (hT : HT ks σ ρ h) (x1 : Int32) : yM 217 (2) 0 [.ref (60 + 1), .int x1] h (SQI ks σ ρ (fun r => True)) := by
  refine yM.st xM_217 rfl rfl (fun lv g => ?_)
  have g0 := g 0 _ rfl
  have g1 := g 1 _ rfl
  refine yT.iln (pc' := 1) g1 rfl rfl ?_
  refine kSI (yT.cst (G2 := 0) (pc' := 4) rfl rfl xM_211 (r211  K hT x1) rfl (by omega) (by decide) rfl) (fun h101 x104 hT102 E103 => ?_)
  refine yT.if1 (t := 16) (pc' := 7) rfl rfl rfl (c1_eq rfl) (fun c105 => ?_) (fun c105 => ?_)
  · refine yT.kI (pc' := 17) rfl rfl (by decide) (fun x106 e107 => ?_)
    exact yT.retI rfl rfl ⟨hT102, _, rfl, trivial⟩
  · refine yT.aan (pc' := 8) g0 rfl rfl rfl ?_
    refine yT.cg8 (pc' := 11) rfl rfl hT102 (K.up rfl) rfl rfl (fun _ => ?_)
    refine yT.iln (pc' := 12) g1 rfl rfl ?_
    refine yT.tia ((x1.toInt).toNat) (pc' := 13) rfl rfl hT102 (K.up rfl) rfl (by omega) (fun x108 z110 => ?_)
    have e109 : x108.toInt = (σ 76 ((x1.toInt).toNat)).toInt := congrArg Int32.toInt z110
    refine yT.p (pc' := 17) rfl rfl (fun _ _ _ _ => rfl) ?_
    exact yT.retI rfl rfl ⟨hT102, _, rfl, trivial⟩
-- rX9_kept
set_option maxRecDepth 100000 in
set_option maxHeartbeats 4000000 in
theorem r242 {ks : List cT} {B0 : Nat} (K : KE KS0 ks B0) {σ : sg} {ρ : Nat → xE} {h : List xE} (hT : HT ks σ ρ h) (x1 : Int32) (p0 : RO σ) : yM 242 (3) 0 [.ref (60 + 1), .int x1] h (SQL ks σ ρ (fun r => True)) := by
  refine yM.st xM_242 rfl rfl (fun lv g => ?_)
  have g0 := g 0 _ rfl
  have g1 := g 1 _ rfl
  have hcm := p0.1
  have hrd := p0.rd
  have hq0 := p0.2.1.1
  refine yT.aan (pc' := 1) g0 rfl rfl rfl ?_
  refine yT.iln (pc' := 2) g1 rfl rfl ?_
  refine kSI (yT.cc (G2 := 0) (pc' := 5) rfl rfl rfl hT (K.up rfl : xnth ks 60 = some (19, 0)) xM_240 (r240  K hT x1 p0) rfl (by omega) (by decide) rfl) (fun h101 x104 hT102 E103 => ?_)
  refine yT.if1 (t := 17) (pc' := 8) rfl rfl rfl (c1_eq rfl) (fun c105 => ?_) (fun c105 => ?_)
  · refine yT.aan (pc' := 18) g0 rfl rfl rfl ?_
    refine yT.kb (pc' := 20) rfl rfl (by decide) (fun x106 e107 => ?_)
    refine kSL (yT.cc (G2 := 0) (pc' := 23) rfl rfl rfl hT102 (K.up rfl : xnth ks 60 = some (19, 0)) xM_165 (r165  K hT102 x106 (by omega)) rfl (by omega) (by decide) rfl) (fun h108 x111 hT109 E110 => ?_)
    exact yT.retL rfl rfl ⟨hT109, _, rfl, trivial⟩
  · refine yT.aan (pc' := 9) g0 rfl rfl rfl ?_
    refine yT.cg8 (pc' := 12) rfl rfl hT102 (K.up rfl) rfl rfl (fun _ => ?_)
    refine yT.iln (pc' := 13) g1 rfl rfl ?_
    refine yT.cla (pc' := 14) rfl rfl hT102 (K.up rfl) rfl (by omega) (fun y112 => ?_)
    refine yT.p (pc' := 23) rfl rfl (fun _ _ _ _ => rfl) ?_
    exact yT.retL rfl rfl ⟨hT102, _, rfl, trivial⟩
-- rX9_says
set_option maxRecDepth 100000 in
set_option maxHeartbeats 4000000 in
theorem r221 {ks : List cT} {B0 : Nat} (K : KE KS0 ks B0) {σ : sg} {ρ : Nat → xE} {h : List xE} (hT : HT ks σ ρ h) (x1 : Int32) (x2 : Int32) (p0 : SH σ) (p1 : RO σ) : yM 221 (2) 0 [.ref (60 + 1), .int x1, .int x2] h (SQI ks σ ρ (fun r => True)) := by
  refine yM.st xM_221 rfl rfl (fun lv g => ?_)
  have g0 := g 0 _ rfl
  have g1 := g 1 _ rfl
  have g2 := g 2 _ rfl
  refine yT.iln (pc' := 1) g1 rfl rfl ?_
  refine kSI (yT.cst (G2 := 0) (pc' := 4) rfl rfl xM_211 (r211  K hT x1) rfl (by omega) (by decide) rfl) (fun h101 x104 hT102 E103 => ?_)
  refine yT.if1 (t := 19) (pc' := 7) rfl rfl rfl (c1_eq rfl) (fun c105 => ?_) (fun c105 => ?_)
  · refine yT.aan (pc' := 20) g0 rfl rfl rfl ?_
    refine yT.kb (pc' := 22) rfl rfl (by decide) (fun x106 e107 => ?_)
    refine kSI (yT.cc (G2 := 0) (pc' := 25) rfl rfl rfl hT102 (K.up rfl : xnth ks 60 = some (19, 0)) xM_164 (r164  K hT102 x106 (by omega)) rfl (by omega) (by decide) rfl) (fun h108 x111 hT109 E110 => ?_)
    exact yT.retI rfl rfl ⟨hT109, _, rfl, trivial⟩
  · refine yT.iln (pc' := 8) g2 rfl rfl ?_
    refine yT.i2l2 (pc' := 9) (X := x2.toInt) rfl rfl rfl (fun y112 e113 => ?_)
    refine yT.lc2 (pc' := 10) (X := 0) rfl rfl rfl (fun y114 e115 => ?_)
    refine yT.ld2 (pc' := 13) (X := 5) rfl rfl rfl (by decide) (fun y116 e117 => ?_)
    refine kSI (yT.cst (G2 := 0) (pc' := 16) rfl rfl xM_163 (r163 (v := x2.toInt) (lo := 0) (hi := 5) K hT102 e113 e115 e117) rfl (by omega) (by decide) rfl) (fun h118 x121 hT119 E120 => ?_)
    refine yT.if1 (t := 26) (pc' := 19) rfl rfl rfl (c1_ne rfl) (fun c122 => ?_) (fun c122 => ?_)
    · have hsh := p0 (x1.toInt).toNat (by omega)
      refine yT.aan (pc' := 27) g0 rfl rfl rfl ?_
      refine yT.cg8 (pc' := 30) rfl rfl hT119 (K.up rfl) rfl rfl (fun _ => ?_)
      refine yT.iln (pc' := 31) g1 rfl rfl ?_
      refine yT.tia ((x1.toInt).toNat) (pc' := 32) rfl rfl hT119 (K.up rfl) rfl (by omega) (fun x123 z125 => ?_)
      have e124 : x123.toInt = (σ 76 ((x1.toInt).toNat)).toInt := congrArg Int32.toInt z125
      refine yT.i2l2 (pc' := 33) (X := ((σ 76 ((x1.toInt).toNat)).toInt)) e124 rfl rfl (fun y126 e127 => ?_)
      refine yT.lc2 (pc' := 34) (X := 0) rfl rfl rfl (fun y128 e129 => ?_)
      refine yT.ld2 (pc' := 37) (X := 4) rfl rfl rfl (by decide) (fun y130 e131 => ?_)
      refine kSI (yT.cst (G2 := 0) (pc' := 40) rfl rfl xM_163 (r163 (v := ((σ 76 ((x1.toInt).toNat)).toInt)) (lo := 0) (hi := 4) K hT119 e127 e129 e131) rfl (by omega) (by decide) rfl) (fun h132 x135 hT133 E134 => ?_)
      refine yT.if1 (t := 50) (pc' := 43) rfl rfl rfl (c1_eq rfl) (fun c136 => ?_) (fun c136 => ?_)
      · refine yT.aan (pc' := 51) g0 rfl rfl rfl ?_
        refine yT.cg8 (pc' := 54) rfl rfl hT133 (K.up rfl) rfl rfl (fun _ => ?_)
        refine yT.iln (pc' := 55) g1 rfl rfl ?_
        refine yT.tia ((x1.toInt).toNat) (pc' := 56) rfl rfl hT133 (K.up rfl) rfl (by omega) (fun x137 z139 => ?_)
        have e138 : x137.toInt = (σ 76 ((x1.toInt).toNat)).toInt := congrArg Int32.toInt z139
        refine yT.if1 (t := 66) (pc' := 59) rfl rfl rfl (c1_ge e138) (fun c140 => ?_) (fun c140 => ?_)
        · refine yT.aan (pc' := 67) g0 rfl rfl rfl ?_
          refine yT.cg8 (pc' := 70) rfl rfl hT133 (K.up rfl) rfl rfl (fun _ => ?_)
          refine yT.iln (pc' := 71) g1 rfl rfl ?_
          refine yT.tia ((x1.toInt).toNat) (pc' := 72) rfl rfl hT133 (K.up rfl) rfl (by omega) (fun x141 z143 => ?_)
          have e142 : x141.toInt = (σ 76 ((x1.toInt).toNat)).toInt := congrArg Int32.toInt z143
          refine yT.kb (pc' := 74) rfl rfl (by decide) (fun x144 e145 => ?_)
          refine yT.sb2 (pc' := 75) (Z := ((σ 76 ((x1.toInt).toNat)).toInt) - 10) e142 e145 rfl rfl (by omega) (fun x146 e147 => ?_)
          refine yT.p (pc' := 76) (lv' := xst1 _ 3 (.int x146)) rfl rfl (fun _ _ _ _ => rfl) ?_
          refine yT.aan (pc' := 77) (xg_ne g0 rfl) rfl rfl rfl ?_
          refine yT.aan (pc' := 78) (xg_ne g0 rfl) rfl rfl rfl ?_
          refine yT.iln (pc' := 79) xg_eq rfl rfl ?_
          refine yT.kI (pc' := 80) rfl rfl (by decide) (fun x148 e149 => ?_)
          refine kSI (yT.cc (G2 := 0) (pc' := 83) rfl rfl rfl hT133 (K.up rfl : xnth ks 60 = some (19, 0)) xM_166 (r166 (c := (((σ 76 ((x1.toInt).toNat)).toInt) - 10).toNat) (w := 0) K hT133 (by omega) (by omega) (by omega)) rfl (by omega) (by decide) rfl) (fun h150 x153 hT151 E152 => ?_)
          refine yT.iln (pc' := 84) (xg_ne g2 rfl) rfl rfl ?_
          refine kSI (yT.cc (G2 := 0) (pc' := 87) rfl rfl rfl hT151 (K.up rfl : xnth ks 60 = some (19, 0)) xM_219 (r219  K hT151 x153 x2) rfl (by omega) (by decide) rfl) (fun h154 x157 hT155 E156 => ?_)
          refine yT.if1 (t := 97) (pc' := 90) rfl rfl rfl (c1_ne rfl) (fun c158 => ?_) (fun c158 => ?_)
          · refine yT.iln (pc' := 98) (xg_ne g2 rfl) rfl rfl ?_
            by_cases c159 : x2.toInt = 0
            · refine yT.tswK 0 (t := 132) rfl rfl (by omega) rfl rfl ?_
              refine yT.aan (pc' := 133) (xg_ne g0 rfl) rfl rfl rfl ?_
              refine yT.iln (pc' := 134) xg_eq rfl rfl ?_
              refine yT.kI (pc' := 135) rfl rfl (by decide) (fun x160 e161 => ?_)
              refine kSI (yT.cc (G2 := 0) (pc' := 138) rfl rfl rfl hT155 (K.up rfl : xnth ks 60 = some (19, 0)) xM_166 (r166 (c := (((σ 76 ((x1.toInt).toNat)).toInt) - 10).toNat) (w := 1) K hT155 (by omega) (by omega) (by omega)) rfl (by omega) (by decide) rfl) (fun h162 x165 hT163 E164 => ?_)
              exact yT.retI rfl rfl ⟨hT163, _, rfl, trivial⟩
            · by_cases c166 : x2.toInt = 1
              · refine yT.tswK 1 (t := 139) rfl rfl (by omega) rfl rfl ?_
                refine yT.aan (pc' := 140) (xg_ne g0 rfl) rfl rfl rfl ?_
                refine yT.iln (pc' := 141) xg_eq rfl rfl ?_
                refine yT.kI (pc' := 142) rfl rfl (by decide) (fun x167 e168 => ?_)
                refine kSI (yT.cc (G2 := 0) (pc' := 145) rfl rfl rfl hT155 (K.up rfl : xnth ks 60 = some (19, 0)) xM_166 (r166 (c := (((σ 76 ((x1.toInt).toNat)).toInt) - 10).toNat) (w := 4) K hT155 (by omega) (by omega) (by omega)) rfl (by omega) (by decide) rfl) (fun h169 x172 hT170 E171 => ?_)
                exact yT.retI rfl rfl ⟨hT170, _, rfl, trivial⟩
              · by_cases c173 : x2.toInt = 2
                · refine yT.tswK 2 (t := 146) rfl rfl (by omega) rfl rfl ?_
                  refine yT.aan (pc' := 147) (xg_ne g0 rfl) rfl rfl rfl ?_
                  refine yT.iln (pc' := 148) xg_eq rfl rfl ?_
                  refine yT.kb (pc' := 150) rfl rfl (by decide) (fun x174 e175 => ?_)
                  refine kSI (yT.cc (G2 := 0) (pc' := 153) rfl rfl rfl hT155 (K.up rfl : xnth ks 60 = some (19, 0)) xM_166 (r166 (c := (((σ 76 ((x1.toInt).toNat)).toInt) - 10).toNat) (w := 6) K hT155 (by omega) (by omega) (by omega)) rfl (by omega) (by decide) rfl) (fun h176 x179 hT177 E178 => ?_)
                  exact yT.retI rfl rfl ⟨hT177, _, rfl, trivial⟩
                · by_cases c180 : x2.toInt = 3
                  · refine yT.tswK 3 (t := 139) rfl rfl (by omega) rfl rfl ?_
                    refine yT.aan (pc' := 140) (xg_ne g0 rfl) rfl rfl rfl ?_
                    refine yT.iln (pc' := 141) xg_eq rfl rfl ?_
                    refine yT.kI (pc' := 142) rfl rfl (by decide) (fun x181 e182 => ?_)
                    refine kSI (yT.cc (G2 := 0) (pc' := 145) rfl rfl rfl hT155 (K.up rfl : xnth ks 60 = some (19, 0)) xM_166 (r166 (c := (((σ 76 ((x1.toInt).toNat)).toInt) - 10).toNat) (w := 4) K hT155 (by omega) (by omega) (by omega)) rfl (by omega) (by decide) rfl) (fun h183 x186 hT184 E185 => ?_)
                    exact yT.retI rfl rfl ⟨hT184, _, rfl, trivial⟩
                  · by_cases c187 : x2.toInt = 4
                    · refine yT.tswK 4 (t := 154) rfl rfl (by omega) rfl rfl ?_
                      refine yT.aan (pc' := 155) (xg_ne g0 rfl) rfl rfl rfl ?_
                      refine yT.cg8 (pc' := 158) rfl rfl hT155 (K.up rfl) rfl rfl (fun _ => ?_)
                      refine yT.iln (pc' := 159) xg_eq rfl rfl ?_
                      refine yT.cia (pc' := 160) rfl rfl hT155 (K.up rfl) e147 (by omega) (fun x188 => ?_)
                      exact yT.retI rfl rfl ⟨hT155, _, rfl, trivial⟩
                    · refine yT.tswD (t := 161) rfl rfl rfl (by omega) ?_
                      refine yT.aan (pc' := 162) (xg_ne g0 rfl) rfl rfl rfl ?_
                      refine yT.iln (pc' := 163) xg_eq rfl rfl ?_
                      refine kSI (yT.cc (G2 := 0) (pc' := 166) rfl rfl rfl hT155 (K.up rfl : xnth ks 60 = some (19, 0)) xM_220 (r220  K hT155 x146 p1) rfl (by omega) (by decide) rfl) (fun h191 x194 hT192 E193 => ?_)
                      refine kI (yT.cst (G2 := 0) (pc' := 169) rfl rfl xM_272 (c272 hT192 x194) rfl (by omega) (by decide) rfl) (fun h195 x198 hT196 E197 => ?_)
                      exact yT.retI rfl rfl ⟨hT196, _, rfl, trivial⟩
          · refine yT.aan (pc' := 91) (xg_ne g0 rfl) rfl rfl rfl ?_
            refine yT.kb (pc' := 93) rfl rfl (by decide) (fun x199 e200 => ?_)
            refine kSI (yT.cc (G2 := 0) (pc' := 96) rfl rfl rfl hT155 (K.up rfl : xnth ks 60 = some (19, 0)) xM_164 (r164  K hT155 x199 (by omega)) rfl (by omega) (by decide) rfl) (fun h201 x204 hT202 E203 => ?_)
            exact yT.retI rfl rfl ⟨hT202, _, rfl, trivial⟩
        · refine yT.aan (pc' := 60) g0 rfl rfl rfl ?_
          refine yT.kb (pc' := 62) rfl rfl (by decide) (fun x205 e206 => ?_)
          refine kSI (yT.cc (G2 := 0) (pc' := 65) rfl rfl rfl hT133 (K.up rfl : xnth ks 60 = some (19, 0)) xM_164 (r164  K hT133 x205 (by omega)) rfl (by omega) (by decide) rfl) (fun h207 x210 hT208 E209 => ?_)
          exact yT.retI rfl rfl ⟨hT208, _, rfl, trivial⟩
      · refine yT.aan (pc' := 44) g0 rfl rfl rfl ?_
        refine yT.kb (pc' := 46) rfl rfl (by decide) (fun x211 e212 => ?_)
        refine kSI (yT.cc (G2 := 0) (pc' := 49) rfl rfl rfl hT133 (K.up rfl : xnth ks 60 = some (19, 0)) xM_164 (r164  K hT133 x211 (by omega)) rfl (by omega) (by decide) rfl) (fun h213 x216 hT214 E215 => ?_)
        exact yT.retI rfl rfl ⟨hT214, _, rfl, trivial⟩
    · refine yT.aan (pc' := 20) g0 rfl rfl rfl ?_
      refine yT.kb (pc' := 22) rfl rfl (by decide) (fun x217 e218 => ?_)
      refine kSI (yT.cc (G2 := 0) (pc' := 25) rfl rfl rfl hT119 (K.up rfl : xnth ks 60 = some (19, 0)) xM_164 (r164  K hT119 x217 (by omega)) rfl (by omega) (by decide) rfl) (fun h219 x222 hT220 E221 => ?_)
      exact yT.retI rfl rfl ⟨hT220, _, rfl, trivial⟩
-- rX9_cellOf
set_option maxRecDepth 100000 in
set_option maxHeartbeats 4000000 in
theorem r246 {ks : List cT} {B0 : Nat} (K : KE KS0 ks B0) {σ : sg} {ρ : Nat → xE} {h : List xE} (hT : HT ks σ ρ h) (x1 : Int32) (x2 : Int32) (p0 : RO σ) : yM 246 (3) 0 [.ref (60 + 1), .int x1, .int x2] h (SQI ks σ ρ (fun r => True)) := by
  refine yM.st xM_246 rfl rfl (fun lv g => ?_)
  have g0 := g 0 _ rfl
  have g1 := g 1 _ rfl
  have g2 := g 2 _ rfl
  have hcm := p0.1
  have hrd := p0.rd
  have hq0 := p0.2.1.1
  refine yT.aan (pc' := 1) g0 rfl rfl rfl ?_
  refine yT.iln (pc' := 2) g1 rfl rfl ?_
  refine kSI (yT.cc (G2 := 0) (pc' := 5) rfl rfl rfl hT (K.up rfl : xnth ks 60 = some (19, 0)) xM_168 (r168  K hT x1 (by omega)) rfl (by omega) (by decide) rfl) (fun h101 x104 hT102 E103 => ?_)
  refine yT.if1 (t := 20) (pc' := 8) rfl rfl rfl (c1_eq rfl) (fun c105 => ?_) (fun c105 => ?_)
  · refine yT.aan (pc' := 21) g0 rfl rfl rfl ?_
    refine yT.kb (pc' := 23) rfl rfl (by decide) (fun x106 e107 => ?_)
    refine kSI (yT.cc (G2 := 0) (pc' := 26) rfl rfl rfl hT102 (K.up rfl : xnth ks 60 = some (19, 0)) xM_164 (r164  K hT102 x106 (by omega)) rfl (by omega) (by decide) rfl) (fun h108 x111 hT109 E110 => ?_)
    exact yT.retI rfl rfl ⟨hT109, _, rfl, trivial⟩
  · refine yT.iln (pc' := 9) g2 rfl rfl ?_
    refine yT.i2l2 (pc' := 10) (X := x2.toInt) rfl rfl rfl (fun y112 e113 => ?_)
    refine yT.lc2 (pc' := 11) (X := 0) rfl rfl rfl (fun y114 e115 => ?_)
    refine yT.ld2 (pc' := 14) (X := 10) rfl rfl rfl (by decide) (fun y116 e117 => ?_)
    refine kSI (yT.cst (G2 := 0) (pc' := 17) rfl rfl xM_163 (r163 (v := x2.toInt) (lo := 0) (hi := 10) K hT102 e113 e115 e117) rfl (by omega) (by decide) rfl) (fun h118 x121 hT119 E120 => ?_)
    refine yT.if1 (t := 27) (pc' := 20) rfl rfl rfl (c1_ne rfl) (fun c122 => ?_) (fun c122 => ?_)
    · refine yT.iln (pc' := 28) g2 rfl rfl ?_
      by_cases c123 : x2.toInt = 7
      · refine yT.tswK 0 (t := 60) rfl rfl (by omega) rfl rfl ?_
        refine yT.aan (pc' := 61) g0 rfl rfl rfl ?_
        refine yT.iln (pc' := 62) g1 rfl rfl ?_
        refine kSI (yT.cc (G2 := 0) (pc' := 65) rfl rfl rfl hT119 (K.up rfl : xnth ks 60 = some (19, 0)) xM_245 (r245  K hT119 x1 p0) rfl (by omega) (by decide) rfl) (fun h124 x127 hT125 E126 => ?_)
        exact yT.retI rfl rfl ⟨hT125, _, rfl, trivial⟩
      · by_cases c128 : x2.toInt = 8
        · refine yT.tswK 1 (t := 66) rfl rfl (by omega) rfl rfl ?_
          refine yT.aan (pc' := 67) g0 rfl rfl rfl ?_
          refine yT.iln (pc' := 68) g1 rfl rfl ?_
          refine kSI (yT.cc (G2 := 0) (pc' := 71) rfl rfl rfl hT119 (K.up rfl : xnth ks 60 = some (19, 0)) xM_220 (r220  K hT119 x1 p0) rfl (by omega) (by decide) rfl) (fun h129 x132 hT130 E131 => ?_)
          exact yT.retI rfl rfl ⟨hT130, _, rfl, trivial⟩
        · by_cases c133 : x2.toInt = 9
          · refine yT.tswK 2 (t := 72) rfl rfl (by omega) rfl rfl ?_
            refine yT.aan (pc' := 73) g0 rfl rfl rfl ?_
            refine yT.iln (pc' := 74) g1 rfl rfl ?_
            refine kSI (yT.cc (G2 := 0) (pc' := 77) rfl rfl rfl hT119 (K.up rfl : xnth ks 60 = some (19, 0)) xM_186 (r186  K hT119 x1 (by omega)) rfl (by omega) (by decide) rfl) (fun h134 x137 hT135 E136 => ?_)
            refine yT.if1 (t := 84) (pc' := 80) rfl rfl rfl (c1_eq rfl) (fun c138 => ?_) (fun c138 => ?_)
            · refine yT.kI (pc' := 85) rfl rfl (by decide) (fun x139 e140 => ?_)
              exact yT.retI rfl rfl ⟨hT135, _, rfl, trivial⟩
            · refine yT.kI (pc' := 81) rfl rfl (by decide) (fun x141 e142 => ?_)
              refine yT.p (pc' := 85) rfl rfl (fun _ _ _ _ => rfl) ?_
              exact yT.retI rfl rfl ⟨hT135, _, rfl, trivial⟩
          · by_cases c143 : x2.toInt = 10
            · refine yT.tswK 3 (t := 86) rfl rfl (by omega) rfl rfl ?_
              refine yT.aan (pc' := 87) g0 rfl rfl rfl ?_
              refine yT.iln (pc' := 88) g1 rfl rfl ?_
              refine kSI (yT.cc (G2 := 0) (pc' := 91) rfl rfl rfl hT119 (K.up rfl : xnth ks 60 = some (19, 0)) xM_244 (r244 (c := (x1.toInt).toNat) K hT119 (by omega) p0 (by omega)) rfl (by omega) (by decide) rfl) (fun h144 x147 hT145 E146 => ?_)
              refine kI (yT.cst (G2 := 0) (pc' := 94) rfl rfl xM_272 (c272 hT145 x147) rfl (by omega) (by decide) rfl) (fun h148 x151 hT149 E150 => ?_)
              exact yT.retI rfl rfl ⟨hT149, _, rfl, trivial⟩
            · refine yT.tswD (t := 95) rfl rfl rfl (by omega) ?_
              refine yT.aan (pc' := 96) g0 rfl rfl rfl ?_
              refine yT.iln (pc' := 97) g1 rfl rfl ?_
              refine yT.iln (pc' := 98) g2 rfl rfl ?_
              refine kSI (yT.cc (G2 := 0) (pc' := 101) rfl rfl rfl hT119 (K.up rfl : xnth ks 60 = some (19, 0)) xM_166 (r166 (c := (x1.toInt).toNat) (w := (x2.toInt).toNat) K hT119 (by omega) (by omega) (by omega)) rfl (by omega) (by decide) rfl) (fun h152 x155 hT153 E154 => ?_)
              exact yT.retI rfl rfl ⟨hT153, _, rfl, trivial⟩
    · refine yT.aan (pc' := 21) g0 rfl rfl rfl ?_
      refine yT.kb (pc' := 23) rfl rfl (by decide) (fun x156 e157 => ?_)
      refine kSI (yT.cc (G2 := 0) (pc' := 26) rfl rfl rfl hT119 (K.up rfl : xnth ks 60 = some (19, 0)) xM_164 (r164  K hT119 x156 (by omega)) rfl (by omega) (by decide) rfl) (fun h158 x161 hT159 E160 => ?_)
      exact yT.retI rfl rfl ⟨hT159, _, rfl, trivial⟩
-- rX9_reads
set_option maxRecDepth 100000 in
set_option maxHeartbeats 4000000 in
theorem r247 {ks : List cT} {B0 : Nat} (K : KE KS0 ks B0) {σ : sg} {ρ : Nat → xE} {h : List xE} (hT : HT ks σ ρ h) (x1 : Int32) (x2 : Int32) (p0 : RO σ) : yM 247 (2) 0 [.ref (60 + 1), .int x1, .int x2] h (SQI ks σ ρ (fun r => True)) := by
  refine yM.st xM_247 rfl rfl (fun lv g => ?_)
  have g0 := g 0 _ rfl
  have g1 := g 1 _ rfl
  have g2 := g 2 _ rfl
  have hcm := p0.1
  have hrd := p0.rd
  have hq0 := p0.2.1.1
  refine yT.aan (pc' := 1) g0 rfl rfl rfl ?_
  refine yT.iln (pc' := 2) g1 rfl rfl ?_
  refine kSI (yT.cc (G2 := 0) (pc' := 5) rfl rfl rfl hT (K.up rfl : xnth ks 60 = some (19, 0)) xM_168 (r168  K hT x1 (by omega)) rfl (by omega) (by decide) rfl) (fun h101 x104 hT102 E103 => ?_)
  refine yT.if1 (t := 27) (pc' := 8) rfl rfl rfl (c1_eq rfl) (fun c105 => ?_) (fun c105 => ?_)
  · refine yT.aan (pc' := 28) g0 rfl rfl rfl ?_
    refine yT.kb (pc' := 30) rfl rfl (by decide) (fun x106 e107 => ?_)
    refine kSI (yT.cc (G2 := 0) (pc' := 33) rfl rfl rfl hT102 (K.up rfl : xnth ks 60 = some (19, 0)) xM_164 (r164  K hT102 x106 (by omega)) rfl (by omega) (by decide) rfl) (fun h108 x111 hT109 E110 => ?_)
    exact yT.retI rfl rfl ⟨hT109, _, rfl, trivial⟩
  · have hr1 := hrd (x1.toInt).toNat (by omega)
    have hr0 := (p0.2.2.1 (x1.toInt).toNat (by omega)).1
    refine yT.iln (pc' := 9) g2 rfl rfl ?_
    refine yT.i2l2 (pc' := 10) (X := x2.toInt) rfl rfl rfl (fun y112 e113 => ?_)
    refine yT.lc2 (pc' := 11) (X := 0) rfl rfl rfl (fun y114 e115 => ?_)
    refine yT.aan (pc' := 12) g0 rfl rfl rfl ?_
    refine yT.iln (pc' := 13) g1 rfl rfl ?_
    refine yT.kb (pc' := 15) rfl rfl (by decide) (fun x116 e117 => ?_)
    refine kSI (yT.cc (G2 := 0) (pc' := 18) rfl rfl rfl hT102 (K.up rfl : xnth ks 60 = some (19, 0)) xM_166 (r166 (c := (x1.toInt).toNat) (w := 6) K hT102 (by omega) (by omega) (by omega)) rfl (by omega) (by decide) rfl) (fun h118 x121 hT119 E120 => ?_)
    refine yT.kI (pc' := 19) rfl rfl (by decide) (fun x122 e123 => ?_)
    refine yT.sb2 (pc' := 20) (Z := (nw σ (282 * (x1.toInt).toNat + (6))) - 1) E120 e123 rfl rfl (by omega) (fun x124 e125 => ?_)
    refine yT.i2l2 (pc' := 21) (X := (nw σ (282 * (x1.toInt).toNat + (6))) - 1) e125 rfl rfl (fun y126 e127 => ?_)
    refine kSI (yT.cst (G2 := 0) (pc' := 24) rfl rfl xM_163 (r163 (v := x2.toInt) (lo := 0) (hi := (nw σ (282 * (x1.toInt).toNat + (6))) - 1) K hT119 e113 e115 e127) rfl (by omega) (by decide) rfl) (fun h128 x131 hT129 E130 => ?_)
    refine yT.if1 (t := 34) (pc' := 27) rfl rfl rfl (c1_ne rfl) (fun c132 => ?_) (fun c132 => ?_)
    · refine yT.aan (pc' := 35) g0 rfl rfl rfl ?_
      refine yT.iln (pc' := 36) g1 rfl rfl ?_
      refine yT.kb (pc' := 38) rfl rfl (by decide) (fun x133 e134 => ?_)
      refine yT.iln (pc' := 39) g2 rfl rfl ?_
      refine yT.ad2 (pc' := 40) (Z := x2.toInt + 7) e134 rfl rfl rfl (by omega) (fun x135 e136 => ?_)
      refine kSI (yT.cc (G2 := 0) (pc' := 43) rfl rfl rfl hT129 (K.up rfl : xnth ks 60 = some (19, 0)) xM_166 (r166 (c := (x1.toInt).toNat) (w := (x2.toInt).toNat + 7) K hT129 (by omega) (by omega) (by omega)) rfl (by omega) (by decide) rfl) (fun h137 x140 hT138 E139 => ?_)
      exact yT.retI rfl rfl ⟨hT138, _, rfl, trivial⟩
    · refine yT.aan (pc' := 28) g0 rfl rfl rfl ?_
      refine yT.kb (pc' := 30) rfl rfl (by decide) (fun x141 e142 => ?_)
      refine kSI (yT.cc (G2 := 0) (pc' := 33) rfl rfl rfl hT129 (K.up rfl : xnth ks 60 = some (19, 0)) xM_164 (r164  K hT129 x141 (by omega)) rfl (by omega) (by decide) rfl) (fun h143 x146 hT144 E145 => ?_)
      exact yT.retI rfl rfl ⟨hT144, _, rfl, trivial⟩
-- rX9_reaches
set_option maxRecDepth 100000 in
set_option maxHeartbeats 4000000 in
theorem r252 {ks : List cT} {B0 : Nat} (K : KE KS0 ks B0) {σ : sg} {ρ : Nat → xE} {h : List xE} (hT : HT ks σ ρ h) (x1 : Int32) (x2 : Int32) (p0 : RO σ) : yM 252 (3) 0 [.ref (60 + 1), .int x1, .int x2] h (SQI ks σ ρ (fun r => True)) := by
  refine yM.st xM_252 rfl rfl (fun lv g => ?_)
  have g0 := g 0 _ rfl
  have g1 := g 1 _ rfl
  have g2 := g 2 _ rfl
  have hcm := p0.1
  have hrd := p0.rd
  have hq0 := p0.2.1.1
  refine yT.aan (pc' := 1) g0 rfl rfl rfl ?_
  refine yT.iln (pc' := 2) g1 rfl rfl ?_
  refine kSI (yT.cc (G2 := 0) (pc' := 5) rfl rfl rfl hT (K.up rfl : xnth ks 60 = some (19, 0)) xM_168 (r168  K hT x1 (by omega)) rfl (by omega) (by decide) rfl) (fun h101 x104 hT102 E103 => ?_)
  refine yT.if1 (t := 16) (pc' := 8) rfl rfl rfl (c1_eq rfl) (fun c105 => ?_) (fun c105 => ?_)
  · refine yT.aan (pc' := 17) g0 rfl rfl rfl ?_
    refine yT.kb (pc' := 19) rfl rfl (by decide) (fun x106 e107 => ?_)
    refine kSI (yT.cc (G2 := 0) (pc' := 22) rfl rfl rfl hT102 (K.up rfl : xnth ks 60 = some (19, 0)) xM_164 (r164  K hT102 x106 (by omega)) rfl (by omega) (by decide) rfl) (fun h108 x111 hT109 E110 => ?_)
    exact yT.retI rfl rfl ⟨hT109, _, rfl, trivial⟩
  · refine yT.aan (pc' := 9) g0 rfl rfl rfl ?_
    refine yT.iln (pc' := 10) g2 rfl rfl ?_
    refine kSI (yT.cc (G2 := 0) (pc' := 13) rfl rfl rfl hT102 (K.up rfl : xnth ks 60 = some (19, 0)) xM_168 (r168  K hT102 x2 (by omega)) rfl (by omega) (by decide) rfl) (fun h112 x115 hT113 E114 => ?_)
    refine yT.if1 (t := 23) (pc' := 16) rfl rfl rfl (c1_ne rfl) (fun c116 => ?_) (fun c116 => ?_)
    · refine yT.aan (pc' := 24) g0 rfl rfl rfl ?_
      refine yT.iln (pc' := 25) g1 rfl rfl ?_
      refine kSI (yT.cc (G2 := 0) (pc' := 28) rfl rfl rfl hT113 (K.up rfl : xnth ks 60 = some (19, 0)) xM_244 (r244 (c := (x1.toInt).toNat) K hT113 (by omega) p0 (by omega)) rfl (by omega) (by decide) rfl) (fun h117 x120 hT118 E119 => ?_)
      refine yT.iln (pc' := 29) g2 rfl rfl ?_
      refine yT.fi (pc' := 30) rfl rfl (fun _ _ _ _ => rfl) (fun x121 => ?_)
      refine yT.kI (pc' := 31) rfl rfl (by decide) (fun x122 e123 => ?_)
      refine yT.fi (pc' := 32) rfl rfl (fun _ _ _ _ => rfl) (fun x124 => ?_)
      exact yT.retI rfl rfl ⟨hT118, _, rfl, trivial⟩
    · refine yT.aan (pc' := 17) g0 rfl rfl rfl ?_
      refine yT.kb (pc' := 19) rfl rfl (by decide) (fun x125 e126 => ?_)
      refine kSI (yT.cc (G2 := 0) (pc' := 22) rfl rfl rfl hT113 (K.up rfl : xnth ks 60 = some (19, 0)) xM_164 (r164  K hT113 x125 (by omega)) rfl (by omega) (by decide) rfl) (fun h127 x130 hT128 E129 => ?_)
      exact yT.retI rfl rfl ⟨hT128, _, rfl, trivial⟩
-- rX9_colours
set_option maxRecDepth 100000 in
set_option maxHeartbeats 4000000 in
theorem r253 {ks : List cT} {B0 : Nat} (K : KE KS0 ks B0) {σ : sg} {ρ : Nat → xE} {h : List xE} (hT : HT ks σ ρ h) (x1 : Int32) (p0 : RO σ) : yM 253 (1) 0 [.ref (60 + 1), .int x1] h (SQI ks σ ρ (fun r => True)) := by
  refine yM.st xM_253 rfl rfl (fun lv g => ?_)
  have g0 := g 0 _ rfl
  have g1 := g 1 _ rfl
  have hcm := p0.1
  have hrd := p0.rd
  have hq0 := p0.2.1.1
  refine yT.iln (pc' := 1) g1 rfl rfl ?_
  refine yT.i2l2 (pc' := 2) (X := x1.toInt) rfl rfl rfl (fun y101 e102 => ?_)
  refine yT.lc2 (pc' := 3) (X := 0) rfl rfl rfl (fun y103 e104 => ?_)
  refine yT.fl (pc' := 6) rfl rfl (fun _ _ _ _ => rfl) (fun y105 => ?_)
  refine kSI (yT.cst (G2 := 0) (pc' := 9) rfl rfl xM_163 (r163 (v := x1.toInt) (lo := 0) (hi := y105.toInt) K hT e102 e104 rfl) rfl (by omega) (by decide) rfl) (fun h106 x109 hT107 E108 => ?_)
  refine yT.if1 (t := 19) (pc' := 12) rfl rfl rfl (c1_ne rfl) (fun c110 => ?_) (fun c110 => ?_)
  · refine yT.kI (pc' := 20) rfl rfl (by decide) (fun x111 e112 => ?_)
    refine yT.p (pc' := 21) (lv' := xst1 _ 2 (.int x111)) rfl rfl (fun _ _ _ _ => rfl) ?_
    refine yT.kI (pc' := 22) rfl rfl (by decide) (fun x113 e114 => ?_)
    refine yT.p (pc' := 23) (lv' := xst1 _ 3 (.int x113)) rfl rfl (fun _ _ _ _ => rfl) ?_
    have L115 : ∀ (n127 : Nat) (lv116 : xLv) (h117 : List xE) (x119 : Int32) (c121 : Nat) (x120 : Int32), HT ks σ ρ h117 → x120.toInt = (c121 : Int) → xget lv116 0 = some (.ref (60 + 1)) → xget lv116 1 = some (.int x1) → xget lv116 2 = some (.int x119) → xget lv116 3 = some (.int x120) → 24 - (c121) < n127 → yT 0 [] rX9_colours (1) 0 23 lv116 [] h117 (SQI ks σ ρ (fun r => True)) := by
      intro n127
      induction n127 with
      | zero => intro lv116 h117 x119 c121 x120 hT118 e122 g123 g124 g125 g126 m128; exact absurd m128 (Nat.not_lt_zero _)
      | succ n127 ih129 =>
        intro lv116 h117 x119 c121 x120 hT118 e122 g123 g124 g125 g126 m128
        refine yT.iln (pc' := 24) g126 rfl rfl ?_
        refine yT.aan (pc' := 25) g123 rfl rfl rfl ?_
        refine yT.cg8 (pc' := 28) rfl rfl hT118 (K.up rfl) rfl rfl (fun _ => ?_)
        refine yT.ks (pc' := 31) rfl rfl (by decide) (fun x130 e131 => ?_)
        refine yT.tia (6768) (pc' := 32) rfl rfl hT118 (K.up rfl) e131 (by omega) (fun x132 z134 => ?_)
        have e133 : x132.toInt = nw σ (6768) := congrArg Int32.toInt z134
        refine yT.if2 (t := 68) (pc' := 35) rfl rfl rfl (c2_ge e122 e133) (fun c135 => ?_) (fun c135 => ?_)
        · refine yT.iln (pc' := 69) g125 rfl rfl ?_
          exact yT.retI rfl rfl ⟨hT118, _, rfl, trivial⟩
        · refine yT.iln (pc' := 36) g125 rfl rfl ?_
          refine yT.aan (pc' := 37) g123 rfl rfl rfl ?_
          refine yT.iln (pc' := 38) g126 rfl rfl ?_
          refine yT.kI (pc' := 39) rfl rfl (by decide) (fun x136 e137 => ?_)
          refine kSI (yT.cc (G2 := 0) (pc' := 42) rfl rfl rfl hT118 (K.up rfl : xnth ks 60 = some (19, 0)) xM_166 (r166 (c := c121) (w := 2) K hT118 e122 (by omega) (by omega)) rfl (by omega) (by decide) rfl) (fun h138 x141 hT139 E140 => ?_)
          refine yT.if1 (t := 59) (pc' := 45) rfl rfl rfl (c1_ne E140) (fun c142 => ?_) (fun c142 => ?_)
          · refine yT.kI (pc' := 60) rfl rfl (by decide) (fun x143 e144 => ?_)
            refine yT.fi (pc' := 61) rfl rfl (fun _ _ _ _ => rfl) (fun x145 => ?_)
            refine yT.p (pc' := 62) (lv' := xst1 _ 2 (.int x145)) rfl rfl (fun _ _ _ _ => rfl) ?_
            refine yT.inc2 (pc' := 65) (Z := (c121 : Int) + 1) (xg_ne g126 rfl) e122 rfl rfl rfl ⟨by decide, by omega⟩ (fun x146 e147 => ?_)
            refine yT.p (pc' := 23) rfl rfl (fun _ _ _ _ => rfl) ?_
            exact ih129 _ _ x145 (c121 + 1) x146 hT139 (by omega) (xg_ne (xg_ne g123 rfl) rfl) (xg_ne (xg_ne g124 rfl) rfl) (xg_ne xg_eq rfl) xg_eq (by omega)
          · refine yT.aan (pc' := 46) g123 rfl rfl rfl ?_
            refine yT.iln (pc' := 47) g126 rfl rfl ?_
            refine yT.kI (pc' := 48) rfl rfl (by decide) (fun x148 e149 => ?_)
            refine kSI (yT.cc (G2 := 0) (pc' := 51) rfl rfl rfl hT139 (K.up rfl : xnth ks 60 = some (19, 0)) xM_166 (r166 (c := c121) (w := 3) K hT139 e122 (by omega) (by omega)) rfl (by omega) (by decide) rfl) (fun h150 x153 hT151 E152 => ?_)
            refine yT.iln (pc' := 52) g124 rfl rfl ?_
            refine yT.if2 (t := 59) (pc' := 55) rfl rfl rfl (c2_ne E152 rfl) (fun c154 => ?_) (fun c154 => ?_)
            · refine yT.kI (pc' := 60) rfl rfl (by decide) (fun x155 e156 => ?_)
              refine yT.fi (pc' := 61) rfl rfl (fun _ _ _ _ => rfl) (fun x157 => ?_)
              refine yT.p (pc' := 62) (lv' := xst1 _ 2 (.int x157)) rfl rfl (fun _ _ _ _ => rfl) ?_
              refine yT.inc2 (pc' := 65) (Z := (c121 : Int) + 1) (xg_ne g126 rfl) e122 rfl rfl rfl ⟨by decide, by omega⟩ (fun x158 e159 => ?_)
              refine yT.p (pc' := 23) rfl rfl (fun _ _ _ _ => rfl) ?_
              exact ih129 _ _ x157 (c121 + 1) x158 hT151 (by omega) (xg_ne (xg_ne g123 rfl) rfl) (xg_ne (xg_ne g124 rfl) rfl) (xg_ne xg_eq rfl) xg_eq (by omega)
            · refine yT.kI (pc' := 56) rfl rfl (by decide) (fun x160 e161 => ?_)
              refine yT.p (pc' := 60) rfl rfl (fun _ _ _ _ => rfl) ?_
              refine yT.fi (pc' := 61) rfl rfl (fun _ _ _ _ => rfl) (fun x162 => ?_)
              refine yT.p (pc' := 62) (lv' := xst1 _ 2 (.int x162)) rfl rfl (fun _ _ _ _ => rfl) ?_
              refine yT.inc2 (pc' := 65) (Z := (c121 : Int) + 1) (xg_ne g126 rfl) e122 rfl rfl rfl ⟨by decide, by omega⟩ (fun x163 e164 => ?_)
              refine yT.p (pc' := 23) rfl rfl (fun _ _ _ _ => rfl) ?_
              exact ih129 _ _ x162 (c121 + 1) x163 hT151 (by omega) (xg_ne (xg_ne g123 rfl) rfl) (xg_ne (xg_ne g124 rfl) rfl) (xg_ne xg_eq rfl) xg_eq (by omega)
    exact L115 _ _ _ x111 (0) x113 hT107 (by omega) (xg_ne (xg_ne g0 rfl) rfl) (xg_ne (xg_ne g1 rfl) rfl) (xg_ne xg_eq rfl) xg_eq (Nat.lt_succ_self _)
  · refine yT.aan (pc' := 13) g0 rfl rfl rfl ?_
    refine yT.kb (pc' := 15) rfl rfl (by decide) (fun x165 e166 => ?_)
    refine kSI (yT.cc (G2 := 0) (pc' := 18) rfl rfl rfl hT107 (K.up rfl : xnth ks 60 = some (19, 0)) xM_164 (r164  K hT107 x165 (by omega)) rfl (by omega) (by decide) rfl) (fun h167 x170 hT168 E169 => ?_)
    exact yT.retI rfl rfl ⟨hT168, _, rfl, trivial⟩
-- rX9_log
set_option maxRecDepth 100000 in
set_option maxHeartbeats 4000000 in
theorem r256 {ks : List cT} {B0 : Nat} (K : KE KS0 ks B0) {σ : sg} {ρ : Nat → xE} {h : List xE} (hT : HT ks σ ρ h) (x1 : Int32) (p0 : 0 ≤ nw σ 6795 ∧ nw σ 6795 ≤ 1000000000) : yM 256 (1) 0 [.ref (60 + 1), .int x1] h (SQI ks σ ρ (fun r => True)) := by
  refine yM.st xM_256 rfl rfl (fun lv g => ?_)
  have g0 := g 0 _ rfl
  have g1 := g 1 _ rfl
  refine yT.iln (pc' := 1) g1 rfl rfl ?_
  refine yT.i2l2 (pc' := 2) (X := x1.toInt) rfl rfl rfl (fun y101 e102 => ?_)
  refine yT.lc2 (pc' := 3) (X := 0) rfl rfl rfl (fun y103 e104 => ?_)
  refine yT.kb (pc' := 5) rfl rfl (by decide) (fun x105 e106 => ?_)
  refine yT.aan (pc' := 6) g0 rfl rfl rfl ?_
  refine yT.cg8 (pc' := 9) rfl rfl hT (K.up rfl) rfl rfl (fun _ => ?_)
  refine yT.ks (pc' := 12) rfl rfl (by decide) (fun x107 e108 => ?_)
  refine yT.tia (6795) (pc' := 13) rfl rfl hT (K.up rfl) e108 (by omega) (fun x109 z111 => ?_)
  have e110 : x109.toInt = nw σ (6795) := congrArg Int32.toInt z111
  refine yT.mn (pc' := 16) rfl rfl (by omega) rfl (fun x112 m113 => ?_)
  have m113 := mnI m113 e106 e110
  refine yT.kI (pc' := 17) rfl rfl (by decide) (fun x114 e115 => ?_)
  refine yT.sb2 (pc' := 18) (Z := x112.toInt - 1) rfl e115 rfl rfl (by omega) (fun x116 e117 => ?_)
  refine yT.i2l2 (pc' := 19) (X := x112.toInt - 1) e117 rfl rfl (fun y118 e119 => ?_)
  refine kSI (yT.cst (G2 := 0) (pc' := 22) rfl rfl xM_163 (r163 (v := x1.toInt) (lo := 0) (hi := x112.toInt - 1) K hT e102 e104 e119) rfl (by omega) (by decide) rfl) (fun h120 x123 hT121 E122 => ?_)
  refine yT.if1 (t := 38) (pc' := 25) rfl rfl rfl (c1_eq rfl) (fun c124 => ?_) (fun c124 => ?_)
  · refine yT.aan (pc' := 39) g0 rfl rfl rfl ?_
    refine yT.kb (pc' := 41) rfl rfl (by decide) (fun x125 e126 => ?_)
    refine kSI (yT.cc (G2 := 0) (pc' := 44) rfl rfl rfl hT121 (K.up rfl : xnth ks 60 = some (19, 0)) xM_164 (r164  K hT121 x125 (by omega)) rfl (by omega) (by decide) rfl) (fun h127 x130 hT128 E129 => ?_)
    exact yT.retI rfl rfl ⟨hT128, _, rfl, trivial⟩
  · refine yT.aan (pc' := 26) g0 rfl rfl rfl ?_
    refine yT.cg8 (pc' := 29) rfl rfl hT121 (K.up rfl) rfl rfl (fun _ => ?_)
    refine yT.ks (pc' := 32) rfl rfl (by decide) (fun x131 e132 => ?_)
    refine yT.iln (pc' := 33) g1 rfl rfl ?_
    refine yT.ad2 (pc' := 34) (Z := x1.toInt + 6796) e132 rfl rfl rfl (by omega) (fun x133 e134 => ?_)
    refine yT.tia ((x1.toInt).toNat + 6796) (pc' := 35) rfl rfl hT121 (K.up rfl) e134 (by omega) (fun x135 z137 => ?_)
    have e136 : x135.toInt = nw σ ((x1.toInt).toNat + 6796) := congrArg Int32.toInt z137
    refine yT.p (pc' := 44) rfl rfl (fun _ _ _ _ => rfl) ?_
    exact yT.retI rfl rfl ⟨hT121, _, rfl, trivial⟩
-- rX9_logged
set_option maxRecDepth 100000 in
set_option maxHeartbeats 4000000 in
theorem r257 {ks : List cT} {B0 : Nat} (K : KE KS0 ks B0) {σ : sg} {ρ : Nat → xE} {h : List xE} (hT : HT ks σ ρ h) (x1 : Int32) (p0 : 0 ≤ nw σ 6795 ∧ nw σ 6795 ≤ 1000000000) : yM 257 (2) 0 [.ref (60 + 1), .int x1] h (SQL ks σ ρ (fun r => True)) := by
  refine yM.st xM_257 rfl rfl (fun lv g => ?_)
  have g0 := g 0 _ rfl
  have g1 := g 1 _ rfl
  refine yT.iln (pc' := 1) g1 rfl rfl ?_
  refine yT.i2l2 (pc' := 2) (X := x1.toInt) rfl rfl rfl (fun y101 e102 => ?_)
  refine yT.lc2 (pc' := 3) (X := 0) rfl rfl rfl (fun y103 e104 => ?_)
  refine yT.kb (pc' := 5) rfl rfl (by decide) (fun x105 e106 => ?_)
  refine yT.aan (pc' := 6) g0 rfl rfl rfl ?_
  refine yT.cg8 (pc' := 9) rfl rfl hT (K.up rfl) rfl rfl (fun _ => ?_)
  refine yT.ks (pc' := 12) rfl rfl (by decide) (fun x107 e108 => ?_)
  refine yT.tia (6795) (pc' := 13) rfl rfl hT (K.up rfl) e108 (by omega) (fun x109 z111 => ?_)
  have e110 : x109.toInt = nw σ (6795) := congrArg Int32.toInt z111
  refine yT.mn (pc' := 16) rfl rfl (by omega) rfl (fun x112 m113 => ?_)
  have m113 := mnI m113 e106 e110
  refine yT.kI (pc' := 17) rfl rfl (by decide) (fun x114 e115 => ?_)
  refine yT.sb2 (pc' := 18) (Z := x112.toInt - 1) rfl e115 rfl rfl (by omega) (fun x116 e117 => ?_)
  refine yT.i2l2 (pc' := 19) (X := x112.toInt - 1) e117 rfl rfl (fun y118 e119 => ?_)
  refine kSI (yT.cst (G2 := 0) (pc' := 22) rfl rfl xM_163 (r163 (v := x1.toInt) (lo := 0) (hi := x112.toInt - 1) K hT e102 e104 e119) rfl (by omega) (by decide) rfl) (fun h120 x123 hT121 E122 => ?_)
  refine yT.if1 (t := 34) (pc' := 25) rfl rfl rfl (c1_eq rfl) (fun c124 => ?_) (fun c124 => ?_)
  · refine yT.aan (pc' := 35) g0 rfl rfl rfl ?_
    refine yT.kb (pc' := 37) rfl rfl (by decide) (fun x125 e126 => ?_)
    refine kSL (yT.cc (G2 := 0) (pc' := 40) rfl rfl rfl hT121 (K.up rfl : xnth ks 60 = some (19, 0)) xM_165 (r165  K hT121 x125 (by omega)) rfl (by omega) (by decide) rfl) (fun h127 x130 hT128 E129 => ?_)
    exact yT.retL rfl rfl ⟨hT128, _, rfl, trivial⟩
  · refine yT.aan (pc' := 26) g0 rfl rfl rfl ?_
    refine yT.cg8 (pc' := 29) rfl rfl hT121 (K.up rfl) rfl rfl (fun _ => ?_)
    refine yT.iln (pc' := 30) g1 rfl rfl ?_
    refine yT.cla (pc' := 31) rfl rfl hT121 (K.up rfl) rfl (by omega) (fun y131 => ?_)
    refine yT.p (pc' := 40) rfl rfl (fun _ _ _ _ => rfl) ?_
    exact yT.retL rfl rfl ⟨hT121, _, rfl, trivial⟩
-- rX9_disposed
set_option maxRecDepth 100000 in
set_option maxHeartbeats 4000000 in
theorem r258 {ks : List cT} {B0 : Nat} (K : KE KS0 ks B0) {σ : sg} {ρ : Nat → xE} {h : List xE} (hT : HT ks σ ρ h) (x1 : Int32) (p0 : 0 ≤ nw σ 6856) : yM 258 (1) 0 [.ref (60 + 1), .int x1] h (SQI ks σ ρ (fun r => True)) := by
  refine yM.st xM_258 rfl rfl (fun lv g => ?_)
  have g0 := g 0 _ rfl
  have g1 := g 1 _ rfl
  refine yT.iln (pc' := 1) g1 rfl rfl ?_
  refine yT.i2l2 (pc' := 2) (X := x1.toInt) rfl rfl rfl (fun y101 e102 => ?_)
  refine yT.lc2 (pc' := 3) (X := 0) rfl rfl rfl (fun y103 e104 => ?_)
  refine yT.kb (pc' := 5) rfl rfl (by decide) (fun x105 e106 => ?_)
  refine yT.aan (pc' := 6) g0 rfl rfl rfl ?_
  refine yT.cg8 (pc' := 9) rfl rfl hT (K.up rfl) rfl rfl (fun _ => ?_)
  refine yT.ks (pc' := 12) rfl rfl (by decide) (fun x107 e108 => ?_)
  refine yT.tia (6856) (pc' := 13) rfl rfl hT (K.up rfl) e108 (by omega) (fun x109 z111 => ?_)
  have e110 : x109.toInt = nw σ (6856) := congrArg Int32.toInt z111
  refine yT.mn (pc' := 16) rfl rfl (by omega) rfl (fun x112 m113 => ?_)
  have m113 := mnI m113 e106 e110
  refine yT.kI (pc' := 17) rfl rfl (by decide) (fun x114 e115 => ?_)
  refine yT.sb2 (pc' := 18) (Z := x112.toInt - 1) rfl e115 rfl rfl (by omega) (fun x116 e117 => ?_)
  refine yT.i2l2 (pc' := 19) (X := x112.toInt - 1) e117 rfl rfl (fun y118 e119 => ?_)
  refine kSI (yT.cst (G2 := 0) (pc' := 22) rfl rfl xM_163 (r163 (v := x1.toInt) (lo := 0) (hi := x112.toInt - 1) K hT e102 e104 e119) rfl (by omega) (by decide) rfl) (fun h120 x123 hT121 E122 => ?_)
  refine yT.if1 (t := 38) (pc' := 25) rfl rfl rfl (c1_eq rfl) (fun c124 => ?_) (fun c124 => ?_)
  · refine yT.aan (pc' := 39) g0 rfl rfl rfl ?_
    refine yT.kb (pc' := 41) rfl rfl (by decide) (fun x125 e126 => ?_)
    refine kSI (yT.cc (G2 := 0) (pc' := 44) rfl rfl rfl hT121 (K.up rfl : xnth ks 60 = some (19, 0)) xM_164 (r164  K hT121 x125 (by omega)) rfl (by omega) (by decide) rfl) (fun h127 x130 hT128 E129 => ?_)
    exact yT.retI rfl rfl ⟨hT128, _, rfl, trivial⟩
  · refine yT.aan (pc' := 26) g0 rfl rfl rfl ?_
    refine yT.cg8 (pc' := 29) rfl rfl hT121 (K.up rfl) rfl rfl (fun _ => ?_)
    refine yT.ks (pc' := 32) rfl rfl (by decide) (fun x131 e132 => ?_)
    refine yT.iln (pc' := 33) g1 rfl rfl ?_
    refine yT.ad2 (pc' := 34) (Z := x1.toInt + 6857) e132 rfl rfl rfl (by omega) (fun x133 e134 => ?_)
    refine yT.tia ((x1.toInt).toNat + 6857) (pc' := 35) rfl rfl hT121 (K.up rfl) e134 (by omega) (fun x135 z137 => ?_)
    have e136 : x135.toInt = nw σ ((x1.toInt).toNat + 6857) := congrArg Int32.toInt z137
    refine yT.p (pc' := 44) rfl rfl (fun _ _ _ _ => rfl) ?_
    exact yT.retI rfl rfl ⟨hT121, _, rfl, trivial⟩
-- rX9_queued
set_option maxRecDepth 100000 in
set_option maxHeartbeats 4000000 in
theorem r259 {ks : List cT} {B0 : Nat} (K : KE KS0 ks B0) {σ : sg} {ρ : Nat → xE} {h : List xE} (hT : HT ks σ ρ h) (x1 : Int32) (p0 : RO σ) : yM 259 (1) 0 [.ref (60 + 1), .int x1] h (SQI ks σ ρ (fun r => True)) := by
  refine yM.st xM_259 rfl rfl (fun lv g => ?_)
  have g0 := g 0 _ rfl
  have g1 := g 1 _ rfl
  have hcm := p0.1
  have hrd := p0.rd
  have hq0 := p0.2.1.1
  refine yT.iln (pc' := 1) g1 rfl rfl ?_
  refine yT.i2l2 (pc' := 2) (X := x1.toInt) rfl rfl rfl (fun y101 e102 => ?_)
  refine yT.lc2 (pc' := 3) (X := 0) rfl rfl rfl (fun y103 e104 => ?_)
  refine yT.aan (pc' := 4) g0 rfl rfl rfl ?_
  refine yT.cg8 (pc' := 7) rfl rfl hT (K.up rfl) rfl rfl (fun _ => ?_)
  refine yT.ks (pc' := 10) rfl rfl (by decide) (fun x105 e106 => ?_)
  refine yT.tia (6770) (pc' := 11) rfl rfl hT (K.up rfl) e106 (by omega) (fun x107 z109 => ?_)
  have e108 : x107.toInt = nw σ (6770) := congrArg Int32.toInt z109
  refine yT.kI (pc' := 12) rfl rfl (by decide) (fun x110 e111 => ?_)
  refine yT.sb2 (pc' := 13) (Z := (nw σ (6770)) - 1) e108 e111 rfl rfl (by omega) (fun x112 e113 => ?_)
  refine yT.i2l2 (pc' := 14) (X := (nw σ (6770)) - 1) e113 rfl rfl (fun y114 e115 => ?_)
  refine kSI (yT.cst (G2 := 0) (pc' := 17) rfl rfl xM_163 (r163 (v := x1.toInt) (lo := 0) (hi := (nw σ (6770)) - 1) K hT e102 e104 e115) rfl (by omega) (by decide) rfl) (fun h116 x119 hT117 E118 => ?_)
  refine yT.if1 (t := 33) (pc' := 20) rfl rfl rfl (c1_eq rfl) (fun c120 => ?_) (fun c120 => ?_)
  · refine yT.aan (pc' := 34) g0 rfl rfl rfl ?_
    refine yT.kb (pc' := 36) rfl rfl (by decide) (fun x121 e122 => ?_)
    refine kSI (yT.cc (G2 := 0) (pc' := 39) rfl rfl rfl hT117 (K.up rfl : xnth ks 60 = some (19, 0)) xM_164 (r164  K hT117 x121 (by omega)) rfl (by omega) (by decide) rfl) (fun h123 x126 hT124 E125 => ?_)
    exact yT.retI rfl rfl ⟨hT124, _, rfl, trivial⟩
  · refine yT.aan (pc' := 21) g0 rfl rfl rfl ?_
    refine yT.cg8 (pc' := 24) rfl rfl hT117 (K.up rfl) rfl rfl (fun _ => ?_)
    refine yT.ks (pc' := 27) rfl rfl (by decide) (fun x127 e128 => ?_)
    refine yT.iln (pc' := 28) g1 rfl rfl ?_
    refine yT.ad2 (pc' := 29) (Z := x1.toInt + 6771) e128 rfl rfl rfl (by omega) (fun x129 e130 => ?_)
    refine yT.tia ((x1.toInt).toNat + 6771) (pc' := 30) rfl rfl hT117 (K.up rfl) e130 (by omega) (fun x131 z133 => ?_)
    have e132 : x131.toInt = nw σ ((x1.toInt).toNat + 6771) := congrArg Int32.toInt z133
    refine yT.p (pc' := 39) rfl rfl (fun _ _ _ _ => rfl) ?_
    exact yT.retI rfl rfl ⟨hT117, _, rfl, trivial⟩
-- rX9_judge
set_option maxRecDepth 100000 in
set_option maxHeartbeats 4000000 in
theorem r260 {ks : List cT} {B0 : Nat} (K : KE KS0 ks B0) {σ : sg} {ρ : Nat → xE} {h : List xE} (hT : HT ks σ ρ h) (x1 : Int32) (x2 : Int32) (p0 : SH σ) (p1 : 0 ≤ nw σ 6795 ∧ nw σ 6795 ≤ 1000000000) : yM 260 (2) 0 [.ref (60 + 1), .int x1, .int x2] h (SQI ks σ ρ (fun r => True)) := by
  refine yM.st xM_260 rfl rfl (fun lv g => ?_)
  have g0 := g 0 _ rfl
  have g1 := g 1 _ rfl
  have g2 := g 2 _ rfl
  refine yT.iln (pc' := 1) g1 rfl rfl ?_
  refine kSI (yT.cst (G2 := 0) (pc' := 4) rfl rfl xM_211 (r211  K hT x1) rfl (by omega) (by decide) rfl) (fun h101 x104 hT102 E103 => ?_)
  refine yT.if1 (t := 19) (pc' := 7) rfl rfl rfl (c1_eq rfl) (fun c105 => ?_) (fun c105 => ?_)
  · refine yT.aan (pc' := 20) g0 rfl rfl rfl ?_
    refine yT.kb (pc' := 22) rfl rfl (by decide) (fun x106 e107 => ?_)
    refine kSI (yT.cc (G2 := 0) (pc' := 25) rfl rfl rfl hT102 (K.up rfl : xnth ks 60 = some (19, 0)) xM_164 (r164  K hT102 x106 (by omega)) rfl (by omega) (by decide) rfl) (fun h108 x111 hT109 E110 => ?_)
    exact yT.retI rfl rfl ⟨hT109, _, rfl, trivial⟩
  · refine yT.iln (pc' := 8) g2 rfl rfl ?_
    refine yT.i2l2 (pc' := 9) (X := x2.toInt) rfl rfl rfl (fun y112 e113 => ?_)
    refine yT.lc2 (pc' := 10) (X := 0) rfl rfl rfl (fun y114 e115 => ?_)
    refine yT.ld2 (pc' := 13) (X := 20) rfl rfl rfl (by decide) (fun y116 e117 => ?_)
    refine kSI (yT.cst (G2 := 0) (pc' := 16) rfl rfl xM_163 (r163 (v := x2.toInt) (lo := 0) (hi := 20) K hT102 e113 e115 e117) rfl (by omega) (by decide) rfl) (fun h118 x121 hT119 E120 => ?_)
    refine yT.if1 (t := 26) (pc' := 19) rfl rfl rfl (c1_ne rfl) (fun c122 => ?_) (fun c122 => ?_)
    · have hsh := p0 (x1.toInt).toNat (by omega)
      refine yT.aan (pc' := 27) g0 rfl rfl rfl ?_
      refine yT.cg8 (pc' := 30) rfl rfl hT119 (K.up rfl) rfl rfl (fun _ => ?_)
      refine yT.iln (pc' := 31) g1 rfl rfl ?_
      refine yT.tia ((x1.toInt).toNat) (pc' := 32) rfl rfl hT119 (K.up rfl) rfl (by omega) (fun x123 z125 => ?_)
      have e124 : x123.toInt = (σ 76 ((x1.toInt).toNat)).toInt := congrArg Int32.toInt z125
      refine yT.kI (pc' := 33) rfl rfl (by decide) (fun x126 e127 => ?_)
      refine yT.if2 (t := 43) (pc' := 36) rfl rfl rfl (c2_le e124 e127) (fun c128 => ?_) (fun c128 => ?_)
      · refine yT.aan (pc' := 44) g0 rfl rfl rfl ?_
        refine yT.cg8 (pc' := 47) rfl rfl hT119 (K.up rfl) rfl rfl (fun _ => ?_)
        refine yT.iln (pc' := 48) g1 rfl rfl ?_
        refine yT.tia ((x1.toInt).toNat) (pc' := 49) rfl rfl hT119 (K.up rfl) rfl (by omega) (fun x129 z131 => ?_)
        have e130 : x129.toInt = (σ 76 ((x1.toInt).toNat)).toInt := congrArg Int32.toInt z131
        refine yT.if1 (t := 59) (pc' := 52) rfl rfl rfl (c1_ge e130) (fun c132 => ?_) (fun c132 => ?_)
        · refine yT.kI (pc' := 60) rfl rfl (by decide) (fun x133 e134 => ?_)
          refine yT.iln (pc' := 61) g2 rfl rfl ?_
          refine yT.ml2 (pc' := 62) (Z := 2 * x2.toInt) e134 rfl rfl rfl (by omega) (fun x135 e136 => ?_)
          refine yT.aan (pc' := 63) g0 rfl rfl rfl ?_
          refine yT.cg8 (pc' := 66) rfl rfl hT119 (K.up rfl) rfl rfl (fun _ => ?_)
          refine yT.iln (pc' := 67) g1 rfl rfl ?_
          refine yT.tia ((x1.toInt).toNat) (pc' := 68) rfl rfl hT119 (K.up rfl) rfl (by omega) (fun x137 z139 => ?_)
          have e138 : x137.toInt = (σ 77 ((x1.toInt).toNat)).toInt := congrArg Int32.toInt z139
          refine yT.if2 (t := 78) (pc' := 71) rfl rfl rfl (c2_le e136 e138) (fun c140 => ?_) (fun c140 => ?_)
          · refine yT.kI (pc' := 79) rfl rfl (by decide) (fun x141 e142 => ?_)
            refine yT.p (pc' := 80) (lv' := xst1 _ 3 (.int x141)) rfl rfl (fun _ _ _ _ => rfl) ?_
            have L143 : ∀ (n154 : Nat) (lv144 : xLv) (h145 : List xE) (k148 : Nat) (x147 : Int32), HT ks σ ρ h145 → x147.toInt = (k148 : Int) → xget lv144 0 = some (.ref (60 + 1)) → xget lv144 1 = some (.int x1) → xget lv144 2 = some (.int x2) → xget lv144 3 = some (.int x147) → (x2.toInt - ((k148 : Int))).toNat < n154 → yT 0 [] rX9_judge (2) 0 80 lv144 [] h145 (SQI ks σ ρ (fun r => True)) := by
              intro n154
              induction n154 with
              | zero => intro lv144 h145 k148 x147 hT146 e149 g150 g151 g152 g153 m155; exact absurd m155 (Nat.not_lt_zero _)
              | succ n154 ih156 =>
                intro lv144 h145 k148 x147 hT146 e149 g150 g151 g152 g153 m155
                refine yT.iln (pc' := 81) g153 rfl rfl ?_
                refine yT.iln (pc' := 82) g152 rfl rfl ?_
                refine yT.if2 (t := 187) (pc' := 85) rfl rfl rfl (c2_ge e149 rfl) (fun c157 => ?_) (fun c157 => ?_)
                · refine yT.kI (pc' := 188) rfl rfl (by decide) (fun x158 e159 => ?_)
                  exact yT.retI rfl rfl ⟨hT146, _, rfl, trivial⟩
                · refine yT.iln (pc' := 86) g153 rfl rfl ?_
                  refine yT.kb (pc' := 88) rfl rfl (by decide) (fun x160 e161 => ?_)
                  refine yT.aan (pc' := 89) g150 rfl rfl rfl ?_
                  refine yT.cg8 (pc' := 92) rfl rfl hT146 (K.up rfl) rfl rfl (fun _ => ?_)
                  refine yT.ks (pc' := 95) rfl rfl (by decide) (fun x162 e163 => ?_)
                  refine yT.tia (6795) (pc' := 96) rfl rfl hT146 (K.up rfl) e163 (by omega) (fun x164 z166 => ?_)
                  have e165 : x164.toInt = nw σ (6795) := congrArg Int32.toInt z166
                  refine yT.mn (pc' := 99) rfl rfl (by omega) rfl (fun x167 m168 => ?_)
                  have m168 := mnI m168 e161 e165
                  refine yT.if2 (t := 171) (pc' := 102) rfl rfl rfl (c2_ge e149 rfl) (fun c169 => ?_) (fun c169 => ?_)
                  · refine yT.kI (pc' := 172) rfl rfl (by decide) (fun x170 e171 => ?_)
                    refine yT.p (pc' := 174) (lv' := xst1 _ 4 (.int x170)) rfl rfl (fun _ _ _ _ => rfl) ?_
                    refine yT.il (pc' := 176) xg_eq rfl rfl ?_
                    refine yT.if1 (t := 181) (pc' := 179) rfl rfl rfl (c1_ne e171) (fun c172 => by omega) (fun c172 => ?_)
                    refine yT.iln (pc' := 180) (xg_ne g153 rfl) rfl rfl ?_
                    exact yT.retI rfl rfl ⟨hT146, _, rfl, trivial⟩
                  · refine yT.aan (pc' := 103) g150 rfl rfl rfl ?_
                    refine yT.cg8 (pc' := 106) rfl rfl hT146 (K.up rfl) rfl rfl (fun _ => ?_)
                    refine yT.kb (pc' := 108) rfl rfl (by decide) (fun x173 e174 => ?_)
                    refine yT.iln (pc' := 109) g151 rfl rfl ?_
                    refine yT.ml2 (pc' := 110) (Z := 40 * x1.toInt) e174 rfl rfl rfl (by omega) (fun x175 e176 => ?_)
                    refine yT.kI (pc' := 111) rfl rfl (by decide) (fun x177 e178 => ?_)
                    refine yT.iln (pc' := 112) g153 rfl rfl ?_
                    refine yT.ml2 (pc' := 113) (Z := 2 * (k148 : Int)) e178 e149 rfl rfl (by omega) (fun x179 e180 => ?_)
                    refine yT.ad2 (pc' := 114) (Z := 40 * x1.toInt + 2 * (k148 : Int)) e176 e180 rfl rfl (by omega) (fun x181 e182 => ?_)
                    refine yT.cla (pc' := 115) rfl rfl hT146 (K.up rfl) e182 (by omega) (fun y183 => ?_)
                    refine yT.aan (pc' := 116) g150 rfl rfl rfl ?_
                    refine yT.cg8 (pc' := 119) rfl rfl hT146 (K.up rfl) rfl rfl (fun _ => ?_)
                    refine yT.ks (pc' := 122) rfl rfl (by decide) (fun x184 e185 => ?_)
                    refine yT.iln (pc' := 123) g153 rfl rfl ?_
                    refine yT.ad2 (pc' := 124) (Z := (k148 : Int) + 6796) e185 e149 rfl rfl (by omega) (fun x186 e187 => ?_)
                    refine yT.tia (k148 + 6796) (pc' := 125) rfl rfl hT146 (K.up rfl) e187 (by omega) (fun x188 z190 => ?_)
                    have e189 : x188.toInt = nw σ (k148 + 6796) := congrArg Int32.toInt z190
                    refine yT.i2l2 (pc' := 126) (X := (nw σ (k148 + 6796))) e189 rfl rfl (fun y191 e192 => ?_)
                    refine yT.cmp2 (pc' := 127) (U := y183.toInt) (V := (nw σ (k148 + 6796))) rfl e192 rfl rfl (fun x193 c194 => ?_)
                    refine yT.if1 (t := 171) (pc' := 130) rfl rfl rfl (c1_ne rfl) (fun c195 => ?_) (fun c195 => ?_)
                    · refine yT.kI (pc' := 172) rfl rfl (by decide) (fun x196 e197 => ?_)
                      refine yT.p (pc' := 174) (lv' := xst1 _ 4 (.int x196)) rfl rfl (fun _ _ _ _ => rfl) ?_
                      refine yT.il (pc' := 176) xg_eq rfl rfl ?_
                      refine yT.if1 (t := 181) (pc' := 179) rfl rfl rfl (c1_ne e197) (fun c198 => by omega) (fun c198 => ?_)
                      refine yT.iln (pc' := 180) (xg_ne g153 rfl) rfl rfl ?_
                      exact yT.retI rfl rfl ⟨hT146, _, rfl, trivial⟩
                    · refine yT.aan (pc' := 131) g150 rfl rfl rfl ?_
                      refine yT.cg8 (pc' := 134) rfl rfl hT146 (K.up rfl) rfl rfl (fun _ => ?_)
                      refine yT.kb (pc' := 136) rfl rfl (by decide) (fun x199 e200 => ?_)
                      refine yT.iln (pc' := 137) g151 rfl rfl ?_
                      refine yT.ml2 (pc' := 138) (Z := 40 * x1.toInt) e200 rfl rfl rfl (by omega) (fun x201 e202 => ?_)
                      refine yT.kI (pc' := 139) rfl rfl (by decide) (fun x203 e204 => ?_)
                      refine yT.iln (pc' := 140) g153 rfl rfl ?_
                      refine yT.ml2 (pc' := 141) (Z := 2 * (k148 : Int)) e204 e149 rfl rfl (by omega) (fun x205 e206 => ?_)
                      refine yT.ad2 (pc' := 142) (Z := 40 * x1.toInt + 2 * (k148 : Int)) e202 e206 rfl rfl (by omega) (fun x207 e208 => ?_)
                      refine yT.kI (pc' := 143) rfl rfl (by decide) (fun x209 e210 => ?_)
                      refine yT.ad2 (pc' := 144) (Z := 40 * x1.toInt + 2 * (k148 : Int) + 1) e208 e210 rfl rfl (by omega) (fun x211 e212 => ?_)
                      refine yT.cla (pc' := 145) rfl rfl hT146 (K.up rfl) e212 (by omega) (fun y213 => ?_)
                      refine yT.aan (pc' := 146) g150 rfl rfl rfl ?_
                      refine yT.cg8 (pc' := 149) rfl rfl hT146 (K.up rfl) rfl rfl (fun _ => ?_)
                      refine yT.iln (pc' := 150) g153 rfl rfl ?_
                      refine yT.cla (pc' := 151) rfl rfl hT146 (K.up rfl) e149 (by omega) (fun y214 => ?_)
                      refine yT.cmp2 (pc' := 152) (U := y213.toInt) (V := y214.toInt) rfl rfl rfl rfl (fun x215 c216 => ?_)
                      refine yT.if1 (t := 171) (pc' := 155) rfl rfl rfl (c1_ne rfl) (fun c217 => ?_) (fun c217 => ?_)
                      · refine yT.kI (pc' := 172) rfl rfl (by decide) (fun x218 e219 => ?_)
                        refine yT.p (pc' := 174) (lv' := xst1 _ 4 (.int x218)) rfl rfl (fun _ _ _ _ => rfl) ?_
                        refine yT.il (pc' := 176) xg_eq rfl rfl ?_
                        refine yT.if1 (t := 181) (pc' := 179) rfl rfl rfl (c1_ne e219) (fun c220 => by omega) (fun c220 => ?_)
                        refine yT.iln (pc' := 180) (xg_ne g153 rfl) rfl rfl ?_
                        exact yT.retI rfl rfl ⟨hT146, _, rfl, trivial⟩
                      · refine yT.aan (pc' := 156) g150 rfl rfl rfl ?_
                        refine yT.cg8 (pc' := 159) rfl rfl hT146 (K.up rfl) rfl rfl (fun _ => ?_)
                        refine yT.iln (pc' := 160) g153 rfl rfl ?_
                        refine yT.cla (pc' := 161) rfl rfl hT146 (K.up rfl) e149 (by omega) (fun y221 => ?_)
                        refine kSI (yT.cst (G2 := 0) (pc' := 164) rfl rfl xM_171 (r171  K hT146 y221) rfl (by omega) (by decide) rfl) (fun h222 x225 hT223 E224 => ?_)
                        refine yT.if1 (t := 171) (pc' := 167) rfl rfl rfl (c1_ne rfl) (fun c226 => ?_) (fun c226 => ?_)
                        · refine yT.kI (pc' := 172) rfl rfl (by decide) (fun x227 e228 => ?_)
                          refine yT.p (pc' := 174) (lv' := xst1 _ 4 (.int x227)) rfl rfl (fun _ _ _ _ => rfl) ?_
                          refine yT.il (pc' := 176) xg_eq rfl rfl ?_
                          refine yT.if1 (t := 181) (pc' := 179) rfl rfl rfl (c1_ne e228) (fun c229 => by omega) (fun c229 => ?_)
                          refine yT.iln (pc' := 180) (xg_ne g153 rfl) rfl rfl ?_
                          exact yT.retI rfl rfl ⟨hT223, _, rfl, trivial⟩
                        · refine yT.kI (pc' := 168) rfl rfl (by decide) (fun x230 e231 => ?_)
                          refine yT.p (pc' := 172) rfl rfl (fun _ _ _ _ => rfl) ?_
                          refine yT.p (pc' := 174) (lv' := xst1 _ 4 (.int x230)) rfl rfl (fun _ _ _ _ => rfl) ?_
                          refine yT.il (pc' := 176) xg_eq rfl rfl ?_
                          refine yT.if1 (t := 181) (pc' := 179) rfl rfl rfl (c1_ne e231) (fun c232 => ?_) (fun c232 => by omega)
                          refine yT.inc2 (pc' := 184) (Z := (k148 : Int) + 1) (xg_ne g153 rfl) e149 rfl rfl rfl ⟨by decide, by omega⟩ (fun x233 e234 => ?_)
                          refine yT.p (pc' := 80) rfl rfl (fun _ _ _ _ => rfl) ?_
                          exact ih156 _ _ (k148 + 1) x233 hT223 (by omega) (xg_ne (xg_ne g150 rfl) rfl) (xg_ne (xg_ne g151 rfl) rfl) (xg_ne (xg_ne g152 rfl) rfl) xg_eq (by omega)
            exact L143 _ _ _ (0) x141 hT119 (by omega) (xg_ne g0 rfl) (xg_ne g1 rfl) (xg_ne g2 rfl) xg_eq (Nat.lt_succ_self _)
          · refine yT.aan (pc' := 72) g0 rfl rfl rfl ?_
            refine yT.kb (pc' := 74) rfl rfl (by decide) (fun x235 e236 => ?_)
            refine kSI (yT.cc (G2 := 0) (pc' := 77) rfl rfl rfl hT119 (K.up rfl : xnth ks 60 = some (19, 0)) xM_164 (r164  K hT119 x235 (by omega)) rfl (by omega) (by decide) rfl) (fun h237 x240 hT238 E239 => ?_)
            exact yT.retI rfl rfl ⟨hT238, _, rfl, trivial⟩
        · refine yT.aan (pc' := 53) g0 rfl rfl rfl ?_
          refine yT.kb (pc' := 55) rfl rfl (by decide) (fun x241 e242 => ?_)
          refine kSI (yT.cc (G2 := 0) (pc' := 58) rfl rfl rfl hT119 (K.up rfl : xnth ks 60 = some (19, 0)) xM_164 (r164  K hT119 x241 (by omega)) rfl (by omega) (by decide) rfl) (fun h243 x246 hT244 E245 => ?_)
          exact yT.retI rfl rfl ⟨hT244, _, rfl, trivial⟩
      · refine yT.aan (pc' := 37) g0 rfl rfl rfl ?_
        refine yT.kb (pc' := 39) rfl rfl (by decide) (fun x247 e248 => ?_)
        refine kSI (yT.cc (G2 := 0) (pc' := 42) rfl rfl rfl hT119 (K.up rfl : xnth ks 60 = some (19, 0)) xM_164 (r164  K hT119 x247 (by omega)) rfl (by omega) (by decide) rfl) (fun h249 x252 hT250 E251 => ?_)
        exact yT.retI rfl rfl ⟨hT250, _, rfl, trivial⟩
    · refine yT.aan (pc' := 20) g0 rfl rfl rfl ?_
      refine yT.kb (pc' := 22) rfl rfl (by decide) (fun x253 e254 => ?_)
      refine kSI (yT.cc (G2 := 0) (pc' := 25) rfl rfl rfl hT119 (K.up rfl : xnth ks 60 = some (19, 0)) xM_164 (r164  K hT119 x253 (by omega)) rfl (by omega) (by decide) rfl) (fun h255 x258 hT256 E257 => ?_)
      exact yT.retI rfl rfl ⟨hT256, _, rfl, trivial⟩
-- rX9_status
set_option maxRecDepth 100000 in
set_option maxHeartbeats 4000000 in
theorem r271 {ks : List cT} {B0 : Nat} (K : KE KS0 ks B0) {σ : sg} {ρ : Nat → xE} {h : List xE} (hT : HT ks σ ρ h) (x1 : Int32) (p0 : RO σ) : yM 271 (2) 0 [.ref (60 + 1), .int x1] h (SQI ks σ ρ (fun r => True)) := by
  refine yM.st xM_271 rfl rfl (fun lv g => ?_)
  have g0 := g 0 _ rfl
  have g1 := g 1 _ rfl
  refine yT.iln (pc' := 1) g1 rfl rfl ?_
  by_cases c101 : x1.toInt = 0
  · refine yT.tswK 0 (t := 56) rfl rfl (by omega) rfl rfl ?_
    refine yT.aan (pc' := 57) g0 rfl rfl rfl ?_
    refine yT.cg8 (pc' := 60) rfl rfl hT (K.up rfl) rfl rfl (fun _ => ?_)
    refine yT.ks (pc' := 63) rfl rfl (by decide) (fun x102 e103 => ?_)
    refine yT.tia (6768) (pc' := 64) rfl rfl hT (K.up rfl) e103 (by omega) (fun x104 z106 => ?_)
    have e105 : x104.toInt = nw σ (6768) := congrArg Int32.toInt z106
    exact yT.retI rfl rfl ⟨hT, _, rfl, trivial⟩
  · by_cases c107 : x1.toInt = 1
    · refine yT.tswK 1 (t := 65) rfl rfl (by omega) rfl rfl ?_
      refine yT.aan (pc' := 66) g0 rfl rfl rfl ?_
      refine kSI (yT.cc (G2 := 0) (pc' := 69) rfl rfl rfl hT (K.up rfl : xnth ks 60 = some (19, 0)) xM_268 (r268  K hT p0) rfl (by omega) (by decide) rfl) (fun h108 x111 hT109 E110 => ?_)
      exact yT.retI rfl rfl ⟨hT109, _, rfl, trivial⟩
    · by_cases c112 : x1.toInt = 2
      · refine yT.tswK 2 (t := 70) rfl rfl (by omega) rfl rfl ?_
        refine yT.aan (pc' := 71) g0 rfl rfl rfl ?_
        refine yT.cg8 (pc' := 74) rfl rfl hT (K.up rfl) rfl rfl (fun _ => ?_)
        refine yT.ks (pc' := 77) rfl rfl (by decide) (fun x113 e114 => ?_)
        refine yT.tia (6769) (pc' := 78) rfl rfl hT (K.up rfl) e114 (by omega) (fun x115 z117 => ?_)
        have e116 : x115.toInt = nw σ (6769) := congrArg Int32.toInt z117
        exact yT.retI rfl rfl ⟨hT, _, rfl, trivial⟩
      · by_cases c118 : x1.toInt = 3
        · refine yT.tswK 3 (t := 79) rfl rfl (by omega) rfl rfl ?_
          refine yT.aan (pc' := 80) g0 rfl rfl rfl ?_
          refine yT.cg8 (pc' := 83) rfl rfl hT (K.up rfl) rfl rfl (fun _ => ?_)
          refine yT.ks (pc' := 86) rfl rfl (by decide) (fun x119 e120 => ?_)
          refine yT.tia (6770) (pc' := 87) rfl rfl hT (K.up rfl) e120 (by omega) (fun x121 z123 => ?_)
          have e122 : x121.toInt = nw σ (6770) := congrArg Int32.toInt z123
          exact yT.retI rfl rfl ⟨hT, _, rfl, trivial⟩
        · by_cases c124 : x1.toInt = 4
          · refine yT.tswK 4 (t := 88) rfl rfl (by omega) rfl rfl ?_
            refine yT.aan (pc' := 89) g0 rfl rfl rfl ?_
            refine yT.cg8 (pc' := 92) rfl rfl hT (K.up rfl) rfl rfl (fun _ => ?_)
            refine yT.ks (pc' := 95) rfl rfl (by decide) (fun x125 e126 => ?_)
            refine yT.tia (6795) (pc' := 96) rfl rfl hT (K.up rfl) e126 (by omega) (fun x127 z129 => ?_)
            have e128 : x127.toInt = nw σ (6795) := congrArg Int32.toInt z129
            exact yT.retI rfl rfl ⟨hT, _, rfl, trivial⟩
          · by_cases c130 : x1.toInt = 5
            · refine yT.tswK 5 (t := 97) rfl rfl (by omega) rfl rfl ?_
              refine yT.aan (pc' := 98) g0 rfl rfl rfl ?_
              refine yT.cg8 (pc' := 101) rfl rfl hT (K.up rfl) rfl rfl (fun _ => ?_)
              refine yT.ks (pc' := 104) rfl rfl (by decide) (fun x131 e132 => ?_)
              refine yT.tia (6856) (pc' := 105) rfl rfl hT (K.up rfl) e132 (by omega) (fun x133 z135 => ?_)
              have e134 : x133.toInt = nw σ (6856) := congrArg Int32.toInt z135
              exact yT.retI rfl rfl ⟨hT, _, rfl, trivial⟩
            · by_cases c136 : x1.toInt = 6
              · refine yT.tswK 6 (t := 106) rfl rfl (by omega) rfl rfl ?_
                refine yT.aan (pc' := 107) g0 rfl rfl rfl ?_
                refine kSI (yT.cc (G2 := 0) (pc' := 110) rfl rfl rfl hT (K.up rfl : xnth ks 60 = some (19, 0)) xM_269 (r269  K hT p0) rfl (by omega) (by decide) rfl) (fun h137 x140 hT138 E139 => ?_)
                exact yT.retI rfl rfl ⟨hT138, _, rfl, trivial⟩
              · by_cases c141 : x1.toInt = 7
                · refine yT.tswK 7 (t := 111) rfl rfl (by omega) rfl rfl ?_
                  refine yT.aan (pc' := 112) g0 rfl rfl rfl ?_
                  refine yT.cgX (pc' := 115) rfl rfl hT (K.up rfl) rfl rfl (fun x142 _ i143 j144 z145 => ?_)
                  have e146 : x142.toInt = fl σ 12 := congrArg Int32.toInt z145
                  exact yT.retI rfl rfl ⟨hT, _, rfl, trivial⟩
                · by_cases c147 : x1.toInt = 8
                  · refine yT.tswK 8 (t := 116) rfl rfl (by omega) rfl rfl ?_
                    refine yT.aan (pc' := 117) g0 rfl rfl rfl ?_
                    refine yT.cg8 (pc' := 120) rfl rfl hT (K.up rfl) rfl rfl (fun _ => ?_)
                    refine yT.ks (pc' := 123) rfl rfl (by decide) (fun x148 e149 => ?_)
                    refine yT.tia (6917) (pc' := 124) rfl rfl hT (K.up rfl) e149 (by omega) (fun x150 z152 => ?_)
                    have e151 : x150.toInt = nw σ (6917) := congrArg Int32.toInt z152
                    exact yT.retI rfl rfl ⟨hT, _, rfl, trivial⟩
                  · by_cases c153 : x1.toInt = 9
                    · refine yT.tswK 9 (t := 125) rfl rfl (by omega) rfl rfl ?_
                      refine yT.aan (pc' := 126) g0 rfl rfl rfl ?_
                      refine kSI (yT.cc (G2 := 0) (pc' := 129) rfl rfl rfl hT (K.up rfl : xnth ks 60 = some (19, 0)) xM_270 (r270  K hT ) rfl (by omega) (by decide) rfl) (fun h154 x157 hT155 E156 => ?_)
                      exact yT.retI rfl rfl ⟨hT155, _, rfl, trivial⟩
                    · refine yT.tswD (t := 130) rfl rfl rfl (by omega) ?_
                      refine yT.iln (pc' := 131) g1 rfl rfl ?_
                      refine yT.i2l2 (pc' := 132) (X := x1.toInt) rfl rfl rfl (fun y158 e159 => ?_)
                      refine yT.ld2 (pc' := 135) (X := 12) rfl rfl rfl (by decide) (fun y160 e161 => ?_)
                      refine yT.ld2 (pc' := 138) (X := 16) rfl rfl rfl (by decide) (fun y162 e163 => ?_)
                      refine kSI (yT.cst (G2 := 0) (pc' := 141) rfl rfl xM_163 (r163 (v := x1.toInt) (lo := 12) (hi := 16) K hT e159 e161 e163) rfl (by omega) (by decide) rfl) (fun h164 x167 hT165 E166 => ?_)
                      refine yT.if1 (t := 156) (pc' := 144) rfl rfl rfl (c1_eq rfl) (fun c168 => ?_) (fun c168 => ?_)
                      · refine yT.kI (pc' := 157) rfl rfl (by decide) (fun x169 e170 => ?_)
                        exact yT.retI rfl rfl ⟨hT165, _, rfl, trivial⟩
                      · refine yT.aan (pc' := 145) g0 rfl rfl rfl ?_
                        refine yT.cg8 (pc' := 148) rfl rfl hT165 (K.up rfl) rfl rfl (fun _ => ?_)
                        refine yT.iln (pc' := 149) g1 rfl rfl ?_
                        refine yT.kb (pc' := 151) rfl rfl (by decide) (fun x171 e172 => ?_)
                        refine yT.sb2 (pc' := 152) (Z := x1.toInt - 10) rfl e172 rfl rfl (by omega) (fun x173 e174 => ?_)
                        refine yT.cia (pc' := 153) rfl rfl hT165 (K.up rfl) e174 (by omega) (fun x175 => ?_)
                        refine yT.p (pc' := 157) rfl rfl (fun _ _ _ _ => rfl) ?_
                        exact yT.retI rfl rfl ⟨hT165, _, rfl, trivial⟩
