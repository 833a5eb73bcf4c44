-- rX9_in
set_option maxRecDepth 100000 in
set_option maxHeartbeats 4000000 in
theorem r163 {ks : List cT} {B0 : Nat} (K : KE KS0 ks B0) {σ : sg} {ρ : Nat → xE} {h : List xE} (hT : HT ks σ ρ h) {v : Int} {x0 : Int64} (e0 : x0.toInt = v) {lo : Int} {x2 : Int64} (e2 : x2.toInt = lo) {hi : Int} {x4 : Int64} (e4 : x4.toInt = hi) : yM 163 (0) 0 [.long x0, .long x2, .long x4] h (SQI ks σ ρ (fun r => (r.toInt = 0 ∨ r.toInt = 1) ∧ (r.toInt = 1 ↔ lo ≤ v ∧ v ≤ hi))) := by
  refine yM.st xM_163 rfl rfl (fun lv g => ?_)
  have g0 := g 0 _ rfl
  have g2 := g 2 _ rfl
  have g4 := g 4 _ rfl
  refine yT.lln (pc' := 1) g0 rfl rfl ?_
  refine yT.lln (pc' := 2) g2 rfl rfl ?_
  refine yT.cmp2 (pc' := 3) (U := v) (V := lo) e0 e2 rfl rfl (fun x101 c102 => ?_)
  refine yT.if1 (t := 17) (pc' := 6) rfl rfl rfl (c1_lt rfl) (fun c103 => ?_) (fun c103 => ?_)
  · refine yT.kI (pc' := 18) rfl rfl (by decide) (fun x104 e105 => ?_)
    exact yT.retZ rfl rfl (b01 (by omega) (by omega)) ⟨hT, _, rfl, (by omega)⟩
  · refine yT.lln (pc' := 7) g0 rfl rfl ?_
    refine yT.ll (pc' := 9) g4 rfl rfl ?_
    refine yT.cmp2 (pc' := 10) (U := v) (V := hi) e0 e4 rfl rfl (fun x106 c107 => ?_)
    refine yT.if1 (t := 17) (pc' := 13) rfl rfl rfl (c1_gt rfl) (fun c108 => ?_) (fun c108 => ?_)
    · refine yT.kI (pc' := 18) rfl rfl (by decide) (fun x109 e110 => ?_)
      exact yT.retZ rfl rfl (b01 (by omega) (by omega)) ⟨hT, _, rfl, (by omega)⟩
    · refine yT.kI (pc' := 14) rfl rfl (by decide) (fun x111 e112 => ?_)
      refine yT.p (pc' := 18) rfl rfl (fun _ _ _ _ => rfl) ?_
      exact yT.retZ rfl rfl (b01 (by omega) (by omega)) ⟨hT, _, rfl, (by omega)⟩
-- rX9_refused
set_option maxRecDepth 100000 in
set_option maxHeartbeats 4000000 in
theorem r164 {ks : List cT} {B0 : Nat} (K : KE KS0 ks B0) {σ : sg} {ρ : Nat → xE} {h : List xE} (hT : HT ks σ ρ h) (x1 : Int32) (p0 : -6 ≤ x1.toInt ∧ x1.toInt ≤ -2) : yM 164 (0) 0 [.ref (60 + 1), .int x1] h (SQI ks σ ρ (fun r => r.toInt = x1.toInt)) := by
  refine yM.st xM_164 rfl rfl (fun lv g => ?_)
  have g0 := g 0 _ rfl
  have g1 := g 1 _ rfl
  refine yT.aan (pc' := 1) g0 rfl rfl rfl ?_
  refine yT.cg8 (pc' := 4) rfl rfl hT (K.up rfl) rfl rfl (fun _ => ?_)
  refine yT.iln (pc' := 5) g1 rfl rfl ?_
  refine yT.neg2 (pc' := 6) (Z := -x1.toInt) rfl rfl rfl (by omega) (fun x101 e102 => ?_)
  refine yT.p (pc' := 7) rfl rfl (fun _ _ _ _ => rfl) ?_
  refine yT.cia (pc' := 8) rfl rfl hT (K.up rfl) e102 (by omega) (fun x103 => ?_)
  refine yT.kI (pc' := 9) rfl rfl (by decide) (fun x106 e107 => ?_)
  refine yT.fi (pc' := 10) rfl rfl (fun _ _ _ _ => rfl) (fun x108 => ?_)
  refine yT.cis (pc' := 11) rfl rfl hT (K.up rfl) e102 (by omega) (fun h109 hT110 _ => ?_)
  refine yT.iln (pc' := 12) g1 rfl rfl ?_
  exact yT.retI rfl rfl ⟨hT110, _, rfl, rfl⟩
-- rX9_refusedLong
set_option maxRecDepth 100000 in
set_option maxHeartbeats 4000000 in
theorem r165 {ks : List cT} {B0 : Nat} (K : KE KS0 ks B0) {σ : sg} {ρ : Nat → xE} {h : List xE} (hT : HT ks σ ρ h) (x1 : Int32) (p0 : -6 ≤ x1.toInt ∧ x1.toInt ≤ -2) : yM 165 (1) 0 [.ref (60 + 1), .int x1] h (SQL ks σ ρ (fun r => True)) := by
  refine yM.st xM_165 rfl rfl (fun lv g => ?_)
  have g0 := g 0 _ rfl
  have g1 := g 1 _ rfl
  refine yT.aan (pc' := 1) g0 rfl rfl rfl ?_
  refine yT.iln (pc' := 2) g1 rfl rfl ?_
  refine kSI (yT.cc (G2 := 0) (pc' := 5) rfl rfl rfl hT (K.up rfl : xnth ks 60 = some (19, 0)) xM_164 (r164  K hT x1 (by omega)) rfl (by omega) (by decide) rfl) (fun h101 x104 hT102 E103 => ?_)
  refine yT.i2l2 (pc' := 6) (X := x104.toInt) rfl rfl rfl (fun y105 e106 => ?_)
  refine yT.fl (pc' := 9) rfl rfl (fun _ _ _ _ => rfl) (fun y107 => ?_)
  refine yT.fl (pc' := 10) rfl rfl (fun _ _ _ _ => rfl) (fun y108 => ?_)
  exact yT.retL rfl rfl ⟨hT102, _, rfl, trivial⟩
-- rX9_of
set_option maxRecDepth 100000 in
set_option maxHeartbeats 4000000 in
theorem r166 {ks : List cT} {B0 : Nat} (K : KE KS0 ks B0) {σ : sg} {ρ : Nat → xE} {h : List xE} (hT : HT ks σ ρ h) {c : Nat} {x1 : Int32} (e1 : x1.toInt = (c : Int)) {w : Nat} {x2 : Int32} (e2 : x2.toInt = (w : Int)) (p0 : 282 * c + w < 6918) : yM 166 (0) 0 [.ref (60 + 1), .int x1, .int x2] h (SQI ks σ ρ (fun r => r.toInt = nw σ (282 * c + w))) := by
  refine yM.st xM_166 rfl rfl (fun lv g => ?_)
  have g0 := g 0 _ rfl
  have g1 := g 1 _ rfl
  have g2 := g 2 _ rfl
  refine yT.aan (pc' := 1) g0 rfl rfl rfl ?_
  refine yT.cg8 (pc' := 4) rfl rfl hT (K.up rfl) rfl rfl (fun _ => ?_)
  refine yT.ks (pc' := 7) rfl rfl (by decide) (fun x101 e102 => ?_)
  refine yT.iln (pc' := 8) g1 rfl rfl ?_
  refine yT.ml2 (pc' := 9) (Z := 282 * (c : Int)) e102 e1 rfl rfl (by omega) (fun x103 e104 => ?_)
  refine yT.iln (pc' := 10) g2 rfl rfl ?_
  refine yT.ad2 (pc' := 11) (Z := 282 * (c : Int) + (w : Int)) e104 e2 rfl rfl (by omega) (fun x105 e106 => ?_)
  refine yT.tia (282 * c + w) (pc' := 12) rfl rfl hT (K.up rfl) e106 (by omega) (fun x107 z109 => ?_)
  have e108 : x107.toInt = nw σ (282 * c + w) := congrArg Int32.toInt z109
  exact yT.retI rfl rfl ⟨hT, _, rfl, e108⟩
-- rX9_is
set_option maxRecDepth 100000 in
set_option maxHeartbeats 4000000 in
theorem r167 {ks : List cT} {B0 : Nat} (K : KE KS0 ks B0) {σ : sg} {ρ : Nat → xE} {h : List xE} (hT : HT ks σ ρ h) {c : Nat} {x1 : Int32} (e1 : x1.toInt = (c : Int)) {w : Nat} {x2 : Int32} (e2 : x2.toInt = (w : Int)) (x3 : Int32) (p0 : 282 * c + w < 6918) : yM 167 (0) 0 [.ref (60 + 1), .int x1, .int x2, .int x3] h (RQV ks ρ (fun σ' => σ' = us σ 61 (282 * c + w) x3)) := by
  refine yM.st xM_167 rfl rfl (fun lv g => ?_)
  have g0 := g 0 _ rfl
  have g1 := g 1 _ rfl
  have g2 := g 2 _ rfl
  have g3 := g 3 _ rfl
  refine yT.aan (pc' := 1) g0 rfl rfl rfl ?_
  refine yT.cg8 (pc' := 4) rfl rfl hT (K.up rfl) rfl rfl (fun _ => ?_)
  refine yT.ks (pc' := 7) rfl rfl (by decide) (fun x101 e102 => ?_)
  refine yT.iln (pc' := 8) g1 rfl rfl ?_
  refine yT.ml2 (pc' := 9) (Z := 282 * (c : Int)) e102 e1 rfl rfl (by omega) (fun x103 e104 => ?_)
  refine yT.iln (pc' := 10) g2 rfl rfl ?_
  refine yT.ad2 (pc' := 11) (Z := 282 * (c : Int) + (w : Int)) e104 e2 rfl rfl (by omega) (fun x105 e106 => ?_)
  refine yT.iln (pc' := 12) g3 rfl rfl ?_
  refine yT.tis (282 * c + w) (pc' := 13) rfl rfl hT (K.up rfl) e106 (by omega) (fun h107 hT108 => ?_)
  exact yT.retV rfl rfl ⟨_, hT108, rfl, rfl⟩
-- rX9_isCell
set_option maxRecDepth 100000 in
set_option maxHeartbeats 4000000 in
theorem r168 {ks : List cT} {B0 : Nat} (K : KE KS0 ks B0) {σ : sg} {ρ : Nat → xE} {h : List xE} (hT : HT ks σ ρ h) (x1 : Int32) (p0 : 0 ≤ nw σ 6768 ∧ nw σ 6768 ≤ 24) : yM 168 (1) 0 [.ref (60 + 1), .int x1] h (SQI ks σ ρ (fun r => (r.toInt = 0 ∨ r.toInt = 1) ∧ (r.toInt = 1 ↔ 0 ≤ x1.toInt ∧ x1.toInt < nw σ 6768))) := by
  refine yM.st xM_168 rfl rfl (fun lv g => ?_)
  have g0 := g 0 _ rfl
  have g1 := g 1 _ rfl
  refine yT.iln (pc' := 1) g1 rfl rfl ?_
  refine yT.i2l2 (pc' := 2) (X := x1.toInt) rfl rfl rfl (fun y101 e102 => ?_)
  refine yT.lc2 (pc' := 3) (X := 0) rfl rfl rfl (fun y103 e104 => ?_)
  refine yT.aan (pc' := 4) g0 rfl rfl rfl ?_
  refine yT.cg8 (pc' := 7) rfl rfl hT (K.up rfl) rfl rfl (fun _ => ?_)
  refine yT.ks (pc' := 10) rfl rfl (by decide) (fun x105 e106 => ?_)
  refine yT.tia (6768) (pc' := 11) rfl rfl hT (K.up rfl) e106 (by omega) (fun x107 z109 => ?_)
  have e108 : x107.toInt = nw σ (6768) := congrArg Int32.toInt z109
  refine yT.kI (pc' := 12) rfl rfl (by decide) (fun x110 e111 => ?_)
  refine yT.sb2 (pc' := 13) (Z := (nw σ (6768)) - 1) e108 e111 rfl rfl (by omega) (fun x112 e113 => ?_)
  refine yT.i2l2 (pc' := 14) (X := (nw σ (6768)) - 1) e113 rfl rfl (fun y114 e115 => ?_)
  refine kSI (yT.cst (G2 := 0) (pc' := 17) rfl rfl xM_163 (r163 (v := x1.toInt) (lo := 0) (hi := (nw σ (6768)) - 1) K hT e102 e104 e115) rfl (by omega) (by decide) rfl) (fun h116 x119 hT117 E118 => ?_)
  exact yT.retZ rfl rfl (b01 (by omega) (by omega)) ⟨hT117, _, rfl, (by omega)⟩
-- rX9_isComputed
set_option maxRecDepth 100000 in
set_option maxHeartbeats 4000000 in
theorem r169 {ks : List cT} {B0 : Nat} (K : KE KS0 ks B0) {σ : sg} {ρ : Nat → xE} {h : List xE} (hT : HT ks σ ρ h) {c : Nat} {x1 : Int32} (e1 : x1.toInt = (c : Int)) (p0 : c < 24) : yM 169 (1) 0 [.ref (60 + 1), .int x1] h (SQI ks σ ρ (fun r => (r.toInt = 0 ∨ r.toInt = 1) ∧ (r.toInt = 1 ↔ nw σ (282 * c + 0) = 3 ∨ nw σ (282 * c + 0) = 4))) := by
  refine yM.st xM_169 rfl rfl (fun lv g => ?_)
  have g0 := g 0 _ rfl
  have g1 := g 1 _ rfl
  refine yT.aan (pc' := 1) g0 rfl rfl rfl ?_
  refine yT.iln (pc' := 2) g1 rfl rfl ?_
  refine yT.kI (pc' := 3) rfl rfl (by decide) (fun x101 e102 => ?_)
  refine kSI (yT.cc (G2 := 0) (pc' := 6) rfl rfl rfl hT (K.up rfl : xnth ks 60 = some (19, 0)) xM_166 (r166 (c := c) (w := 0) K hT e1 (by omega) (by omega)) rfl (by omega) (by decide) rfl) (fun h103 x106 hT104 E105 => ?_)
  refine yT.kI (pc' := 7) rfl rfl (by decide) (fun x107 e108 => ?_)
  refine yT.if2 (t := 20) (pc' := 10) rfl rfl rfl (c2_eq E105 e108) (fun c109 => ?_) (fun c109 => ?_)
  · refine yT.kI (pc' := 21) rfl rfl (by decide) (fun x110 e111 => ?_)
    refine yT.p (pc' := 25) rfl rfl (fun _ _ _ _ => rfl) ?_
    exact yT.retZ rfl rfl (b01 (by omega) (by omega)) ⟨hT104, _, rfl, (by omega)⟩
  · refine yT.aan (pc' := 11) g0 rfl rfl rfl ?_
    refine yT.iln (pc' := 12) g1 rfl rfl ?_
    refine yT.kI (pc' := 13) rfl rfl (by decide) (fun x112 e113 => ?_)
    refine kSI (yT.cc (G2 := 0) (pc' := 16) rfl rfl rfl hT104 (K.up rfl : xnth ks 60 = some (19, 0)) xM_166 (r166 (c := c) (w := 0) K hT104 e1 (by omega) (by omega)) rfl (by omega) (by decide) rfl) (fun h114 x117 hT115 E116 => ?_)
    refine yT.kI (pc' := 17) rfl rfl (by decide) (fun x118 e119 => ?_)
    refine yT.if2 (t := 24) (pc' := 20) rfl rfl rfl (c2_ne E116 e119) (fun c120 => ?_) (fun c120 => ?_)
    · refine yT.kI (pc' := 25) rfl rfl (by decide) (fun x121 e122 => ?_)
      exact yT.retZ rfl rfl (b01 (by omega) (by omega)) ⟨hT115, _, rfl, (by omega)⟩
    · refine yT.kI (pc' := 21) rfl rfl (by decide) (fun x123 e124 => ?_)
      refine yT.p (pc' := 25) rfl rfl (fun _ _ _ _ => rfl) ?_
      exact yT.retZ rfl rfl (b01 (by omega) (by omega)) ⟨hT115, _, rfl, (by omega)⟩
-- rX9_letter
set_option maxRecDepth 100000 in
set_option maxHeartbeats 4000000 in
theorem r170 {ks : List cT} {B0 : Nat} (K : KE KS0 ks B0) {σ : sg} {ρ : Nat → xE} {h : List xE} (hT : HT ks σ ρ h) {c : Nat} {x1 : Int32} (e1 : x1.toInt = (c : Int)) {k : Nat} {x2 : Int32} (e2 : x2.toInt = (k : Int)) (p0 : c < 24) (p1 : nw σ (282 * c + 31) ≤ 250) : yM 170 (1) 0 [.ref (60 + 1), .int x1, .int x2] h (SQI ks σ ρ (fun r => r.toInt = ltr σ c k)) := by
  refine yM.st xM_170 rfl rfl (fun lv g => ?_)
  have g0 := g 0 _ rfl
  have g1 := g 1 _ rfl
  have g2 := g 2 _ rfl
  refine yT.iln (pc' := 1) g2 rfl rfl ?_
  refine yT.aan (pc' := 2) g0 rfl rfl rfl ?_
  refine yT.iln (pc' := 3) g1 rfl rfl ?_
  refine yT.kb (pc' := 5) rfl rfl (by decide) (fun x101 e102 => ?_)
  refine kSI (yT.cc (G2 := 0) (pc' := 8) rfl rfl rfl hT (K.up rfl : xnth ks 60 = some (19, 0)) xM_166 (r166 (c := c) (w := 31) K hT e1 (by omega) (by omega)) rfl (by omega) (by decide) rfl) (fun h103 x106 hT104 E105 => ?_)
  refine yT.if2 (t := 23) (pc' := 11) rfl rfl rfl (c2_ge e2 E105) (fun c107 => ?_) (fun c107 => ?_)
  · refine yT.kI (pc' := 24) rfl rfl (by decide) (fun x108 e109 => ?_)
    exact yT.retI rfl rfl ⟨hT104, _, rfl, (by unfold ltr; split <;> omega)⟩
  · refine yT.aan (pc' := 12) g0 rfl rfl rfl ?_
    refine yT.iln (pc' := 13) g1 rfl rfl ?_
    refine yT.kb (pc' := 15) rfl rfl (by decide) (fun x110 e111 => ?_)
    refine yT.iln (pc' := 16) g2 rfl rfl ?_
    refine yT.ad2 (pc' := 17) (Z := (k : Int) + 32) e111 e2 rfl rfl (by omega) (fun x112 e113 => ?_)
    refine kSI (yT.cc (G2 := 0) (pc' := 20) rfl rfl rfl hT104 (K.up rfl : xnth ks 60 = some (19, 0)) xM_166 (r166 (c := c) (w := k + 32) K hT104 e1 (by omega) (by omega)) rfl (by omega) (by decide) rfl) (fun h114 x117 hT115 E116 => ?_)
    refine yT.p (pc' := 24) rfl rfl (fun _ _ _ _ => rfl) ?_
    exact yT.retI rfl rfl ⟨hT115, _, rfl, (by unfold ltr; split <;> omega)⟩
-- rX9_isFail
set_option maxRecDepth 100000 in
set_option maxHeartbeats 4000000 in
theorem r171 {ks : List cT} {B0 : Nat} (K : KE KS0 ks B0) {σ : sg} {ρ : Nat → xE} {h : List xE} (hT : HT ks σ ρ h) (x0 : Int64) : yM 171 (0) 0 [.long x0] h (SQI ks σ ρ (fun r => (r.toInt = 0 ∨ r.toInt = 1))) := by
  refine yM.st xM_171 rfl rfl (fun lv g => ?_)
  have g0 := g 0 _ rfl
  refine yT.lln (pc' := 1) g0 rfl rfl ?_
  refine yT.fl (pc' := 4) rfl rfl (fun _ _ _ _ => rfl) (fun y101 => ?_)
  refine yT.cmp2 (pc' := 5) (U := x0.toInt) (V := y101.toInt) rfl rfl rfl rfl (fun x102 c103 => ?_)
  refine yT.if1 (t := 12) (pc' := 8) rfl rfl rfl (c1_lt rfl) (fun c104 => ?_) (fun c104 => ?_)
  · refine yT.kI (pc' := 13) rfl rfl (by decide) (fun x105 e106 => ?_)
    exact yT.retZ rfl rfl (b01 (by omega) (by omega)) ⟨hT, _, rfl, (by omega)⟩
  · refine yT.kI (pc' := 9) rfl rfl (by decide) (fun x107 e108 => ?_)
    refine yT.p (pc' := 13) rfl rfl (fun _ _ _ _ => rfl) ?_
    exact yT.retZ rfl rfl (b01 (by omega) (by omega)) ⟨hT, _, rfl, (by omega)⟩
-- rX9_two
set_option maxRecDepth 100000 in
set_option maxHeartbeats 4000000 in
theorem r172 {ks : List cT} {B0 : Nat} (K : KE KS0 ks B0) {σ : sg} {ρ : Nat → xE} {h : List xE} (hT : HT ks σ ρ h) (x0 : Int32) (x1 : Int32) (x2 : Int32) : yM 172 (0) 0 [.int x0, .int x1, .int x2] h (SQL ks σ ρ (fun r => True)) := by
  refine yM.st xM_172 rfl rfl (fun lv g => ?_)
  have g0 := g 0 _ rfl
  have g1 := g 1 _ rfl
  have g2 := g 2 _ rfl
  refine yT.iln (pc' := 1) g0 rfl rfl ?_
  by_cases c101 : x0.toInt = 37
  · refine yT.tswK 0 (t := 157) rfl rfl (by omega) rfl rfl ?_
    refine yT.iln (pc' := 158) g2 rfl rfl ?_
    refine yT.if1 (t := 167) (pc' := 161) rfl rfl rfl (c1_ne rfl) (fun c102 => ?_) (fun c102 => ?_)
    · refine yT.iln (pc' := 168) g2 rfl rfl ?_
      refine yT.kI (pc' := 169) rfl rfl (by decide) (fun x103 e104 => ?_)
      refine yT.if2 (t := 176) (pc' := 172) rfl rfl rfl (c2_ne rfl e104) (fun c105 => ?_) (fun c105 => ?_)
      · refine yT.iln (pc' := 177) g1 rfl rfl ?_
        refine yT.iln (pc' := 178) g2 rfl rfl ?_
        refine yT.remF (pc' := 179) rfl (by omega) rfl rfl (fun x106 => ?_)
        refine yT.i2l2 (pc' := 180) (X := x106.toInt) rfl rfl rfl (fun y107 e108 => ?_)
        exact yT.retL rfl rfl ⟨hT, _, rfl, trivial⟩
      · refine yT.lc2 (pc' := 173) (X := 0) rfl rfl rfl (fun y109 e110 => ?_)
        refine yT.p (pc' := 180) rfl rfl (fun _ _ _ _ => rfl) ?_
        exact yT.retL rfl rfl ⟨hT, _, rfl, trivial⟩
    · refine yT.fl (pc' := 164) rfl rfl (fun _ _ _ _ => rfl) (fun y111 => ?_)
      refine yT.p (pc' := 180) rfl rfl (fun _ _ _ _ => rfl) ?_
      exact yT.retL rfl rfl ⟨hT, _, rfl, trivial⟩
  · by_cases c112 : x0.toInt = 42
    · refine yT.tswK 5 (t := 126) rfl rfl (by omega) rfl rfl ?_
      refine yT.iln (pc' := 127) g1 rfl rfl ?_
      refine yT.iln (pc' := 128) g2 rfl rfl ?_
      refine yT.fi (pc' := 129) rfl rfl (fun _ _ _ _ => rfl) (fun x113 => ?_)
      refine yT.i2l2 (pc' := 130) (X := x113.toInt) rfl rfl rfl (fun y114 e115 => ?_)
      exact yT.retL rfl rfl ⟨hT, _, rfl, trivial⟩
    · by_cases c116 : x0.toInt = 43
      · refine yT.tswK 6 (t := 116) rfl rfl (by omega) rfl rfl ?_
        refine yT.iln (pc' := 117) g1 rfl rfl ?_
        refine yT.iln (pc' := 118) g2 rfl rfl ?_
        refine yT.fi (pc' := 119) rfl rfl (fun _ _ _ _ => rfl) (fun x117 => ?_)
        refine yT.i2l2 (pc' := 120) (X := x117.toInt) rfl rfl rfl (fun y118 e119 => ?_)
        exact yT.retL rfl rfl ⟨hT, _, rfl, trivial⟩
      · by_cases c120 : x0.toInt = 45
        · refine yT.tswK 8 (t := 121) rfl rfl (by omega) rfl rfl ?_
          refine yT.iln (pc' := 122) g1 rfl rfl ?_
          refine yT.iln (pc' := 123) g2 rfl rfl ?_
          refine yT.fi (pc' := 124) rfl rfl (fun _ _ _ _ => rfl) (fun x121 => ?_)
          refine yT.i2l2 (pc' := 125) (X := x121.toInt) rfl rfl rfl (fun y122 e123 => ?_)
          exact yT.retL rfl rfl ⟨hT, _, rfl, trivial⟩
        · by_cases c124 : x0.toInt = 47
          · refine yT.tswK 10 (t := 131) rfl rfl (by omega) rfl rfl ?_
            refine yT.iln (pc' := 132) g2 rfl rfl ?_
            refine yT.if1 (t := 141) (pc' := 135) rfl rfl rfl (c1_ne rfl) (fun c125 => ?_) (fun c125 => ?_)
            · refine yT.iln (pc' := 142) g2 rfl rfl ?_
              refine yT.kI (pc' := 143) rfl rfl (by decide) (fun x126 e127 => ?_)
              refine yT.if2 (t := 152) (pc' := 146) rfl rfl rfl (c2_ne rfl e127) (fun c128 => ?_) (fun c128 => ?_)
              · refine yT.iln (pc' := 153) g1 rfl rfl ?_
                refine yT.iln (pc' := 154) g2 rfl rfl ?_
                refine yT.divF (pc' := 155) rfl (by omega) rfl rfl (fun x129 => ?_)
                refine yT.i2l2 (pc' := 156) (X := x129.toInt) rfl rfl rfl (fun y130 e131 => ?_)
                exact yT.retL rfl rfl ⟨hT, _, rfl, trivial⟩
              · refine yT.iln (pc' := 147) g1 rfl rfl ?_
                refine yT.fi (pc' := 148) rfl rfl (fun _ _ _ _ => rfl) (fun x132 => ?_)
                refine yT.i2l2 (pc' := 149) (X := x132.toInt) rfl rfl rfl (fun y133 e134 => ?_)
                refine yT.p (pc' := 156) rfl rfl (fun _ _ _ _ => rfl) ?_
                exact yT.retL rfl rfl ⟨hT, _, rfl, trivial⟩
            · refine yT.fl (pc' := 138) rfl rfl (fun _ _ _ _ => rfl) (fun y135 => ?_)
              refine yT.p (pc' := 156) rfl rfl (fun _ _ _ _ => rfl) ?_
              exact yT.retL rfl rfl ⟨hT, _, rfl, trivial⟩
          · by_cases c136 : x0.toInt = 60
            · refine yT.tswK 23 (t := 181) rfl rfl (by omega) rfl rfl ?_
              refine yT.iln (pc' := 182) g1 rfl rfl ?_
              refine yT.iln (pc' := 183) g2 rfl rfl ?_
              refine yT.if2 (t := 190) (pc' := 186) rfl rfl rfl (c2_ge rfl rfl) (fun c137 => ?_) (fun c137 => ?_)
              · refine yT.lc2 (pc' := 191) (X := 0) rfl rfl rfl (fun y138 e139 => ?_)
                exact yT.retL rfl rfl ⟨hT, _, rfl, trivial⟩
              · refine yT.lc2 (pc' := 187) (X := 1) rfl rfl rfl (fun y140 e141 => ?_)
                refine yT.p (pc' := 191) rfl rfl (fun _ _ _ _ => rfl) ?_
                exact yT.retL rfl rfl ⟨hT, _, rfl, trivial⟩
            · by_cases c142 : x0.toInt = 61
              · refine yT.tswK 24 (t := 192) rfl rfl (by omega) rfl rfl ?_
                refine yT.iln (pc' := 193) g1 rfl rfl ?_
                refine yT.iln (pc' := 194) g2 rfl rfl ?_
                refine yT.if2 (t := 201) (pc' := 197) rfl rfl rfl (c2_ne rfl rfl) (fun c143 => ?_) (fun c143 => ?_)
                · refine yT.lc2 (pc' := 202) (X := 0) rfl rfl rfl (fun y144 e145 => ?_)
                  exact yT.retL rfl rfl ⟨hT, _, rfl, trivial⟩
                · refine yT.lc2 (pc' := 198) (X := 1) rfl rfl rfl (fun y146 e147 => ?_)
                  refine yT.p (pc' := 202) rfl rfl (fun _ _ _ _ => rfl) ?_
                  exact yT.retL rfl rfl ⟨hT, _, rfl, trivial⟩
              · refine yT.tswJ (t := 203) ?_ ?_
                · intro J148
                  by_cases c149 : x0.toInt = 38
                  · exact yT.tswK 1 (t := 203) rfl rfl (by omega) rfl rfl J148
                  by_cases c150 : x0.toInt = 39
                  · exact yT.tswK 2 (t := 203) rfl rfl (by omega) rfl rfl J148
                  by_cases c151 : x0.toInt = 40
                  · exact yT.tswK 3 (t := 203) rfl rfl (by omega) rfl rfl J148
                  by_cases c152 : x0.toInt = 41
                  · exact yT.tswK 4 (t := 203) rfl rfl (by omega) rfl rfl J148
                  by_cases c153 : x0.toInt = 44
                  · exact yT.tswK 7 (t := 203) rfl rfl (by omega) rfl rfl J148
                  by_cases c154 : x0.toInt = 46
                  · exact yT.tswK 9 (t := 203) rfl rfl (by omega) rfl rfl J148
                  by_cases c155 : x0.toInt = 48
                  · exact yT.tswK 11 (t := 203) rfl rfl (by omega) rfl rfl J148
                  by_cases c156 : x0.toInt = 49
                  · exact yT.tswK 12 (t := 203) rfl rfl (by omega) rfl rfl J148
                  by_cases c157 : x0.toInt = 50
                  · exact yT.tswK 13 (t := 203) rfl rfl (by omega) rfl rfl J148
                  by_cases c158 : x0.toInt = 51
                  · exact yT.tswK 14 (t := 203) rfl rfl (by omega) rfl rfl J148
                  by_cases c159 : x0.toInt = 52
                  · exact yT.tswK 15 (t := 203) rfl rfl (by omega) rfl rfl J148
                  by_cases c160 : x0.toInt = 53
                  · exact yT.tswK 16 (t := 203) rfl rfl (by omega) rfl rfl J148
                  by_cases c161 : x0.toInt = 54
                  · exact yT.tswK 17 (t := 203) rfl rfl (by omega) rfl rfl J148
                  by_cases c162 : x0.toInt = 55
                  · exact yT.tswK 18 (t := 203) rfl rfl (by omega) rfl rfl J148
                  by_cases c163 : x0.toInt = 56
                  · exact yT.tswK 19 (t := 203) rfl rfl (by omega) rfl rfl J148
                  by_cases c164 : x0.toInt = 57
                  · exact yT.tswK 20 (t := 203) rfl rfl (by omega) rfl rfl J148
                  by_cases c165 : x0.toInt = 58
                  · exact yT.tswK 21 (t := 203) rfl rfl (by omega) rfl rfl J148
                  by_cases c166 : x0.toInt = 59
                  · exact yT.tswK 22 (t := 203) rfl rfl (by omega) rfl rfl J148
                  exact yT.tswD (t := 203) rfl rfl rfl (by omega) J148
                · refine yT.iln (pc' := 204) g1 rfl rfl ?_
                  refine yT.iln (pc' := 205) g2 rfl rfl ?_
                  refine yT.if2 (t := 212) (pc' := 208) rfl rfl rfl (c2_le rfl rfl) (fun c167 => ?_) (fun c167 => ?_)
                  · refine yT.lc2 (pc' := 213) (X := 0) rfl rfl rfl (fun y168 e169 => ?_)
                    exact yT.retL rfl rfl ⟨hT, _, rfl, trivial⟩
                  · refine yT.lc2 (pc' := 209) (X := 1) rfl rfl rfl (fun y170 e171 => ?_)
                    refine yT.p (pc' := 213) rfl rfl (fun _ _ _ _ => rfl) ?_
                    exact yT.retL rfl rfl ⟨hT, _, rfl, trivial⟩
-- rX9_hasRead
set_option maxRecDepth 100000 in
set_option maxHeartbeats 4000000 in
theorem r180 {ks : List cT} {B0 : Nat} (K : KE KS0 ks B0) {σ : sg} {ρ : Nat → xE} {h : List xE} (hT : HT ks σ ρ h) {x : Nat} {x1 : Int32} (e1 : x1.toInt = (x : Int)) (x2 : Int32) (p0 : x < 24) (p1 : nw σ (282 * x + 6) ≤ 24) : yM 180 (1) 0 [.ref (60 + 1), .int x1, .int x2] h (SQI ks σ ρ (fun r => (r.toInt = 0 ∨ r.toInt = 1) ∧ (r.toInt = 0 → ∀ k : Nat, (k : Int) < nw σ (282 * x + 6) → nw σ (282 * x + (k + 7)) ≠ x2.toInt))) := by
  refine yM.st xM_180 rfl rfl (fun lv g => ?_)
  have g0 := g 0 _ rfl
  have g1 := g 1 _ rfl
  have g2 := g 2 _ rfl
  refine yT.kI (pc' := 1) rfl rfl (by decide) (fun x101 e102 => ?_)
  refine yT.p (pc' := 2) (lv' := xst1 _ 3 (.int x101)) rfl rfl (fun _ _ _ _ => rfl) ?_
  have L103 : ∀ (n115 : Nat) (lv104 : xLv) (h105 : List xE) (k108 : Nat) (x107 : Int32), HT ks σ ρ h105 → x107.toInt = (k108 : Int) → xget lv104 0 = some (.ref (60 + 1)) → xget lv104 1 = some (.int x1) → xget lv104 2 = some (.int x2) → xget lv104 3 = some (.int x107) → (∀ j : Nat, j < (k108) → nw σ (282 * x + (j + 7)) ≠ x2.toInt) → 24 - (k108) < n115 → yT 0 [] rX9_hasRead (1) 0 2 lv104 [] h105 (SQI ks σ ρ (fun r => (r.toInt = 0 ∨ r.toInt = 1) ∧ (r.toInt = 0 → ∀ k : Nat, (k : Int) < nw σ (282 * x + 6) → nw σ (282 * x + (k + 7)) ≠ x2.toInt))) := by
    intro n115
    induction n115 with
    | zero => intro lv104 h105 k108 x107 hT106 e109 g110 g111 g112 g113 i114 m116; exact absurd m116 (Nat.not_lt_zero _)
    | succ n115 ih117 =>
      intro lv104 h105 k108 x107 hT106 e109 g110 g111 g112 g113 i114 m116
      refine yT.iln (pc' := 3) g113 rfl rfl ?_
      refine yT.aan (pc' := 4) g110 rfl rfl rfl ?_
      refine yT.iln (pc' := 5) g111 rfl rfl ?_
      refine yT.kb (pc' := 7) rfl rfl (by decide) (fun x118 e119 => ?_)
      refine kSI (yT.cc (G2 := 0) (pc' := 10) rfl rfl rfl hT106 (K.up rfl : xnth ks 60 = some (19, 0)) xM_166 (r166 (c := x) (w := 6) K hT106 e1 (by omega) (by omega)) rfl (by omega) (by decide) rfl) (fun h120 x123 hT121 E122 => ?_)
      refine yT.if2 (t := 34) (pc' := 13) rfl rfl rfl (c2_ge e109 E122) (fun c124 => ?_) (fun c124 => ?_)
      · refine yT.kI (pc' := 35) rfl rfl (by decide) (fun x125 e126 => ?_)
        exact yT.retZ rfl rfl (b01 (by omega) (by omega)) ⟨hT121, _, rfl, ⟨Or.inl e126, fun _ k hk => i114 k (by omega)⟩⟩
      · refine yT.aan (pc' := 14) g110 rfl rfl rfl ?_
        refine yT.iln (pc' := 15) g111 rfl rfl ?_
        refine yT.kb (pc' := 17) rfl rfl (by decide) (fun x127 e128 => ?_)
        refine yT.iln (pc' := 18) g113 rfl rfl ?_
        refine yT.ad2 (pc' := 19) (Z := (k108 : Int) + 7) e128 e109 rfl rfl (by omega) (fun x129 e130 => ?_)
        refine kSI (yT.cc (G2 := 0) (pc' := 22) rfl rfl rfl hT121 (K.up rfl : xnth ks 60 = some (19, 0)) xM_166 (r166 (c := x) (w := k108 + 7) K hT121 e1 (by omega) (by omega)) rfl (by omega) (by decide) rfl) (fun h131 x134 hT132 E133 => ?_)
        refine yT.iln (pc' := 23) g112 rfl rfl ?_
        refine yT.if2 (t := 28) (pc' := 26) rfl rfl rfl (c2_ne E133 rfl) (fun c135 => ?_) (fun c135 => ?_)
        · refine yT.inc2 (pc' := 31) (Z := (k108 : Int) + 1) g113 e109 rfl rfl rfl ⟨by decide, by omega⟩ (fun x136 e137 => ?_)
          refine yT.p (pc' := 2) rfl rfl (fun _ _ _ _ => rfl) ?_
          exact ih117 _ _ (k108 + 1) x136 hT132 (by omega) (xg_ne g110 rfl) (xg_ne g111 rfl) (xg_ne g112 rfl) xg_eq (fun j hj => by
      by_cases h : j = k108
      · subst h; omega
      · exact i114 j (by omega)) (by omega)
        · refine yT.kI (pc' := 27) rfl rfl (by decide) (fun x138 e139 => ?_)
          exact yT.retZ rfl rfl (b01 (by omega) (by omega)) ⟨hT132, _, rfl, ⟨Or.inr e139, fun h => by omega⟩⟩
  exact L103 _ _ _ (0) x101 hT (by omega) (xg_ne g0 rfl) (xg_ne g1 rfl) (xg_ne g2 rfl) xg_eq (fun j hj => absurd hj (Nat.not_lt_zero _)) (Nat.lt_succ_self _)
