/-! signs, told exactly -/
def jn (k : Nat) (x y : Int32) : Int32 := match k with
  | 0 => x + y
  | 1 => x - y
  | 2 => x * y
  | 3 => x / y
  | 4 => x - x / y * y
  | 5 => if x.toInt < y.toInt then 1 else 0
  | 6 => if x.toInt = y.toInt then 1 else 0
  | _ => if y.toInt < x.toInt then 1 else 0
def sg1 (x y w : Int32) (k : Nat) : Bool := !(decide (y = 0) && (Nat.beq k 3 || Nat.beq k 4)) && decide (jn k x y = w)
def sgA (x y w : Int32) : Nat → Int32
  | 0 => 0
  | n + 1 => bif sg1 x y w n then sgA x y w n ||| ((1 : Int32) <<< (Int32.ofNat n &&& 31)) else sgA x y w n
theorem i32_m1 (x : Int32) : x / -1 = -x := i32_ext (by
  rw [Int32.toInt_div, show (-1 : Int32).toInt = -1 from rfl, Int.tdiv_neg, Int.tdiv_one, Int32.toInt_neg])
theorem i32_r1 (x : Int32) : x - x / -1 * -1 = 0 := by
  rw [i32_m1, Int32.neg_mul, Int32.mul_neg, Int32.mul_one, Int32.neg_neg, Int32.sub_self]
theorem k8 {k : Nat} (h : k < 8) : k = 0 ∨ k = 1 ∨ k = 2 ∨ k = 3 ∨ k = 4 ∨ k = 5 ∨ k = 6 ∨ k = 7 := by omega
section SG
variable {ks : List cT} {B0 : Nat} {σ : sg} {ρ : Nat → xE} {h : List xE} {k : Nat} {x y s : Int32}
theorem nz0 (h : y ≠ 0) : y.toInt ≠ 0 := fun e => h (i32_ext e)
/-- the class's joined() -/
theorem j161 (hT : HT ks σ ρ h) (hk : k < 8) (es : s.toInt = (k : Int)) (hy : ¬ (y = 0 ∧ (k = 3 ∨ k = 4))) : yM 161 0 0 [.int s, .int x, .int y] h (SQI ks σ ρ (fun r => r = jn k x y)) := by
  refine yM.st xM_161 rfl rfl (fun lv g => ?_)
  have g0 := g 0 _ rfl
  have g1 := g 1 _ rfl
  have g2 := g 2 _ rfl
  refine yT.iln (pc' := 1) g0 rfl rfl ?_
  rcases k8 hk with rfl | rfl | rfl | rfl | rfl | rfl | rfl | rfl
  · refine yT.tswK 0 (t := 48) (X := 0) es rfl (by omega) rfl rfl ?_
    refine yT.iln (pc' := 49) g1 rfl rfl ?_
    refine yT.iln (pc' := 50) g2 rfl rfl ?_
    refine yT.p (pc' := 51) rfl rfl (fun _ _ _ _ => rfl) ?_
    exact yT.retI rfl rfl ⟨hT, _, rfl, rfl⟩
  · refine yT.tswK 1 (t := 52) (X := 1) es rfl (by omega) rfl rfl ?_
    refine yT.iln (pc' := 53) g1 rfl rfl ?_
    refine yT.iln (pc' := 54) g2 rfl rfl ?_
    refine yT.p (pc' := 55) rfl rfl (fun _ _ _ _ => rfl) ?_
    exact yT.retI rfl rfl ⟨hT, _, rfl, rfl⟩
  · refine yT.tswK 2 (t := 56) (X := 2) es rfl (by omega) rfl rfl ?_
    refine yT.iln (pc' := 57) g1 rfl rfl ?_
    refine yT.iln (pc' := 58) g2 rfl rfl ?_
    refine yT.p (pc' := 59) rfl rfl (fun _ _ _ _ => rfl) ?_
    exact yT.retI rfl rfl ⟨hT, _, rfl, rfl⟩
  · have hy0 : y ≠ 0 := fun e => hy ⟨e, Or.inl rfl⟩
    have hy1 := nz0 hy0
    refine yT.tswK 3 (t := 60) (X := 3) es rfl (by omega) rfl rfl ?_
    refine yT.iln (pc' := 61) g2 rfl rfl ?_
    refine yT.if1 (t := 68) (pc' := 64) rfl rfl rfl (c1_ne rfl) (fun _ => ?_) (fun c => absurd hy1 c)
    refine yT.iln (pc' := 69) g1 rfl rfl ?_
    refine yT.iln (pc' := 70) g2 rfl rfl ?_
    refine yT.div (pc' := 71) hy0 rfl rfl ?_
    exact yT.retI rfl rfl ⟨hT, _, rfl, rfl⟩
  · have hy0 : y ≠ 0 := fun e => hy ⟨e, Or.inr rfl⟩
    have hy1 := nz0 hy0
    refine yT.tswK 4 (t := 72) (X := 4) es rfl (by omega) rfl rfl ?_
    refine yT.iln (pc' := 73) g2 rfl rfl ?_
    refine yT.if1 (t := 80) (pc' := 76) rfl rfl rfl (c1_ne rfl) (fun _ => ?_) (fun c => absurd hy1 c)
    refine yT.iln (pc' := 81) g1 rfl rfl ?_
    refine yT.iln (pc' := 82) g2 rfl rfl ?_
    refine yT.rem (pc' := 83) hy0 rfl rfl ?_
    exact yT.retI rfl rfl ⟨hT, _, rfl, rfl⟩
  · refine yT.tswK 5 (t := 84) (X := 5) es rfl (by omega) rfl rfl ?_
    refine yT.iln (pc' := 85) g1 rfl rfl ?_
    refine yT.iln (pc' := 86) g2 rfl rfl ?_
    refine yT.if2 (t := 93) (pc' := 89) rfl rfl rfl (c2_ge rfl rfl) (fun c => ?_) (fun c => ?_)
    · refine yT.kI (pc' := 94) rfl rfl (by decide) (fun z ez => ?_)
      exact yT.retI rfl rfl ⟨hT, _, rfl, (i32_ext (show z.toInt = (0 : Int32).toInt from ez)).trans (show jn 5 x y = 0 from if_neg (by omega)).symm⟩
    · refine yT.kI (pc' := 90) rfl rfl (by decide) (fun z ez => ?_)
      refine yT.p (pc' := 94) rfl rfl (fun _ _ _ _ => rfl) ?_
      exact yT.retI rfl rfl ⟨hT, _, rfl, (i32_ext (show z.toInt = (1 : Int32).toInt from ez)).trans (show jn 5 x y = 1 from if_pos (by omega)).symm⟩
  · refine yT.tswK 6 (t := 95) (X := 6) es rfl (by omega) rfl rfl ?_
    refine yT.iln (pc' := 96) g1 rfl rfl ?_
    refine yT.iln (pc' := 97) g2 rfl rfl ?_
    refine yT.if2 (t := 104) (pc' := 100) rfl rfl rfl (c2_ne rfl rfl) (fun c => ?_) (fun c => ?_)
    · refine yT.kI (pc' := 105) rfl rfl (by decide) (fun z ez => ?_)
      exact yT.retI rfl rfl ⟨hT, _, rfl, (i32_ext (show z.toInt = (0 : Int32).toInt from ez)).trans (show jn 6 x y = 0 from if_neg (by omega)).symm⟩
    · refine yT.kI (pc' := 101) rfl rfl (by decide) (fun z ez => ?_)
      refine yT.p (pc' := 105) rfl rfl (fun _ _ _ _ => rfl) ?_
      exact yT.retI rfl rfl ⟨hT, _, rfl, (i32_ext (show z.toInt = (1 : Int32).toInt from ez)).trans (show jn 6 x y = 1 from if_pos (by omega)).symm⟩
  · refine yT.tswK 7 (t := 106) (X := 7) es rfl (by omega) rfl rfl ?_
    refine yT.iln (pc' := 107) g1 rfl rfl ?_
    refine yT.iln (pc' := 108) g2 rfl rfl ?_
    refine yT.if2 (t := 115) (pc' := 111) rfl rfl rfl (c2_le rfl rfl) (fun c => ?_) (fun c => ?_)
    · refine yT.kI (pc' := 116) rfl rfl (by decide) (fun z ez => ?_)
      exact yT.retI rfl rfl ⟨hT, _, rfl, (i32_ext (show z.toInt = (0 : Int32).toInt from ez)).trans (show jn 7 x y = 0 from if_neg (by omega)).symm⟩
    · refine yT.kI (pc' := 112) rfl rfl (by decide) (fun z ez => ?_)
      refine yT.p (pc' := 116) rfl rfl (fun _ _ _ _ => rfl) ?_
      exact yT.retI rfl rfl ⟨hT, _, rfl, (i32_ext (show z.toInt = (1 : Int32).toInt from ez)).trans (show jn 7 x y = 1 from if_pos (by omega)).symm⟩
/-- the reference's two() -/
def TW (k : Nat) (x y : Int32) (r : Int64) : Prop := (y = 0 ∧ (k = 3 ∨ k = 4) → r.toInt = 4000000001) ∧ (¬ (y = 0 ∧ (k = 3 ∨ k = 4)) → r.toInt = (jn k x y).toInt)
theorem TW.of {r : Int64} (hn : ¬ (k = 3 ∨ k = 4)) (h : r.toInt = (jn k x y).toInt) : TW k x y r := ⟨fun e => absurd e.2 hn, fun _ => h⟩
theorem TW.nz {r : Int64} (hn : y ≠ 0) (h : r.toInt = (jn k x y).toInt) : TW k x y r := ⟨fun e => absurd e.1 hn, fun _ => h⟩
theorem TW.z {r : Int64} (hn : y = 0) (hk : k = 3 ∨ k = 4) (h : r.toInt = 4000000001) : TW k x y r := ⟨fun _ => h, fun e => absurd ⟨hn, hk⟩ e⟩
theorem j172 (hT : HT ks σ ρ h) (hk : k < 8) (hc : xnth [(43 : Int32), 45, 42, 47, 37, 60, 61, 62] k = some s) : yM 172 0 0 [.int s, .int x, .int y] h (SQL ks σ ρ (TW k x y)) := by
  refine yM.st xM_172 rfl rfl (fun lv g => ?_)
  have g0 := g 0 _ rfl
  have g1 := g 1 _ rfl
  have g2 := g 2 _ rfl
  refine yT.iln (pc' := 1) g0 rfl rfl ?_
  rcases k8 hk with rfl | rfl | rfl | rfl | rfl | rfl | rfl | rfl
  · obtain rfl : (43 : Int32) = s := Option.some.inj hc
    refine yT.tswK 6 (t := 116) (X := 43) rfl rfl (by omega) rfl rfl ?_
    refine yT.iln (pc' := 117) g1 rfl rfl ?_
    refine yT.iln (pc' := 118) g2 rfl rfl ?_
    refine yT.p (pc' := 119) rfl rfl (fun _ _ _ _ => rfl) ?_
    refine yT.p (pc' := 120) rfl rfl (fun _ _ _ _ => rfl) ?_
    exact yT.retL rfl rfl ⟨hT, _, rfl, TW.of (by omega) (i32_l _)⟩
  · obtain rfl : (45 : Int32) = s := Option.some.inj hc
    refine yT.tswK 8 (t := 121) (X := 45) rfl rfl (by omega) rfl rfl ?_
    refine yT.iln (pc' := 122) g1 rfl rfl ?_
    refine yT.iln (pc' := 123) g2 rfl rfl ?_
    refine yT.p (pc' := 124) rfl rfl (fun _ _ _ _ => rfl) ?_
    refine yT.p (pc' := 125) rfl rfl (fun _ _ _ _ => rfl) ?_
    exact yT.retL rfl rfl ⟨hT, _, rfl, TW.of (by omega) (i32_l _)⟩
  · obtain rfl : (42 : Int32) = s := Option.some.inj hc
    refine yT.tswK 5 (t := 126) (X := 42) rfl rfl (by omega) rfl rfl ?_
    refine yT.iln (pc' := 127) g1 rfl rfl ?_
    refine yT.iln (pc' := 128) g2 rfl rfl ?_
    refine yT.p (pc' := 129) rfl rfl (fun _ _ _ _ => rfl) ?_
    refine yT.p (pc' := 130) rfl rfl (fun _ _ _ _ => rfl) ?_
    exact yT.retL rfl rfl ⟨hT, _, rfl, TW.of (by omega) (i32_l _)⟩
  · obtain rfl : (47 : Int32) = s := Option.some.inj hc
    refine yT.tswK 10 (t := 131) (X := 47) rfl rfl (by omega) rfl rfl ?_
    refine yT.iln (pc' := 132) g2 rfl rfl ?_
    refine yT.if1 (t := 141) (pc' := 135) rfl rfl rfl (c1_ne rfl) (fun c => ?_) (fun c => ?_)
    · have hy0 : y ≠ 0 := fun e => c (by rw [e]; rfl)
      refine yT.iln (pc' := 142) g2 rfl rfl ?_
      refine yT.kI (pc' := 143) rfl rfl (by decide) (fun z ez => ?_)
      refine yT.if2 (t := 152) (pc' := 146) rfl rfl rfl (c2_ne rfl ez) (fun c2 => ?_) (fun c2 => ?_)
      · refine yT.iln (pc' := 153) g1 rfl rfl ?_
        refine yT.iln (pc' := 154) g2 rfl rfl ?_
        refine yT.div (pc' := 155) hy0 rfl rfl ?_
        refine yT.p (pc' := 156) rfl rfl (fun _ _ _ _ => rfl) ?_
        exact yT.retL rfl rfl ⟨hT, _, rfl, TW.nz hy0 (i32_l _)⟩
      · have hm : y = -1 := i32_ext (show y.toInt = (-1 : Int32).toInt from Decidable.not_not.mp c2)
        refine yT.iln (pc' := 147) g1 rfl rfl ?_
        refine yT.p (pc' := 148) rfl rfl (fun _ _ _ _ => rfl) ?_
        refine yT.p (pc' := 149) rfl rfl (fun _ _ _ _ => rfl) ?_
        refine yT.p (pc' := 156) rfl rfl (fun _ _ _ _ => rfl) ?_
        refine yT.retL rfl rfl ⟨hT, _, rfl, TW.nz hy0 ?_⟩
        rw [i32_l, hm]
        show (-x).toInt = (x / -1).toInt
        rw [i32_m1]
    · have hy0 : y = 0 := i32_ext (show y.toInt = (0 : Int32).toInt from Decidable.not_not.mp c)
      refine yT.ld2 (pc' := 138) (X := 4000000001) rfl rfl rfl (by decide) (fun z ez => ?_)
      refine yT.p (pc' := 156) rfl rfl (fun _ _ _ _ => rfl) ?_
      exact yT.retL rfl rfl ⟨hT, _, rfl, TW.z hy0 (Or.inl rfl) ez⟩
  · obtain rfl : (37 : Int32) = s := Option.some.inj hc
    refine yT.tswK 0 (t := 157) (X := 37) rfl rfl (by omega) rfl rfl ?_
    refine yT.iln (pc' := 158) g2 rfl rfl ?_
    refine yT.if1 (t := 167) (pc' := 161) rfl rfl rfl (c1_ne rfl) (fun c => ?_) (fun c => ?_)
    · have hy0 : y ≠ 0 := fun e => c (by rw [e]; rfl)
      refine yT.iln (pc' := 168) g2 rfl rfl ?_
      refine yT.kI (pc' := 169) rfl rfl (by decide) (fun z ez => ?_)
      refine yT.if2 (t := 176) (pc' := 172) rfl rfl rfl (c2_ne rfl ez) (fun c2 => ?_) (fun c2 => ?_)
      · refine yT.iln (pc' := 177) g1 rfl rfl ?_
        refine yT.iln (pc' := 178) g2 rfl rfl ?_
        refine yT.rem (pc' := 179) hy0 rfl rfl ?_
        refine yT.p (pc' := 180) rfl rfl (fun _ _ _ _ => rfl) ?_
        exact yT.retL rfl rfl ⟨hT, _, rfl, TW.nz hy0 (i32_l _)⟩
      · have hm : y = -1 := i32_ext (show y.toInt = (-1 : Int32).toInt from Decidable.not_not.mp c2)
        refine yT.lc2 (pc' := 173) (X := 0) rfl rfl rfl (fun z ez => ?_)
        refine yT.p (pc' := 180) rfl rfl (fun _ _ _ _ => rfl) ?_
        refine yT.retL rfl rfl ⟨hT, _, rfl, TW.nz hy0 ?_⟩
        rw [ez, hm]
        show (0 : Int) = (x - x / -1 * -1).toInt
        rw [i32_r1]
        rfl
    · have hy0 : y = 0 := i32_ext (show y.toInt = (0 : Int32).toInt from Decidable.not_not.mp c)
      refine yT.ld2 (pc' := 164) (X := 4000000001) rfl rfl rfl (by decide) (fun z ez => ?_)
      refine yT.p (pc' := 180) rfl rfl (fun _ _ _ _ => rfl) ?_
      exact yT.retL rfl rfl ⟨hT, _, rfl, TW.z hy0 (Or.inr rfl) ez⟩
  · obtain rfl : (60 : Int32) = s := Option.some.inj hc
    refine yT.tswK 23 (t := 181) (X := 60) rfl rfl (by omega) rfl rfl ?_
    refine yT.iln (pc' := 182) g1 rfl rfl ?_
    refine yT.iln (pc' := 183) g2 rfl rfl ?_
    refine yT.if2 (t := 190) (pc' := 186) rfl rfl rfl (c2_ge rfl rfl) (fun c => ?_) (fun c => ?_)
    · refine yT.lc2 (pc' := 191) (X := 0) rfl rfl rfl (fun z ez => ?_)
      exact yT.retL rfl rfl ⟨hT, _, rfl, TW.of (by omega) (ez.trans (congrArg Int32.toInt (show jn 5 x y = 0 from if_neg (by omega))).symm)⟩
    · refine yT.lc2 (pc' := 187) (X := 1) rfl rfl rfl (fun z ez => ?_)
      refine yT.p (pc' := 191) rfl rfl (fun _ _ _ _ => rfl) ?_
      exact yT.retL rfl rfl ⟨hT, _, rfl, TW.of (by omega) (ez.trans (congrArg Int32.toInt (show jn 5 x y = 1 from if_pos (by omega))).symm)⟩
  · obtain rfl : (61 : Int32) = s := Option.some.inj hc
    refine yT.tswK 24 (t := 192) (X := 61) rfl rfl (by omega) rfl rfl ?_
    refine yT.iln (pc' := 193) g1 rfl rfl ?_
    refine yT.iln (pc' := 194) g2 rfl rfl ?_
    refine yT.if2 (t := 201) (pc' := 197) rfl rfl rfl (c2_ne rfl rfl) (fun c => ?_) (fun c => ?_)
    · refine yT.lc2 (pc' := 202) (X := 0) rfl rfl rfl (fun z ez => ?_)
      exact yT.retL rfl rfl ⟨hT, _, rfl, TW.of (by omega) (ez.trans (congrArg Int32.toInt (show jn 6 x y = 0 from if_neg (by omega))).symm)⟩
    · refine yT.lc2 (pc' := 198) (X := 1) rfl rfl rfl (fun z ez => ?_)
      refine yT.p (pc' := 202) rfl rfl (fun _ _ _ _ => rfl) ?_
      exact yT.retL rfl rfl ⟨hT, _, rfl, TW.of (by omega) (ez.trans (congrArg Int32.toInt (show jn 6 x y = 1 from if_pos (by omega))).symm)⟩
  · obtain rfl : (62 : Int32) = s := Option.some.inj hc
    refine yT.tswD (t := 203) (X := 62) rfl rfl rfl (by omega) ?_
    refine yT.iln (pc' := 204) g1 rfl rfl ?_
    refine yT.iln (pc' := 205) g2 rfl rfl ?_
    refine yT.if2 (t := 212) (pc' := 208) rfl rfl rfl (c2_le rfl rfl) (fun c => ?_) (fun c => ?_)
    · refine yT.lc2 (pc' := 213) (X := 0) rfl rfl rfl (fun z ez => ?_)
      exact yT.retL rfl rfl ⟨hT, _, rfl, TW.of (by omega) (ez.trans (congrArg Int32.toInt (show jn 7 x y = 0 from if_neg (by omega))).symm)⟩
    · refine yT.lc2 (pc' := 209) (X := 1) rfl rfl rfl (fun z ez => ?_)
      refine yT.p (pc' := 213) rfl rfl (fun _ _ _ _ => rfl) ?_
      exact yT.retL rfl rfl ⟨hT, _, rfl, TW.of (by omega) (ez.trans (congrArg Int32.toInt (show jn 7 x y = 1 from if_pos (by omega))).symm)⟩
theorem ofN {k : Nat} {x : Int32} (hk : k < 9) (e : x.toInt = (k : Int)) : x = Int32.ofNat k := i32_ext (e.trans (i32_nat (by omega)).symm)
theorem i32_or0 (x z : Int32) (h : z.toInt = 0) : x ||| z = x := by
  rw [i32_ext (show z.toInt = (0 : Int32).toInt from h)]
  exact Int32.or_zero
/-- the class's signs() -/
theorem c140x {w : Int32} {q0 : Nat} (hT : HT ks σ ρ h) : yM 140 1 0 [.ref (q0 + 1), .int x, .int y, .int w] h (SQI ks σ ρ (fun r => r = sgA x y w 8)) := by
  refine yM.st xM_140 rfl rfl (fun lv g => ?_)
  have g1 := g 1 _ rfl
  have g2 := g 2 _ rfl
  have g3 := g 3 _ rfl
  refine yT.kI (pc' := 1) rfl rfl (by decide) (fun a ea => ?_)
  refine yT.p (pc' := 3) (lv' := xst1 _ 4 (.int a)) rfl rfl (fun _ _ _ _ => rfl) ?_
  refine yT.kI (pc' := 4) rfl rfl (by decide) (fun b eb => ?_)
  refine yT.p (pc' := 6) (lv' := xst1 _ 5 (.int b)) rfl rfl (fun _ _ _ _ => rfl) ?_
  have L : ∀ (m : Nat) (lv : xLv) (h : List xE) (i : Nat) (kx st : Int32), kx.toInt = (i : Int) → i ≤ 8 → st = sgA x y w i → HT ks σ ρ h → xget lv 1 = some (.int x) → xget lv 2 = some (.int y) → xget lv 3 = some (.int w) → xget lv 4 = some (.int st) → xget lv 5 = some (.int kx) → 8 - i < m → yT 0 [] rX8_signs 1 0 6 lv [] h (SQI ks σ ρ (fun r => r = sgA x y w 8)) := by
    intro m
    induction m with
    | zero => intro lv h i kx st _ _ _ _ _ _ _ _ _ hm; exact absurd hm (Nat.not_lt_zero _)
    | succ m ih =>
      intro lv h i kx st ek hi es hT g1 g2 g3 g4 g5 hm
      refine yT.il (pc' := 8) g5 rfl rfl ?_
      refine yT.kb (pc' := 10) rfl rfl (by decide) (fun c8 e8 => ?_)
      refine yT.if2 (t := 67) (pc' := 13) rfl rfl rfl (c2_ge ek e8) (fun c => ?_) (fun c => ?_)
      · refine yT.il (pc' := 69) g4 rfl rfl ?_
        obtain rfl : i = 8 := by omega
        exact yT.retI rfl rfl ⟨hT, _, rfl, es⟩
      · have hi8 : i < 8 := by omega
        -- the loop goes on with what is told of this sign
        have N : ∀ (lv' : xLv) (h' : List xE) (st' : Int32), st' = sgA x y w (i + 1) → HT ks σ ρ h' → xget lv' 1 = some (.int x) → xget lv' 2 = some (.int y) → xget lv' 3 = some (.int w) → xget lv' 4 = some (.int st') → xget lv' 5 = some (.int kx) → yT 0 [] rX8_signs 1 0 61 lv' [] h' (SQI ks σ ρ (fun r => r = sgA x y w 8)) := by
          intro lv' h' st' es' hT' g1 g2 g3 g4 g5
          refine yT.inc (pc' := 64) g5 ek rfl rfl rfl ⟨by decide, by omega⟩ (fun u eu => ?_)
          refine yT.p (pc' := 6) rfl rfl (fun _ _ _ _ => rfl) ?_
          exact ih _ h' (i + 1) u st' (by omega) (by omega) es' hT' (xg_ne g1 rfl) (xg_ne g2 rfl) (xg_ne g3 rfl) (xg_ne g4 rfl) xg_eq (by omega)
        have A : y = 0 ∧ (i = 3 ∨ i = 4) → ∀ (b : Int32), b.toInt = 1 → yT 0 [] rX8_signs 1 0 34 lv [.int b] h (SQI ks σ ρ (fun r => r = sgA x y w 8)) := by
          intro hy b eb
          refine yT.p (pc' := 36) (lv' := xst1 _ 6 (.int b)) rfl rfl (fun _ _ _ _ => rfl) ?_
          refine yT.il (pc' := 38) xg_eq rfl rfl ?_
          refine yT.if1 (t := 61) (pc' := 41) rfl rfl rfl (c1_ne rfl) (fun _ => ?_) (fun c => by omega)
          refine N _ h st ?_ hT (xg_ne g1 rfl) (xg_ne g2 rfl) (xg_ne g3 rfl) (xg_ne g4 rfl) (xg_ne g5 rfl)
          have e : sg1 x y w i = false := by
            unfold sg1
            rw [decide_eq_true hy.1]
            rcases hy.2 with rfl | rfl <;> rfl
          show st = bif sg1 x y w i then _ else sgA x y w i
          rw [e]
          exact es
        have B : ¬ (y = 0 ∧ (i = 3 ∨ i = 4)) → ∀ (b : Int32), b.toInt = 0 → yT 0 [] rX8_signs 1 0 34 lv [.int b] h (SQI ks σ ρ (fun r => r = sgA x y w 8)) := by
          intro hy b eb
          have e1 : (!(decide (y = 0) && (Nat.beq i 3 || Nat.beq i 4))) = true := by
            by_cases h0 : y = 0
            · have h3 : i ≠ 3 := fun e => hy ⟨h0, Or.inl e⟩
              have h4 : i ≠ 4 := fun e => hy ⟨h0, Or.inr e⟩
              have b3 : Nat.beq i 3 = false := by
                cases hb : Nat.beq i 3 with
                | true => exact absurd (Nat.eq_of_beq_eq_true hb) h3
                | false => rfl
              have b4 : Nat.beq i 4 = false := by
                cases hb : Nat.beq i 4 with
                | true => exact absurd (Nat.eq_of_beq_eq_true hb) h4
                | false => rfl
              rw [b3, b4, Bool.or_self, Bool.and_false]
              rfl
            · rw [decide_eq_false h0]
              rfl
          refine yT.p (pc' := 36) (lv' := xst1 _ 6 (.int b)) rfl rfl (fun _ _ _ _ => rfl) ?_
          refine yT.il (pc' := 38) xg_eq rfl rfl ?_
          refine yT.if1 (t := 61) (pc' := 41) rfl rfl rfl (c1_ne rfl) (fun c => by omega) (fun _ => ?_)
          refine yT.il (pc' := 43) (xg_ne g5 rfl) rfl rfl ?_
          refine yT.iln (pc' := 44) (xg_ne g1 rfl) rfl rfl ?_
          refine yT.iln (pc' := 45) (xg_ne g2 rfl) rfl rfl ?_
          refine kSI (yT.cst (G2 := 0) (pc' := 48) rfl rfl xM_161 (j161 hT hi8 ek hy) rfl (by decide) (by decide) rfl) (fun h1 v hT1 ev => ?_)
          refine yT.iln (pc' := 49) (xg_ne g3 rfl) rfl rfl ?_
          refine yT.if2 (t := 61) (pc' := 52) rfl rfl rfl (c2_ne rfl rfl) (fun c => ?_) (fun c => ?_)
          · refine N _ h1 st ?_ hT1 (xg_ne g1 rfl) (xg_ne g2 rfl) (xg_ne g3 rfl) (xg_ne g4 rfl) (xg_ne g5 rfl)
            have e : sg1 x y w i = false := by
              unfold sg1
              rw [e1, decide_eq_false (fun e => c (by rw [ev, e]))]
              rfl
            show st = bif sg1 x y w i then _ else sgA x y w i
            rw [e]
            exact es
          · refine yT.il (pc' := 54) (xg_ne g4 rfl) rfl rfl ?_
            refine yT.kI (pc' := 55) rfl rfl (by decide) (fun o eo => ?_)
            refine yT.il (pc' := 57) (xg_ne g5 rfl) rfl rfl ?_
            refine yT.p (pc' := 58) rfl rfl (fun _ _ _ _ => rfl) ?_
            refine yT.p (pc' := 59) rfl rfl (fun _ _ _ _ => rfl) ?_
            refine yT.p (pc' := 61) (lv' := xst1 _ 4 (.int (st ||| (o <<< (kx &&& 31))))) rfl rfl (fun _ _ _ _ => rfl) ?_
            refine N _ h1 _ ?_ hT1 (xg_ne (xg_ne g1 rfl) rfl) (xg_ne (xg_ne g2 rfl) rfl) (xg_ne (xg_ne g3 rfl) rfl) xg_eq (xg_ne (xg_ne g5 rfl) rfl)
            have e : sg1 x y w i = true := by
              unfold sg1
              rw [e1, decide_eq_true (show jn i x y = w by rw [← ev]; exact i32_ext (Decidable.not_not.mp c))]
              rfl
            show _ = bif sg1 x y w i then sgA x y w i ||| ((1 : Int32) <<< (Int32.ofNat i &&& 31)) else sgA x y w i
            rw [e, ← es, ← ofN (by omega) ek, i32_ext (show o.toInt = (1 : Int32).toInt from eo)]
            rfl
        refine yT.iln (pc' := 14) g2 rfl rfl ?_
        have zz : ∀ (hy : ¬ (y = 0 ∧ (i = 3 ∨ i = 4))), yT 0 [] rX8_signs 1 0 33 lv [] h (SQI ks σ ρ (fun r => r = sgA x y w 8)) := by
          intro hy
          refine yT.kI (pc' := 34) rfl rfl (by decide) (fun b eb => ?_)
          exact B hy b eb
        have oo : ∀ (hy : y = 0 ∧ (i = 3 ∨ i = 4)), yT 0 [] rX8_signs 1 0 29 lv [] h (SQI ks σ ρ (fun r => r = sgA x y w 8)) := by
          intro hy
          refine yT.kI (pc' := 30) rfl rfl (by decide) (fun b eb => ?_)
          refine yT.p (pc' := 34) rfl rfl (fun _ _ _ _ => rfl) ?_
          exact A hy b eb
        refine yT.if1 (t := 33) (pc' := 17) rfl rfl rfl (c1_ne rfl) (fun c => ?_) (fun c => ?_)
        · exact zz (fun e => c (by rw [e.1]; rfl))
        · have hy0 : y = 0 := i32_ext (show y.toInt = (0 : Int32).toInt from Decidable.not_not.mp c)
          refine yT.il (pc' := 19) g5 rfl rfl ?_
          refine yT.kI (pc' := 20) rfl rfl (by decide) (fun t3 e3 => ?_)
          refine yT.if2 (t := 29) (pc' := 23) rfl rfl rfl (c2_eq ek e3) (fun c3 => ?_) (fun c3 => ?_)
          · exact oo ⟨hy0, by omega⟩
          · refine yT.il (pc' := 25) g5 rfl rfl ?_
            refine yT.kI (pc' := 26) rfl rfl (by decide) (fun t4 e4 => ?_)
            refine yT.if2 (t := 33) (pc' := 29) rfl rfl rfl (c2_ne ek e4) (fun c4 => ?_) (fun c4 => ?_)
            · exact zz (fun e => by have := e.2; omega)
            · exact oo ⟨hy0, by omega⟩
  exact L 9 _ h 0 b a (by omega) (by omega) (i32_ext (show a.toInt = (0 : Int32).toInt from ea)) hT (xg_ne (xg_ne g1 rfl) rfl) (xg_ne (xg_ne g2 rfl) rfl) (xg_ne (xg_ne g3 rfl) rfl) (xg_ne xg_eq rfl) xg_eq (by omega)
/-- the reference's signs() -/
theorem r255x {w : Int32} {q0 : Nat} (hT : HT ks σ ρ h) : yM 255 10 0 [.ref (q0 + 1), .int x, .int y, .int w] h (SQI ks σ ρ (fun r => r = sgA x y w 8)) := by
  refine yM.st xM_255 rfl rfl (fun lv g => ?_)
  have g1 := g 1 _ rfl
  have g2 := g 2 _ rfl
  have g3 := g 3 _ rfl
  refine yT.kI (pc' := 1) rfl rfl (by decide) (fun a ea => ?_)
  refine yT.p (pc' := 3) (lv' := xst1 _ 4 (.int a)) rfl rfl (fun _ _ _ _ => rfl) ?_
  refine yT.kI (pc' := 4) rfl rfl (by decide) (fun b eb => ?_)
  refine yT.p (pc' := 6) (lv' := xst1 _ 5 (.int b)) rfl rfl (fun _ _ _ _ => rfl) ?_
  have L : ∀ (m : Nat) (lv : xLv) (h : List xE) (i : Nat) (kx st : Int32), kx.toInt = (i : Int) → i ≤ 8 → st = sgA x y w i → HT ks σ ρ h → xget lv 1 = some (.int x) → xget lv 2 = some (.int y) → xget lv 3 = some (.int w) → xget lv 4 = some (.int st) → xget lv 5 = some (.int kx) → 8 - i < m → yT 0 [] rX9_signs 10 0 6 lv [] h (SQI ks σ ρ (fun r => r = sgA x y w 8)) := by
    intro m
    induction m with
    | zero => intro lv h i kx st _ _ _ _ _ _ _ _ _ hm; exact absurd hm (Nat.not_lt_zero _)
    | succ m ih =>
      intro lv h i kx st ek hi es hT g1 g2 g3 g4 g5 hm
      refine yT.il (pc' := 8) g5 rfl rfl ?_
      refine yT.kb (pc' := 10) rfl rfl (by decide) (fun c8 e8 => ?_)
      refine yT.if2 (t := 48) (pc' := 13) rfl rfl rfl (c2_ge ek e8) (fun c => ?_) (fun c => ?_)
      · refine yT.il (pc' := 50) g4 rfl rfl ?_
        obtain rfl : i = 8 := by omega
        exact yT.retI rfl rfl ⟨hT, _, rfl, es⟩
      · have hi8 : i < 8 := by omega
        have N : ∀ (h' : List xE) (z : Int32), st ||| z = sgA x y w (i + 1) → HT ks σ ρ h' → yT 0 [] rX9_signs 10 0 39 lv [.int z, .int st] h' (SQI ks σ ρ (fun r => r = sgA x y w 8)) := by
          intro h' z es' hT'
          refine yT.p (pc' := 40) rfl rfl (fun _ _ _ _ => rfl) ?_
          refine yT.p (pc' := 42) (lv' := xst1 _ 4 (.int (st ||| z))) rfl rfl (fun _ _ _ _ => rfl) ?_
          refine yT.inc (pc' := 45) (xg_ne g5 rfl) ek rfl rfl rfl ⟨by decide, by omega⟩ (fun u eu => ?_)
          refine yT.p (pc' := 6) rfl rfl (fun _ _ _ _ => rfl) ?_
          exact ih _ h' (i + 1) u _ (by omega) (by omega) es' hT' (xg_ne (xg_ne g1 rfl) rfl) (xg_ne (xg_ne g2 rfl) rfl) (xg_ne (xg_ne g3 rfl) rfl) (xg_ne xg_eq rfl) xg_eq (by omega)
        obtain ⟨cc, hcc⟩ := sgn_some hi8
        refine yT.il (pc' := 15) g4 rfl rfl ?_
        refine yT.il (pc' := 17) g5 rfl rfl ?_
        refine kSI (yT.cst (G2 := 0) (pc' := 20) rfl rfl xM_254 (r254 hT ek hi8 hcc) rfl (by decide) (by decide) rfl) (fun h1 v hT1 ev => ?_)
        subst ev
        refine yT.iln (pc' := 21) g1 rfl rfl ?_
        refine yT.iln (pc' := 22) g2 rfl rfl ?_
        refine kSL (yT.cst (G2 := 0) (pc' := 25) rfl rfl xM_172 (j172 hT1 hi8 hcc) rfl (by decide) (by decide) rfl) (fun h2 t hT2 et => ?_)
        refine yT.iln (pc' := 26) g3 rfl rfl ?_
        refine yT.i2l2 (pc' := 27) rfl rfl rfl (fun wl ewl => ?_)
        refine yT.cmp2 (pc' := 28) rfl ewl rfl rfl (fun zc ezc => ?_)
        have wr := i32_rng w
        have e1 : ¬ (y = 0 ∧ (i = 3 ∨ i = 4)) → (!(decide (y = 0) && (Nat.beq i 3 || Nat.beq i 4))) = true := fun hy => by
          by_cases h0 : y = 0
          · have h3 : i ≠ 3 := fun e => hy ⟨h0, Or.inl e⟩
            have h4 : i ≠ 4 := fun e => hy ⟨h0, Or.inr e⟩
            have b3 : Nat.beq i 3 = false := by
              cases hb : Nat.beq i 3 with
              | true => exact absurd (Nat.eq_of_beq_eq_true hb) h3
              | false => rfl
            have b4 : Nat.beq i 4 = false := by
              cases hb : Nat.beq i 4 with
              | true => exact absurd (Nat.eq_of_beq_eq_true hb) h4
              | false => rfl
            rw [b3, b4, Bool.or_self, Bool.and_false]
            rfl
          · rw [decide_eq_false h0]
            rfl
        refine yT.if1 (t := 38) (pc' := 31) rfl rfl rfl (c1_ne rfl) (fun c => ?_) (fun c => ?_)
        · refine yT.kI (pc' := 39) rfl rfl (by decide) (fun z ez => ?_)
          refine N _ z ?_ hT2
          rw [i32_or0 _ _ ez]
          have e : sg1 x y w i = false := by
            by_cases hy : y = 0 ∧ (i = 3 ∨ i = 4)
            · unfold sg1
              rw [decide_eq_true hy.1]
              rcases hy.2 with rfl | rfl <;> rfl
            · unfold sg1
              have e2 := et.2 hy
              rw [e1 hy, decide_eq_false (fun e => by
                rw [e] at e2
                exact c (ezc.2.1.mpr e2))]
              rfl
          show st = bif sg1 x y w i then _ else sgA x y w i
          rw [e]
          exact es
        · refine yT.kI (pc' := 32) rfl rfl (by decide) (fun o eo => ?_)
          refine yT.il (pc' := 34) g5 rfl rfl ?_
          refine yT.p (pc' := 35) rfl rfl (fun _ _ _ _ => rfl) ?_
          refine yT.p (pc' := 39) rfl rfl (fun _ _ _ _ => rfl) ?_
          refine N _ _ ?_ hT2
          have e0 : t.toInt = w.toInt := ezc.2.1.mp (Decidable.not_not.mp c)
          have hy : ¬ (y = 0 ∧ (i = 3 ∨ i = 4)) := fun hy => by
            have := et.1 hy
            omega
          have e : sg1 x y w i = true := by
            unfold sg1
            rw [e1 hy, decide_eq_true (i32_ext ((et.2 hy).symm.trans e0))]
            rfl
          show _ = bif sg1 x y w i then sgA x y w i ||| ((1 : Int32) <<< (Int32.ofNat i &&& 31)) else sgA x y w i
          rw [e, ← es, ← ofN (by omega) ek, i32_ext (show o.toInt = (1 : Int32).toInt from eo)]
          rfl
  exact L 9 _ h 0 b a (by omega) (by omega) (i32_ext (show a.toInt = (0 : Int32).toInt from ea)) hT (xg_ne (xg_ne g1 rfl) rfl) (xg_ne (xg_ne g2 rfl) rfl) (xg_ne (xg_ne g3 rfl) rfl) (xg_ne xg_eq rfl) xg_eq (by omega)
def vS (x y w : Int32) (v : Value) : Prop := ∃ z, v = .int z ∧ z = sgA x y w 8
theorem w_29x (hT : HT ks σ ρ h) (K : KE KS0 ks B0) (R : RI k σ) (E : EQ σ) (hk : k ≤ 511) (x1 x2 x3 : Int32) : ∃ G m, G + 763 * m ≤ 3783 + 763 * nz σ ∧ yM 140 402 G [.ref (0 + 1), .int x1, .int x2, .int x3] h (LQ ks ρ (PA k m (vS x1 x2 x3))) :=
  ⟨0, nz σ, by omega, (c140x hT).w (by decide) (Nat.le_refl _) (fun h' r hh => by
    obtain ⟨e1, v, e2, e3⟩ := hh
    exact ⟨ks, σ, _, KE.rf.w (Nat.zero_le _), e1, e2, R, E, rfl, v, rfl, e3⟩)⟩
theorem m_29x {m : Nat} {v : Value} (hT : HT ks σ ρ h) (K : KE KS0 ks B0) (hk : k ≤ 511) (x1 x2 x3 : Int32) (c : PA k m (vS x1 x2 x3) σ v) : yM 255 1600 0 [.ref (60 + 1), .int x1, .int x2, .int x3] h (LM ks ρ (PA (k + 1) m (fun v' => v' = v))) := by
  obtain ⟨R, E, hm, z, rfl, hz⟩ := c
  refine (r255x hT).w (by decide) (Nat.le_refl _) (fun h' r hh => ?_)
  obtain ⟨e1, u, e2, e3⟩ := hh
  exact ⟨σ, _, e1, e2, R.up, E, hm, by rw [e3, hz]⟩
end SG
