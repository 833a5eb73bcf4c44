/-! working out, closed -/
/-- a piece of kind k is worked out by the method a -/
def WK (ks : List cT) (ρ : Nat → xE) (J : sg → Prop) (c : Nat) (L : LT) (Fa n a K k : Nat) : Prop := ∀ {σ1 : sg} {h1 : List xE} {y1 y2 : Int32} {p1 q1 : Nat}, HT ks σ1 ρ h1 → J σ1 → fl σ1 16 = (p1 : Int) → y1.toInt = (c : Int) → y2.toInt = 0 ∨ y2.toInt = 1 → PP n L k p1 = some q1 → q1 ≤ 250 → yM a (Fa + (2 * (q1 - p1) + K)) 0 [.ref (60 + 1), .int y1, .int y2] h1 (RQL ks ρ (fun σ2 _ => J σ2 ∧ fl σ2 16 = (q1 : Int)))
def WC (ks : List cT) (ρ : Nat → xE) (J : sg → Prop) (c : Nat) (L : LT) (Fa n : Nat) : Prop := ∀ {σ1 : sg} {h1 : List xE} {y1 y2 : Int32} {p1 q1 : Nat}, HT ks σ1 ρ h1 → J σ1 → fl σ1 16 = (p1 : Int) → y1.toInt = (c : Int) → y2.toInt = 0 ∨ y2.toInt = 1 → CH (PP n L) p1 q1 → q1 ≤ 250 → yM 177 (Fa + (2 * (q1 - p1) + 4)) 0 [.ref (60 + 1), .int y1, .int y2] h1 (RQL ks ρ (fun σ2 _ => J σ2 ∧ fl σ2 16 = (q1 : Int)))
/-- what is asked of cells keeps J, and where it is -/
def WA (ks : List cT) (ρ : Nat → xE) (J : sg → Prop) (c : Nat) (L : LT) (Fa : Nat) : Prop := ∀ {σ1 : sg} {h1 : List xE} {y1 y2 y3 : Int32} {y : Nat}, HT ks σ1 ρ h1 → J σ1 → y < 24 → (y : Int) < L.2 → y1.toInt = (c : Int) → y2.toInt = (y : Int) → y3.toInt = 0 ∨ y3.toInt = 1 → yM 178 Fa 0 [.ref (60 + 1), .int y1, .int y2, .int y3] h1 (RQL ks ρ (fun σ2 _ => J σ2 ∧ fl σ2 16 = fl σ1 16))
theorem work_all {ks : List cT} {B0 : Nat} (K : KE KS0 ks B0) {ρ : Nat → xE} {J : sg → Prop} {c : Nat} {L : LT} {Fa : Nat} (JL : ∀ σ, J σ → (∀ k, ltr σ c k = L.1 k) ∧ nw σ (282 * c + 31) ≤ 250) (hL : ∀ j, 250 ≤ j → L.1 j = -1) (Jat : ∀ σ v, J σ → J (us σ 60 16 v)) (hc : c < 24) (hA : WA ks ρ J c L Fa) : ∀ n, WK ks ρ J c L Fa n 173 7 0 ∧ WK ks ρ J c L Fa n 174 6 1 ∧ WK ks ρ J c L Fa n 175 5 2 ∧ WK ks ρ J c L Fa n 176 4 3 ∧ WC ks ρ J c L Fa n
  | 0 => ⟨fun _ _ _ _ _ h _ => (by cases h), fun _ _ _ _ _ h _ => (by cases h), fun _ _ _ _ _ h _ => (by cases h), fun _ _ _ _ _ h _ => (by cases h), fun _ _ _ _ _ h _ => (by
      obtain ⟨a, b, d, h1, _⟩ := h
      cases h1)⟩
  | n + 1 => by
    obtain ⟨w0, w1, w2, w3, w4⟩ := work_all K JL hL Jat hc hA n
    have k0 : WK ks ρ J c L Fa (n + 1) 173 7 0 := fun hT hJ hf h1 h2 hP hq => r173r K hT h1 h2 JL hL Jat hc w1 hc hJ hf hP hq
    exact ⟨k0, fun hT hJ hf h1 h2 hP hq => r174r K hT h1 h2 JL hL Jat hc w2 hc hJ hf hP hq, fun hT hJ hf h1 h2 hP hq => r175r K hT h1 h2 JL hL Jat hc w3 hc hJ hf hP hq, fun hT hJ hf h1 h2 hP hq => r176r K hT h1 h2 JL hL Jat hc hA w3 w0 w4 hc hJ hf hP hq, fun hT hJ hf h1 h2 hP hq => r177r K hT h1 h2 JL hL Jat hc k0 hc hJ hf hP hq⟩
theorem r179 {ks : List cT} {B0 : Nat} (K : KE KS0 ks B0) {ρ : Nat → xE} {J : sg → Prop} {c : Nat} {L : LT} {Fa s : Nat} (JL : ∀ σ, J σ → (∀ k, ltr σ c k = L.1 k) ∧ nw σ (282 * c + 31) ≤ 250) (hL : ∀ j, 250 ≤ j → L.1 j = -1) (Jat : ∀ σ v, J σ → J (us σ 60 16 v)) (hc : c < 24) (hA : WA ks ρ J c L Fa) (hP : PK L 0 0 s) (hs : s ≤ 250) {σ : sg} {h : List xE} (hT : HT ks σ ρ h) (hJ : J σ) {x1 : Int32} (e1 : x1.toInt = (c : Int)) : yM 179 (Fa + (2 * s + 8)) 0 [.ref (60 + 1), .int x1] h (RQL ks ρ (fun σ2 _ => J σ2 ∧ fl σ2 16 = fl σ 16)) := by
  obtain ⟨n, hP⟩ := hP
  obtain ⟨w, -⟩ := work_all K JL hL Jat hc hA n
  have o0 : xnth ks 60 = some (19, 0) := K.up rfl
  refine yM.st xM_179 rfl rfl (fun lv g => ?_)
  have g0 := g 0 _ rfl
  have g1 := g 1 _ rfl
  refine yT.aan (pc' := 1) g0 rfl rfl rfl ?_
  refine yT.cgX (pc' := 4) rfl rfl hT o0 rfl rfl (fun x _ x1' x2' x3 => ?_)
  refine yT.p (pc' := 5) (lv' := xst1 _ 2 (.int x)) rfl rfl (fun _ _ _ _ => rfl) ?_
  refine yT.aan (pc' := 6) (xg_ne g0 rfl) rfl rfl rfl ?_
  refine yT.kI (pc' := 7) rfl rfl (by decide) (fun z ez => ?_)
  refine yT.cpX (c := z) (pc' := 10) rfl rfl hT o0 rfl rfl rfl ez (by omega) rfl (fun h1 hT1 _ _ => ?_)
  refine yT.aan (pc' := 11) (xg_ne g0 rfl) rfl rfl rfl ?_
  refine yT.iln (pc' := 12) (xg_ne g1 rfl) rfl rfl ?_
  refine yT.kI (pc' := 13) rfl rfl (by decide) (fun u eu => ?_)
  have f0 : fl (us σ 60 16 z) 16 = ((0 : Nat) : Int) := fl_at.trans ez
  refine kRL (yT.cc (G2 := 0) (pc' := 16) rfl rfl rfl hT1 o0 xM_173 (w hT1 (Jat _ z hJ) f0 e1 (Or.inr eu) hP hs) rfl (by omega) (by decide) rfl) (fun h2 σ2 y hT2 E => ?_)
  refine yT.p (pc' := 17) (lv' := xst2 _ 3 (.long y)) rfl rfl (fun _ _ _ _ => rfl) ?_
  refine yT.aan (pc' := 18) (xg2_ne (xg_ne g0 rfl) rfl) rfl rfl rfl ?_
  refine yT.iln (pc' := 19) (xg2_ne xg_eq rfl) rfl rfl ?_
  refine yT.cpX (c := x) (pc' := 22) rfl rfl hT2 o0 rfl rfl rfl rfl ⟨x1', x2'⟩ rfl (fun h3 hT3 _ _ => ?_)
  have P : J (us σ2 60 16 x) ∧ fl (us σ2 60 16 x) 16 = fl σ 16 := ⟨Jat _ x E.1, fl_at.trans (congrArg Int32.toInt x3)⟩
  refine yT.lln (pc' := 23) xg2_eq rfl rfl ?_
  refine kSI (yT.cst (G2 := 0) (pc' := 26) rfl rfl xM_171 (r171 K hT3 y) rfl (by omega) (by decide) rfl) (fun h4 w4 hT4 E4 => ?_)
  refine yT.if1 (t := 33) (pc' := 29) rfl rfl rfl (c1_eq rfl) (fun _ => ?_) (fun _ => ?_)
  · refine yT.lln (pc' := 34) xg2_eq rfl rfl ?_
    refine yT.fi (pc' := 35) rfl rfl (fun _ _ _ _ => rfl) (fun a => ?_)
    refine yT.fl (pc' := 36) rfl rfl (fun _ _ _ _ => rfl) (fun b => ?_)
    exact yT.retL rfl rfl ⟨_, hT4, _, rfl, P⟩
  · refine yT.lln (pc' := 30) xg2_eq rfl rfl ?_
    refine yT.p (pc' := 36) rfl rfl (fun _ _ _ _ => rfl) ?_
    exact yT.retL rfl rfl ⟨_, hT4, _, rfl, P⟩
