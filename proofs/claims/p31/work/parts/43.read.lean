/-! the tape read, closed -/
section RZ
variable {ks : List cT} {B0 : Nat} {σ : sg} {ρ : Nat → xE} {L : LT} {T : Nat}
theorem r201z (K : KE KS0 ks B0) (tl : TL σ L T) (hcm : (0 ≤ nw σ 6768 ∧ nw σ 6768 ≤ 24) ∧ L.2 = nw σ 6768) : ∀ (n : Nat) {h : List xE} {v : Int32} {p : Nat}, HT ks (us σ 60 22 v) ρ h → v.toInt = (p : Int) → p ≤ T → T - p < n → yM 201 (4 * (T - p) + 10) 0 [.ref (60 + 1)] h (RCI ks ρ σ (RG 3 L T p))
  | 0, _, _, _, _, _, _, hn => absurd hn (Nat.not_lt_zero _)
  | n + 1, h, v, p, hT, hv, hp, hn => r201r K hT hv tl hp hcm (fun hT1 hv1 hp1 hlo => r201z K tl hcm n hT1 hv1 hp1 (by omega)) (fun hT1 hv1 hp1 hlo => r197r K hT1 hv1 tl hp1 (fun hT2 hv2 hp2 hlo2 => r198r K hT2 hv2 tl hp2 (fun hT3 hv3 hp3 hlo3 => r199r K hT3 hv3 tl hp3 (fun hT4 hv4 hp4 hlo4 => r201z K tl hcm n hT4 hv4 hp4 (by omega)))))
theorem r197 (K : KE KS0 ks B0) {h : List xE} {v : Int32} {p : Nat} (hT : HT ks (us σ 60 22 v) ρ h) (hv : v.toInt = (p : Int)) (tl : TL σ L T) (hp : p ≤ T) (hcm : (0 ≤ nw σ 6768 ∧ nw σ 6768 ≤ 24) ∧ L.2 = nw σ 6768) : yM 197 1013 0 [.ref (60 + 1)] h (RCI ks ρ σ (RG 0 L T p)) :=
  (r197r K hT hv tl hp (fun hT2 hv2 hp2 hlo2 => r198r K hT2 hv2 tl hp2 (fun hT3 hv3 hp3 hlo3 => r199r K hT3 hv3 tl hp3 (fun hT4 hv4 hp4 hlo4 => r201z K tl hcm 251 hT4 hv4 hp4 (by have := tl.2.2; omega))))).w (by have := tl.2.2; omega) (Nat.le_refl _) (fun _ _ h => h)
/-- what faultRead() leaves -/
def FRD (σ σ' : sg) (r : Int32) : Prop := (∀ q, q ≠ 60 → σ' q = σ q) ∧ (∀ s, s ≠ 12 → s ≠ 22 → s ≠ 23 → σ' 60 s = σ 60 s) ∧ fl σ' 12 = 0 ∧ fl σ' 23 = fl σ 12 ∧ -1 ≤ r.toInt ∧ (r.toInt = -1 → PK ⟨tp σ, nw σ 6768⟩ 0 0 (fl σ 12).toNat)
theorem r202 (K : KE KS0 ks B0) {h : List xE} (hT : HT ks σ ρ h) (hcm : 0 ≤ nw σ 6768 ∧ nw σ 6768 ≤ 24) : yM 202 1014 0 [.ref (60 + 1)] h (RQI ks ρ (fun σ' r => FRD σ σ' r)) := by
  refine yM.st xM_202 rfl rfl (fun lv g => ?_)
  have g0 := g 0 _ rfl
  have o0 : xnth ks 60 = some (19, 0) := K.up rfl
  refine yT.aan (pc' := 1) g0 rfl rfl rfl ?_
  refine yT.kI (pc' := 2) rfl rfl (by decide) (fun z ez => ?_)
  refine yT.cpX (c := z) (pc' := 5) rfl rfl hT o0 rfl rfl rfl ez (by omega) rfl (fun h1 hT1 _ _ => ?_)
  -- the tape's size
  obtain ⟨T, eT, hTb⟩ : ∃ T : Nat, fl σ 12 = (T : Int) ∧ T ≤ 250 := by
    obtain ⟨fs, w1, w2, w3⟩ := hT.obj o0 rfl
    obtain ⟨v, v1, x, rfl, x1, x2, x3⟩ := w3 12 (by decide)
    have x3 : x.toInt ≤ 250 := x3
    refine ⟨x.toInt.toNat, ?_, by omega⟩
    unfold fl
    rw [← x1]
    omega
  have tl : TL σ ⟨tp σ, nw σ 6768⟩ T := ⟨fun _ => rfl, eT, hTb⟩
  refine yT.aan (pc' := 6) g0 rfl rfl rfl ?_
  refine kRC (yT.cc (G2 := 0) (pc' := 9) rfl rfl rfl hT1 o0 xM_197 (r197 (p := 0) K hT1 ez tl (Nat.zero_le _) ⟨hcm, rfl⟩) rfl (by decide) (by decide) rfl) (fun h2 v p x hT2 hv E => ?_)
  obtain ⟨k1, k2, k3, k4⟩ := E
  have N : ∀ (b : Int32) (lv : xLv) (h3 : List xE), xget lv 0 = some (.ref (60 + 1)) → xget lv 1 = some (.int b) → HT ks (us σ 60 22 v) ρ h3 → (b.toInt = 0 ∨ b.toInt = 1) → (b.toInt = 1 → PK ⟨tp σ, nw σ 6768⟩ 0 0 T) → yT 0 [] rX9_faultRead 1014 0 29 lv [] h3 (RQI ks ρ (fun σ' r => FRD σ σ' r)) := by
    intro b lv h3 g0 g1 hT3 hb hpk
    refine yT.aan (pc' := 30) g0 rfl rfl rfl ?_
    refine yT.aan (pc' := 31) g0 rfl rfl rfl ?_
    refine yT.cgX (pc' := 34) rfl rfl hT3 o0 rfl rfl (fun y _ y1 y2 y3 => ?_)
    refine yT.cpX (c := y) (pc' := 37) rfl rfl hT3 o0 rfl rfl rfl rfl ⟨y1, y2⟩ rfl (fun h4 hT4 _ _ => ?_)
    refine yT.aan (pc' := 38) g0 rfl rfl rfl ?_
    refine yT.kI (pc' := 39) rfl rfl (by decide) (fun u eu => ?_)
    refine yT.cpX (c := u) (pc' := 42) rfl rfl hT4 o0 rfl rfl rfl eu (by omega) rfl (fun h5 hT5 _ _ => ?_)
    have fy : y.toInt = fl σ 12 := (congrArg Int32.toInt y3).trans (fl_o (σ := σ) (s := 12) (q := 60) (i := 22) (v := v) rfl)
    have F : ∀ r : Int32, -1 ≤ r.toInt → (r.toInt = -1 → PK ⟨tp σ, nw σ 6768⟩ 0 0 T) → FRD σ (us (us (us σ 60 22 v) 60 23 y) 60 12 u) r := by
      intro r h1 h2
      refine ⟨fun q hq => by rw [us_nq hq, us_nq hq, us_nq hq], fun s s1 s2 s3 => by rw [us_ne (fun e => s1 e.2), us_ne (fun e => s3 e.2), us_ne (fun e => s2 e.2)], fl_at.trans eu, ?_, h1, fun e => ?_⟩
      · rw [fl_o rfl, fl_at]
        exact fy
      · rw [eT]
        exact h2 e
    refine yT.iln (pc' := 43) g1 rfl rfl ?_
    refine yT.if1 (t := 50) (pc' := 46) rfl rfl rfl (c1_eq rfl) (fun c => ?_) (fun c => ?_)
    · refine yT.aan (pc' := 51) g0 rfl rfl rfl ?_
      refine yT.cgX (pc' := 54) rfl rfl hT5 o0 rfl rfl (fun w _ w1 _ _ => ?_)
      exact yT.retI rfl rfl ⟨_, hT5, _, rfl, F w (by omega) (fun e => by omega)⟩
    · refine yT.kI (pc' := 47) rfl rfl (by decide) (fun w ew => ?_)
      refine yT.p (pc' := 54) rfl rfl (fun _ _ _ _ => rfl) ?_
      exact yT.retI rfl rfl ⟨_, hT5, _, rfl, F w (by omega) (fun _ => hpk (by omega))⟩
  have Z : ∀ (h3 : List xE), HT ks (us σ 60 22 v) ρ h3 → yT 0 [] rX9_faultRead 1014 0 27 lv [] h3 (RQI ks ρ (fun σ' r => FRD σ σ' r)) := by
    intro h3 hT3
    refine yT.kI (pc' := 28) rfl rfl (by decide) (fun w ew => ?_)
    refine yT.p (pc' := 29) (lv' := xst1 _ 1 (.int w)) rfl rfl (fun _ _ _ _ => rfl) ?_
    exact N w _ h3 (xg_ne g0 rfl) xg_eq hT3 (Or.inl ew) (fun e => by omega)
  refine yT.if1 (t := 27) (pc' := 12) rfl rfl rfl (c1_eq rfl) (fun _ => Z _ hT2) (fun c => ?_)
  refine yT.aan (pc' := 13) g0 rfl rfl rfl ?_
  refine yT.cgX (pc' := 16) rfl rfl hT2 o0 rfl rfl (fun a _ _ _ a3 => ?_)
  refine yT.aan (pc' := 17) g0 rfl rfl rfl ?_
  refine yT.cgX (pc' := 20) rfl rfl hT2 o0 rfl rfl (fun b _ _ _ b3 => ?_)
  have ha : a.toInt = (p : Int) := (congrArg Int32.toInt a3).trans ((fl_at (σ := σ) (s := 22) (v := v)).trans hv)
  have hb : b.toInt = (T : Int) := (congrArg Int32.toInt b3).trans ((fl_o (σ := σ) (s := 12) (q := 60) (i := 22) (v := v) rfl).trans eT)
  refine yT.if2 (t := 27) (pc' := 23) rfl rfl rfl (c2_ne ha hb) (fun _ => Z _ hT2) (fun c2 => ?_)
  refine yT.kI (pc' := 24) rfl rfl (by decide) (fun w ew => ?_)
  refine yT.p (pc' := 28) rfl rfl (fun _ _ _ _ => rfl) ?_
  refine yT.p (pc' := 29) (lv' := xst1 _ 1 (.int w)) rfl rfl (fun _ _ _ _ => rfl) ?_
  refine N w _ _ (xg_ne g0 rfl) xg_eq hT2 (Or.inr ew) (fun _ => ?_)
  have e : p = T := by omega
  rw [← e]
  exact k4 (by omega)
end RZ
