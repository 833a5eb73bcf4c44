/-! working out beside: only at (16) and plainState (73) become other -/
def ps (σ : sg) (i : Nat) : Int := (σ 73 i).toInt
def LF (σ τ : sg) : Prop := (∀ q, q ≠ 60 → q ≠ 73 → τ q = σ q) ∧ (∀ s, s ≠ 16 → fl τ s = fl σ s) ∧ ∀ i, ps σ i ≠ 0 → ps τ i ≠ 0
theorem LF.rf {σ : sg} : LF σ σ := ⟨fun _ _ _ => rfl, fun _ _ => rfl, fun _ h => h⟩
theorem LF.tr {σ τ υ : sg} (h : LF σ τ) (k : LF τ υ) : LF σ υ :=
  ⟨fun q a b => (k.1 q a b).trans (h.1 q a b), fun s hs => (k.2.1 s hs).trans (h.2.1 s hs), fun i hi => k.2.2 i (h.2.2 i hi)⟩
theorem LF.at {σ τ : sg} {v : Int32} (h : LF σ τ) : LF σ (us τ 60 16 v) :=
  ⟨fun q a b => (us_nq a).trans (h.1 q a b), fun s hs => (congrArg Int32.toInt (us_ne (fun e => hs e.2))).trans (h.2.1 s hs), fun i hi => by
    show (us τ 60 16 v 73 i).toInt ≠ 0
    rw [us_nq (by decide)]
    exact h.2.2 i hi⟩
theorem nw_e {σ τ : sg} {i : Nat} (h : τ 61 = σ 61) : nw τ i = nw σ i := by
  unfold nw
  rw [h]
theorem LF.nwe {σ τ : sg} {i : Nat} (h : LF σ τ) : nw τ i = nw σ i := nw_e (h.1 61 (by decide) (by decide))
theorem lt_e {σ τ : sg} {c : Nat} (h : τ 61 = σ 61) : lt τ c = lt σ c := by
  have e : nw τ = nw σ := funext (fun i => nw_e h)
  unfold lt ltr
  rw [e]
/-- cells are sources, memos, effects, scopes -/
def KO (σ : sg) : Prop := ∀ c : Nat, (c : Int) < nw σ 6768 → nw σ (282 * c + 0) = 1 ∨ nw σ (282 * c + 0) = 3 ∨ nw σ (282 * c + 0) = 4 ∨ nw σ (282 * c + 0) = 5
theorem KO.e {σ τ : sg} (k : KO σ) (h : τ 61 = σ 61) : KO τ := fun c hc => by
  rw [nw_e h] at hc ⊢
  exact k c hc
/-- what working out beside wants, from c's working out -/
def PX (c : Nat) (σ τ : sg) : Prop := τ 61 = σ 61 ∧ fl τ 13 = 1 ∧ (∀ i, ps σ i ≠ 0 → ps τ i ≠ 0) ∧ ps τ c ≠ 0
theorem PX.lf {c : Nat} {σ τ υ : sg} (h : PX c σ τ) (k : LF τ υ) : PX c σ υ :=
  ⟨(k.1 61 (by decide) (by decide)).trans h.1, (k.2.1 13 (by decide)).trans h.2.1, fun i hi => k.2.2 i (h.2.2.1 i hi), k.2.2 c h.2.2.2⟩
theorem ps_at {σ : sg} {i : Nat} {v : Int32} : ps (us σ 73 i v) i = v.toInt := congrArg Int32.toInt us_eq
theorem ps_ne {σ : sg} {i j : Nat} {v : Int32} (h : j ≠ i) : ps (us σ 73 i v) j = ps σ j := congrArg Int32.toInt (us_ne (fun e => h e.2))
theorem ps_nz {σ : sg} {c : Nat} {v : Int32} (hv : v.toInt ≠ 0) : ∀ i, ps σ i ≠ 0 → ps (us σ 73 c v) i ≠ 0 := fun i hi => by
  by_cases e : i = c
  · subst e
    rw [ps_at]
    exact hv
  · rw [ps_ne e]
    exact hi
theorem PX.in {σ : sg} {c : Nat} {v : Int32} (h13 : fl σ 13 = 1) (hv : v.toInt ≠ 0) : PX c σ (us σ 73 c v) :=
  ⟨us_nq (by decide), (fl_eq (us_nq (by decide))).trans h13, ps_nz hv, by rw [ps_at]; exact hv⟩
theorem LF.s7 {σ τ : sg} {c : Nat} {v : Int32} (h : LF σ τ) (hv : v.toInt ≠ 0) : LF σ (us τ 73 c v) :=
  h.tr ⟨fun q _ b => us_nq b, fun s _ => fl_eq (us_nq (by decide)), ps_nz hv⟩
/-- a cell is worked out beside -/
def WQ (ks : List cT) (ρ : Nat → xE) (B0 : Nat) (P : sg → Prop) (Fr : Nat) : Prop := ∀ {σ1 : sg} {h1 : List xE} {y : Nat} {z : Int32}, KE KS0 ks B0 → HT ks σ1 ρ h1 → z.toInt = (y : Int) → y < 24 → P σ1 → nw σ1 (282 * y + 0) = 1 ∨ nw σ1 (282 * y + 0) = 3 ∨ nw σ1 (282 * y + 0) = 4 → yM 193 Fr 0 [.ref (60 + 1), .int z] h1 (RQL ks ρ (fun σ2 _ => LF σ1 σ2))
/-- frames that cells not yet worked out may want -/
def wz : Nat → sg → Nat
  | 0, _ => 0
  | n + 1, σ => wz n σ + (if ps σ n = 0 then 2 * (nw σ (282 * n + 31)).toNat + 16 else 0)
theorem wz_le {σ τ : sg} (h61 : τ 61 = σ 61) (h : ∀ i, ps σ i ≠ 0 → ps τ i ≠ 0) : ∀ n, wz n τ ≤ wz n σ
  | 0 => Nat.le_refl _
  | n + 1 => by
    have := wz_le h61 h n
    have k := h n
    unfold wz
    rw [nw_e h61]
    split
    · rename_i e
      rw [if_pos (Decidable.not_not.mp (fun e2 => k e2 e))]
      omega
    · omega
theorem wz_st {σ τ : sg} {c : Nat} (h61 : τ 61 = σ 61) (h : ∀ i, ps σ i ≠ 0 → ps τ i ≠ 0) (h0 : ps σ c = 0) (h1 : ps τ c ≠ 0) : ∀ n, c < n → wz n τ + (2 * (nw σ (282 * c + 31)).toNat + 16) ≤ wz n σ
  | 0, hc => absurd hc (Nat.not_lt_zero _)
  | n + 1, hc => by
    unfold wz
    by_cases e : c = n
    · subst e
      have := wz_le h61 h c
      rw [if_pos h0, if_neg h1]
      omega
    · have := wz_st h61 h h0 h1 n (by omega)
      have k := h n
      rw [nw_e h61]
      split
      · rename_i e
        rw [if_pos (Decidable.not_not.mp (fun e2 => k e2 e))]
        omega
      · omega
theorem wz_ge {σ : sg} {c : Nat} (h0 : ps σ c = 0) : ∀ n, c < n → 2 * (nw σ (282 * c + 31)).toNat + 16 ≤ wz n σ
  | 0, hc => absurd hc (Nat.not_lt_zero _)
  | n + 1, hc => by
    unfold wz
    by_cases e : c = n
    · subst e
      rw [if_pos h0]
      omega
    · have := wz_ge h0 n (by omega)
      omega
theorem wz_ws {σ τ : sg} (h61 : τ 61 = σ 61) (hb : ∀ i, i < 24 → bz σ i = 0) : ∀ n, n ≤ 24 → wz n τ ≤ ws n σ
  | 0, _ => Nat.le_refl _
  | n + 1, hn => by
    have := wz_ws h61 hb n (by omega)
    unfold wz ws
    rw [if_pos (hb n (by omega)), nw_e h61]
    split
    · omega
    · omega
