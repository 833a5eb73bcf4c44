theorem r193z {ks : List cT} {B0 : Nat} (K : KE KS0 ks B0) {ρ : Nat → xE} : ∀ (n : Nat) {σ : sg} {h : List xE}, HT ks σ ρ h → ∀ {y : Nat} {x : Int32}, x.toInt = (y : Int) → wz 24 σ < n → y < 24 → FO σ → KO σ → fl σ 13 = 1 → nw σ (282 * y + 0) = 1 ∨ nw σ (282 * y + 0) = 3 ∨ nw σ (282 * y + 0) = 4 → yM 193 (wz 24 σ + 20) 0 [.ref (60 + 1), .int x] h (RQL ks ρ (fun σ' _ => LF σ σ'))
  | 0, _, _, _, _, _, _, hn, _, _, _, _, _ => absurd hn (Nat.not_lt_zero _)
  | n + 1, σ, h, hT, y, x, e, hn, hy, hF, hK, h13, hk => by
    obtain ⟨⟨s0, s1⟩, s2⟩ := hF y hy
    by_cases hz : ps σ y = 0
    · have g := wz_ge hz 24 hy
      have Rp : WQ ks ρ B0 (PX y σ) (wz 24 σ + 20 - (2 * (nw σ (282 * y + 31)).toNat + 16)) := fun {σ1 h1 y' z} K1 hT1 e1 hy' hX hk1 => by
        have w := wz_st hX.1 hX.2.2.1 hz hX.2.2.2 24 hy
        exact (r193z K n hT1 e1 (by omega) hy' (hF.meo (fun i _ => nw_e hX.1)) (hK.e hX.1) hX.2.1 hk1).w (by omega) (Nat.le_refl _) (fun _ _ h => h)
      exact (r193r K hT e (s := (nw σ (282 * y + 31)).toNat) (fun _ => Rp) hy hk h13 (fun _ => ⟨by omega, by omega, fun hn => s2 (by omega)⟩) hK).w (by omega) (Nat.le_refl _) (fun _ _ h => h)
    · exact (r193r K hT e (Fr := 0) (s := 0) (fun z => absurd z hz) hy hk h13 (fun z => absurd z hz) hK).w (by omega) (Nat.le_refl _) (fun _ _ h => h)
theorem r193 {ks : List cT} {B0 : Nat} (K : KE KS0 ks B0) {σ : sg} {ρ : Nat → xE} {h : List xE} (hT : HT ks σ ρ h) {c : Nat} {x1 : Int32} (e1 : x1.toInt = (c : Int)) (p0 : c < 24) (p1 : nw σ (282 * c + 0) = 1 ∨ nw σ (282 * c + 0) = 3 ∨ nw σ (282 * c + 0) = 4) (p2 : FO σ) (p3 : KO σ) (p4 : fl σ 13 = 1) (p5 : wz 24 σ ≤ 1500) : yM 193 1520 0 [.ref (60 + 1), .int x1] h (RQL ks ρ (fun σ' _ => LF σ σ')) :=
  (r193z K (wz 24 σ + 1) hT e1 (by omega) p0 p2 p3 p4 p1).w (by omega) (Nat.le_refl _) (fun _ _ h => h)
/-- plain(), whatIf(): what they leave -/
def PY (σ τ : sg) : Prop := (∀ q, q ≠ 60 → q ≠ 73 → τ q = σ q) ∧ ∀ s, s ≠ 16 → fl τ s = fl σ s
theorem PY.rf {σ : sg} : PY σ σ := ⟨fun _ _ _ => rfl, fun _ _ => rfl⟩
theorem PY.tr {σ τ υ : sg} (h : PY σ τ) (k : PY τ υ) : PY σ υ :=
  ⟨fun q a b => (k.1 q a b).trans (h.1 q a b), fun s hs => (k.2 s hs).trans (h.2 s hs)⟩
theorem PY.z {σ τ : sg} {i : Nat} {v : Int32} (h : PY σ τ) : PY σ (us τ 73 i v) := h.tr ⟨fun q _ b => us_nq b, fun s _ => fl_eq (us_nq (by decide))⟩
theorem PY.end {σ τ υ : sg} {u v : Int32} (h : PY σ τ) (h13 : fl σ 13 = 0) (k : LF (us τ 60 13 u) υ) (hv : v.toInt = 0) : PY σ (us υ 60 13 v) :=
  ⟨fun q a b => by rw [us_nq a, k.1 q a b, us_nq a]; exact h.1 q a b, fun s hs => by
    by_cases e : s = 13
    · subst e
      rw [fl_at, hv, h13]
    · have e2 : fl (us υ 60 13 v) s = fl υ s := congrArg Int32.toInt (us_ne (fun e2 => e e2.2))
      have e3 : fl (us τ 60 13 u) s = fl τ s := congrArg Int32.toInt (us_ne (fun e2 => e e2.2))
      rw [e2, k.2.1 s hs, e3]
      exact h.2 s hs⟩
