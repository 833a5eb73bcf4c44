/-! pulling: while a cell is busy -/
def BF (c : Nat) (σ τ : sg) : Prop := (∀ q, q ≠ 60 → q ≠ 61 → q ≠ 67 → τ q = σ q) ∧ (∀ s, s ≠ 16 → fl τ s = fl σ s) ∧ ((∀ i, i ≠ c → bz τ i = bz σ i) ∧ bz τ c ≠ 0) ∧ (∀ i, mf i → nw τ i = nw σ i) ∧ RO τ
theorem fl_eq {σ τ : sg} {s : Nat} (h : τ 60 = σ 60) : fl τ s = fl σ s := by
  unfold fl
  rw [h]
theorem bz_eq {σ τ : sg} {i : Nat} (h : τ 67 = σ 67) : bz τ i = bz σ i := by
  unfold bz
  rw [h]
theorem bz_o {σ : sg} {q i j : Nat} {v : Int32} (h : q ≠ 67) : bz (us σ q i v) j = bz σ j := congrArg Int32.toInt (us_ne (fun e => h e.1.symm))
theorem bz_at {σ : sg} {i : Nat} {v : Int32} : bz (us σ 67 i v) i = v.toInt := congrArg Int32.toInt us_eq
theorem bz_ne {σ : sg} {i j : Nat} {v : Int32} (h : j ≠ i) : bz (us σ 67 i v) j = bz σ j := congrArg Int32.toInt (us_ne (fun e => h e.2))
theorem BF.in {σ : sg} {c : Nat} {v : Int32} (h : RO σ) (hv : v.toInt ≠ 0) : BF c σ (us σ 67 c v) :=
  ⟨fun q _ _ b => us_nq b, fun s _ => congrArg Int32.toInt (us_ne (fun e => absurd e.1 (by decide))), ⟨fun i hi => bz_ne hi, by rw [bz_at]; exact hv⟩, fun i _ => nw_o (by decide), h.o (by decide)⟩
theorem BF.tr {c : Nat} {σ τ υ : sg} (h : BF c σ τ) (k : PF τ υ) : BF c σ υ :=
  ⟨fun q a b d => (k.1 q a b d).trans (h.1 q a b d), fun s hs => (k.2.1 s hs).trans (h.2.1 s hs), ⟨fun i hi => (k.2.2.1 i).trans (h.2.2.1.1 i hi), by rw [k.2.2.1 c]; exact h.2.2.1.2⟩, fun i hi => (k.2.2.2.1 i hi).trans (h.2.2.2.1 i hi), k.2.2.2.2⟩
theorem BF.out {c : Nat} {σ τ : sg} {v : Int32} (h : BF c σ τ) (h0 : bz σ c = 0) (hv : v.toInt = 0) : PF σ (us τ 67 c v) :=
  ⟨fun q a b d => (us_nq d).trans (h.1 q a b d), fun s hs => (congrArg Int32.toInt (us_ne (fun e => absurd e.1 (by decide)))).trans (h.2.1 s hs), fun i => by
    by_cases e : i = c
    · subst e
      rw [bz_at, hv, h0]
    · rw [bz_ne e]
      exact h.2.2.1.1 i e, fun i hi => (nw_o (by decide)).trans (h.2.2.2.1 i hi), h.2.2.2.2.o (by decide)⟩
theorem PF.rm {σ τ : sg} {c : Nat} {v : Int32} (h : PF σ τ) (hc : c < 24) (hv : v.toInt = 0) : PF σ (us τ 61 (282 * c + 6) v) :=
  h.tr ⟨fun q _ b _ => us_nq b, fun s _ => congrArg Int32.toInt (us_ne (fun e => absurd e.1 (by decide))), fun i => bz_o (by decide), fun i hi => by
    unfold mf at hi
    exact nw_us (by omega), h.2.2.2.2.rm hc hv⟩
theorem PF.s3 {σ τ : sg} {c w : Nat} {v : Int32} (h : PF σ τ) (hc : c < 24) (hw : 3 ≤ w ∧ w ≤ 5) : PF σ (us τ 61 (282 * c + w) v) :=
  h.tr ⟨fun q _ b _ => us_nq b, fun s _ => congrArg Int32.toInt (us_ne (fun e => absurd e.1 (by decide))), fun i => bz_o (by decide), fun i hi => by
    unfold mf at hi
    exact nw_us (by omega), h.2.2.2.2.st (by omega)⟩
theorem PF.how {σ τ : sg} {v : Int32} (h : PF σ τ) (h13 : fl σ 13 = 0) (hv : v.toInt = 0) : PF σ (us τ 60 13 v) :=
  ⟨fun q a b d => (us_nq a).trans (h.1 q a b d), fun s hs => by
    by_cases e : s = 13
    · subst e
      rw [fl_at, hv, h13]
    · exact (congrArg Int32.toInt (us_ne (fun e2 => e e2.2))).trans (h.2.1 s hs), fun i => (bz_o (by decide)).trans (h.2.2.1 i), fun i hi => (nw_o (by decide)).trans (h.2.2.2.1 i hi), h.2.2.2.2.o (by decide)⟩
theorem PF.qs {σ τ υ : sg} (h : PF σ τ) (k : QS τ υ) : PF σ υ :=
  h.tr ⟨fun q _ b _ => k.1 q b, fun s _ => fl_eq (k.1 60 (by decide)), fun i => bz_eq (k.1 67 (by decide)), fun i hi => by
    unfold mf at hi
    exact k.2.1 i (by omega), h.2.2.2.2.qs k⟩
/-- places that effects' runs leave alone too -/
def me (i : Nat) : Prop := i < 6768 ∧ (i % 282 ≤ 1 ∨ 31 ≤ i % 282) ∨ i = 6768 ∨ i = 6769
theorem me_mf {i : Nat} (h : me i) : mf i := by
  unfold me at h
  unfold mf
  omega
/-- what pulling from c's run wants -/
def PW (c : Nat) (σ τ : sg) : Prop := RO τ ∧ fl τ 13 = 0 ∧ ((∀ i, i ≠ c → bz τ i = bz σ i) ∧ bz τ c ≠ 0) ∧ ∀ i, me i → nw τ i = nw σ i
theorem PW.pf {c : Nat} {σ τ υ : sg} (h : PW c σ τ) (k : PF τ υ) : PW c σ υ :=
  ⟨k.2.2.2.2, (k.2.1 13 (by decide)).trans h.2.1, ⟨fun i hi => (k.2.2.1 i).trans (h.2.2.1.1 i hi), by rw [k.2.2.1 c]; exact h.2.2.1.2⟩, fun i hi => (k.2.2.2.1 i (me_mf hi)).trans (h.2.2.2 i hi)⟩
theorem BF.pw {c : Nat} {σ τ : sg} (h : BF c σ τ) (h13 : fl σ 13 = 0) : PW c σ τ :=
  ⟨h.2.2.2.2, (h.2.1 13 (by decide)).trans h13, h.2.2.1, fun i hi => h.2.2.2.1 i (me_mf hi)⟩
/-- a memo is refreshed -/
def WR (ks : List cT) (ρ : Nat → xE) (B0 : Nat) (P : sg → Prop) (Fr : Nat) : Prop := ∀ {σ1 : sg} {h1 : List xE} {y : Nat} {z : Int32}, KE KS0 ks B0 → HT ks σ1 ρ h1 → z.toInt = (y : Int) → y < 24 → P σ1 → nw σ1 (282 * y + 0) = 3 → bz σ1 y = 0 → yM 182 Fr 0 [.ref (60 + 1), .int z] h1 (RQV ks ρ (PF σ1))
theorem r179w {ks : List cT} {B0 : Nat} (K : KE KS0 ks B0) {σ : sg} {ρ : Nat → xE} {h : List xE} (hT : HT ks σ ρ h) {c : Nat} {x1 : Int32} (e1 : x1.toInt = (c : Int)) {σb σ0 : sg} {Fr s : Nat} (Rf : WR ks ρ B0 (PW c σb) Fr) (p0 : c < 24) (h13 : fl σ0 13 = 0) (hs : nw σ0 (282 * c + 31) = (s : Int)) (hs2 : s ≤ 250) (hP : PK (lt σ0 c) 0 0 s) (hJ : PF σ0 σ) (hW : PW c σb σ0) : yM 179 (Fr + (2 * s + 14)) 0 [.ref (60 + 1), .int x1] h (RQL ks ρ (fun σ' _ => PF σ0 σ')) := by
  have JL : ∀ τ, PF σ0 τ → (∀ k, ltr τ c k = ltr σ0 c k) ∧ nw τ (282 * c + 31) ≤ 250 := fun τ k => by
    have e := ltr_cg (τ := τ) (fun i h1 h2 => k.2.2.2.1 i (by unfold mf; omega)) (by omega : nw σ0 (282 * c + 31) ≤ 250)
    refine ⟨fun j => by rw [e], ?_⟩
    rw [k.2.2.2.1 (282 * c + 31) (by unfold mf; omega)]
    omega
  have hA : WA ks ρ (PF σ0) c (lt σ0 c) (Fr + 6) := fun {σ1 h1 y1 y2 y3 y} hT1 k hy _ a1 a2 a3 => by
    refine (r178r K hT1 a1 a2 a3 (fun K2 hT2 a4 hy2 k2 hk hb => Rf K2 hT2 a4 (by omega) (hW.pf (k.tr k2)) (by rw [hy2]; exact hk) (by rw [hy2]; exact hb)) p0 hy k.2.2.2.2 ((k.2.1 13 (by decide)).trans h13)).w (Nat.le_refl _) (Nat.le_refl _) (fun _ _ h => ?_)
    obtain ⟨σ2, b1, b2, b3, b4, b5⟩ := h
    exact ⟨σ2, b1, b2, b3, k.tr b4, b5⟩
  refine (r179 K (L := lt σ0 c) JL (ltr_out (by omega)) (fun τ v k => k.at) p0 hA hP hs2 hT hJ e1).w (by omega) (Nat.le_refl _) (fun _ _ h => ?_)
  obtain ⟨σ2, b1, b2, b3, b4, -⟩ := h
  exact ⟨σ2, b1, b2, b3, b4⟩
