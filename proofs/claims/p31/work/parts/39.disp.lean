/-! disposing, closed -/
theorem r190z {ks : List cT} {B0 : Nat} (K : KE KS0 ks B0) {ρ : Nat → xE} : ∀ (n : Nat) {σ : sg} {h : List xE}, HT ks σ ρ h → ∀ {c : Nat} {x : Int32}, x.toInt = (c : Int) → 24 - c < n → c < 24 → RO σ → 0 ≤ nw σ 6856 ∧ gm σ ≤ 1000000 → nw σ (282 * c + 2) ≠ 1 → yM 190 (2 * (24 - c) + 8) 0 [.ref (60 + 1), .int x] h (RQV ks ρ (DF c σ))
  | 0, _, _, _, _, _, _, hn, _, _, _, _ => absurd hn (Nat.not_lt_zero _)
  | n + 1, σ, h, hT, c, x, e, hn, hc, hR, hG, hz => r190r K hT e (fun K1 hT1 e1 hk h1 h2 => by
      subst hk
      exact r189r K1 hT1 e1 (fun K2 hT2 e2 h24 hck hR2 hG2 hz2 => r190z K2 n hT2 e2 (by omega) h24 hR2 hG2 hz2) hc h1 h2) hc hR hG hz
theorem r190 {ks : List cT} {B0 : Nat} (K : KE KS0 ks B0) {σ : sg} {ρ : Nat → xE} {h : List xE} (hT : HT ks σ ρ h) {c : Nat} {x1 : Int32} (e1 : x1.toInt = (c : Int)) (p0 : c < 24) (p1 : RO σ) (p2 : 0 ≤ nw σ 6856 ∧ gm σ ≤ 1000000) (p3 : nw σ (282 * c + 2) ≠ 1) : yM 190 56 0 [.ref (60 + 1), .int x1] h (RQV ks ρ (DF c σ)) :=
  (r190z K (25 - c) hT e1 (by omega) p0 p1 p2 p3).w (by omega) (Nat.le_refl _) (fun _ _ h => h)
theorem r189 {ks : List cT} {B0 : Nat} (K : KE KS0 ks B0) {σ : sg} {ρ : Nat → xE} {h : List xE} (hT : HT ks σ ρ h) {c : Nat} {x1 : Int32} (e1 : x1.toInt = (c : Int)) (p0 : c < 24) (p1 : RO σ) (p2 : 0 ≤ nw σ 6856 ∧ gm σ ≤ 1000000) : yM 189 56 0 [.ref (60 + 1), .int x1] h (RQV ks ρ (DF (c + 1) σ)) :=
  (r189r K hT e1 (fun K2 hT2 e2 h24 _ hR2 hG2 hz2 => r190z K2 25 hT2 e2 (by omega) h24 hR2 hG2 hz2) p0 p1 p2).w (by omega) (Nat.le_refl _) (fun _ _ h => h)
