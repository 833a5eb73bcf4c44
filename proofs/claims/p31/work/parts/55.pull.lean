/-! effects' refreshing, closed -/
theorem r182E {ks : List cT} {B0 : Nat} (K : KE KS0 ks B0) {σ : sg} {ρ : Nat → xE} {h : List xE} (hT : HT ks σ ρ h) {c : Nat} {x1 : Int32} (e1 : x1.toInt = (c : Int)) (p0 : c < 24) (p1 : RO σ) (p2 : FO σ) (p3 : fl σ 13 = 0) (p4 : nw σ (282 * c + 0) = 4) (p5 : bz σ c = 0) (p6 : ws 24 σ ≤ 1500) (p7 : 0 ≤ nw σ 6795 ∧ nw σ 6795 ≤ 1000000000) (p8 : 0 ≤ nw σ 6856 ∧ gm σ ≤ 1000000) : yM 182 1570 0 [.ref (60 + 1), .int x1] h (RQV ks ρ (EF 1 σ)) := by
  obtain ⟨⟨s0, s1⟩, s2⟩ := p2 c p0
  have s2 := s2 (Or.inr p4)
  have g := ws_ge p5 24 p0
  have Rf : WR ks ρ B0 (PW c σ) (ws 24 σ + 70 - (2 * (nw σ (282 * c + 31)).toNat + 16)) := fun {σ1 h1 y z} K1 hT1 e1 hy hW hk1 hb1 => by
    have w := hW.wsl p5 p0
    exact (r182z K (nb 24 σ1 + 1) hT1 e1 (by omega) hy hW.1 (p2.meo hW.2.2.2) hW.2.1 hk1 hb1).w (by omega) (Nat.le_refl _) (fun _ _ h => h)
  exact (r182e K hT e1 Rf (by omega) p0 p1 p3 p4 (s := (nw σ (282 * c + 31)).toNat) (by omega) (by omega) s2 p5 p7 p8).w (by omega) (Nat.le_refl _) (fun _ _ h => h)
