theorem r179p {ks : List cT} {B0 : Nat} (K : KE KS0 ks B0) {σ : sg} {ρ : Nat → xE} {h : List xE} (hT : HT ks σ ρ h) {c : Nat} {x1 : Int32} (e1 : x1.toInt = (c : Int)) {σb : sg} {Fr s : Nat} (Rp : WQ ks ρ B0 (PX c σb) Fr) (p0 : c < 24) (hX : PX c σb σ) (hs : nw σ (282 * c + 31) = (s : Int)) (hs2 : s ≤ 250) (hP : PK (lt σ c) 0 0 s) (hK : KO σ) : yM 179 (Fr + (2 * s + 12)) 0 [.ref (60 + 1), .int x1] h (RQL ks ρ (fun σ' _ => LF σ σ')) := by
  have JL : ∀ τ, LF σ τ → (∀ k, ltr τ c k = ltr σ c k) ∧ nw τ (282 * c + 31) ≤ 250 := fun τ k => by
    refine ⟨fun j => congrFun (congrArg Prod.fst (lt_e (c := c) (k.1 61 (by decide) (by decide)))) j, ?_⟩
    rw [k.nwe]
    omega
  have hA : WA ks ρ (LF σ) c (lt σ c) (Fr + 4) := fun {σ1 h1 y1 y2 y3 y} hT1 k hy hm a1 a2 a3 => by
    have e61 := k.1 61 (by decide) (by decide)
    have hk := hK y hm
    rw [← k.nwe] at hk
    refine (r178p K hT1 a1 a2 a3 (fun {σ2 h2 y' z} K2 hT2 a4 hy2 k2 hk => ?_) hy hk ((k.2.1 13 (by decide)).trans hX.2.1)).w (Nat.le_refl _) (Nat.le_refl _) (fun _ _ h => ?_)
    · subst hy2
      exact Rp K2 hT2 a4 hy (hX.lf (k.tr k2)) (by rcases hk with h | h <;> simp only [h] <;> decide)
    · obtain ⟨σ2, b1, b2, b3, b4, b5⟩ := h
      exact ⟨σ2, b1, b2, b3, k.tr b4, b5⟩
  refine (r179 K (L := lt σ c) JL (ltr_out (by omega)) (fun τ v k => k.at) p0 hA hP hs2 hT LF.rf e1).w (by omega) (Nat.le_refl _) (fun _ _ h => ?_)
  obtain ⟨σ2, b1, b2, b3, b4, -⟩ := h
  exact ⟨σ2, b1, b2, b3, b4⟩
