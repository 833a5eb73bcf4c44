/-! formulas told, closed -/
def DK (ks : List cT) (ρ : Nat → xE) (J : sg → Prop) (c : Nat) (L : LT) (n a K k : Nat) : Prop := ∀ {σ1 : sg} {h1 : List xE} {y1 : Int32} {p1 q1 : Nat}, HT ks σ1 ρ h1 → J σ1 → fl σ1 16 = (p1 : Int) → y1.toInt = (c : Int) → 0 ≤ fl σ1 25 ∧ fl σ1 25 + 3 * ((q1 : Int) - (p1 : Int)) ≤ 1900 → PP n L k p1 = some q1 → q1 ≤ 250 → yM a (2 * (q1 - p1) + K) 0 [.ref (60 + 1), .int y1] h1 (RQV ks ρ (fun σ2 => J σ2 ∧ fl σ2 16 = (q1 : Int) ∧ fl σ1 25 ≤ fl σ2 25 ∧ fl σ2 25 ≤ fl σ1 25 + 3 * ((q1 : Int) - (p1 : Int))))
theorem told_all {ks : List cT} {B0 : Nat} (K : KE KS0 ks B0) {ρ : Nat → xE} {J : sg → Prop} {c : Nat} {L : LT} (JL : ∀ σ, J σ → (∀ k, ltr σ c k = L.1 k) ∧ nw σ (282 * c + 31) ≤ 250) (hL : ∀ j, 250 ≤ j → L.1 j = -1) (Jat : ∀ σ v, J σ → J (us σ 60 16 v)) (JT : ∀ σ τ, J σ → TT σ τ → J τ) (hc : c < 24) : ∀ n, DK ks ρ J c L n 206 7 0 ∧ DK ks ρ J c L n 207 6 1 ∧ DK ks ρ J c L n 208 5 2 ∧ DK ks ρ J c L n 209 4 3
  | 0 => ⟨fun _ _ _ _ _ h _ => (by cases h), fun _ _ _ _ _ h _ => (by cases h), fun _ _ _ _ _ h _ => (by cases h), fun _ _ _ _ _ h _ => (by cases h)⟩
  | n + 1 => by
    obtain ⟨w0, w1, w2, w3⟩ := told_all K JL hL Jat JT hc n
    exact ⟨fun hT hJ hf h1 hb hP hq => r206r K hT h1 JL hL Jat JT hc w1 hc hJ hf hP hq hb, fun hT hJ hf h1 hb hP hq => r207r K hT h1 JL hL Jat JT hc w2 hc hJ hf hP hq hb, fun hT hJ hf h1 hb hP hq => r208r K hT h1 JL hL Jat JT hc w3 hc hJ hf hP hq hb, fun hT hJ hf h1 hb hP hq => r209r K hT h1 JL hL Jat JT hc w3 w0 hc hJ hf hP hq hb⟩
/-- spelled(): what it leaves -/
def TJ (σ τ : sg) : Prop := (∀ q, q ≠ 60 → τ q = σ q) ∧ ∀ s, s ≠ 16 → s ≠ 25 → fl τ s = fl σ s
theorem TJ.rf {σ : sg} : TJ σ σ := ⟨fun _ _ => rfl, fun _ _ _ => rfl⟩
theorem TJ.us {σ τ : sg} {i : Nat} {v : Int32} (h : TJ σ τ) (hi : i = 16 ∨ i = 25) : TJ σ (us τ 60 i v) :=
  ⟨fun q hq => (us_nq hq).trans (h.1 q hq), fun s h1 h2 => (congrArg Int32.toInt (us_ne (fun e => by omega))).trans (h.2 s h1 h2)⟩
theorem TJ.nwe {σ τ : sg} {i : Nat} (h : TJ σ τ) : nw τ i = nw σ i := nw_e (h.1 61 (by decide))
theorem r206 {ks : List cT} {B0 : Nat} (K : KE KS0 ks B0) {σ : sg} {ρ : Nat → xE} {h : List xE} (hT : HT ks σ ρ h) {c : Nat} {x1 : Int32} (e1 : x1.toInt = (c : Int)) (p0 : c < 24) (p1 : fl σ 16 = 0) (p2 : fl σ 25 = 0) (p3 : FOK σ c) (p4 : nw σ (282 * c + 0) = 3 ∨ nw σ (282 * c + 0) = 4) : yM 206 507 0 [.ref (60 + 1), .int x1] h (RQV ks ρ (fun σ' => TJ σ σ' ∧ 0 ≤ fl σ' 25 ∧ fl σ' 25 ≤ 750)) := by
  obtain ⟨⟨s0, s1⟩, s2⟩ := p3
  obtain ⟨n, s2⟩ := s2 p4
  have JL : ∀ τ, TJ σ τ → (∀ k, ltr τ c k = ltr σ c k) ∧ nw τ (282 * c + 31) ≤ 250 := fun τ k => by
    refine ⟨fun j => congrFun (congrArg Prod.fst (lt_e (c := c) (k.1 61 (by decide)))) j, ?_⟩
    rw [k.nwe]
    omega
  obtain ⟨w, -⟩ := told_all K (L := lt σ c) JL (ltr_out (by omega)) (fun τ v k => k.us (Or.inl rfl)) (fun τ υ k t => ⟨fun q hq => (t.1 q hq).trans (k.1 q hq), fun s h1 h2 => (t.2.1 s h2).trans (k.2 s h1 h2)⟩) p0 n
  refine (w hT TJ.rf (p1 := 0) p1 e1 (by omega) s2 (by omega)).w (by omega) (Nat.le_refl _) (fun _ _ h => ?_)
  obtain ⟨σ2, b1, b2, b3, b4, b5, b6⟩ := h
  exact ⟨σ2, b1, b2, b3, by omega, by omega⟩
theorem TJ.tr {σ τ υ : sg} (h : TJ σ τ) (k : TJ τ υ) : TJ σ υ := ⟨fun q hq => (k.1 q hq).trans (h.1 q hq), fun s h1 h2 => (k.2 s h1 h2).trans (h.2 s h1 h2)⟩
theorem FOK.o {σ : sg} {c q i : Nat} {v : Int32} (h : FOK σ c) (hq : q ≠ 61) : FOK (us σ q i v) c := h.cg (nw_o hq) (fun _ _ _ => nw_o hq) (by rw [nw_o hq]; exact Int.le_refl _)
