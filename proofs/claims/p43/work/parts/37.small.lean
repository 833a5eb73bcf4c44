/-! what leaves the web as it is -/
/-- formulas below b at work, and what is worked out beside -/
def DB (T : Tp) (b : Nat) : Nat → Nat → Prop := fun p c => (∃ k, k < T.n ∧ T.ns ≤ k ∧ k < b ∧ DF (T.F k) p c) ∨ (p = 22 ∧ (c = 3 ∨ c = 4)) ∨ p = 23 ∨ p = 24
def DL : Nat → Nat → Prop := fun p c => (p = 6 ∧ (c = 1 ∨ c = 2)) ∨ p = 7 ∨ p = 8
section SM
variable {T : Tp} {m m' : Mm} {w w' : Ws} {D : Nat → Nat → Prop} {x y : Int32} {i j k b : Nat}
theorem Wb.form (h : Wb T m w) (f : FrP (DB T b) m m') : Wb T m' w := by
  obtain ⟨L, hF, hC, r1, r2, r3, lg, r4⟩ := h
  have L' := L
  obtain ⟨l1, l2, l3, l4, l5⟩ := L
  have out : ∀ p c, (∀ i, i < T.n → T.ns ≤ i → p < T.F i ∨ T.F i + 8 < p) → ¬ (p = 22 ∧ (c = 3 ∨ c = 4)) → p ≠ 23 → p ≠ 24 → ¬ DB T b p c := by
    rintro p c a1 a2 a3 a4 (⟨i, hi, hs, hb, hd⟩ | e | e | e)
    · have := a1 i hi hs
      unfold DF at hd
      omega
    · exact a2 e
    · exact a3 e
    · exact a4 e
  have low : ∀ p c, p < 60 → ¬ (p = 22 ∧ (c = 3 ∨ c = 4)) → p ≠ 23 → p ≠ 24 → ¬ DB T b p c := fun p c hp => out p c (fun i hi hs => by have := (l2 i hi).2 hs; omega)
  have cel : ∀ i, i < T.n → ∀ p c, T.A i ≤ p → p ≤ T.A i + 2 → ¬ DB T b p c := fun i hi p c p1 p2 => by
    have a0 := (l2 i hi).1
    exact out p c (fun i2 hi2 hs => by have := l4 i i2 hi hi2 hs; omega) (by omega) (by omega) (by omega)
  refine ⟨L', hF.fr f (fun p c hp hd => ?_), fun i hi => (hC i hi).fr f (low _ _ (by omega) (by omega) (by omega) (by omega)) (fun c _ => cel i hi _ _ (by omega) (by omega)) ?_, fun i hi => (r1 i hi).fr f (fun c _ _ => cel i hi _ _ (by omega) (by omega)) (cel i hi _ _ (by omega) (by omega)) (cel i hi _ _ (by omega) (by omega)) (fun c => cel i hi _ _ (by omega) (by omega)), fun j hj i hi => ?_, ?_, lg, ?_⟩
  · rcases hd with ⟨i, hi, hs, hb, hd⟩ | e | e | e
    · have := (l2 i hi).2 hs
      unfold DF at hd
      omega
    · omega
    · omega
    · omega
  · intro hs p c p1 p2 hd
    have a0 := (l2 i hi).2 hs
    rcases hd with ⟨i2, hi2, hs2, hb2, hd⟩ | e | e | e
    · by_cases e : i2 = i
      · subst e
        exact hd
      · have := l5 i2 i hi2 hi hs2 hs e
        unfold DF at hd
        omega
    · omega
    · omega
    · omega
  · rw [fiv f (low _ _ (by omega) (by omega) (by omega) (by omega))]
    exact r2 j hj i hi
  · exact r3.fr f (low _ _ (by omega) (by omega) (by omega) (by omega)) (low _ _ (by omega) (by omega) (by omega) (by omega)) (fun c => low _ _ (by omega) (by omega) (by omega) (by omega))
  · exact r4.fr f (low _ _ (by omega) (by omega) (by omega) (by omega)) (low _ _ (by omega) (by omega) (by omega) (by omega)) (fun c => low _ _ (by omega) (by omega) (by omega) (by omega))
theorem Wb.log (h : Wb T m w) (f : FrP DL m m') (n : ∃ lg, NumAt m' 6 7 60 lg) : Wb T m' w := by
  obtain ⟨L, hF, hC, r1, r2, r3, -⟩ := h
  have L' := L
  obtain ⟨l1, l2, l3, l4, l5⟩ := L
  have S := St.dy (b := 0) L' hF hC (fw f (fun p c e => by
    rcases e with e | e | e
    · exact Or.inr (Or.inr (Or.inr (Or.inr (Or.inl e))))
    · exact Or.inr (Or.inr (Or.inr (Or.inr (Or.inr (Or.inl e)))))
    · exact Or.inr (Or.inr (Or.inr (Or.inr (Or.inr (Or.inr (Or.inl e)))))))) 
  refine ⟨L', S.1, S.2, fun i hi => ?_, fun j hj i hi => ?_, ?_, n⟩
  · have ai := (l2 i hi).1
    exact (r1 i hi).fr f (fun c _ _ => by unfold DL; omega) (by unfold DL; omega) (by unfold DL; omega) (fun c => by unfold DL; omega)
  · rw [fiv f (by unfold DL; omega)]
    exact r2 j hj i hi
  · exact r3.fr f (by unfold DL; omega) (by unfold DL; omega) (fun c => by unfold DL; omega)
theorem sWe_addToLog {v : Int64} {K : Mm → Prop} (h : Wb T m w) (kk : ∀ m', Wb T m' w → FrP DL m m' → K m') : WWe_addToLog 1 x v m K := by
  have h' := h
  obtain ⟨L, hF, hC, r1, r2, r3, lg, n⟩ := h
  have hz := n.sz
  have hle := n.1.2.2
  have l8 : m.ln 8 = 60 := hF.2.2.2.1.2.2
  have e8 : (Int32.ofNat (m.ln 8)).toInt = 60 := by rw [l8]; rfl
  have w1 : m.rv 1 4 = 6 + 1 := hF.2.2.2.1.1
  have w2 : m.rv 1 5 = 8 + 1 := hF.2.2.2.1.2.1
  refine ⟨6, w1, sNu_size n ?_⟩
  rw [i32_nat (by omega)]
  refine ⟨fun c => by omega, fun c => ⟨8, w2, fun c2 => ⟨⟨by omega, by omega⟩, fun m18 e18 => ?_⟩, fun c2 => ?_⟩⟩
  · have f18 : FrP (fun p c => p = 8) m m18 := fste e18 rfl
    refine ⟨6, (frv f18 (by omega)).trans w1, sNu_add (n.fr f18 (by omega) (by omega) (fun c => by omega)) (fun m' n' f' => ?_)⟩
    have ff : FrP DL m m' := ftr (fw f18 (fun p c e => Or.inr (Or.inr e))) (fw f' (fun p c e => e.elim Or.inl (fun e => Or.inr (Or.inl e))))
    exact kk m' (h'.log ff ⟨_, n'⟩) ff
  · refine ⟨6, w1, sNu_add n (fun m' n' f' => ?_)⟩
    have ff : FrP DL m m' := fw f' (fun p c e => e.elim Or.inl (fun e => Or.inr (Or.inl e)))
    exact kk m' (h'.log ff ⟨_, n'⟩) ff
theorem sWe_ownedBy {K : Mm → Int32 → Prop} (h : Wb T m w) (hx : 0 ≤ x.toInt) (kk : K m 0) : WWe_ownedBy 1 x m K := by
  obtain ⟨L, hF, hC, -⟩ := h
  have hn := L.1
  have e1 : (1 : Int32).toInt = 1 := rfl
  have c1 : (m.iv 1 2).toInt = (T.n : Int) := by rw [hF.1.2.2]; exact nI_toInt (by omega)
  have l2 : m.ln 2 = 24 := hF.1.2.1
  have e2 : (Int32.ofNat (m.ln 2)).toInt = 24 := by rw [l2]; rfl
  have Lp : ∀ (q i : Nat) (z : Int32), z.toInt = (i : Int) → i ≤ T.n → T.n - i < q → WWe_ownedBy_L4 1 x K q 0 z m := by
    intro q
    induction q with
    | zero => intro i z _ _ hq; exact absurd hq (Nat.not_lt_zero _)
    | succ q ih =>
      intro i z hz hi hq
      have ez : (z + 1).toInt = ((i + 1 : Nat) : Int) := by rw [i32_add hz e1 (by omega)]; omega
      refine WWe_ownedBy_L4_i ⟨fun c => ⟨2, hF.1.1, fun c2 => ⟨⟨by omega, by omega⟩, fun c3 => ?_, fun p c3 _ => ⟨fun c4 => ⟨fun c5 => ?_, fun c5 => ?_⟩, fun c4 => ?_⟩⟩, fun c2 => by omega⟩, fun c => kk⟩
      all_goals have hin : i < T.n := by omega
      all_goals obtain ⟨b1, b2, b3, b4, -⟩ := hC i hin
      all_goals rw [show z.toInt.toNat = i by omega, b1] at c3
      · omega
      · obtain rfl : T.A i = p := by omega
        rw [b3] at c5
        rw [← c5] at hx
        exact absurd hx (by decide)
      · exact ih (i + 1) (z + 1) ez hin (by omega)
      · exact ih (i + 1) (z + 1) ez hin (by omega)
  exact ⟨T.n + 1, Lp _ 0 0 rfl (Nat.zero_le _) (by omega)⟩
theorem sPu_disposeOwned {K : Mm → Prop} (h : Wb T m w) (hx : 0 ≤ x.toInt) (kk : K m) : WPu_disposeOwned 21 x 0 m K := by
  refine ⟨fun c => absurd c (by decide), fun _ => ⟨1, h.2.1.2.2.2.2.1, sWe_ownedBy h hx ⟨1, WPu_disposeOwned_L23v17_i ⟨fun _ => kk, fun _ => ⟨fun _ => kk, fun c => absurd rfl c⟩⟩⟩⟩⟩
theorem sCe_isReadable {K : Mm → Int32 → Prop} (h : Wb T m w) (hk : k < T.n) (he : T.kd k ≠ 4) (kk : K m 1) : WCe_isReadable (T.A k) m K := by
  obtain ⟨b1, b2, b3, b4, b5, b6, b7⟩ := h.2.2.1 k hk
  refine fun _ => ⟨fun _ => ⟨fun _ => kk, fun c => ⟨fun _ => kk, fun c2 => ?_⟩⟩, fun c => absurd b4 c⟩
  exfalso
  rw [b2] at c c2
  by_cases hs : k < T.ns
  · exact c (b6 hs)
  · exact (b7 (by omega)).1.elim c2 he
end SM
