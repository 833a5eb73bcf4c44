/-! what a pull does to the web -/
def nzc (x : Int32) : Nat := if x = 0 then 0 else 1
/-- up to cell k: what is clean stays; above k colours alone grow; runs are paid by what gets clean -/
def Sp3 (T : Tp) (w w' : Ws) (k : Nat) : Prop :=
  (∀ j, j < T.n → w.co j = 0 → w'.co j = 0 ∧ w'.ou j = w.ou j ∧ w'.rd j = w.rd j) ∧
  (∀ j, j < T.n → k < j → w'.ou j = w.ou j ∧ w'.rd j = w.rd j ∧ (w'.co j = w.co j ∨ (w.co j = 1 ∧ w'.co j = 2))) ∧
  (∀ j, j < T.n → w'.bu j = w.bu j) ∧ w'.qu = w.qu ∧
  (∀ j, j < T.n → w.ru j ≤ w'.ru j ∧ w'.ru j + nzc (w'.co j) ≤ w.ru j + nzc (w.co j))
section ST
variable {T : Tp} {w w' w1 w2 : Ws} {k i : Nat} {z : Int64} {ch : Prop}
theorem Sp3.rf : Sp3 T w w k := ⟨fun _ _ h => ⟨h, rfl, rfl⟩, fun _ _ _ => ⟨rfl, rfl, Or.inl rfl⟩, fun _ _ => rfl, rfl, fun _ _ => ⟨Nat.le_refl _, Nat.le_refl _⟩⟩
theorem Sp3.tr (h1 : Sp3 T w w1 k) (h2 : Sp3 T w1 w2 k) : Sp3 T w w2 k := by
  obtain ⟨a1, a2, a3, a4, a5⟩ := h1
  obtain ⟨b1, b2, b3, b4, b5⟩ := h2
  refine ⟨fun j hj hc => ?_, fun j hj hk => ?_, fun j hj => (b3 j hj).trans (a3 j hj), b4.trans a4, fun j hj => ⟨Nat.le_trans (a5 j hj).1 (b5 j hj).1, Nat.le_trans (b5 j hj).2 (a5 j hj).2⟩⟩
  · obtain ⟨c1, c2, c3⟩ := a1 j hj hc
    obtain ⟨d1, d2, d3⟩ := b1 j hj c1
    exact ⟨d1, d2.trans c2, d3.trans c3⟩
  · obtain ⟨c1, c2, c3⟩ := a2 j hj hk
    obtain ⟨d1, d2, d3⟩ := b2 j hj hk
    refine ⟨d1.trans c1, d2.trans c2, ?_⟩
    rcases c3 with c3 | ⟨c3, c4⟩
    · rw [c3] at d3
      exact d3
    · rcases d3 with d3 | ⟨d3, d4⟩
      · exact Or.inr ⟨c3, d3.trans c4⟩
      · rw [c4] at d3
        exact absurd d3 (by decide)
theorem Sp3.up (h : Sp3 T w w' i) (hk : i ≤ k) : Sp3 T w w' k := ⟨h.1, fun j hj hkj => h.2.1 j hj (by omega), h.2.2⟩
theorem fin_inv (I : Inv T w) (hk : k < T.n) (hs : T.ns ≤ k) (c2 : w.co k = 2) (cl : ∀ j, j ∈ w.rd k → w.co j = 0) (ev : evP (T.P k) w.ou = (z, w.rd k)) (hco : ∀ j, j < T.n → (j = k → w'.co j = 0) ∧ (j ≠ k → (ch ∧ k ∈ w.rd j → w'.co j = 2) ∧ (¬ (ch ∧ k ∈ w.rd j) → w'.co j = w.co j))) (hou : ∀ j, j < T.n → (j = k → w'.ou j = z) ∧ (j ≠ k → w'.ou j = w.ou j)) (hrd : ∀ j, j < T.n → w'.rd j = w.rd j) (hch : ¬ ch → z = w.ou k) : Inv T w' := by
  obtain ⟨i1, i2, i3, i4, i5⟩ := I
  have hk0 : w.co k ≠ 0 := by rw [c2]; decide
  refine ⟨fun j hj => ?_, fun j hj hn => ?_, fun j hj hn hc => ?_, fun j hj hc => ?_, fun j hj => by rw [hrd j hj]; exact i5 j hj⟩
  · by_cases e : j = k
    · exact Or.inl ((hco j hj).1 e)
    · by_cases d : ch ∧ k ∈ w.rd j
      · exact Or.inr (Or.inr (((hco j hj).2 e).1 d))
      · rw [((hco j hj).2 e).2 d]
        exact i1 j hj
  · obtain ⟨a1, a2⟩ := i2 j hj hn
    have e : j ≠ k := by omega
    refine ⟨?_, by rw [hrd j hj]; exact a2⟩
    rw [((hco j hj).2 e).2 (fun d => by rw [a2] at d; exact absurd d.2 List.not_mem_nil)]
    exact a1
  · rw [hrd j hj]
    by_cases e : j = k
    · subst e
      rw [(hou j hj).1 rfl, ← ev]
      refine (evP_congr (fun i hi => ?_)).symm
      rw [ev] at hi
      have := (i5 j hj).2 i hi
      exact (((hou i (by omega)).2 (by omega))).symm
    · have d : ¬ (ch ∧ k ∈ w.rd j) := fun d => hc (((hco j hj).2 e).1 d)
      rw [((hco j hj).2 e).2 d] at hc
      have e3 := i3 j hj hn hc
      rw [(hou j hj).2 e, ← e3]
      refine (evP_congr (fun i hi => ?_)).symm
      rw [e3] at hi
      have hij := (i5 j hj).2 i hi
      by_cases ik : i = k
      · subst ik
        rw [(hou i hk).1 rfl]
        exact (hch (fun c => d ⟨c, hi⟩)).symm
      · exact ((hou i (by omega)).2 ik).symm
  · intro i hi
    rw [hrd j hj] at hi
    have hij := (i5 j hj).2 i hi
    by_cases e : j = k
    · subst e
      rw [((hco i (by omega)).2 (by omega)).2 (fun d => by have := (i5 i (by omega)).2 j d.2; omega)]
      exact cl i hi
    · have d : ¬ (ch ∧ k ∈ w.rd j) := fun d => by
        rw [((hco j hj).2 e).1 d] at hc
        exact absurd hc (by decide)
      rw [((hco j hj).2 e).2 d] at hc
      have c0 := i4 j hj hc i hi
      have ik : i ≠ k := fun e => by subst e; exact hk0 c0
      rw [((hco i (by omega)).2 ik).2 (fun d => hk0 (i4 i (by omega) c0 k d.2))]
      exact c0
theorem fin_stp (I : Inv T w) (hk : k < T.n) (c2 : w.co k = 2) (hco : ∀ j, j < T.n → (j = k → w'.co j = 0) ∧ (j ≠ k → (ch ∧ k ∈ w.rd j → w'.co j = 2) ∧ (¬ (ch ∧ k ∈ w.rd j) → w'.co j = w.co j))) (hou : ∀ j, j < T.n → (j = k → w'.ou j = z) ∧ (j ≠ k → w'.ou j = w.ou j)) (hrd : ∀ j, j < T.n → w'.rd j = w.rd j) (hbu : ∀ j, j < T.n → w'.bu j = w.bu j) (hqu : w'.qu = w.qu) (hru : ∀ j, j < T.n → (j = k → w'.ru j = w.ru k + 1) ∧ (j ≠ k → w'.ru j = w.ru j)) : Sp3 T w w' k := by
  obtain ⟨i1, i2, i3, i4, i5⟩ := I
  have hk0 : w.co k ≠ 0 := by rw [c2]; decide
  refine ⟨fun j hj hc => ?_, fun j hj hkj => ?_, hbu, hqu, fun j hj => ?_⟩
  · have e : j ≠ k := fun e => by subst e; exact hk0 hc
    have d : ¬ (ch ∧ k ∈ w.rd j) := fun d => hk0 (i4 j hj hc k d.2)
    exact ⟨(((hco j hj).2 e).2 d).trans hc, (hou j hj).2 e, hrd j hj⟩
  · have e : j ≠ k := by omega
    refine ⟨(hou j hj).2 e, hrd j hj, ?_⟩
    by_cases d : ch ∧ k ∈ w.rd j
    · rw [((hco j hj).2 e).1 d]
      rcases i1 j hj with c | c | c
      · exact absurd (i4 j hj c k d.2) hk0
      · exact Or.inr ⟨c, rfl⟩
      · exact Or.inl c.symm
    · exact Or.inl (((hco j hj).2 e).2 d)
  · by_cases e : j = k
    · subst e
      rw [(hru j hj).1 rfl, (hco j hj).1 rfl, c2]
      exact ⟨Nat.le_succ _, Nat.le_refl _⟩
    · rw [(hru j hj).2 e]
      refine ⟨Nat.le_refl _, ?_⟩
      by_cases d : ch ∧ k ∈ w.rd j
      · rw [((hco j hj).2 e).1 d]
        have : w.co j ≠ 0 := fun c => hk0 (i4 j hj c k d.2)
        unfold nzc
        rw [if_neg this]
        exact Nat.le_refl _
      · rw [((hco j hj).2 e).2 d]
        exact Nat.le_refl _
end ST
