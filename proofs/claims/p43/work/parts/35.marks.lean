/-! reads and marks -/
def Ws.sr (w : Ws) (k : Nat) (R : List Nat) : Ws := (w.co, w.ru, w.ou, w.bu, fun i => if i = k then R else w.rd i, w.qu)
def DR (T : Tp) (k : Nat) : Nat → Nat → Prop := fun p c => (p = T.A k + 1 ∧ (c = 1 ∨ c = 2)) ∨ p = T.A k + 2 ∨ p = 3
section MK
variable {T : Tp} {m m' : Mm} {w w' : Ws} {D : Nat → Nat → Prop} {x y : Int32} {i j k b : Nat}
theorem RpC.fr (h : RpC T m w k) (f : FrP D m m') (ha : ∀ c, 3 ≤ c → c ≤ 7 → ¬ D (T.A k) c) (h0 : ¬ D (T.A k + 1) 0) (h1 : ¬ D (T.A k + 1) 1) (h2 : ∀ c, ¬ D (T.A k + 2) c) : RpC T m' w k := by
  obtain ⟨a1, a2, a3, a4, a5⟩ := h
  exact ⟨(fiv f (ha _ (by omega) (by omega))).trans a1, (fiv f (ha _ (by omega) (by omega))).trans a2, (flg f (ha _ (by omega) (by omega))).trans a3, (fiv f (ha _ (by omega) (by omega))).trans a4, a5.fr f h0 h1 h2⟩
theorem dr_dy (hk : k < T.n) : ∀ p c, DR T k p c → Dy T b p c := by
  rintro p c (h | h | h)
  · exact Or.inl ⟨k, hk, Or.inr (Or.inl h)⟩
  · exact Or.inl ⟨k, hk, Or.inr (Or.inr h)⟩
  · exact Or.inr (Or.inl h)
theorem sr_same : w.sr k (w.rd k) = w := by
  have e : (fun i => if i = k then w.rd k else w.rd i) = w.rd := funext fun i => by
    by_cases h : i = k
    · rw [if_pos h, h]
    · rw [if_neg h]
  show (w.co, w.ru, w.ou, w.bu, (fun i => if i = k then w.rd k else w.rd i), w.qu) = w
  rw [e]
  rfl
theorem nI_mem {R : List Nat} (hj : j < 2147483648) (hR : ∀ i, i ∈ R → i < 2147483648) : nI j ∈ R.map nI ↔ j ∈ R := by
  constructor
  · intro h
    obtain ⟨i, hi, e⟩ := List.mem_map.mp h
    rw [(nI_eq (hR i hi) hj).mp e] at hi
    exact hi
  · exact fun h => List.mem_map.mpr ⟨j, h, rfl⟩
/-- the web, where the reads of k and the readers' row alone have changed -/
theorem Wb.reads {R : List Nat} (h : Wb T m w) (hk : k < T.n) (f : FrP (DR T k) m m') (hn : NumAt m' (T.A k + 1) (T.A k + 2) 24 (R.map nI)) (hb : ∀ j, j < 24 → ∀ i, i < 32 → bt (m'.iv 3 j) i = decide (i < T.n ∧ j ∈ (if i = k then R else w.rd i))) : Wb T m' (w.sr k R) := by
  obtain ⟨L, hF, hC, r1, r2, r3, lg, r4⟩ := h
  have S := St.dy (b := 0) L hF hC (fw f (dr_dy hk))
  have L' := L
  obtain ⟨l1, l2, l3, l4, l5⟩ := L
  have ak := (l2 k hk).1
  refine ⟨L', S.1, S.2, fun i hi => ?_, hb, ?_, lg, ?_⟩
  · have ai := (l2 i hi).1
    by_cases e : i = k
    · subst e
      obtain ⟨a1, a2, a3, a4, a5⟩ := r1 i hi
      refine ⟨(fiv f (by unfold DR; omega)).trans a1, (fiv f (by unfold DR; omega)).trans a2, (flg f (by unfold DR; omega)).trans a3, (fiv f (by unfold DR; omega)).trans a4, ?_⟩
      show NumAt m' _ _ 24 ((if i = i then R else w.rd i).map nI)
      rw [if_pos rfl]
      exact hn
    · have hik := l3 i k hi hk e
      have h1 : RpC T m' w i := (r1 i hi).fr f (fun c c1 c2 => by unfold DR; omega) (by unfold DR; omega) (by unfold DR; omega) (fun c => by unfold DR; omega)
      obtain ⟨a1, a2, a3, a4, a5⟩ := h1
      refine ⟨a1, a2, a3, a4, ?_⟩
      show NumAt m' _ _ 24 ((if i = k then R else w.rd i).map nI)
      rw [if_neg e]
      exact a5
  · exact r3.fr f (by unfold DR; omega) (by unfold DR; omega) (fun c => by unfold DR; omega)
  · exact r4.fr f (by unfold DR; omega) (by unfold DR; omega) (fun c => by unfold DR; omega)
theorem sWe_addRead {K : Mm → Prop} (h : Wb T m w) (hx : x.toInt = (k : Int)) (hk : k < T.n) (hy : y.toInt = (j : Int)) (hj : j < T.n) (hl : (w.rd k).length < 24) (kk : ∀ m', Wb T m' (w.sr k (radd (w.rd k) j)) → FrP (DR T k) m m' → K m') : WWe_addRead 1 x y m K := by
  have h' := h
  obtain ⟨L, hF, hC, r1, r2, r3, r4⟩ := h
  have ak := (L.2.1 k hk).1
  have hn := L.1
  have l3 : m.ln 3 = 24 := hF.2.1.2
  have e2 : (Int32.ofNat (m.ln 3)).toInt = 24 := by rw [l3]; rfl
  have yn : y.toInt.toNat = j := by omega
  have bb := r2 j (by omega) k (by omega)
  refine sWe_cell h' hx hk (nn_ref ⟨fun c => by omega, fun c => ⟨3, hF.2.1.1, fun c3 => ⟨⟨by omega, by omega⟩, fun c4 => ?_, fun c4 => ?_⟩, fun c3 => by omega⟩⟩)
  · rw [yn] at c4
    have nb := (b_tst hx (by omega)).mp c4
    rw [nb] at bb
    have hnot : j ∉ w.rd k := fun e => by
      have := of_decide_eq_false bb.symm
      exact this ⟨hk, e⟩
    have er : radd (w.rd k) j = w.rd k ++ [j] := if_neg hnot
    refine ⟨T.A k + 1, (hC k hk).2.2.2.2.1, sNu_add (r1 k hk).2.2.2.2 (fun m16 n16 f16 => ?_)⟩
    have el : ladd 24 ((w.rd k).map nI) y = (w.rd k ++ [j]).map nI := by
      unfold ladd
      rw [if_pos (by rw [List.length_map]; exact hl), List.map_append, i32_of hy (by omega)]
      rfl
    rw [el] at n16
    have g16 : FrP (DR T k) m m16 := fw f16 (fun p c e => by unfold DN at e; unfold DR; omega)
    refine ⟨3, (frv f16 (by unfold DN; omega)).trans hF.2.1.1, ⟨by omega, by rw [fln f16, hF.2.1.2]; omega⟩, ⟨by omega, by rw [fln f16, hF.2.1.2]; omega⟩, fun m23 e23 => ?_⟩
    rw [yn] at e23
    have g23 : FrP (fun p c => p = 3) m16 m23 := fste e23 rfl
    have f23 : FrP (DR T k) m m23 := ftr g16 (fw g23 (fun p c e => Or.inr (Or.inr e)))
    refine kk m23 (Wb.reads h' hk f23 ?_ (fun j' hj' i hi => ?_)) f23
    · rw [er]
      exact n16.fr g23 (by omega) (by omega) (fun c => by omega)
    · by_cases ej : j' = j
      · subst ej
        rw [e23, si_eq, b_or, fiv f16 (by unfold DN; omega), r2 j' hj' i hi, b_one hx (by omega) hi, er, ← Bool.decide_or]
        refine decide_eq_decide.mpr ?_
        by_cases ei : i = k
        · subst ei
          rw [if_pos rfl]
          exact ⟨fun _ => ⟨hk, List.mem_append_right _ (List.mem_singleton.mpr rfl)⟩, fun _ => Or.inr rfl⟩
        · rw [if_neg ei]
          exact ⟨fun e => e.resolve_right ei, Or.inl⟩
      · rw [e23, si_ne (by omega), fiv f16 (by unfold DN; omega), r2 j' hj' i hi, er]
        refine decide_eq_decide.mpr ?_
        by_cases ei : i = k
        · subst ei
          rw [if_pos rfl]
          exact ⟨fun e => ⟨e.1, List.mem_append_left _ e.2⟩, fun e => ⟨e.1, (List.mem_append.mp e.2).resolve_right (fun e => ej (List.mem_singleton.mp e))⟩⟩
        · rw [if_neg ei]
  · rw [yn] at c4
    have nb : bt (m.iv 3 j) k = true := by
      cases hb : bt (m.iv 3 j) k with
      | true => rfl
      | false => exact absurd ((b_tst hx (by omega)).mpr hb) c4
    rw [nb] at bb
    have hin : j ∈ w.rd k := (of_decide_eq_true bb.symm).2
    have er : radd (w.rd k) j = w.rd k := if_pos hin
    rw [er, sr_same] at kk
    exact kk m h' frf
theorem sWe_clearReads {K : Mm → Prop} (h : Wb T m w) (hx : x.toInt = (k : Int)) (hk : k < T.n) (hlt : ∀ j, j ∈ w.rd k → j < 24) (kk : ∀ m', Wb T m' (w.sr k []) → FrP (DR T k) m m' → K m') : WWe_clearReads 1 x m K := by
  have h' := h
  obtain ⟨L, hF, hC, r1, r2, r3, r4⟩ := h
  have ak := (L.2.1 k hk).1
  have hn := L.1
  have nk := (r1 k hk).2.2.2.2
  have hle : (w.rd k).length ≤ 24 := by have := nk.1.2.2; rw [List.length_map] at this; exact this
  have Lp : ∀ (q i : Nat) (z : Int32) (m2 : Mm), z.toInt = (i : Int) → i ≤ (w.rd k).length → (w.rd k).length - i < q → FrP (fun p c => p = 3) m m2 → (∀ j, j < 24 → ∀ b, b < 32 → bt (m2.iv 3 j) b = decide ((b < T.n ∧ j ∈ w.rd b) ∧ ¬ (b = k ∧ j ∈ (w.rd k).take i))) → WWe_clearReads_L13 1 x (T.A k) K q z m2 := by
    intro q
    induction q with
    | zero => intro i z m2 _ _ hq _ _; exact absurd hq (Nat.not_lt_zero _)
    | succ q ih =>
      intro i z m2 hz hi hq f2 hb
      have n2 : NumAt m2 (T.A k + 1) (T.A k + 2) 24 ((w.rd k).map nI) := nk.fr f2 (by omega) (by omega) (fun c => by omega)
      have a2 : m2.rv (T.A k) 9 = T.A k + 1 + 1 := (frv f2 (by omega)).trans (hC k hk).2.2.2.2.1
      have l3 : m2.ln 3 = 24 := (fln f2).trans hF.2.1.2
      have e2 : (Int32.ofNat (m2.ln 3)).toInt = 24 := by rw [l3]; rfl
      have t2 : m2.rv 1 1 = 3 + 1 := (frv f2 (by omega)).trans hF.2.1.1
      refine WWe_clearReads_L13_i ⟨T.A k + 1, a2, sNu_size n2 ⟨fun c => ?_, fun c => ?_⟩⟩
      · rw [List.length_map, i32_nat (by omega)] at c
        have hil : i < (w.rd k).length := by omega
        refine ⟨T.A k + 1, a2, sNu_at n2 ?_⟩
        have hj := hlt _ (List.getElem_mem hil)
        have ev : lat ((w.rd k).map nI) z = nI (w.rd k)[i] := by
          unfold lat
          rw [if_pos (by rw [List.length_map]; omega), show z.toInt.toNat = i by omega, List.getElem?_map, List.getElem?_eq_getElem hil]
          rfl
        rw [ev]
        have tj : (nI (w.rd k)[i]).toInt = ((w.rd k)[i] : Int) := nI_toInt (by omega)
        have tn : (nI (w.rd k)[i]).toInt.toNat = (w.rd k)[i] := by omega
        refine ⟨fun c => by omega, fun c2 => ⟨3, t2, fun c3 => ⟨⟨by omega, by omega⟩, ⟨by omega, by omega⟩, fun m37 e37 => ?_⟩, fun c3 => by omega⟩⟩
        rw [tn] at e37
        refine ih (i + 1) (z + 1) m37 (by rw [i32_add hz (show (1 : Int32).toInt = 1 from rfl) (by omega)]; omega) hil (by omega) (ftr f2 (fste e37 rfl)) (fun j hj2 b hb2 => ?_)
        rw [List.take_add_one, List.getElem?_eq_getElem hil]
        by_cases ej : j = (w.rd k)[i]
        · rw [ej, e37, si_eq, b_not hb2, hb _ hj b hb2, b_one hx (by omega) hb2, ← ej]
          rw [← decide_not, ← Bool.decide_and]
          refine decide_eq_decide.mpr ?_
          constructor
          · rintro ⟨⟨p1, p2⟩, p3⟩
            exact ⟨p1, fun e => p3 e.1⟩
          · rintro ⟨p1, p2⟩
            have hbk : ¬ b = k := fun e => p2 ⟨e, List.mem_append_right _ (by rw [ej]; exact List.mem_singleton.mpr rfl)⟩
            exact ⟨⟨p1, fun e => hbk e.1⟩, hbk⟩
        · rw [e37, si_ne (by omega), hb j hj2 b hb2]
          refine decide_eq_decide.mpr ?_
          constructor
          · rintro ⟨p1, p2⟩
            exact ⟨p1, fun e => p2 ⟨e.1, (List.mem_append.mp e.2).resolve_right (fun e => ej (List.mem_singleton.mp e))⟩⟩
          · rintro ⟨p1, p2⟩
            exact ⟨p1, fun e => p2 ⟨e.1, List.mem_append_left _ e.2⟩⟩
      · rw [List.length_map, i32_nat (by omega)] at c
        obtain rfl : i = (w.rd k).length := by omega
        refine ⟨T.A k + 1, a2, sNu_clear' n2 (fun m' n' f' => ?_)⟩
        have f3 : FrP (DR T k) m m' := ftr (fw f2 (fun p c e => Or.inr (Or.inr e))) (fw f' (fun p c e => by unfold DN at e; unfold DR; omega))
        refine kk m' (Wb.reads h' hk f3 n' (fun j hj b hb2 => ?_)) f3
        rw [fiv f' (by unfold DN; omega), hb j hj b hb2, List.take_length]
        refine decide_eq_decide.mpr ?_
        by_cases e : b = k
        · subst e
          rw [if_pos rfl]
          exact ⟨fun p => absurd ⟨rfl, p.1.2⟩ p.2, fun p => absurd p.2 List.not_mem_nil⟩
        · rw [if_neg e]
          exact ⟨fun p => p.1, fun p => ⟨p, fun z => e z.1⟩⟩
  refine sWe_cell h' hx hk (nn_ref ⟨(w.rd k).length + 1, Lp _ 0 0 m rfl (Nat.zero_le _) (by omega) frf (fun j hj b hb => ?_)⟩)
  rw [r2 j hj b hb]
  refine decide_eq_decide.mpr ⟨fun p => ⟨p, fun e => absurd e.2 (by simp)⟩, fun p => p.1⟩
end MK
