/-! further readers; colours -/
section FUR
variable {T : Tp} {m m' : Mm} {w w' : Ws} {D : Nat → Nat → Prop} {x y : Int32} {i j k b : Nat}
theorem sWe_further {K : Mm → Int32 → Prop} (h : Wb T m w) (I : ∀ i, i < T.n → ∀ j, j ∈ w.rd i → j < i) (hx : x.toInt = (k : Int)) (hk : k < T.n)
    (kk : ∀ r : Int32, (∀ i, i < 32 → bt r i = true → i < T.n ∧ ∃ j, j ∈ w.rd i) → (∀ i, i < T.n → (k ∈ w.rd i ∨ bt r i = true) → ∀ i2, i2 < T.n → i ∈ w.rd i2 → bt r i2 = true) → K m r) : WWe_furtherReadersOf 1 x m K := by
  have h' := h
  obtain ⟨L, hF, hC, r1, r2, r3, r4⟩ := h
  have hn := L.1
  have e24 : (24 : Int32).toInt = 24 := rfl
  have e1 : (1 : Int32).toInt = 1 := rfl
  have l3 : m.ln 3 = 24 := hF.2.1.2
  have e2 : (Int32.ofNat (m.ln 3)).toInt = 24 := by rw [l3]; rfl
  have Lp : ∀ (q t : Nat) (fo ed z : Int32), z.toInt = (t : Int) → t ≤ 25 → 25 - t < q →
      (∀ b, b < 32 → bt fo b = true → b < T.n ∧ ∃ j, j ∈ w.rd b) →
      (∀ b, b < 32 → bt ed b = true → b < T.n ∧ t < b ∧ (k ∈ w.rd b ∨ bt fo b = true)) →
      (∀ i, i < T.n → (k ∈ w.rd i ∨ bt fo i = true) → bt ed i = false → ∀ i2, i2 < T.n → i ∈ w.rd i2 → bt fo i2 = true) →
      WWe_furtherReadersOf_L11 1 K q fo ed z m := by
    intro q
    induction q with
    | zero => intro t fo ed z _ _ hq; exact absurd hq (Nat.not_lt_zero _)
    | succ q ih =>
      intro t fo ed z hz ht hq o1 o2 o4
      refine WWe_furtherReadersOf_L11_i ⟨fun c => ?_, fun c => ⟨fun c2 => ?_, fun c2 => ?_⟩⟩
      · refine kk fo o1 (fun i hi hr i2 hi2 hm => o4 i hi hr ?_ i2 hi2 hm)
        cases hb : bt ed i with
        | false => rfl
        | true =>
          have := (o2 i (by omega) hb).2.1
          omega
      · refine kk fo o1 (fun i hi hr i2 hi2 hm => o4 i hi hr ?_ i2 hi2 hm)
        rw [c2]
        exact b_0 i
      · have Li : ∀ (q2 s : Nat) (nx z2 : Int32), z2.toInt = (s : Int) → s ≤ 24 → 24 - s < q2 → (∀ b, b < 32 → (bt nx b = true ↔ ∃ i, i < s ∧ bt ed i = true ∧ b < T.n ∧ i ∈ w.rd b)) → WWe_furtherReadersOf_L28 1 fo ed z (WWe_furtherReadersOf_L11 1 K q) K q2 nx z2 m := by
          intro q2
          induction q2 with
          | zero => intro s nx z2 _ _ hq2; exact absurd hq2 (Nat.not_lt_zero _)
          | succ q2 ih2 =>
            intro s nx z2 hz2 hs hq2 hb
            refine WWe_furtherReadersOf_L28_i ⟨3, hF.2.1.1, fun c3 => ⟨fun c4 => ?_, fun c4 => ⟨⟨by omega, by omega⟩, ?_⟩⟩, fun c3 => ?_⟩
            · have nb := (b_tst hz2 (by omega)).mp c4
              refine ih2 (s + 1) nx (z2 + 1) (by rw [i32_add hz2 e1 (by omega)]; omega) (by omega) (by omega) (fun b hb2 => (hb b hb2).trans ⟨fun ⟨i, p1, p2⟩ => ⟨i, by omega, p2⟩, fun ⟨i, p1, p2⟩ => ⟨i, ?_, p2⟩⟩)
              by_cases e : i = s
              · subst e
                rw [nb] at p2
                exact absurd p2.1 (by decide)
              · omega
            · have nb : bt ed s = true := by
                cases hb2 : bt ed s with
                | true => rfl
                | false => exact absurd ((b_tst hz2 (by omega)).mpr hb2) c4
              refine ih2 (s + 1) _ (z2 + 1) (by rw [i32_add hz2 e1 (by omega)]; omega) (by omega) (by omega) (fun b hb2 => ?_)
              rw [b_or, Bool.or_eq_true, hb b hb2, show z2.toInt.toNat = s by omega, r2 s (by omega) b hb2, decide_eq_true_iff]
              constructor
              · rintro (⟨i, p1, p2⟩ | p)
                · exact ⟨i, by omega, p2⟩
                · exact ⟨s, by omega, nb, p⟩
              · rintro ⟨i, p1, p2⟩
                by_cases e : i = s
                · subst e
                  exact Or.inr p2.2
                · exact Or.inl ⟨i, by omega, p2⟩
            · obtain rfl : s = 24 := by omega
              refine ih (t + 1) _ _ (z + 1) (by rw [i32_add hz e1 (by omega)]; omega) (by omega) (by omega) (fun b hb2 hb3 => ?_) (fun b hb2 hb3 => ?_) (fun i hi hr he i2 hi2 hm => ?_)
              · rw [b_or, Bool.or_eq_true] at hb3
                rcases hb3 with hb3 | hb3
                · exact o1 b hb2 hb3
                · obtain ⟨i, p1, p2, p3, p4⟩ := (hb b hb2).mp hb3
                  exact ⟨p3, i, p4⟩
              · rw [b_not hb2, Bool.and_eq_true] at hb3
                obtain ⟨i, p1, p2, p3, p4⟩ := (hb b hb2).mp hb3.1
                have o := (o2 i (by omega) p2).2.1
                have := I b p3 i p4
                exact ⟨p3, by omega, Or.inr (by rw [b_or, hb3.1, Bool.or_true])⟩
              · have hi32 : i < 32 := by omega
                have h232 : i2 < 32 := by omega
                cases hed : bt ed i with
                | true => rw [b_or, Bool.or_eq_true]; exact Or.inr ((hb i2 h232).mpr ⟨i, by omega, hed, hi2, hm⟩)
                | false =>
                  cases hfo : bt fo i with
                  | true => rw [b_or, o4 i hi (Or.inr hfo) hed i2 hi2 hm, Bool.true_or]
                  | false =>
                    rcases hr with hr | hr
                    · rw [b_or, o4 i hi (Or.inl hr) hed i2 hi2 hm, Bool.true_or]
                    · rw [b_or, hfo, Bool.false_or] at hr
                      rw [b_not hi32, hr, hfo] at he
                      cases he
        exact ⟨25, Li 25 0 0 0 rfl (by omega) (by omega) (fun b hb => by
          rw [b_0]
          exact ⟨fun e => (by cases e), fun ⟨i, p, _⟩ => absurd p (Nat.not_lt_zero _)⟩)⟩
  refine sWe_readersOf h' hx (by omega) ⟨26, Lp 26 0 0 _ 0 rfl (by omega) (by omega) (fun b hb hb2 => by rw [b_0] at hb2; cases hb2) (fun b hb hb2 => ?_) (fun i hi hr he i2 hi2 hm => ?_)⟩
  · rw [r2 k (by omega) b hb] at hb2
    have hb2 := of_decide_eq_true hb2
    have := I b hb2.1 k hb2.2
    exact ⟨hb2.1, by omega, Or.inl hb2.2⟩
  · exfalso
    rw [r2 k (by omega) i (by omega)] at he
    have he := of_decide_eq_false he
    rcases hr with hr | hr
    · exact he ⟨hi, hr⟩
    · rw [b_0] at hr
      cases hr
end FUR
/-- after marks d (dirty) and c (to be checked) -/
def cl2 (T : Tp) (w : Ws) (d c : Int32) (i : Nat) : Int32 := if i < T.n ∧ bt d i = true then 2 else if i < T.n ∧ w.co i = 0 ∧ bt c i = true then 1 else w.co i
def cq (T : Tp) (w : Ws) (d c : Int32) : List Nat := if 0 < T.n ∧ T.kd (T.n - 1) = 4 ∧ w.co (T.n - 1) = 0 ∧ cl2 T w d c (T.n - 1) ≠ 0 then w.qu ++ [T.n - 1] else w.qu
def DC (T : Tp) : Nat → Nat → Prop := fun p c => (∃ k, k < T.n ∧ p = T.A k ∧ c = 4) ∨ (p = 4 ∧ (c = 1 ∨ c = 2)) ∨ p = 5
section COL
variable {T : Tp} {m m' : Mm} {w w' : Ws} {D : Nat → Nat → Prop} {x y : Int32} {i j k b : Nat}
theorem dc_dy : ∀ p c, DC T p c → Dy T b p c := by
  rintro p c (⟨k, hk, e1, e2⟩ | h | h)
  · exact Or.inl ⟨k, hk, Or.inl ⟨e1, by omega, by omega⟩⟩
  · exact Or.inr (Or.inr (Or.inl h))
  · exact Or.inr (Or.inr (Or.inr (Or.inl h)))
/-- one colour is another -/
theorem Wb.col (h : Wb T m w) (hk : k < T.n) (e : m' = m.st (T.A k) 4 (.int x)) (hco : ∀ j, w'.co j = if j = k then x else w.co j) (hr : w'.ru = w.ru) (ho : w'.ou = w.ou) (hbu : w'.bu = w.bu) (hrd : w'.rd = w.rd) (hqu : w'.qu = w.qu) : Wb T m' w' := by
  obtain ⟨L, hF, hC, r1, r2, r3, lg, r4⟩ := h
  have f : FrP (DC T) m m' := fste e (Or.inl ⟨k, hk, rfl, rfl⟩)
  have f0 : FrP (fun p c => p = T.A k ∧ c = 4) m m' := fste e ⟨rfl, rfl⟩
  have S := St.dy (b := 0) L hF hC (fw f dc_dy)
  have L' := L
  obtain ⟨l1, l2, l3, l4, l5⟩ := L
  have ak := (l2 k hk).1
  refine ⟨L', S.1, S.2, fun i hi => ?_, fun j hj i hi => ?_, ?_, lg, ?_⟩
  · obtain ⟨a1, a2, a3, a4, a5⟩ := r1 i hi
    refine ⟨?_, ?_, ?_, ?_, ?_⟩
    · rw [hco]
      by_cases ei : i = k
      · subst ei
        rw [if_pos rfl, e, si_eq]
      · rw [if_neg ei, e, si_ne (by have := l3 i k hi hk ei; omega)]
        exact a1
    · rw [hr, e, si_ne (by omega)]
      exact a2
    · rw [ho, e, sl_ne (by omega)]
      exact a3
    · rw [hbu, e, si_ne (by omega)]
      exact a4
    · rw [hrd]
      by_cases ei : i = k
      · subst ei
        exact a5.fr f0 (by omega) (by omega) (fun c => by omega)
      · have := l3 i k hi hk ei
        exact a5.fr f0 (by omega) (by omega) (fun c => by omega)
  · rw [hrd, fiv f0 (by omega)]
    exact r2 j hj i hi
  · rw [hqu]
    exact r3.fr f0 (by omega) (by omega) (fun c => by omega)
  · exact r4.fr f0 (by omega) (by omega) (fun c => by omega)
/-- the queue is another -/
theorem Wb.que (h : Wb T m w) (f : FrP (DN 4 5) m m') (n : NumAt m' 4 5 24 (w'.qu.map nI)) (hco : ∀ j, w'.co j = w.co j) (hr : w'.ru = w.ru) (ho : w'.ou = w.ou) (hbu : w'.bu = w.bu) (hrd : w'.rd = w.rd) : Wb T m' w' := by
  obtain ⟨L, hF, hC, r1, r2, r3, lg, r4⟩ := h
  have S := St.dy (b := 0) L hF hC (fw f (fun p c e => by
    rcases e with e | e
    · exact Or.inr (Or.inr (Or.inl e))
    · exact Or.inr (Or.inr (Or.inr (Or.inl e)))))
  have L' := L
  obtain ⟨l1, l2, l3, l4, l5⟩ := L
  refine ⟨L', S.1, S.2, fun i hi => ?_, fun j hj i hi => ?_, n, lg, ?_⟩
  · have ai := (l2 i hi).1
    have z := (r1 i hi).fr f (fun c _ _ => by unfold DN; omega) (by unfold DN; omega) (by unfold DN; omega) (fun c => by unfold DN; omega)
    unfold RpC
    rw [hco, hr, ho, hbu, hrd]
    exact z
  · rw [hrd, fiv f (by unfold DN; omega)]
    exact r2 j hj i hi
  · exact r4.fr f (by unfold DN; omega) (by unfold DN; omega) (fun c => by unfold DN; omega)
theorem sPu_colour {d c : Int32} {K : Mm → Prop} (h : Wb T m w) (he : ∀ k, k < T.n → T.kd k = 4 → k + 1 = T.n) (hq : w.qu.length < 24)
    (kk : ∀ m' w', Wb T m' w' → (∀ j, w'.co j = cl2 T w d c j) → w'.ru = w.ru → w'.ou = w.ou → w'.bu = w.bu → w'.rd = w.rd → w'.qu = cq T w d c → FrP (DC T) m m' → K m') : WPu_colour 21 d c m K := by
  have hn := h.1.1
  have e1 : (1 : Int32).toInt = 1 := rfl
  have Lp : ∀ (q i : Nat) (z : Int32) (m2 : Mm) (w2 : Ws), z.toInt = (i : Int) → i ≤ T.n → T.n - i < q → Wb T m2 w2 → (∀ j, w2.co j = if j < i then cl2 T w d c j else w.co j) → w2.ru = w.ru → w2.ou = w.ou → w2.bu = w.bu → w2.rd = w.rd → (w2.qu = if T.n ≤ i then cq T w d c else w.qu) → FrP (DC T) m m2 → WPu_colour_L2 21 d c K q z m2 := by
    intro q
    induction q with
    | zero => intro i z m2 w2 _ _ hq; exact absurd hq (Nat.not_lt_zero _)
    | succ q ih =>
      intro i z m2 w2 hz hi hq2 h2 hco hru hou hbu hrd hqu f2
      refine WPu_colour_L2_i ⟨fun c1 => ?_, fun c1 => ⟨1, h2.2.1.2.2.2.2.1, ?_⟩⟩
      · -- no mark from here on
        have no : ∀ j, i ≤ j → j < 32 → bt d j = false ∧ bt c j = false := fun j hj h32 => by
          have := b_top hz (by omega) c1 hj h32
          rw [b_or, Bool.or_eq_false_iff] at this
          exact this
        have same : ∀ j, i ≤ j → cl2 T w d c j = w.co j := fun j hj => by
          unfold cl2
          by_cases hjn : j < T.n
          · obtain ⟨n1, n2⟩ := no j hj (by omega)
            rw [if_neg (fun e => by rw [n1] at e; exact absurd e.2 (by decide)), if_neg (fun e => by rw [n2] at e; exact absurd e.2.2 (by decide))]
          · rw [if_neg (fun e => hjn e.1), if_neg (fun e => hjn e.1)]
        refine kk m2 w2 h2 (fun j => ?_) hru hou hbu hrd ?_ f2
        · rw [hco]
          by_cases hj : j < i
          · rw [if_pos hj]
          · rw [if_neg hj, same j (by omega)]
        · rw [hqu]
          by_cases hin : T.n ≤ i
          · rw [if_pos hin]
          · rw [if_neg hin]
            unfold cq
            rw [if_neg (fun e => e.2.2.2 (by rw [same _ (by omega)]; exact e.2.2.1))]
      · show (z.toInt < (m2.iv 1 2).toInt → _) ∧ (¬ z.toInt < (m2.iv 1 2).toInt → _)
        rw [h2.2.1.1.2.2, nI_toInt (by omega)]
        refine ⟨fun c2 => ?_, fun c2 => ?_⟩
        · have hin : i < T.n := by omega
          have coi : w2.co i = w.co i := by rw [hco, if_neg (by omega)]
          have kdi : ∀ {m3 : Mm} {w3 : Ws}, Wb T m3 w3 → m3.iv (T.A i) 0 = T.kd i := fun h3 => (h3.2.2.1 i hin).2.1
          have rc := (h2.2.2.2.1 i hin).1
          have ez : (z + 1).toInt = ((i + 1 : Nat) : Int) := by rw [i32_add hz e1 (by omega)]; omega
          -- on with the next
          have next : ∀ (m3 : Mm) (w3 : Ws), Wb T m3 w3 → (∀ j, w3.co j = if j < i + 1 then cl2 T w d c j else w.co j) → w3.ru = w.ru → w3.ou = w.ou → w3.bu = w.bu → w3.rd = w.rd → (w3.qu = if T.n ≤ i + 1 then cq T w d c else w.qu) → FrP (DC T) m m3 → WPu_colour_L2 21 d c K q (z + 1) m3 :=
            fun m3 w3 a1 a2 a3 a4 a5 a6 a7 a8 => ih (i + 1) (z + 1) m3 w3 ez hin (by omega) a1 a2 a3 a4 a5 a6 a7 a8
          -- the queue as it was, if this one does not join it
          have stay : ∀ (q3 : List Nat), q3 = w.qu → (T.kd i = 4 → ¬ (w.co i = 0 ∧ cl2 T w d c i ≠ 0)) → q3 = if T.n ≤ i + 1 then cq T w d c else w.qu := by
            intro q3 e3 nj
            rw [e3]
            by_cases hl : T.n ≤ i + 1
            · rw [if_pos hl]
              unfold cq
              obtain rfl : i = T.n - 1 := by omega
              rw [if_neg (fun e => nj e.2.1 e.2.2)]
            · rw [if_neg hl]
          have quw : w2.qu = w.qu := by rw [hqu, if_neg (by omega)]
          have J90 : ∀ (m3 : Mm) (w3 : Ws), Wb T m3 w3 → (∀ j, w3.co j = if j < i + 1 then cl2 T w d c j else w.co j) → w3.ru = w.ru → w3.ou = w.ou → w3.bu = w.bu → w3.rd = w.rd → w3.qu = w.qu → FrP (DC T) m m3 → w.co i = 0 → WPu_colour_J90 21 d c z (T.A i) (WPu_colour_L2 21 d c K q) K m3 := by
            intro m3 w3 a1 a2 a3 a4 a5 a6 a7 a8 c0
            have r3 := (a1.2.2.2.1 i hin).1
            rw [a2, if_pos (Nat.lt_succ_self i)] at r3
            refine ⟨fun k1 => ?_, fun k1 => ?_⟩
            · rw [kdi a1] at k1
              refine ⟨fun k2 => ?_, fun k2 => ?_⟩
              · rw [r3] at k2
                exact next m3 w3 a1 a2 a3 a4 a5 a6 (stay _ a7 (fun _ e => e.2 k2)) a8
              · rw [r3] at k2
                refine ⟨1, a1.2.1.2.2.2.2.1, 4, a1.2.1.2.2.1, sNu_add a1.2.2.2.2.2.1 (fun m4 n4 f4 => ?_)⟩
                have el : ladd 24 (w3.qu.map nI) z = (w.qu ++ [i]).map nI := by
                  unfold ladd
                  rw [a7, if_pos (by rw [List.length_map]; exact hq), List.map_append, i32_of hz (by omega)]
                  rfl
                rw [el] at n4
                refine next m4 (w3.co, w3.ru, w3.ou, w3.bu, w3.rd, w.qu ++ [i]) (Wb.que a1 f4 n4 (fun _ => rfl) rfl rfl rfl rfl) a2 a3 a4 a5 a6 ?_ (ftr a8 (fw f4 (fun p c e => Or.inr e)))
                have hl := he i hin k1
                show w.qu ++ [i] = _
                rw [if_pos (by omega)]
                unfold cq
                obtain rfl : i = T.n - 1 := by omega
                rw [if_pos ⟨by omega, k1, c0, k2⟩]
            · rw [kdi a1] at k1
              exact next m3 w3 a1 a2 a3 a4 a5 a6 (stay _ a7 (fun e => absurd e k1)) a8
          have J90v : ∀ (m3 : Mm) (w3 : Ws), Wb T m3 w3 → (∀ j, w3.co j = if j < i + 1 then cl2 T w d c j else w.co j) → w3.ru = w.ru → w3.ou = w.ou → w3.bu = w.bu → w3.rd = w.rd → w3.qu = w.qu → FrP (DC T) m m3 → w.co i ≠ 0 → WPu_colour_J90v20 21 d c z (T.A i) (WPu_colour_L2 21 d c K q) K m3 := by
            intro m3 w3 a1 a2 a3 a4 a5 a6 a7 a8 c0
            exact ⟨fun k1 => next m3 w3 a1 a2 a3 a4 a5 a6 (stay _ a7 (fun _ e => c0 e.1)) a8, fun k1 => next m3 w3 a1 a2 a3 a4 a5 a6 (stay _ a7 (fun _ e => c0 e.1)) a8⟩
          -- nothing of it changes
          have keep : cl2 T w d c i = w.co i → ∀ j, w2.co j = if j < i + 1 then cl2 T w d c j else w.co j := by
            intro e j
            rw [hco]
            by_cases hj : j < i
            · rw [if_pos hj, if_pos (by omega)]
            · rw [if_neg hj]
              by_cases hj2 : j = i
              · subst hj2
                rw [if_pos (Nat.lt_succ_self _), e]
              · rw [if_neg (by omega)]
          have set : ∀ v, cl2 T w d c i = v → ∀ j, (if j = i then v else w2.co j) = if j < i + 1 then cl2 T w d c j else w.co j := by
            intro v e j
            by_cases hj2 : j = i
            · subst hj2
              rw [if_pos rfl, if_pos (Nat.lt_succ_self _), e]
            · rw [if_neg hj2, hco]
              by_cases hj : j < i
              · rw [if_pos hj, if_pos (by omega)]
              · rw [if_neg hj, if_neg (by omega)]
          refine ⟨1, h2.2.1.2.2.2.2.1, sWe_cell h2 hz hin (nn_ref ⟨fun c3 => ⟨fun c4 => ⟨fun c5 => ?_, fun c5 m51 e51 => ?_⟩, fun c4 m54 e54 => ?_⟩, fun c3 => ⟨fun c4 => ?_, fun c4 m69 e69 => ?_⟩⟩)⟩
          · rw [rc, coi] at c3
            have n1 := (b_tst hz (by omega)).mp c4
            have n2 := (b_tst hz (by omega)).mp c5
            refine J90 m2 w2 h2 (keep ?_) hru hou hbu hrd quw f2 c3
            unfold cl2
            rw [if_neg (fun e => by rw [n1] at e; exact absurd e.2 (by decide)), if_neg (fun e => by rw [n2] at e; exact absurd e.2.2 (by decide))]
          · rw [rc, coi] at c3
            have n1 := (b_tst hz (by omega)).mp c4
            have n2 : bt c i = true := by
              cases hb : bt c i with
              | true => rfl
              | false => exact absurd ((b_tst hz (by omega)).mpr hb) c5
            refine J90 m51 (fun j => if j = i then 1 else w2.co j, w2.ru, w2.ou, w2.bu, w2.rd, w2.qu) (Wb.col h2 hin e51 (fun _ => rfl) rfl rfl rfl rfl rfl) (set 1 ?_) hru hou hbu hrd quw (ftr f2 (fste e51 (Or.inl ⟨i, hin, rfl, rfl⟩))) c3
            unfold cl2
            rw [if_neg (fun e => by rw [n1] at e; exact absurd e.2 (by decide)), if_pos ⟨hin, c3, n2⟩]
          · rw [rc, coi] at c3
            have n1 : bt d i = true := by
              cases hb : bt d i with
              | true => rfl
              | false => exact absurd ((b_tst hz (by omega)).mpr hb) c4
            refine J90 m54 (fun j => if j = i then 2 else w2.co j, w2.ru, w2.ou, w2.bu, w2.rd, w2.qu) (Wb.col h2 hin e54 (fun _ => rfl) rfl rfl rfl rfl rfl) (set 2 ?_) hru hou hbu hrd quw (ftr f2 (fste e54 (Or.inl ⟨i, hin, rfl, rfl⟩))) c3
            unfold cl2
            rw [if_pos ⟨hin, n1⟩]
          · rw [rc, coi] at c3
            have n1 := (b_tst hz (by omega)).mp c4
            refine J90v m2 w2 h2 (keep ?_) hru hou hbu hrd quw f2 c3
            unfold cl2
            rw [if_neg (fun e => by rw [n1] at e; exact absurd e.2 (by decide)), if_neg (fun e => c3 e.2.1)]
          · rw [rc, coi] at c3
            have n1 : bt d i = true := by
              cases hb : bt d i with
              | true => rfl
              | false => exact absurd ((b_tst hz (by omega)).mpr hb) c4
            refine J90v m69 (fun j => if j = i then 2 else w2.co j, w2.ru, w2.ou, w2.bu, w2.rd, w2.qu) (Wb.col h2 hin e69 (fun _ => rfl) rfl rfl rfl rfl rfl) (set 2 ?_) hru hou hbu hrd quw (ftr f2 (fste e69 (Or.inl ⟨i, hin, rfl, rfl⟩))) c3
            unfold cl2
            rw [if_pos ⟨hin, n1⟩]
        · obtain rfl : i = T.n := by omega
          refine kk m2 w2 h2 (fun j => ?_) hru hou hbu hrd (by rw [hqu, if_pos (Nat.le_refl _)]) f2
          rw [hco]
          by_cases hj : j < T.n
          · rw [if_pos hj]
          · rw [if_neg hj]
            unfold cl2
            rw [if_neg (fun e => hj e.1), if_neg (fun e => hj e.1)]
  refine ⟨T.n + 1, Lp _ 0 0 m w rfl (Nat.zero_le _) (by omega) h (fun j => by rw [if_neg (Nat.not_lt_zero _)]) rfl rfl rfl rfl ?_ frf⟩
  by_cases h0 : T.n ≤ 0
  · rw [if_pos h0]
    unfold cq
    rw [if_neg (fun e => by omega)]
  · rw [if_neg h0]
end COL
