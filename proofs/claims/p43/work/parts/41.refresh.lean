/-! refresh -/
section RF
variable {T : Tp} {m m' : Mm} {w w' : Ws} {x y x2 x3 : Int32} {i j k b q : Nat} {z : Int64}
theorem inv_cl (I : Inv T w) (hk : k < T.n) (c1 : w.co k ≠ 2) (cl : ∀ j, j ∈ w.rd k → w.co j = 0) : Inv T (fun j => if j = k then 0 else w.co j, w.ru, w.ou, w.bu, w.rd, w.qu) := by
  obtain ⟨i1, i2, i3, i4, i5⟩ := I
  have hc : ∀ j, (if j = k then (0 : Int32) else w.co j) = 0 ∨ (if j = k then (0 : Int32) else w.co j) = w.co j := fun j => by
    by_cases e : j = k
    · exact Or.inl (if_pos e)
    · exact Or.inr (if_neg e)
  have h0 : ∀ j, w.co j = 0 → (if j = k then (0 : Int32) else w.co j) = 0 := fun j e => by
    rcases hc j with h | h
    · exact h
    · exact h.trans e
  refine ⟨fun j hj => ?_, fun j hj hn => ⟨h0 j (i2 j hj hn).1, (i2 j hj hn).2⟩, fun j hj hn h2 => ?_, fun j hj h2 i hi => ?_, i5⟩
  · rcases hc j with h | h
    · exact Or.inl h
    · show (if j = k then (0 : Int32) else w.co j) = 0 ∨ (if j = k then (0 : Int32) else w.co j) = 1 ∨ (if j = k then (0 : Int32) else w.co j) = 2
      rw [h]
      exact i1 j hj
  · have h2 : (if j = k then (0 : Int32) else w.co j) ≠ 2 := h2
    by_cases e : j = k
    · rw [e]
      exact i3 k hk (by omega) c1
    · rw [if_neg e] at h2
      exact i3 j hj hn h2
  · have h2 : (if j = k then (0 : Int32) else w.co j) = 0 := h2
    show (if i = k then (0 : Int32) else w.co i) = 0
    by_cases e : j = k
    · have hi : i ∈ w.rd j := hi
      rw [e] at hi
      exact h0 i (cl i hi)
    · rw [if_neg e] at h2
      exact h0 i (i4 j hj h2 i hi)
theorem sPu_checkReads {K : Mm → Prop} (hR : RS T q) (he : ∀ k, k < T.n → T.kd k = 4 → k + 1 = T.n) (h : Wb T m w) (I : Inv T w) (hq : w.qu.length < 24) (hk : k < T.n) (c1 : w.co k = 1) (hd0 : 0 ≤ x2.toInt) (hd : x2.toInt + (k : Int) ≤ 24) (hkq : k ≤ q) (hbu : ∀ i, i < k → w.bu i = 0)
    (kk : ∀ m' w', Wb T m' w' → Inv T w' → (w'.co k = 0 ∨ w'.co k = 2) → Sp3 T w w' k → FrP (Dy T (k + 1)) m m' → K m') : WPu_checkReads (WPu_refresh_r 21 q) 21 (T.A k) x2 m K := by
  have hn := h.1.1
  have e1 : (1 : Int32).toInt = 1 := rfl
  have hlen := len_le I hn hk
  have Lp : ∀ (nr i : Nat) (zz : Int32) (m2 : Mm) (w2 : Ws), zz.toInt = (i : Int) → i ≤ (w.rd k).length → (w.rd k).length - i < nr → Wb T m2 w2 → Inv T w2 → (w2.co k = 1 ∨ w2.co k = 2) → w2.rd k = w.rd k → (∀ j, j ∈ (w.rd k).take i → w2.co j = 0) → Sp3 T w w2 k → FrP (Dy T (k + 1)) m m2 →
      WPu_checkReads_L2 (WPu_refresh_r 21 q) 21 (T.A k) x2 K nr zz m2 := by
    intro nr
    induction nr with
    | zero => intro i zz m2 w2 _ _ hq; exact absurd hq (Nat.not_lt_zero _)
    | succ nr ih =>
      intro i zz m2 w2 hz hi hnr h2 I2 c2 rd2 cl s2 f2
      have rc := h2.2.2.2.1 k hk
      have nk := rc.2.2.2.2
      rw [rd2] at nk
      have a9 := (h2.2.2.1 k hk).2.2.2.2.1
      have ez : (zz + 1).toInt = ((i + 1 : Nat) : Int) := by rw [i32_add hz e1 (by omega)]; omega
      refine WPu_checkReads_L2_i ⟨T.A k + 1, a9, sNu_size nk ⟨fun c => ?_, fun c => ?_⟩⟩
      · rw [List.length_map, i32_nat (by omega)] at c
        have hil : i < (w.rd k).length := by omega
        have hjm : (w.rd k)[i] ∈ w.rd k := List.getElem_mem hil
        have hjk : (w.rd k)[i] < k := (I.2.2.2.2 k hk).2 _ hjm
        have hjn : (w.rd k)[i] < T.n := by omega
        refine ⟨fun c3 => ⟨T.A k + 1, a9, sNu_at nk ?_⟩, fun c3 => ⟨fun c4 => absurd c4 c3, fun _ => ?_⟩⟩
        · rw [rc.1] at c3
          have ev : lat ((w.rd k).map nI) zz = nI (w.rd k)[i] := by
            unfold lat
            rw [if_pos (by rw [List.length_map]; omega), show zz.toInt.toNat = i by omega, List.getElem?_map, List.getElem?_eq_getElem hil]
            rfl
          rw [ev]
          have tj : (nI (w.rd k)[i]).toInt = ((w.rd k)[i] : Int) := nI_toInt (by omega)
          have ntake : ∀ w3 : Ws, (∀ j, j < T.n → w2.co j = 0 → w3.co j = 0) → w3.co (w.rd k)[i] = 0 → ∀ j, j ∈ (w.rd k).take (i + 1) → w3.co j = 0 := by
            intro w3 h3 h4 j hj
            rw [List.take_add_one, List.getElem?_eq_getElem hil] at hj
            rcases List.mem_append.mp hj with hj | hj
            · have := (I.2.2.2.2 k hk).2 j (List.mem_of_mem_take hj)
              exact h3 j (by omega) (cl j hj)
            · rw [List.mem_singleton.mp hj]
              exact h4
          refine ⟨1, h2.2.1.2.2.2.2.1, sWe_cell h2 tj hjn (nn_ref ⟨fun c4 => ?_, fun c4 => ?_⟩)⟩
          · refine hR h2 I2 (by rw [s2.2.2.2.1]; exact hq) hjn tj (by rw [i32_add rfl e1 (by omega)]; omega) (by rw [i32_add rfl e1 (by omega)]; omega) (by omega) (fun a ha => (s2.2.2.1 a (by omega)).trans (hbu a (by omega))) (fun m' w' b1 b2 b3 b4 b5 => ?_)
            have b6 := b4.2.1 k hk hjk
            refine ih (i + 1) (zz + 1) m' w' ez hil (by omega) b1 b2 ?_ (b6.2.1.trans rd2) (ntake w' (fun j hj e => (b4.1 j hj e).1) b3) (s2.tr (b4.up (by omega))) (ftr f2 (fw b5 (dy_up (by omega))))
            rcases b6.2.2 with e | ⟨_, e⟩
            · rw [e]
              exact c2
            · exact Or.inr e
          · rw [(h2.2.2.1 _ hjn).2.1] at c4
            have hsj : (w.rd k)[i] < T.ns := by
              apply Classical.byContradiction
              intro hc
              rcases ((h2.2.2.1 _ hjn).2.2.2.2.2.2 (by omega)).1 with e | e
              · exact c4 e
              · have := he _ hjn e
                omega
            exact ih (i + 1) (zz + 1) m2 w2 ez hil (by omega) h2 I2 c2 rd2 (ntake w2 (fun _ _ e => e) (I2.2.1 _ hjn hsj).1) s2 f2
        · rw [rc.1] at c3
          exact kk m2 w2 h2 I2 (Or.inr (c2.resolve_left c3)) s2 f2
      · rw [List.length_map, i32_nat (by omega)] at c
        obtain rfl : i = (w.rd k).length := by omega
        rw [List.take_length] at cl
        refine ⟨fun c3 m42 e42 => ?_, fun c3 => ?_⟩
        · rw [rc.1] at c3
          have h42 := h2.fld (b := k + 1) (w' := (fun j => if j = k then 0 else w2.co j, w2.ru, w2.ou, w2.bu, w2.rd, w2.qu)) hk e42 (by omega) ⟨by rw [e42, si_eq]; exact (if_pos rfl).symm, by rw [e42, si_ne (by omega)]; exact rc.2.1, by rw [e42, sl_ne (by omega)]; exact rc.2.2.1, by rw [e42, si_ne (by omega)]; exact rc.2.2.2.1⟩ (fun j e => ⟨if_neg e, rfl, rfl, rfl⟩) rfl rfl
          refine kk m42 _ h42.1 (inv_cl I2 hk (by rw [c3]; decide) (fun j hj => cl j (by rw [rd2] at hj; exact hj))) (Or.inl (if_pos rfl)) (s2.tr ⟨fun j hj e => ⟨?_, rfl, rfl⟩, fun j hj hkj => ⟨rfl, rfl, Or.inl (if_neg (by omega))⟩, fun _ _ => rfl, rfl, fun j hj => ⟨Nat.le_refl _, ?_⟩⟩) (ftr f2 h42.2)
          · show (if j = k then (0 : Int32) else w2.co j) = 0
            by_cases ej : j = k
            · exact if_pos ej
            · exact (if_neg ej).trans e
          · show w2.ru j + nzc (if j = k then (0 : Int32) else w2.co j) ≤ w2.ru j + nzc (w2.co j)
            by_cases ej : j = k
            · rw [if_pos ej]
              exact Nat.add_le_add_left (Nat.zero_le _) _
            · rw [if_neg ej]
              exact Nat.le_refl _
        · rw [rc.1] at c3
          exact kk m2 w2 h2 I2 (Or.inr (c2.resolve_left c3)) s2 f2
  exact ⟨(w.rd k).length + 1, Lp _ 0 0 m w rfl (Nat.zero_le _) (by omega) h I (Or.inl c1) rfl (fun j hj => absurd hj (by simp)) Sp3.rf frf⟩
/-- a cell is pulled: it is clean then, and all that was clean is as it was -/
theorem sPu_refresh (G : Gd T) (he : ∀ k, k < T.n → T.kd k = 4 → k + 1 = T.n) : ∀ q, RS T q
  | 0, _, _, _, _, _, _, _, _, _, _, _, _, _, h, _, _ => absurd h (Nat.not_lt_zero _)
  | q + 1, m, w, k, x, y, K, h, I, hq, hk, hx, hd0, hd, hkq, hbu, kk => by
    have hR : RS T q := @sPu_refresh G he q
    show WPu_refresh (WPu_refresh_r 21 q) 21 x y m K
    have rc := h.2.2.2.1 k hk
    have e24 : (24 : Int32).toInt = 24 := rfl
    refine ⟨1, h.2.1.2.2.2.2.1, sWe_cell h hx hk (nn_ref (fun _ => ⟨fun _ => ⟨fun c => ?_, fun c => ⟨fun c2 => by omega, fun _ m13 e13 => ?_⟩⟩, fun c => ?_⟩))⟩
    · rw [rc.1] at c
      exact kk m w h I c Sp3.rf frf
    · rw [rc.1] at c
      have hs : T.ns ≤ k := by
        apply Classical.byContradiction
        intro hc
        exact c (I.2.1 k hk (by omega)).1
      have h13 := h.fld (b := k + 1) (w' := (w.co, w.ru, w.ou, fun j => if j = k then 1 else w.bu j, w.rd, w.qu)) hk e13 (by omega) ⟨by rw [e13, si_ne (by omega)]; exact rc.1, by rw [e13, si_ne (by omega)]; exact rc.2.1, by rw [e13, sl_ne (by omega)]; exact rc.2.2.1, by rw [e13, si_eq]; exact (if_pos rfl).symm⟩ (fun j e => ⟨rfl, rfl, rfl, if_neg e⟩) rfl rfl
      have rc13 := h13.1.2.2.2.1 k hk
      have bu13 : ∀ i, i < k → (if i = k then (1 : Int32) else w.bu i) = 0 := fun i hi => (if_neg (by omega)).trans (hbu i (by omega))
      -- the end: no longer busy
      have fin : ∀ (m2 m3 : Mm) (w2 : Ws), m3 = m2.st (T.A k) 3 (.int 0) → Wb T m2 w2 → Inv T w2 → w2.co k = 0 → Sp3 T (w.co, w.ru, w.ou, fun j => if j = k then 1 else w.bu j, w.rd, w.qu) w2 k → FrP (Dy T (k + 1)) m13 m2 → K m3 := by
        intro m2 m3 w2 e3 h2 I2 d2 s2 f2
        have r2 := h2.2.2.2.1 k hk
        have h3 := h2.fld (b := k + 1) (w' := (w2.co, w2.ru, w2.ou, fun j => if j = k then 0 else w2.bu j, w2.rd, w2.qu)) hk e3 (by omega) ⟨by rw [e3, si_ne (by omega)]; exact r2.1, by rw [e3, si_ne (by omega)]; exact r2.2.1, by rw [e3, sl_ne (by omega)]; exact r2.2.2.1, by rw [e3, si_eq]; exact (if_pos rfl).symm⟩ (fun j e => ⟨rfl, rfl, rfl, if_neg e⟩) rfl rfl
        refine kk m3 _ h3.1 I2 d2 ⟨s2.1, s2.2.1, fun j hj => ?_, s2.2.2.2.1, s2.2.2.2.2⟩ (ftr h13.2 (ftr f2 h3.2))
        show (if j = k then (0 : Int32) else w2.bu j) = w.bu j
        by_cases e : j = k
        · rw [if_pos e, e]
          exact (hbu k (Nat.le_refl k)).symm
        · rw [if_neg e]
          exact (s2.2.2.1 j hj).trans (if_neg e)
      have run : ∀ (m2 : Mm) (w2 : Ws), Wb T m2 w2 → Inv T w2 → w2.co k = 2 → Sp3 T (w.co, w.ru, w.ou, fun j => if j = k then 1 else w.bu j, w.rd, w.qu) w2 k → FrP (Dy T (k + 1)) m13 m2 → WPu_runOnce (WPu_refresh_r 21 q) 21 (T.A k) x y m2 (fun m20 => ∀ m22, m22 = m20.st (T.A k) 3 (.int 0) → K m22) := by
        intro m2 w2 h2 I2 d2 s2 f2
        exact sPu_runOnce hR G he h2 I2 (by rw [s2.2.2.2.1]; exact hq) hk hs d2 hx hd0 hd (by omega) (fun i hi => (s2.2.2.1 i (by omega)).trans (bu13 i hi)) (fun m' w' b1 b2 b3 b4 b5 m22 e22 => fin m' m22 w' e22 b1 b2 b3 (s2.tr b4) (ftr f2 b5))
      refine ⟨fun c1 => ?_, fun c1 => ⟨fun c2 => ?_, fun c2 => ?_⟩⟩
      · rw [rc13.1] at c1
        have I13 : Inv T (w.co, w.ru, w.ou, fun j => if j = k then 1 else w.bu j, w.rd, w.qu) := I
        refine sPu_checkReads hR he h13.1 I13 hq hk c1 hd0 hd (by omega) bu13 (fun m17 w17 b1 b2 b3 b4 b5 => ⟨fun c5 => ?_, fun c5 m25 e25 => ?_⟩)
        · rw [(b1.2.2.2.1 k hk).1] at c5
          exact run m17 w17 b1 b2 c5 b4 b5
        · rw [(b1.2.2.2.1 k hk).1] at c5
          exact fin m17 m25 w17 e25 b1 b2 (b3.resolve_right c5) b4 b5
      · rw [rc13.1] at c2
        exact run m13 _ h13.1 I c2 Sp3.rf frf
      · rw [rc13.1] at c1 c2
        rcases I.1 k hk with e | e | e
        · exact absurd e c
        · exact absurd e c1
        · exact absurd e c2
    · rw [rc.2.2.2.1] at c
      exact absurd (hbu k (Nat.le_refl k)) c
theorem sPu_pull {K : Mm → Prop} (G : Gd T) (he : ∀ k, k < T.n → T.kd k = 4 → k + 1 = T.n) (h : Wb T m w) (I : Inv T w) (hq : w.qu.length < 24) (hk : k < T.n) (hx : x.toInt = (k : Int)) (hbu : ∀ j, j ≤ k → w.bu j = 0)
    (kk : ∀ m' w', Wb T m' w' → Inv T w' → w'.co k = 0 → Sp3 T w w' k → FrP (Dy T (k + 1)) m m' → K m') : WPu_refresh_c 21 x 0 m K := by
  have hn := h.1.1
  have e0 : (0 : Int32).toInt = 0 := rfl
  exact ⟨25, Nat.le_refl _, sPu_refresh G he 25 h I hq hk hx (by omega) (by omega) (by omega) hbu kk⟩
end RF
