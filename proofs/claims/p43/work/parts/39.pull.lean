/-! pulling: what refresh leaves, by how deep it may go -/
def RS (T : Tp) (q : Nat) : Prop := ∀ {m : Mm} {w : Ws} {k : Nat} {x y : Int32} {K : Mm → Prop}, Wb T m w → Inv T w → w.qu.length < 24 → k < T.n → x.toInt = (k : Int) → 0 ≤ y.toInt → y.toInt + (k : Int) ≤ 24 → k < q → (∀ j, j ≤ k → w.bu j = 0) →
  (∀ m' w', Wb T m' w' → Inv T w' → w'.co k = 0 → Sp3 T w w' k → FrP (Dy T (k + 1)) m m' → K m') → WPu_refresh_r 21 q x y m K
section PL
variable {T : Tp} {m m' : Mm} {w w' : Ws} {D : Nat → Nat → Prop} {x y x2 x3 x4 : Int32} {i j k b q : Nat}
theorem dy_up {a : Nat} (h : a ≤ b) : ∀ p c, Dy T a p c → Dy T b p c := by
  rintro p c (h1 | h1 | h1 | h1 | h1 | h1 | h1 | ⟨i, hi, hs, hb, hd⟩)
  · exact Or.inl h1
  · exact Or.inr (Or.inl h1)
  · exact Or.inr (Or.inr (Or.inl h1))
  · exact Or.inr (Or.inr (Or.inr (Or.inl h1)))
  · exact Or.inr (Or.inr (Or.inr (Or.inr (Or.inl h1))))
  · exact Or.inr (Or.inr (Or.inr (Or.inr (Or.inr (Or.inl h1)))))
  · exact Or.inr (Or.inr (Or.inr (Or.inr (Or.inr (Or.inr (Or.inl h1))))))
  · exact Or.inr (Or.inr (Or.inr (Or.inr (Or.inr (Or.inr (Or.inr ⟨i, hi, hs, by omega, hd⟩))))))
theorem df_dy (hk : k < T.n) (hs : T.ns ≤ k) (h : k < b) : ∀ p c, DF (T.F k) p c → Dy T b p c := fun p c d => Or.inr (Or.inr (Or.inr (Or.inr (Or.inr (Or.inr (Or.inr ⟨k, hk, hs, h, d⟩))))))
theorem df_db (hk : k < T.n) (hs : T.ns ≤ k) (h : k < b) : ∀ p c, DF (T.F k) p c → DB T b p c := fun p c d => Or.inl ⟨k, hk, hs, h, d⟩
theorem dl_dy : ∀ p c, DL p c → Dy T b p c := by
  rintro p c (h | h | h)
  · exact Or.inr (Or.inr (Or.inr (Or.inr (Or.inl h))))
  · exact Or.inr (Or.inr (Or.inr (Or.inr (Or.inr (Or.inl h)))))
  · exact Or.inr (Or.inr (Or.inr (Or.inr (Or.inr (Or.inr (Or.inl h))))))
/-- a formula that isn't below b stays -/
theorem dy_form (L : Lay T) (hk : k < T.n) (hs : T.ns ≤ k) (hb : b ≤ k) : ∀ p c, T.F k ≤ p → p ≤ T.F k + 8 → ¬ Dy T b p c := by
  obtain ⟨l1, l2, l3, l4, l5⟩ := L
  have a0 := (l2 k hk).2 hs
  rintro p c p1 p2 (⟨i, hi, hd⟩ | hd | hd | hd | hd | hd | hd | ⟨i, hi, hs', hb', hd⟩)
  · have := l4 i k hi hk hs
    omega
  · omega
  · omega
  · omega
  · omega
  · omega
  · omega
  · have := l5 i k hi hk hs' hs (by omega)
    unfold DF at hd
    omega
theorem Wb.fld {c : Nat} {v : Value} (h : Wb T m w) (hk : k < T.n) (e : m' = m.st (T.A k) c v) (hc : 3 ≤ c ∧ c ≤ 7) (hf : m'.iv (T.A k) 4 = w'.co k ∧ m'.iv (T.A k) 6 = nI (w'.ru k) ∧ m'.lg (T.A k) 7 = w'.ou k ∧ m'.iv (T.A k) 3 = w'.bu k) (ho : ∀ j, j ≠ k → w'.co j = w.co j ∧ w'.ru j = w.ru j ∧ w'.ou j = w.ou j ∧ w'.bu j = w.bu j) (hrd : w'.rd = w.rd) (hqu : w'.qu = w.qu) : Wb T m' w' ∧ FrP (Dy T b) m m' := by
  obtain ⟨L, hF, hC, r1, r2, r3, lg, r4⟩ := h
  have f0 : FrP (fun p d => p = T.A k ∧ 3 ≤ d ∧ d ≤ 7) m m' := fste e ⟨rfl, hc⟩
  have f : FrP (Dy T b) m m' := fw f0 (fun p d e => Or.inl ⟨k, hk, Or.inl e⟩)
  have S := St.dy L hF hC f
  have L' := L
  obtain ⟨l1, l2, l3, l4, l5⟩ := L
  have ak := (l2 k hk).1
  refine ⟨⟨L', S.1, S.2, fun i hi => ?_, fun j hj i hi => ?_, ?_, lg, ?_⟩, f⟩
  · by_cases ei : i = k
    · subst ei
      refine ⟨hf.1, hf.2.1, hf.2.2.1, hf.2.2.2, ?_⟩
      rw [hrd]
      exact (r1 i hi).2.2.2.2.fr f0 (by omega) (by omega) (fun c => by omega)
    · have hik := l3 i k hi hk ei
      have z := (r1 i hi).fr f0 (fun c _ _ => by omega) (by omega) (by omega) (fun c => by omega)
      obtain ⟨o1, o2, o3, o4⟩ := ho i ei
      unfold RpC
      rw [o1, o2, o3, o4, hrd]
      exact z
  · rw [hrd, fiv f0 (by omega)]
    exact r2 j hj i hi
  · rw [hqu]
    exact r3.fr f0 (by omega) (by omega) (fun c => by omega)
  · exact r4.fr f0 (by omega) (by omega) (fun c => by omega)
theorem inv_sr {R : List Nat} (I : Inv T w) (hs : T.ns ≤ k) (c2 : w.co k = 2) (hR : R.Nodup ∧ ∀ j, j ∈ R → j < k) : Inv T (w.sr k R) := by
  obtain ⟨i1, i2, i3, i4, i5⟩ := I
  have hr : ∀ j, j ≠ k → (w.sr k R).rd j = w.rd j := fun j e => if_neg e
  refine ⟨i1, fun j hj hn => ?_, fun j hj hn hc => ?_, fun j hj hc i hi => ?_, fun j hj => ?_⟩
  · rw [hr j (by omega)]
    exact i2 j hj hn
  · have e : j ≠ k := fun e => by subst e; exact hc c2
    rw [hr j e]
    exact i3 j hj hn hc
  · have e : j ≠ k := fun e => by
      subst e
      have hc : w.co j = 0 := hc
      rw [c2] at hc
      exact absurd hc (by decide)
    rw [hr j e] at hi
    exact i4 j hj hc i hi
  · by_cases e : j = k
    · subst e
      rw [show (w.sr j R).rd j = R from if_pos rfl]
      exact hR
    · rw [hr j e]
      exact i5 j hj
theorem sp_sr {R : List Nat} (c2 : w.co k ≠ 0) : Sp3 T w (w.sr k R) k := by
  have hr : ∀ j, j ≠ k → (w.sr k R).rd j = w.rd j := fun j e => if_neg e
  exact ⟨fun j _ hc => ⟨hc, rfl, hr j (fun e => by subst e; exact c2 hc)⟩, fun j _ hkj => ⟨rfl, hr j (by omega), Or.inl rfl⟩, fun _ _ => rfl, rfl, fun _ _ => ⟨Nat.le_refl _, Nat.le_refl _⟩⟩
theorem nodup_len : ∀ (k : Nat) (l : List Nat), l.Nodup → (∀ j, j ∈ l → j < k) → l.length ≤ k
  | 0, l, _, h => by
    cases l with
    | nil => exact Nat.le_refl _
    | cons a l => exact absurd (h a List.mem_cons_self) (Nat.not_lt_zero _)
  | k + 1, l, hn, h => by
    by_cases hk : k ∈ l
    · have h1 := nodup_len k (l.erase k) (hn.erase k) (fun j hj => by
        have := (hn.mem_erase_iff).mp hj
        have := h j this.2
        omega)
      rw [List.length_erase_of_mem hk] at h1
      omega
    · have := nodup_len k l hn (fun j hj => by
        have := h j hj
        have : j ≠ k := fun e => hk (e ▸ hj)
        omega)
      omega
theorem len_le (I : Inv T w) (L : T.n ≤ 23) (hk : k < T.n) : (w.rd k).length < 24 := by
  obtain ⟨i1, i2, i3, i4, i5⟩ := I
  obtain ⟨n1, n2⟩ := i5 k hk
  have := nodup_len k _ n1 n2
  omega
theorem sPu_outcomeRead {K : Mm → Int64 → Prop} (hR : RS T q) (he : ∀ k, k < T.n → T.kd k = 4 → k + 1 = T.n) (h : Wb T m w) (I : Inv T w) (hq : w.qu.length < 24) (hk : k < T.n) (hs : T.ns ≤ k) (c2 : w.co k = 2) (hx2 : x2.toInt = (k : Int)) (hj : j < k) (hx3 : x3.toInt = (j : Int)) (hd0 : 0 ≤ x4.toInt) (hd : x4.toInt + (k : Int) ≤ 24) (hkq : k ≤ q) (hbu : ∀ i, i < k → w.bu i = 0) (ht : m.iv (T.F k) 7 = 1)
    (kk : ∀ m' w', Wb T m' w' → Inv T w' → w'.co j = 0 → Sp3 T (w.sr k (radd (w.rd k) j)) w' j → FrP (Dy T k) m m' → K m' (w'.ou j)) : WPu_outcomeRead (WPu_refresh_r 21 q) 21 (T.A k) x2 x3 x4 m K := by
  have hn := h.1.1
  have e1 : (1 : Int32).toInt = 1 := rfl
  have h21 : m.rv 21 0 = 1 + 1 := h.2.1.2.2.2.2.1
  have hjn : j < T.n := by omega
  have hf8 := ((h.2.2.1 k hk).2.2.2.2.2.2 hs).2.1
  have kdj : T.kd j ≠ 4 := fun e => by have := he j hjn e; omega
  have I0 := I
  obtain ⟨i1, i2, i3, i4, i5⟩ := I
  obtain ⟨n1, n2⟩ := i5 k hk
  refine ⟨1, h21, sWe_cell h hx3 hjn (nn_ref ⟨fun e => (by rw [hf8] at e; cases e), fun p12 e12 => ?_⟩)⟩
  obtain rfl : T.F k = p12 := by rw [hf8] at e12; injection e12
  refine sCe_isReadable h hjn kdj ⟨fun c => absurd c (by decide), fun _ _ => ⟨fun c => by rw [ht] at c; exact absurd c (by decide), fun _ => ⟨fun c => ?_, fun _ => ⟨1, h21, sWe_addRead h hx2 hk hx3 hjn (len_le I0 hn hk) (fun m42 h42 f42 => ?_)⟩⟩⟩⟩
  · rw [c] at hx3
    omega
  have I42 : Inv T (w.sr k (radd (w.rd k) j)) := inv_sr I0 hs c2 ⟨radd_nd n1, fun a ha => (radd_mem ha).elim (n2 a) (fun e => by omega)⟩
  have g42 : FrP (Dy T k) m m42 := fw f42 (dr_dy hk)
  have bj := (h42.2.2.2.1 j hjn).2.2.2.1
  have kj := (h42.2.2.1 j hjn).2.1
  refine WPu_outcomeRead_J60_i (fun _ => ⟨fun c => ⟨fun c3 => ?_, fun c3 => ?_⟩, fun c => ?_⟩)
  · refine hR h42 I42 hq hjn hx3 (by rw [i32_add rfl e1 (by omega)]; omega) (by rw [i32_add rfl e1 (by omega)]; omega) (by omega) (fun i hi => hbu i (by omega)) (fun m' w' a1 a2 a3 a4 a5 => ?_)
    have := kk m' w' a1 a2 a3 a4 (ftr g42 (fw a5 (dy_up (by omega))))
    rw [← (a1.2.2.2.1 j hjn).2.2.1] at this
    exact this
  · rw [kj] at c3
    have hsj : j < T.ns := by
      apply Classical.byContradiction
      intro hc
      exact ((h.2.2.1 j hjn).2.2.2.2.2.2 (by omega)).1.elim c3 kdj
    have := kk m42 _ h42 I42 (i2 j hjn hsj).1 Sp3.rf g42
    rw [← (h42.2.2.2.1 j hjn).2.2.1] at this
    exact this
  · exfalso
    rw [bj] at c
    exact c (hbu j hj)
end PL
