/-! the queue is flushed; a source is written -/
/-- what is fixed of the web in the law's acts: the effect is its last cell -/
def Ef (T : Tp) : Prop := Gd T ∧ (∀ k, k < T.n → T.kd k = 4 → k + 1 = T.n) ∧ T.ns < T.n ∧ T.kd (T.n - 1) = 4
def Rl (T : Tp) (w w' : Ws) : Prop := (∀ j, j < T.n → w.co j = 0 → w'.co j = 0 ∧ w'.ou j = w.ou j ∧ w'.rd j = w.rd j) ∧ (∀ j, j < T.n → w.ru j ≤ w'.ru j ∧ w'.ru j + nzc (w'.co j) ≤ w.ru j + nzc (w.co j))
def qof (T : Tp) (w : Ws) : List Nat := if w.co (T.n - 1) = 0 then [] else [T.n - 1]
section FL
variable {T : Tp} {m m' : Mm} {w w' w1 : Ws} {x y v : Int32} {i j k b q : Nat}
theorem Rl.rf : Rl T w w := ⟨fun _ _ h => ⟨h, rfl, rfl⟩, fun _ _ => ⟨Nat.le_refl _, Nat.le_refl _⟩⟩
theorem Rl.of (h : Sp3 T w w' k) : Rl T w w' := ⟨h.1, h.2.2.2.2⟩
theorem Rl.tr (h1 : Rl T w w1) (h2 : Rl T w1 w') : Rl T w w' := ⟨fun j hj e => by
  obtain ⟨a1, a2, a3⟩ := h1.1 j hj e
  obtain ⟨b1, b2, b3⟩ := h2.1 j hj a1
  exact ⟨b1, b2.trans a2, b3.trans a3⟩, fun j hj => ⟨Nat.le_trans (h1.2 j hj).1 (h2.2 j hj).1, Nat.le_trans (h2.2 j hj).2 (h1.2 j hj).2⟩⟩
theorem sPu_flush {K : Mm → Prop} (S : Ef T) (h : Wb T m w) (I : Inv T w) (bu0 : ∀ j, j < T.n → w.bu j = 0) (hqu : w.qu = qof T w) (hb : m.iv 1 7 = nI b) (hb31 : b < 2147483648)
    (k1 : 0 < b → K m) (k0 : b = 0 → ∀ m' w', Wb T m' w' → Inv T w' → (∀ j, j < T.n → w'.bu j = 0) → w'.qu = [] → w'.co (T.n - 1) = 0 → (w.qu = [] → w' = w) → Rl T w w' → FrP (Dy T T.n) m m' → K m') : WPu_flushUnlessBatch 21 m K := by
  obtain ⟨G, he, hns, kde⟩ := S
  have hn := h.1.1
  have e0 : (0 : Int32).toInt = 0 := rfl
  have e100 : (100 : Int32).toInt = 100 := rfl
  have e1 : (1 : Int32).toInt = 1 := rfl
  have tb : (m.iv 1 7).toInt = (b : Int) := by rw [hb]; exact nI_toInt (by omega)
  have w3 : m.rv 21 0 = 1 + 1 := h.2.1.2.2.2.2.1
  have q1 : m.rv 1 3 = 4 + 1 := h.2.1.2.2.1
  refine ⟨1, w3, fun c => k1 (by omega), fun c => ?_⟩
  have b0 : b = 0 := by omega
  have nq := h.2.2.2.2.2.1
  by_cases c0 : w.co (T.n - 1) = 0
  · have qn : w.qu = [] := by rw [hqu]; exact if_pos c0
    rw [qn] at nq
    refine ⟨1, WPu_flushUnlessBatch_L13_i ⟨fun _ => ⟨1, w3, 4, q1, sNu_size nq ⟨fun c2 => absurd c2 (by decide), fun _ => ?_⟩⟩, fun c2 => by omega⟩⟩
    exact k0 b0 m w h I bu0 qn c0 (fun _ => rfl) Rl.rf frf
  · have qn : w.qu = [T.n - 1] := by rw [hqu]; exact if_neg c0
    rw [qn] at nq
    have en : T.n - 1 < T.n := by omega
    refine ⟨2, WPu_flushUnlessBatch_L13_i ⟨fun _ => ⟨1, w3, 4, q1, sNu_size nq ⟨fun _ => ⟨1, w3, 4, q1, sNu_at nq ⟨1, w3, 4, q1, sNu_drop1 nq (fun m40 n40 f40 => ?_)⟩⟩, fun c2 => absurd (show 0 < (Int32.ofNat 1).toInt by decide) c2⟩⟩, fun c2 => by omega⟩⟩
    have h40 : Wb T m40 (w.co, w.ru, w.ou, w.bu, w.rd, []) := Wb.que h f40 n40 (fun _ => rfl) rfl rfl rfl rfl
    have I40 : Inv T (w.co, w.ru, w.ou, w.bu, w.rd, []) := I
    have g40 : FrP (Dy T T.n) m m40 := fw f40 (fun p c e => e.elim (fun e => Or.inr (Or.inr (Or.inl e))) (fun e => Or.inr (Or.inr (Or.inr (Or.inl e)))))
    refine sPu_pull G he h40 I40 (by show 0 < 24; omega) en (show (nI (T.n - 1)).toInt = ((T.n - 1 : Nat) : Int) from nI_toInt (by omega)) (fun j hj => bu0 j (by omega)) (fun m42 w42 h42 I42 c42 s42 f42 => ?_)
    have q42 : w42.qu = [] := s42.2.2.2.1
    have n42 := h42.2.2.2.2.2.1
    rw [q42] at n42
    have w42' : m42.rv 21 0 = 1 + 1 := h42.2.1.2.2.2.2.1
    refine WPu_flushUnlessBatch_L13_i ⟨fun _ => ⟨1, w42', 4, h42.2.1.2.2.1, sNu_size n42 ⟨fun c2 => absurd c2 (by decide), fun _ => ?_⟩⟩, fun c2 => absurd (show ((0 : Int32) + 1).toInt < (100 : Int32).toInt by decide) c2⟩
    exact k0 b0 m42 w42 h42 I42 (fun j hj => (s42.2.2.1 j hj).trans (bu0 j hj)) q42 c42 (fun e => by rw [qn] at e; cases e) ⟨s42.1, s42.2.2.2.2⟩ (ftr g40 (fw f42 (dy_up (by omega))))
/-- marks keep what is always so, where a source has become another -/
theorem inv_write {d c : Int32} (I : Inv T w) (hk : k < T.n) (hs : k < T.ns) (hd : ∀ i, i < T.n → (bt d i = true ↔ k ∈ w.rd i)) (hc1 : ∀ i, i < 32 → bt c i = true → i < T.n ∧ ∃ j, j ∈ w.rd i) (hc2 : ∀ i, i < T.n → (k ∈ w.rd i ∨ bt c i = true) → ∀ i2, i2 < T.n → i ∈ w.rd i2 → bt c i2 = true) (hn : T.n ≤ 23)
    (hco : ∀ j, w'.co j = cl2 T w d c j) (hou : ∀ j, j ≠ k → w'.ou j = w.ou j) (hrd : w'.rd = w.rd) : Inv T w' := by
  obtain ⟨i1, i2, i3, i4, i5⟩ := I
  have src : ∀ j, j < T.n → j < T.ns → w'.co j = 0 := fun j hj hjs => by
    obtain ⟨a1, a2⟩ := i2 j hj hjs
    rw [hco]
    unfold cl2
    rw [if_neg (fun e => by have := (hd j hj).mp e.2; rw [a2] at this; exact absurd this List.not_mem_nil), if_neg (fun e => by obtain ⟨_, j2, h2⟩ := hc1 j (by omega) e.2.2; rw [a2] at h2; exact absurd h2 List.not_mem_nil)]
    exact a1
  refine ⟨fun j hj => ?_, fun j hj hjs => ⟨src j hj hjs, by rw [hrd]; exact (i2 j hj hjs).2⟩, fun j hj hjs h2 => ?_, fun j hj h0 i hi => ?_, fun j hj => by rw [hrd]; exact i5 j hj⟩
  · rw [hco]
    unfold cl2
    split
    · exact Or.inr (Or.inr rfl)
    · split
      · exact Or.inr (Or.inl rfl)
      · exact i1 j hj
  · have nd : ¬ bt d j = true := fun e => h2 (by rw [hco]; unfold cl2; exact if_pos ⟨hj, e⟩)
    have hw : w.co j ≠ 2 := fun e => by
      rw [hco] at h2
      unfold cl2 at h2
      rw [if_neg (fun z => nd z.2), if_neg (fun z => by rw [e] at z; exact absurd z.2.1 (by decide))] at h2
      exact h2 e
    have e3 := i3 j hj hjs hw
    have nk : ¬ k ∈ w.rd j := fun e => nd ((hd j hj).mpr e)
    rw [hrd, hou j (by omega), ← e3]
    refine (evP_congr (fun i hi => ?_)).symm
    rw [e3] at hi
    exact (hou i (fun e => nk (e ▸ hi))).symm
  · rw [hrd] at hi
    have hij := (i5 j hj).2 i hi
    have hin : i < T.n := by omega
    have nd : ¬ bt d j = true := fun e => by
      rw [hco] at h0
      unfold cl2 at h0
      rw [if_pos ⟨hj, e⟩] at h0
      exact absurd h0 (by decide)
    have c0 : w.co j = 0 ∧ ¬ bt c j = true := by
      rw [hco] at h0
      unfold cl2 at h0
      rw [if_neg (fun z => nd z.2)] at h0
      split at h0
      · exact absurd h0 (by decide)
      · rename_i hz
        exact ⟨h0, fun e => hz ⟨hj, h0, e⟩⟩
    have ci := i4 j hj c0.1 i hi
    by_cases hik : i < T.ns
    · exact src i hin hik
    · rw [hco]
      unfold cl2
      rw [if_neg (fun e => c0.2 (hc2 i hin (Or.inl ((hd i hin).mp e.2)) j hj hi)), if_neg (fun e => c0.2 (hc2 i hin (Or.inr e.2.2) j hj hi))]
      exact ci
theorem sPu_writeTo {K : Mm → Int32 → Prop} (S : Ef T) (h : Wb T m w) (I : Inv T w) (hqu : w.qu = qof T w) (hk : k < T.ns) (hx : x.toInt = (k : Int)) (k0 : K m 0)
    (k1 : ∀ m' w', Wb T m' w' → Inv T w' → (∀ j, j < T.n → w'.bu j = w.bu j) → w'.qu = qof T w' → (∀ j, j < T.n → w'.ru j = w.ru j) → FrP (Dy T T.n) m m' → K m' 1) : WPu_writeTo 21 x v m K := by
  obtain ⟨G, he, hns, kde⟩ := S
  have hn := h.1.1
  have hkn : k < T.n := by omega
  have w3 : m.rv 21 0 = 1 + 1 := h.2.1.2.2.2.2.1
  have rc := h.2.2.2.1 k hkn
  refine ⟨1, w3, sWe_cell h hx hkn (nn_ref ⟨fun _ => k0, fun c m10 e10 m13 e13 => ?_⟩)⟩
  have h10 := h.fld (b := T.n) (w' := (w.co, w.ru, fun j => if j = k then v.toInt64 else w.ou j, w.bu, w.rd, w.qu)) hkn e10 (by omega) ⟨by rw [e10, si_ne (by omega)]; exact rc.1, by rw [e10, si_ne (by omega)]; exact rc.2.1, by rw [e10, sl_eq]; exact (if_pos rfl).symm, by rw [e10, si_ne (by omega)]; exact rc.2.2.2.1⟩ (fun j e => ⟨rfl, rfl, if_neg e, rfl⟩) rfl rfl
  have r1 := h10.1.2.2.2.1 k hkn
  have h13 := h10.1.fld (b := T.n) (w' := (w.co, w.ru, fun j => if j = k then v.toInt64 else w.ou j, w.bu, w.rd, w.qu)) hkn e13 (by omega) ⟨by rw [e13, si_ne (by omega)]; exact r1.1, by rw [e13, si_ne (by omega)]; exact r1.2.1, by rw [e13, sl_ne (by omega)]; exact r1.2.2.1, by rw [e13, si_ne (by omega)]; exact r1.2.2.2.1⟩ (fun j e => ⟨rfl, rfl, rfl, rfl⟩) rfl rfl
  have f13 : FrP (Dy T T.n) m m13 := ftr h10.2 h13.2
  have qlen : w.qu.length < 24 := by
    rw [hqu]
    unfold qof
    split
    · exact (by show 0 < 24; omega)
    · exact (by show 1 < 24; omega)
  have rb : ∀ j, j < T.n → (bt (m13.iv 3 k) j = true ↔ k ∈ w.rd j) := fun j hj => by
    rw [h13.1.2.2.2.2.1 k (by omega) j (by omega), decide_eq_true_iff]
    exact ⟨fun e => e.2, fun e => ⟨hj, e⟩⟩
  refine ⟨1, h13.1.2.1.2.2.2.2.1, sWe_readersOf h13.1 hx (by omega) ⟨1, h13.1.2.1.2.2.2.2.1, sWe_further h13.1 (fun i hi j hj => (I.2.2.2.2 i hi).2 j hj) hx hkn (fun r r1' r2' => sPu_colour h13.1 he qlen (fun m' w' a1 a2 a3 a4 a5 a6 a7 a8 => ?_))⟩⟩
  have I' : Inv T w' := inv_write (w := w) (k := k) (d := m13.iv 3 k) (c := r) I hkn hk rb r1' r2' hn (fun j => by rw [a2]; rfl) (fun j e => by rw [a4]; exact if_neg e) (by rw [a6]; rfl)
  refine k1 m' w' a1 I' (fun j _ => by rw [a5]; rfl) ?_ (fun j _ => by rw [a3]; rfl) (ftr f13 (fw a8 dc_dy))
  have hq2 : w.qu = if w.co (T.n - 1) = 0 then [] else [T.n - 1] := hqu
  have hc : w.co (T.n - 1) ≠ 0 → w'.co (T.n - 1) ≠ 0 := fun c0 => by
    rw [a2]
    unfold cl2
    split
    · decide
    · rw [if_neg (fun e => c0 e.2.1)]
      exact c0
  have e7 : w'.qu = if 0 < T.n ∧ T.kd (T.n - 1) = 4 ∧ w.co (T.n - 1) = 0 ∧ w'.co (T.n - 1) ≠ 0 then w.qu ++ [T.n - 1] else w.qu := by
    rw [a7, a2]
    rfl
  show w'.qu = if w'.co (T.n - 1) = 0 then [] else [T.n - 1]
  rw [e7, hq2]
  by_cases c0 : w.co (T.n - 1) = 0
  · rw [if_pos c0]
    by_cases c1 : w'.co (T.n - 1) = 0
    · rw [if_neg (fun e => e.2.2.2 c1), if_pos c1]
    · rw [if_pos ⟨by omega, kde, c0, c1⟩, if_neg c1]
      rfl
  · rw [if_neg c0, if_neg (fun e => c0 e.2.2.1), if_neg (hc c0)]
end FL
