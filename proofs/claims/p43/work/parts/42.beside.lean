/-! what is worked out beside is what the cells are by their sources -/
def pl (T : Tp) (src : Nat → Int64) (k : Nat) : Int64 := pln T src 24 k
def BI (T : Tp) (src : Nat → Int64) (k : Nat) (m : Mm) : Prop := m.iv 22 3 = -1 ∧ (∀ j, j < T.n → m.iv 24 j = 2 → m.lg 23 j = pl T src j) ∧ (∀ j, j ≤ k → m.iv 24 j ≠ 1)
def BS (T : Tp) (q : Nat) : Prop := ∀ {m : Mm} {w : Ws} {k : Nat} {x y : Int32} {K : Mm → Int64 → Prop}, Wb T m w → BI T w.ou k m → k < T.n → x.toInt = (k : Int) → 0 ≤ y.toInt → y.toInt + (k : Int) ≤ 24 → k < q →
  (∀ m', Wb T m' w → BI T w.ou k m' → (∀ j, k < j → m'.iv 24 j = m.iv 24 j) → FrP (DB T (k + 1)) m m' → K m' (pl T w.ou k)) → WBe_outcomeOf_r 22 q x y m K
section BE
variable {T : Tp} {m m' : Mm} {w w' : Ws} {x y x1 x2 x3 : Int32} {i j k b q : Nat} {z : Int64} {src : Nat → Int64}
theorem pl_eq (G : Gd T) (hn : T.n ≤ 23) (hk : k < T.n) : pl T src k = if k < T.ns then src k else (evP (T.P k) (pl T src)).1 := by
  show pln T src (23 + 1) k = _
  unfold pln
  by_cases hs : k < T.ns
  · rw [if_pos hs, if_pos hs]
  · rw [if_neg hs, if_neg hs]
    refine congrArg Prod.fst (evP_congr (fun i hi => ?_))
    have := evP_lt (G k hk (by omega)) i hi
    exact pln_st G 23 24 i (by omega) (by omega) (by omega)
theorem db_up {a : Nat} (h : a ≤ b) : ∀ p c, DB T a p c → DB T b p c := by
  rintro p c (⟨i, hi, hs, hb, hd⟩ | e)
  · exact Or.inl ⟨i, hi, hs, by omega, hd⟩
  · exact Or.inr e
theorem db_form (L : Lay T) (hk : k < T.n) (hs : T.ns ≤ k) (hb : b ≤ k) : ∀ p c, T.F k ≤ p → p ≤ T.F k + 8 → ¬ DB T b p c := by
  obtain ⟨l1, l2, l3, l4, l5⟩ := L
  have a0 := (l2 k hk).2 hs
  rintro p c p1 p2 (⟨i, hi, hs', hb', hd⟩ | e | e | e)
  · have := l5 i k hi hk hs' hs (by omega)
    unfold DF at hd
    omega
  · omega
  · omega
  · omega
theorem df_low (L : Lay T) (hk : k < T.n) (hs : T.ns ≤ k) : ∀ p c, p < 60 → ¬ DF (T.F k) p c := fun p c hp e => by
  have := (L.2.1 k hk).2 hs
  unfold DF at e
  omega
theorem sBe_outcomeRead {K : Mm → Int64 → Prop} (hR : BS T q) (he : ∀ k, k < T.n → T.kd k = 4 → k + 1 = T.n) (h : Wb T m w) (B : BI T w.ou j m) (hk : k < T.n) (hj : j < k) (hx : x1.toInt = (j : Int)) (hd0 : 0 ≤ x2.toInt) (hd : x2.toInt + (k : Int) ≤ 24) (hkq : k ≤ q)
    (kk : ∀ m', Wb T m' w → BI T w.ou j m' → (∀ i, j < i → m'.iv 24 i = m.iv 24 i) → FrP (DB T (j + 1)) m m' → K m' (pl T w.ou j)) : WBe_outcomeRead (WBe_outcomeOf_r 22 q) 22 x1 x2 m K := by
  have e1 : (1 : Int32).toInt = 1 := rfl
  have hn := h.1.1
  have hjn : j < T.n := by omega
  refine ⟨1, h.2.1.2.2.2.2.2.1, sWe_cell h hx hjn (nn_ref (sCe_isReadable h hjn (fun e => by have := he j hjn e; omega) ⟨fun c => absurd c (by decide), fun _ => ?_⟩))⟩
  exact hR h B hjn hx (by rw [i32_add rfl e1 (by omega)]; omega) (by rw [i32_add rfl e1 (by omega)]; omega) (by omega) kk
theorem sBe_outcomeOf (G : Gd T) (he : ∀ k, k < T.n → T.kd k = 4 → k + 1 = T.n) : ∀ q, BS T q
  | 0, _, _, _, _, _, _, _, _, _, _, _, _, h, _ => absurd h (Nat.not_lt_zero _)
  | q + 1, m, w, k, x, y, K, h, B, hk, hx, hd0, hd, hkq, kk => by
    have hR : BS T q := @sBe_outcomeOf G he q
    show WBe_outcomeOf (WBe_outcomeOf_r 22 q) 22 x y m K
    have hn := h.1.1
    have L := h.1
    have e1 : (1 : Int32).toInt = 1 := rfl
    have e24 : (24 : Int32).toInt = 24 := rfl
    have e250 : (250 : Int32).toInt = 250 := rfl
    obtain ⟨b0, b1, b2, b3, b4⟩ := h.2.1.2.2.2.2.2
    obtain ⟨B1, B2, B3⟩ := B
    have rc := h.2.2.2.1 k hk
    have st := h.2.2.1 k hk
    have hsk : ¬ T.kd k = 1 → T.ns ≤ k := fun c => Classical.byContradiction (fun hc => c (st.2.2.2.2.2.1 (by omega)))
    have xk : x.toInt.toNat = k := by omega
    have n23 : (Int32.ofNat (m.ln 23)).toInt = 24 := by rw [b3]; rfl
    have n24 : (Int32.ofNat (m.ln 24)).toInt = 24 := by rw [b4]; rfl
    refine ⟨1, b0, sWe_cell h hx hk (nn_ref ⟨fun c => by omega, fun _ => ⟨fun c => ⟨fun c2 => ?_, fun _ => ?_⟩, fun c => ⟨fun e => ?_, fun p12 e12 => ⟨24, b2, fun _ => ⟨23, b1, fun _ => ⟨⟨by omega, by omega⟩, fun c5 => ?_, fun _ => ⟨⟨by omega, by omega⟩, fun c6 => ⟨⟨by omega, by omega⟩, ?_⟩, fun c6 => ⟨⟨by omega, by omega⟩, fun m29 e29 => ?_⟩⟩⟩, fun c4 => by omega⟩, fun c3 => by omega⟩⟩⟩⟩)⟩
    · rw [B1] at c2
      rw [c2] at hx
      have e : (-1 : Int32).toInt = -1 := rfl
      omega
    · rw [st.2.1] at c
      have hs : k < T.ns := by
        apply Classical.byContradiction
        intro hc
        rcases (st.2.2.2.2.2.2 (by omega)).1 with e | e <;> rw [c] at e <;> exact absurd e (by decide)
      rw [rc.2.2.1, show w.ou k = pl T w.ou k by rw [pl_eq G hn hk, if_pos hs]]
      exact kk m h ⟨B1, B2, B3⟩ (fun _ _ => rfl) frf
    all_goals rw [st.2.1] at c
    all_goals have hs : T.ns ≤ k := hsk c
    all_goals obtain ⟨s1, s2, s3⟩ := st.2.2.2.2.2.2 hs
    · rw [s2] at e
      cases e
    · rw [xk] at c5
      exact absurd c5 (B3 k (Nat.le_refl k))
    · rw [xk] at c6 ⊢
      rw [B2 k hk c6]
      exact kk m h ⟨B1, B2, B3⟩ (fun _ _ => rfl) frf
    · obtain rfl : T.F k = p12 := by rw [s2] at e12; injection e12
      rw [xk] at e29
      have f29 : FrP (DB T (k + 1)) m m29 := fste e29 (Or.inr (Or.inr (Or.inr rfl)))
      have h29 : Wb T m29 w := h.form f29
      have plk : (evP (T.P k) (pl T w.ou)).1 = pl T w.ou k := by rw [pl_eq G hn hk, if_neg (by omega)]
      -- the end: known now
      have fin : ∀ (m47 : Mm) (f : FS), Wb T m47 w → (m47.iv 22 3 = -1 ∧ (∀ j, j < T.n → j ≠ k → m47.iv 24 j = 2 → m47.lg 23 j = pl T w.ou j) ∧ (∀ j, j < k → m47.iv 24 j ≠ 1) ∧ (∀ j, k < j → m47.iv 24 j = m.iv 24 j)) → FrP (DB T (k + 1)) m m47 → FmAt m47 (T.F k) (T.P k).1 (T.P k).2.1 (T.P k).2.2 f → fout f = pl T w.ou k → ∀ rl, WBe_outcomeOf_J168 (WBe_outcomeOf_r 22 q) 22 x (T.F k) rl K m47 := by
        intro m47 f h47 ⟨v1, v2, v3, v4⟩ f47 a47 ef rl
        obtain ⟨d0, d1, d2, d3, d4⟩ := h47.2.1.2.2.2.2.2
        refine WBe_outcomeOf_J168_i ⟨24, d2, ⟨by omega, by rw [d4]; omega⟩, fun m57 e57 => ?_⟩
        rw [xk] at e57
        have f57 : FrP (fun p c => p = 24) m47 m57 := fste e57 rfl
        have l0 := (L.2.1 k hk).2 hs
        have a57 := a47.fr f57 (fun p c p1 p2 => by omega)
        refine ⟨23, (frv f57 (by omega)).trans d1, sFo_outcome a57 ⟨⟨by omega, by rw [fln f57, d3]; omega⟩, fun m67 e67 => ?_⟩⟩
        rw [xk] at e67
        have f67 : FrP (fun p c => p = 23) m57 m67 := fste e67 rfl
        have g67 : FrP (DB T (k + 1)) m m67 := ftr f47 (ftr (fw f57 (fun p c e => Or.inr (Or.inr (Or.inr e)))) (fw f67 (fun p c e => Or.inr (Or.inr (Or.inl e)))))
        refine ⟨23, (frv f67 (by omega)).trans ((frv f57 (by omega)).trans d1), ⟨by omega, by rw [fln f67, fln f57, d3]; omega⟩, ?_⟩
        rw [xk]
        have eo : m67.lg 23 k = pl T w.ou k := by rw [e67, sl_eq, ef]
        rw [eo]
        refine kk m67 (h.form g67) ⟨?_, fun j hj hj2 => ?_, fun j hj => ?_⟩ (fun j hj => ?_) g67
        · rw [e67, si_ne (by omega), e57, si_ne (by omega)]
          exact v1
        · by_cases ej : j = k
          · rw [ej]
            exact eo
          · rw [e67, si_ne (by omega), e57, si_ne (by omega)] at hj2
            rw [e67, sl_ne (by omega), e57, sl_ne (by omega)]
            exact v2 j hj ej hj2
        · rw [e67, si_ne (by omega), e57]
          by_cases ej : j = k
          · rw [ej, si_eq]
            decide
          · rw [si_ne (by omega)]
            exact v3 j (by omega)
        · rw [e67, si_ne (by omega), e57, si_ne (by omega)]
          exact v4 j hj
      have Lp : ∀ (nr : Nat) (zz : Int32) (m2 : Mm) (f : FS) (R : List Nat), zz.toInt = 250 - (nr : Int) → nr ≤ 250 → Wb T m2 w → (m2.iv 22 3 = -1 ∧ (∀ j, j < T.n → j ≠ k → m2.iv 24 j = 2 → m2.lg 23 j = pl T w.ou j) ∧ (∀ j, j < k → m2.iv 24 j ≠ 1) ∧ (∀ j, k < j → m2.iv 24 j = m.iv 24 j)) → m2.iv 24 k = 1 → FrP (DB T (k + 1)) m m2 → FmAt m2 (T.F k) (T.P k).1 (T.P k).2.1 (T.P k).2.2 f →
          (evP (T.P k) (pl T w.ou) = evl (T.P k).1 (T.P k).2.1 (T.P k).2.2 nr (pl T w.ou) f R) → WBe_outcomeOf_L131 (WBe_outcomeOf_r 22 q) 22 x y (T.F k) K (nr + 1) zz m2 := by
        intro nr
        induction nr with
        | zero =>
          intro zz m2 f R hz hn2 h2 V k1 f2 a2 pr
          refine WBe_outcomeOf_L131_i ⟨fun c => by omega, fun _ => ?_⟩
          exact fin m2 f h2 V f2 a2 (by rw [← plk, pr]; rfl) _
        | succ nr ih =>
          intro zz m2 f R hz hn2 h2 V k1 f2 a2 pr
          refine WBe_outcomeOf_L131_i ⟨fun _ => ?_, fun c => by omega⟩
          rcases hfg : fgo (T.P k).1 (T.P k).2.1 (T.P k).2.2 250 f with ⟨o, f'⟩
          refine sFo_goesOn a2 (fun m88 a88 f88 t88 => ?_)
          rw [hfg] at a88 t88 ⊢
          have a88 : FmAt m88 (T.F k) (T.P k).1 (T.P k).2.1 (T.P k).2.2 f' := a88
          have d88 : FrP (DB T (k + 1)) m2 m88 := fw f88 (df_db hk hs (Nat.lt_succ_self k))
          have h88 : Wb T m88 w := h2.form d88
          have low := df_low L hk hs
          have V88 : m88.iv 22 3 = -1 ∧ (∀ j, j < T.n → j ≠ k → m88.iv 24 j = 2 → m88.lg 23 j = pl T w.ou j) ∧ (∀ j, j < k → m88.iv 24 j ≠ 1) ∧ (∀ j, k < j → m88.iv 24 j = m.iv 24 j) := by
            obtain ⟨v1, v2, v3, v4⟩ := V
            refine ⟨(fiv f88 (low _ _ (by omega))).trans v1, fun j hj ej hj2 => ?_, fun j hj => ?_, fun j hj => (fiv f88 (low _ _ (by omega))).trans (v4 j hj)⟩
            · rw [fiv f88 (low _ _ (by omega))] at hj2
              exact (flg f88 (low _ _ (by omega))).trans (v2 j hj ej hj2)
            · rw [fiv f88 (low _ _ (by omega))]
              exact v3 j hj
          cases o with
          | none =>
            refine ⟨fun _ => ?_, fun c => absurd rfl c⟩
            refine fin m88 f' h88 V88 (ftr f2 d88) a88 ?_ _
            rw [← plk, pr]
            unfold evl
            rw [hfg]
          | some sd =>
            refine ⟨fun c => absurd (show (1 : Int32) = 0 from c) (by decide), fun _ => ?_⟩
            obtain ⟨g1, g2, g3⟩ := fgo_good (G k hk hs) 250 f sd (by rw [hfg])
            obtain ⟨t1, t2⟩ := t88 sd.1 sd.2 rfl
            unfold WFo_asked
            rw [t1]
            have hj : sd.2.toInt.toNat < k := by omega
            obtain ⟨v1, v2, v3, v4⟩ := V88
            have k88 : m88.iv 24 k = 1 := (fiv f88 (low _ _ (by omega))).trans k1
            refine sBe_outcomeRead (j := sd.2.toInt.toNat) hR he h88 ⟨v1, fun j hj hj2 => v2 j hj (fun e => by rw [e, k88] at hj2; exact absurd hj2 (by decide)) hj2, fun j hj => v3 j (by omega)⟩ hk hj (by omega) hd0 hd (by omega) (fun m96 h96 B96 u96 f96 => ?_)
            have a96 := a88.fr f96 (fun p c p1 p2 => db_form L hk hs (by omega) p c p1 p2)
            refine sFo_give a96 (fun m99 a99 f99 => ?_)
            have d99 : FrP (DB T (k + 1)) m96 m99 := fw f99 (df_db hk hs (Nat.lt_succ_self k))
            refine ih (zz + 1) m99 _ (radd R sd.2.toInt.toNat) (by rw [i32_add rfl e1 (by omega)]; omega) (by omega) (h96.form d99) ⟨?_, fun j hj ej hj2 => ?_, fun j hj => ?_, fun j hj2 => ?_⟩ ?_ (ftr f2 (ftr d88 (ftr (fw f96 (db_up (by omega))) d99))) a99 ?_
            · rw [fiv f99 (low _ _ (by omega))]
              exact B96.1
            · rw [fiv f99 (low _ _ (by omega))] at hj2
              rw [flg f99 (low _ _ (by omega))]
              exact B96.2.1 j hj hj2
            · rw [fiv f99 (low _ _ (by omega))]
              by_cases hij : j ≤ sd.2.toInt.toNat
              · exact B96.2.2 j hij
              · rw [u96 j (by omega)]
                exact v3 j hj
            · rw [fiv f99 (low _ _ (by omega)), u96 j (by omega)]
              exact v4 j hj2
            · rw [fiv f99 (low _ _ (by omega)), u96 k hj]
              exact k88
            · rw [pr]
              show evl (T.P k).1 (T.P k).2.1 (T.P k).2.2 (nr + 1) (pl T w.ou) f R = _
              unfold evl
              rw [hfg]
              cases nr <;> rfl
      have s29 : FmS m29 (T.F k) (T.P k).1 (T.P k).2.1 (T.P k).2.2 := ((h29.2.2.1 k hk).2.2.2.2.2.2 hs).2.2
      refine sFo_start s29 (fun m32 a32 f32 => ⟨251, Lp 250 0 m32 f00 [] rfl (Nat.le_refl _) (h29.form (b := k + 1) (fw f32 (df_db hk hs (Nat.lt_succ_self k)))) ⟨?_, fun j hj ej hj2 => ?_, fun j hj => ?_, fun j hj => ?_⟩ ?_ (ftr f29 (fw f32 (df_db hk hs (Nat.lt_succ_self k)))) a32 rfl⟩)
      all_goals have low := df_low L hk hs
      · rw [fiv f32 (low _ _ (by omega)), e29, si_ne (by omega)]
        exact B1
      · rw [fiv f32 (low _ _ (by omega)), e29, si_ne (by omega)] at hj2
        rw [flg f32 (low _ _ (by omega)), e29, sl_ne (by omega)]
        exact B2 j hj hj2
      · rw [fiv f32 (low _ _ (by omega)), e29, si_ne (by omega)]
        exact B3 j (by omega)
      · rw [fiv f32 (low _ _ (by omega)), e29, si_ne (by omega)]
      · rw [fiv f32 (low _ _ (by omega)), e29, si_eq]
theorem sBe_outcomeNow {K : Mm → Int64 → Prop} (G : Gd T) (he : ∀ k, k < T.n → T.kd k = 4 → k + 1 = T.n) (h : Wb T m w) (hk : k < T.n) (hx : x.toInt = (k : Int)) (kk : ∀ m', Wb T m' w → FrP (DB T T.n) m m' → K m' (pl T w.ou k)) : WBe_outcomeNow 22 x m K := by
  have hn := h.1.1
  have e0 : (0 : Int32).toInt = 0 := rfl
  have e1 : (1 : Int32).toInt = 1 := rfl
  unfold WBe_outcomeNow WBe_outcomeIf
  intro m1 i1 m4 i4
  have f4 : FrP (DB T T.n) m m4 := ftr (fste i1 (Or.inr (Or.inl ⟨rfl, Or.inl rfl⟩))) (fste i4 (Or.inr (Or.inl ⟨rfl, Or.inr rfl⟩)))
  have c4 : m4.iv 22 3 = -1 := by rw [i4, si_ne (by omega), i1, si_eq]
  have Lp : ∀ (q i : Nat) (z : Int32) (m2 : Mm), z.toInt = (i : Int) → i ≤ 24 → 24 - i < q → FrP (DB T T.n) m m2 → m2.iv 22 3 = -1 → (∀ j, j < i → m2.iv 24 j = 0) → WBe_outcomeIf_L13 22 x K q z m2 := by
    intro q
    induction q with
    | zero => intro i z m2 _ _ hq; exact absurd hq (Nat.not_lt_zero _)
    | succ q ih =>
      intro i z m2 hz hi hq f2 v2 hst
      have h2 : Wb T m2 w := h.form f2
      obtain ⟨d0, d1, d2, d3, d4⟩ := h2.2.1.2.2.2.2.2
      have n24 : (Int32.ofNat (m2.ln 24)).toInt = 24 := by rw [d4]; rfl
      refine WBe_outcomeIf_L13_i ⟨24, d2, fun c => ⟨⟨by omega, by omega⟩, fun m22 e22 => ?_⟩, fun c => ?_⟩
      · rw [show z.toInt.toNat = i by omega] at e22
        refine ih (i + 1) (z + 1) m22 (by rw [i32_add hz e1 (by omega)]; omega) (by omega) (by omega) (ftr f2 (fste e22 (Or.inr (Or.inr (Or.inr rfl))))) (by rw [e22, si_ne (by omega)]; exact v2) (fun j hj => ?_)
        by_cases e : j = i
        · rw [e, e22, si_eq]
        · rw [e22, si_ne (by omega)]
          exact hst j (by omega)
      · refine ⟨25, Nat.le_refl _, sBe_outcomeOf G he 25 h2 ⟨v2, fun j hj hj2 => ?_, fun j hj => ?_⟩ hk hx (by omega) (by omega) (by omega) (fun m' a1 a2 a3 a4 => kk m' a1 (ftr f2 (fw a4 (db_up (by omega)))))⟩
        · rw [hst j (by omega)] at hj2
          exact absurd hj2 (by decide)
        · rw [hst j (by omega)]
          decide
  exact ⟨25, Lp 25 0 0 m4 rfl (by omega) (by omega) f4 c4 (fun j hj => absurd hj (Nat.not_lt_zero _))⟩
end BE
