/-! a run of a cell -/
section RU
variable {T : Tp} {m m' : Mm} {w w' : Ws} {x y x2 x3 : Int32} {i j k b q : Nat} {z : Int64}
/-- behind the last question: the outcome is kept, and told on if it is another -/
theorem sPu_fin {K : Mm → Prop} {rl : Int32 → Mm → Prop} {R : Int32 → Int32 → Mm → (Mm → Prop) → Prop} {f : FS} (he : ∀ k, k < T.n → T.kd k = 4 → k + 1 = T.n) (h : Wb T m w) (I : Inv T w) (hq : w.qu.length < 24) (hk : k < T.n) (hs : T.ns ≤ k) (c2 : w.co k = 2) (cl : ∀ j, j ∈ w.rd k → w.co j = 0) (hx : x.toInt = (k : Int)) (a : FmAt m (T.F k) (T.P k).1 (T.P k).2.1 (T.P k).2.2 f) (ev : evP (T.P k) w.ou = (fout f, w.rd k))
    (kk : ∀ m' w', Wb T m' w' → Inv T w' → w'.co k = 0 → Sp3 T w w' k → FrP (Dy T (k + 1)) m m' → K m') : WPu_runOnce_J81 R 21 (T.A k) x (T.F k) rl K m := by
  have hn := h.1.1
  refine WPu_runOnce_J81_i (sFo_outcome a ?_)
  generalize hz : fout f = z
  rw [hz] at ev
  intro m43 e43 m46 e46
  have r0 := h.2.2.2.1 k hk
  have h43 := h.fld (b := k + 1) (w' := (fun j => if j = k then 0 else w.co j, w.ru, w.ou, w.bu, w.rd, w.qu)) hk e43 (by omega) ⟨by rw [e43, si_eq]; exact (if_pos rfl).symm, by rw [e43, si_ne (by omega)]; exact r0.2.1, by rw [e43, sl_ne (by omega)]; exact r0.2.2.1, by rw [e43, si_ne (by omega)]; exact r0.2.2.2.1⟩ (fun j e => ⟨if_neg e, rfl, rfl, rfl⟩) rfl rfl
  have r1 := h43.1.2.2.2.1 k hk
  have h46 := h43.1.fld (b := k + 1) (w' := (fun j => if j = k then 0 else w.co j, fun j => if j = k then w.ru k + 1 else w.ru j, w.ou, w.bu, w.rd, w.qu)) hk e46 (by omega) ⟨by rw [e46, si_ne (by omega)]; exact r1.1, by
      rw [e46, si_eq, r1.2.1]
      show nI (w.ru k) + 1 = nI (if k = k then w.ru k + 1 else w.ru k)
      rw [if_pos rfl]
      exact nI_1 _, by rw [e46, sl_ne (by omega)]; exact r1.2.2.1, by rw [e46, si_ne (by omega)]; exact r1.2.2.2.1⟩ (fun j e => ⟨rfl, if_neg e, rfl, rfl⟩) rfl rfl
  have f46 : FrP (Dy T (k + 1)) m m46 := ftr h43.2 h46.2
  have J121 : ∀ m50, Wb T m50 (fun j => if j = k then 0 else w.co j, fun j => if j = k then w.ru k + 1 else w.ru j, w.ou, w.bu, w.rd, w.qu) → FrP (Dy T (k + 1)) m m50 → WPu_runOnce_J121 R 21 (T.A k) x z rl K m50 := by
    intro m50 h50 f50
    have r5 := h50.2.2.2.1 k hk
    have J140 : WPu_runOnce_J140 R 21 (T.A k) x z rl K m50 := by
      refine WPu_runOnce_J140_i (fun m65 e65 m68 e68 => ?_)
      have h65 := h50.fld (b := k + 1) (w' := (fun j => if j = k then 0 else w.co j, fun j => if j = k then w.ru k + 1 else w.ru j, fun j => if j = k then z else w.ou j, w.bu, w.rd, w.qu)) hk e65 (by omega) ⟨by rw [e65, si_ne (by omega)]; exact r5.1, by rw [e65, si_ne (by omega)]; exact r5.2.1, by rw [e65, sl_eq]; exact (if_pos rfl).symm, by rw [e65, si_ne (by omega)]; exact r5.2.2.2.1⟩ (fun j e => ⟨rfl, rfl, if_neg e, rfl⟩) rfl rfl
      have r6 := h65.1.2.2.2.1 k hk
      have h68 := h65.1.fld (b := k + 1) (w' := (fun j => if j = k then 0 else w.co j, fun j => if j = k then w.ru k + 1 else w.ru j, fun j => if j = k then z else w.ou j, w.bu, w.rd, w.qu)) hk e68 (by omega) ⟨by rw [e68, si_ne (by omega)]; exact r6.1, by rw [e68, si_ne (by omega)]; exact r6.2.1, by rw [e68, sl_ne (by omega)]; exact r6.2.2.1, by rw [e68, si_ne (by omega)]; exact r6.2.2.2.1⟩ (fun j e => ⟨rfl, rfl, rfl, rfl⟩) rfl rfl
      have f68 : FrP (Dy T (k + 1)) m m68 := ftr f50 (ftr h65.2 h68.2)
      have rb : ∀ j, j < T.n → (bt (m68.iv 3 k) j = true ↔ k ∈ w.rd j) := fun j hj => by
        rw [h68.1.2.2.2.2.1 k (by omega) j (by omega), decide_eq_true_iff]
        exact ⟨fun e => e.2, fun e => ⟨hj, e⟩⟩
      refine ⟨1, h68.1.2.1.2.2.2.2.1, sWe_readersOf h68.1 hx (by omega) (sPu_colour h68.1 he hq (fun m' w' a1 a2 a3 a4 a5 a6 a7 a8 => ?_))⟩
      have ne0 : w.co k ≠ 0 := by rw [c2]; decide
      have hco : ∀ j, j < T.n → (j = k → w'.co j = 0) ∧ (j ≠ k → (True ∧ k ∈ w.rd j → w'.co j = 2) ∧ (¬ (True ∧ k ∈ w.rd j) → w'.co j = w.co j)) := by
        intro j hj
        have kj := rb j hj
        refine ⟨fun e => ?_, fun e => ⟨fun d => ?_, fun d => ?_⟩⟩
        · subst e
          rw [a2]
          have nk : ¬ (j ∈ w.rd j) := fun e => by have := (I.2.2.2.2 j hj).2 j e; omega
          unfold cl2
          rw [if_neg (fun e => nk (kj.mp e.2)), if_neg (fun e => by rw [b_0] at e; exact absurd e.2.2 (by decide))]
          exact if_pos rfl
        · rw [a2]
          unfold cl2
          rw [if_pos ⟨hj, kj.mpr d.2⟩]
        · rw [a2]
          unfold cl2
          rw [if_neg (fun e => d ⟨trivial, kj.mp e.2⟩), if_neg (fun e => by rw [b_0] at e; exact absurd e.2.2 (by decide))]
          exact if_neg e
      have hou : ∀ j, j < T.n → (j = k → w'.ou j = z) ∧ (j ≠ k → w'.ou j = w.ou j) := fun j _ => ⟨fun e => by rw [a4]; exact if_pos e, fun e => by rw [a4]; exact if_neg e⟩
      have hrd : ∀ j, j < T.n → w'.rd j = w.rd j := fun j _ => by rw [a6]; rfl
      have hqu : w'.qu = w.qu := by
        rw [a7]
        unfold cq
        refine if_neg (fun e => ?_)
        obtain ⟨g1, g2, g3, g4⟩ := e
        have hl : T.n - 1 < T.n := by omega
        by_cases el : T.n - 1 = k
        · have := (hco _ hl).1 el
          rw [a2] at this
          exact g4 this
        · by_cases d : k ∈ w.rd (T.n - 1)
          · have g3 : w.co (T.n - 1) = 0 := (if_neg el).symm.trans g3
            exact ne0 (I.2.2.2.1 _ hl g3 k d)
          · have := ((hco _ hl).2 el).2 (fun e => d e.2)
            rw [a2] at this
            rw [this] at g4
            exact g4 ((if_neg el).symm.trans g3)
      exact kk m' w' a1 (fin_inv I hk hs c2 cl ev hco hou hrd (fun c => absurd trivial c)) ((hco k hk).1 rfl) (fin_stp I hk c2 hco hou hrd (fun j _ => by rw [a5]; rfl) hqu (fun j _ => ⟨fun e => by rw [a3]; exact (if_pos e), fun e => by rw [a3]; exact (if_neg e)⟩)) (ftr f68 (fw a8 dc_dy))
    refine WPu_runOnce_J121_i ⟨fun c => ⟨fun _ => J140, fun _ => ?_⟩, fun _ => J140⟩
    rw [r5.2.2.1] at c
    have ez : z = w.ou k := (lg_cmp_eq _ _).mp c
    have hco : ∀ j, j < T.n → (j = k → (if j = k then (0 : Int32) else w.co j) = 0) ∧ (j ≠ k → (False ∧ k ∈ w.rd j → (if j = k then (0 : Int32) else w.co j) = 2) ∧ (¬ (False ∧ k ∈ w.rd j) → (if j = k then (0 : Int32) else w.co j) = w.co j)) := fun j _ => ⟨fun e => if_pos e, fun e => ⟨fun d => d.1.elim, fun _ => if_neg e⟩⟩
    have hou : ∀ j, j < T.n → (j = k → w.ou j = z) ∧ (j ≠ k → w.ou j = w.ou j) := fun j _ => ⟨fun e => by rw [e]; exact ez.symm, fun _ => rfl⟩
    exact kk m50 _ h50 (fin_inv (w' := (fun j => if j = k then 0 else w.co j, fun j => if j = k then w.ru k + 1 else w.ru j, w.ou, w.bu, w.rd, w.qu)) I hk hs c2 cl ev hco hou (fun _ _ => rfl) (fun _ => ez)) (if_pos rfl) (fin_stp (w' := (fun j => if j = k then 0 else w.co j, fun j => if j = k then w.ru k + 1 else w.ru j, w.ou, w.bu, w.rd, w.qu)) I hk c2 hco hou (fun _ _ => rfl) (fun _ _ => rfl) rfl (fun j _ => ⟨fun e => if_pos e, fun e => if_neg e⟩)) f50
  exact ⟨fun _ => ⟨1, h46.1.2.1.2.2.2.2.1, sWe_addToLog h46.1 (fun m85 h85 f85 => J121 m85 h85 (ftr f46 (fw f85 dl_dy)))⟩, fun _ => J121 m46 h46.1 f46⟩
theorem sPu_runOnce {K : Mm → Prop} (hR : RS T q) (G : Gd T) (he : ∀ k, k < T.n → T.kd k = 4 → k + 1 = T.n) (h : Wb T m w) (I : Inv T w) (hq : w.qu.length < 24) (hk : k < T.n) (hs : T.ns ≤ k) (c2 : w.co k = 2) (hx : x2.toInt = (k : Int)) (hd0 : 0 ≤ x3.toInt) (hd : x3.toInt + (k : Int) ≤ 24) (hkq : k ≤ q) (hbu : ∀ i, i < k → w.bu i = 0)
    (kk : ∀ m' w', Wb T m' w' → Inv T w' → w'.co k = 0 → Sp3 T w w' k → FrP (Dy T (k + 1)) m m' → K m') : WPu_runOnce (WPu_refresh_r 21 q) 21 (T.A k) x2 x3 m K := by
  have hn := h.1.1
  have e1 : (1 : Int32).toInt = 1 := rfl
  have e250 : (250 : Int32).toInt = 250 := rfl
  have ne0 : w.co k ≠ 0 := by rw [c2]; decide
  have Lp : ∀ (nr : Nat) (zz : Int32) (m2 : Mm) (w2 : Ws) (f : FS), zz.toInt = 250 - (nr : Int) → nr ≤ 250 → Wb T m2 w2 → Inv T w2 → w2.co k = 2 → (∀ j, j ∈ w2.rd k → w2.co j = 0) → Sp3 T w w2 k → FrP (Dy T (k + 1)) m m2 → FmAt m2 (T.F k) (T.P k).1 (T.P k).2.1 (T.P k).2.2 f →
      (∀ env' : Nat → Int64, (∀ j, j ∈ w2.rd k → env' j = w2.ou j) → evP (T.P k) env' = evl (T.P k).1 (T.P k).2.1 (T.P k).2.2 nr env' f (w2.rd k)) →
      WPu_runOnce_L42 (WPu_refresh_r 21 q) 21 (T.A k) x2 x3 (T.F k) K (nr + 1) zz m2 := by
    intro nr
    induction nr with
    | zero =>
      intro zz m2 w2 f hz hn2 h2 I2 d2 cl2' s2 f2 a2 pr
      refine WPu_runOnce_L42_i ⟨fun c => by omega, fun _ => ?_⟩
      have hq2 : w2.qu.length < 24 := by rw [s2.2.2.2.1]; exact hq
      exact sPu_fin he h2 I2 hq2 hk hs d2 cl2' hx a2 (pr w2.ou (fun _ _ => rfl)) (fun m' w' b1 b2 b3 b4 b5 => kk m' w' b1 b2 b3 (s2.tr b4) (ftr f2 b5))
    | succ nr ih =>
      intro zz m2 w2 f hz hn2 h2 I2 d2 cl2' s2 f2 a2 pr
      have hq2 : w2.qu.length < 24 := by rw [s2.2.2.2.1]; exact hq
      refine WPu_runOnce_L42_i ⟨fun _ => ?_, fun c => by omega⟩
      rcases hfg : fgo (T.P k).1 (T.P k).2.1 (T.P k).2.2 250 f with ⟨o, f'⟩
      refine sFo_goesOn a2 (fun m88 a88 f88 t88 => ?_)
      rw [hfg] at a88 t88 ⊢
      have a88 : FmAt m88 (T.F k) (T.P k).1 (T.P k).2.1 (T.P k).2.2 f' := a88
      have h88 : Wb T m88 w2 := h2.form (b := k + 1) (fw f88 (df_db hk hs (Nat.lt_succ_self k)))
      have g88 : FrP (Dy T (k + 1)) m m88 := ftr f2 (fw f88 (df_dy hk hs (Nat.lt_succ_self k)))
      cases o with
      | none =>
        refine ⟨fun _ => ?_, fun c => absurd rfl c⟩
        refine sPu_fin he h88 I2 hq2 hk hs d2 cl2' hx a88 ?_ (fun m' w' b1 b2 b3 b4 b5 => kk m' w' b1 b2 b3 (s2.tr b4) (ftr g88 b5))
        rw [pr w2.ou (fun _ _ => rfl)]
        unfold evl
        rw [hfg]
      | some sd =>
        refine ⟨fun c => absurd (show (1 : Int32) = 0 from c) (by decide), fun _ => ?_⟩
        obtain ⟨g1, g2, g3⟩ := fgo_good (G k hk hs) 250 f sd (by rw [hfg])
        obtain ⟨t1, t2⟩ := t88 sd.1 sd.2 rfl
        rw [if_pos g1] at t2
        unfold WFo_asked
        rw [t1]
        have hj : sd.2.toInt.toNat < k := by omega
        have bu2 : ∀ i, i < k → w2.bu i = 0 := fun i hi => (s2.2.2.1 i (by omega)).trans (hbu i hi)
        refine sPu_outcomeRead (j := sd.2.toInt.toNat) hR he h88 I2 hq2 hk hs d2 hx hj (by omega) hd0 hd hkq bu2 t2 (fun m96 w96 h96 I96 c96 s96 f96 => ?_)
        have a96 := a88.fr f96 (fun p c p1 p2 => dy_form h.1 hk hs (Nat.le_refl k) p c p1 p2)
        refine sFo_give a96 (fun m99 a99 f99 => ?_)
        have h99 : Wb T m99 w96 := h96.form (b := k + 1) (fw f99 (df_db hk hs (Nat.lt_succ_self k)))
        have k96 := s96.2.1 k hk hj
        have rd96 : w96.rd k = radd (w2.rd k) sd.2.toInt.toNat := k96.2.1.trans (if_pos rfl)
        have d96 : w96.co k = 2 := by
          rcases k96.2.2 with e | ⟨e, _⟩
          · exact e.trans d2
          · have e : w2.co k = 1 := e
            rw [d2] at e
            exact absurd e (by decide)
        have old : ∀ i, i ∈ w2.rd k → w96.co i = 0 ∧ w96.ou i = w2.ou i := fun i hi => by
          have hik := (I2.2.2.2.2 k hk).2 i hi
          have := s96.1 i (by omega) (cl2' i hi)
          exact ⟨this.1, this.2.1⟩
        refine ih (zz + 1) m99 w96 _ (by rw [i32_add rfl e1 (by omega)]; omega) (by omega) h99 I96 d96 (fun i hi => ?_) (s2.tr ((sp_sr (by rw [d2]; decide)).tr (s96.up (by omega)))) (ftr g88 (ftr (fw f96 (dy_up (Nat.le_succ k))) (fw f99 (df_dy hk hs (Nat.lt_succ_self k))))) a99 (fun env' hE => ?_)
        · rw [rd96] at hi
          rcases radd_mem hi with hi | hi
          · exact (old i hi).1
          · rw [hi]
            exact c96
        · rw [rd96] at hE ⊢
          rw [pr env' (fun i hi => (hE i (radd_sub i hi)).trans (old i hi).2)]
          show evl (T.P k).1 (T.P k).2.1 (T.P k).2.2 (nr + 1) env' f (w2.rd k) = _
          unfold evl
          rw [hfg]
          show evl (T.P k).1 (T.P k).2.1 (T.P k).2.2 nr env' (fgive (T.P k).2.2 f' (env' sd.2.toInt.toNat)) (radd (w2.rd k) sd.2.toInt.toNat) = _
          rw [hE _ radd_self]
          cases nr <;> rfl
  have go : ∀ m4, Wb T m4 (w.sr k []) → FrP (DR T k) m m4 → WPu_runOnce_J22 (WPu_refresh_r 21 q) 21 (T.A k) x2 x3 K m4 := by
    intro m4 h4 f4
    obtain ⟨b1, b2, b3⟩ := (h4.2.2.1 k hk).2.2.2.2.2.2 hs
    refine WPu_runOnce_J22_i ⟨fun e => (by rw [b2] at e; cases e), fun p14 e14 => ?_⟩
    obtain rfl : T.F k = p14 := by rw [b2] at e14; injection e14
    refine sFo_start b3 (fun m17 a17 f17 => ⟨251, Lp 250 0 m17 (w.sr k []) f00 rfl (Nat.le_refl _) (h4.form (b := k + 1) (fw f17 (df_db hk hs (Nat.lt_succ_self k)))) (inv_sr I hs c2 ⟨List.nodup_nil, fun j hj => absurd hj List.not_mem_nil⟩) c2 (fun j hj => ?_) (sp_sr ne0) (ftr (fw f4 (dr_dy hk)) (fw f17 (df_dy hk hs (Nat.lt_succ_self k)))) a17 (fun env' _ => ?_)⟩)
    · rw [show (w.sr k []).rd k = [] from if_pos rfl] at hj
      exact absurd hj List.not_mem_nil
    · rw [show (w.sr k []).rd k = [] from if_pos rfl]
      rfl
  refine ⟨1, h.2.1.2.2.2.2.1, sWe_clearReads h hx hk (fun j hj => by have := (I.2.2.2.2 k hk).2 j hj; omega) (fun m4 h4 f4 => ⟨fun _ => sPu_disposeOwned h4 (by omega) (go m4 h4 f4), fun _ => go m4 h4 f4⟩)⟩
end RU
