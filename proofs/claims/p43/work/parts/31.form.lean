/-! a formula at work: place, failure, stack -/
abbrev FS : Type := Int32 × Int64 × List Int32
def jn (s x y : Int32) : Int32 := if s.toInt = 0 then x + y else if s.toInt = 1 then x - y else if s.toInt = 2 then x * y else if s.toInt = 3 then (if y = 0 then 0 else x / y) else if s.toInt = 4 then (if y = 0 then 0 else x - x / y * y) else if s.toInt = 5 then (if x.toInt < y.toInt then 1 else 0) else if s.toInt = 6 then (if x = y then 1 else 0) else if s.toInt = 7 then (if y.toInt < x.toInt then 1 else 0) else if y.toInt < x.toInt then x else y
def fjoin (cap : Nat) (s : Int32) (f : FS) : FS := if llast f.2.2 = 0 ∧ (s = 3 ∨ s = 4) then (f.1, 4000000001, f.2.2.dropLast.dropLast) else (f.1, f.2.1, ladd cap f.2.2.dropLast.dropLast (jn s (llast f.2.2.dropLast) (llast f.2.2)))
def fstep (cap : Nat) (s d : Int32) (f : FS) : FS := if s.toInt = 9 then (f.1, f.2.1, ladd cap f.2.2.dropLast (-(llast f.2.2))) else if s.toInt = 10 then (f.1, f.2.1, ladd cap f.2.2 d) else if s.toInt = 13 then (d, f.2.1, f.2.2) else if s.toInt = 14 then (if llast f.2.2 = 0 then (d, f.2.1, f.2.2.dropLast) else (f.1, f.2.1, f.2.2.dropLast)) else fjoin cap s f
def fgo (sl dl : List Int32) (cap : Nat) : Nat → FS → Option (Int32 × Int32) × FS
  | 0, f => (none, f)
  | n + 1, f => if f.1.toInt < (sl.length : Int) ∧ f.2.1 = 0 then (if lat sl f.1 = 11 ∨ lat sl f.1 = 12 then (some (lat sl f.1, lat dl f.1), (f.1 + 1, f.2.1, f.2.2)) else fgo sl dl cap n (fstep cap (lat sl f.1) (lat dl f.1) (f.1 + 1, f.2.1, f.2.2))) else (none, f)
abbrev isF (v : Int64) : Prop := (4000000000 : Int64) < v
def fgive (cap : Nat) (f : FS) (v : Int64) : FS := if isF v then (f.1, v, f.2.2) else (f.1, f.2.1, ladd cap f.2.2 v.toInt32)
def fout (f : FS) : Int64 := if f.2.1 = 0 then (llast f.2.2).toInt64 else f.2.1
/-- a formula's own places: at F its fields, at F + 1 .. F + 8 its four rows -/
def FmS (m : Mm) (F : Nat) (sl dl : List Int32) (cap : Nat) : Prop := m.rv F 0 = F + 2 ∧ m.rv F 1 = F + 4 ∧ m.rv F 3 = F + 8 ∧ NumAt m (F + 1) (F + 2) sl.length sl ∧ NumAt m (F + 3) (F + 4) dl.length dl ∧ m.rv (F + 7) 0 = F + 9 ∧ m.ln (F + 8) = cap ∧ cap ≤ 1000
def FmAt (m : Mm) (F : Nat) (sl dl : List Int32) (cap : Nat) (f : FS) : Prop := FmS m F sl dl cap ∧ m.iv F 4 = f.1 ∧ m.lg F 5 = f.2.1 ∧ NumAt m (F + 7) (F + 8) cap f.2.2
def DF (F : Nat) : Nat → Nat → Prop := fun p c => (p = F ∧ 4 ≤ c ∧ c ≤ 7) ∨ (p = F + 7 ∧ (c = 1 ∨ c = 2)) ∨ p = F + 8
section FO
variable {D : Nat → Nat → Prop} {m m' : Mm} {F cap : Nat} {sl dl : List Int32} {f : FS} {x y s d : Int32} {v : Int64}
theorem dn_df : ∀ p c, DN (F + 7) (F + 8) p c → DF F p c := fun p c h => by
  unfold DN at h
  unfold DF
  omega
theorem FmS.fr (h : FmS m F sl dl cap) (f : FrP D m m') (hd : ∀ p c, F ≤ p → p ≤ F + 8 → D p c → DF F p c) : FmS m' F sl dl cap := by
  have g : ∀ p c, F ≤ p → p ≤ F + 8 → ¬ DF F p c → ¬ D p c := fun p c a b n e => n (hd p c a b e)
  obtain ⟨h0, h1, h3, n1, n2, r, l, cp⟩ := h
  refine ⟨(frv f (g _ _ (by omega) (by omega) (by unfold DF; omega))).trans h0, (frv f (g _ _ (by omega) (by omega) (by unfold DF; omega))).trans h1, (frv f (g _ _ (by omega) (by omega) (by unfold DF; omega))).trans h3, n1.fr f (g _ _ (by omega) (by omega) (by unfold DF; omega)) (g _ _ (by omega) (by omega) (by unfold DF; omega)) (fun c => g _ _ (by omega) (by omega) (by unfold DF; omega)), n2.fr f (g _ _ (by omega) (by omega) (by unfold DF; omega)) (g _ _ (by omega) (by omega) (by unfold DF; omega)) (fun c => g _ _ (by omega) (by omega) (by unfold DF; omega)), (frv f (g _ _ (by omega) (by omega) (by unfold DF; omega))).trans r, (fln f).trans l, cp⟩
/-- nothing of it is touched -/
theorem FmAt.fr (h : FmAt m F sl dl cap f) (fr : FrP D m m') (hd : ∀ p c, F ≤ p → p ≤ F + 8 → ¬ D p c) : FmAt m' F sl dl cap f := by
  obtain ⟨h1, h2, h3, h4⟩ := h
  exact ⟨h1.fr fr (fun p c a b e => absurd e (hd p c a b)), (fiv fr (hd _ _ (by omega) (by omega))).trans h2, (flg fr (hd _ _ (by omega) (by omega))).trans h3, h4.fr fr (hd _ _ (by omega) (by omega)) (hd _ _ (by omega) (by omega)) (fun c => hd _ _ (by omega) (by omega))⟩
/-- its stack changes -/
theorem FmAt.sk {k' : List Int32} (h : FmAt m F sl dl cap f) (n : NumAt m' (F + 7) (F + 8) cap k') (fr : FrP (DN (F + 7) (F + 8)) m m') : FmAt m' F sl dl cap (f.1, f.2.1, k') := by
  obtain ⟨h1, h2, h3, h4⟩ := h
  exact ⟨h1.fr fr (fun p c _ _ e => dn_df p c e), (fiv fr (by unfold DN; omega)).trans h2, (flg fr (by unfold DN; omega)).trans h3, n⟩
/-- a field of its own changes: place, or failure -/
theorem FmAt.pl (h : FmAt m F sl dl cap f) (e : m' = m.st F 4 (.int x)) : FmAt m' F sl dl cap (x, f.2.1, f.2.2) := by
  have fr : FrP (fun p c => p = F ∧ c = 4) m m' := fste e ⟨rfl, rfl⟩
  obtain ⟨h1, h2, h3, h4⟩ := h
  refine ⟨h1.fr fr (fun p c _ _ e => by unfold DF; omega), by rw [e, si_eq], (flg fr (by omega)).trans h3, h4.fr fr (by omega) (by omega) (fun c => by omega)⟩
theorem FmAt.fa (h : FmAt m F sl dl cap f) (e : m' = m.st F 5 (.long v)) : FmAt m' F sl dl cap (f.1, v, f.2.2) := by
  have fr : FrP (fun p c => p = F ∧ c = 5) m m' := fste e ⟨rfl, rfl⟩
  obtain ⟨h1, h2, h3, h4⟩ := h
  refine ⟨h1.fr fr (fun p c _ _ e => by unfold DF; omega), (fiv fr (by omega)).trans h2, by rw [e, sl_eq], h4.fr fr (by omega) (by omega) (fun c => by omega)⟩
theorem FmAt.ot {b : Nat} {w : Value} (h : FmAt m F sl dl cap f) (e : m' = m.st F b w) (hb : b = 6 ∨ b = 7) : FmAt m' F sl dl cap f := by
  have fr : FrP (fun p c => p = F ∧ (c = 6 ∨ c = 7)) m m' := fste e ⟨rfl, hb⟩
  obtain ⟨h1, h2, h3, h4⟩ := h
  refine ⟨h1.fr fr (fun p c _ _ e => by unfold DF; omega), (fiv fr (by omega)).trans h2, (flg fr (by omega)).trans h3, h4.fr fr (by omega) (by omega) (fun c => by omega)⟩
theorem sPS_joined {K : Mm → Int32 → Prop} (k : K m (jn s x y)) : WPS_joined s x y m K := by
  unfold jn at k
  unfold WPS_joined
  refine ⟨fun c => by rw [if_pos c] at k; exact k, fun c => ?_⟩
  rw [if_neg c] at k
  refine ⟨fun c => by rw [if_pos c] at k; exact k, fun c => ?_⟩
  rw [if_neg c] at k
  refine ⟨fun c => by rw [if_pos c] at k; exact k, fun c => ?_⟩
  rw [if_neg c] at k
  refine ⟨fun c => ?_, fun c => ?_⟩
  · rw [if_pos c] at k
    exact ⟨fun c => by rw [if_pos c] at k; exact k, fun c => ⟨c, by rw [if_neg c] at k; exact k⟩⟩
  rw [if_neg c] at k
  refine ⟨fun c => ?_, fun c => ?_⟩
  · rw [if_pos c] at k
    exact ⟨fun c => by rw [if_pos c] at k; exact k, fun c => ⟨c, by rw [if_neg c] at k; exact k⟩⟩
  rw [if_neg c] at k
  refine ⟨fun c => ?_, fun c => ?_⟩
  · rw [if_pos c] at k
    exact ⟨fun c => by rw [if_pos c] at k; exact k, fun c => by rw [if_neg c] at k; exact k⟩
  rw [if_neg c] at k
  refine ⟨fun c => ?_, fun c => ?_⟩
  · rw [if_pos c] at k
    exact ⟨fun c => by rw [if_pos c] at k; exact k, fun c => by rw [if_neg c] at k; exact k⟩
  rw [if_neg c] at k
  refine ⟨fun c => ?_, fun c => ?_⟩
  · rw [if_pos c] at k
    exact ⟨fun c => by rw [if_pos c] at k; exact k, fun c => by rw [if_neg c] at k; exact k⟩
  rw [if_neg c] at k
  exact ⟨fun c => by rw [if_pos c] at k; exact k, fun c => by rw [if_neg c] at k; exact k⟩
theorem sFo_join {K : Mm → Prop} (h : FmAt m F sl dl cap f) (k : ∀ m', FmAt m' F sl dl cap (fjoin cap s f) → FrP (DF F) m m' → K m') : WFo_join F s m K := by
  refine ⟨F + 7, h.1.2.2.1, sNu_take h.2.2.2 (fun m4 n4 f4 => ?_)⟩
  have h4 := h.sk n4 f4
  refine ⟨F + 7, h4.1.2.2.1, sNu_take n4 (fun m10 n10 f10 => ?_)⟩
  have h10 := h4.sk n10 f10
  have fr : FrP (DF F) m m10 := ftr (fw f4 dn_df) (fw f10 dn_df)
  have go : ∀ m', NumAt m' (F + 7) (F + 8) cap (ladd cap f.2.2.dropLast.dropLast (jn s (llast f.2.2.dropLast) (llast f.2.2))) → FrP (DN (F + 7) (F + 8)) m10 m' → ¬ (llast f.2.2 = 0 ∧ (s = 3 ∨ s = 4)) → K m' := by
    intro m' n' f' c
    refine k m' ?_ (ftr fr (fw f' dn_df))
    have h' := h10.sk n' f'
    rw [show fjoin cap s f = _ from if_neg c]
    exact h'
  have fl : ∀ m', m' = m10.st F 5 (.long 4000000001) → (llast f.2.2 = 0 ∧ (s = 3 ∨ s = 4)) → K m' := by
    intro m' e c
    refine k m' ?_ (ftr fr (fste e (Or.inl ⟨rfl, by omega, by omega⟩)))
    have h' := h10.fa e
    rw [show fjoin cap s f = _ from if_pos c]
    exact h'
  refine ⟨fun c => ⟨fun c2 m15 e => fl m15 e ⟨c, Or.inl c2⟩, fun c2 => ⟨fun c3 m19 e => fl m19 e ⟨c, Or.inr c3⟩, fun c3 => ?_⟩⟩, fun c => ?_⟩
  · refine ⟨F + 7, h10.1.2.2.1, sPS_joined (sNu_add n10 (fun m' n' f' => go m' n' f' (fun e => e.2.elim c2 c3)))⟩
  · exact ⟨F + 7, h10.1.2.2.1, sPS_joined (sNu_add n10 (fun m' n' f' => go m' n' f' (fun e => c e.1)))⟩
theorem sFo_takeStep {K : Mm → Prop} (h : FmAt m F sl dl cap f) (k : ∀ m', FmAt m' F sl dl cap (fstep cap s d f) → FrP (DF F) m m' → K m') : WFo_takeStep F s d m K := by
  unfold fstep at k
  unfold WFo_takeStep
  refine ⟨fun c => ?_, fun c => ?_⟩
  · rw [if_pos c] at k
    refine ⟨F + 7, h.1.2.2.1, sNu_take h.2.2.2 (fun m4 n4 f4 => sNu_add n4 (fun m5 n5 f5 => ?_))⟩
    exact k m5 ((h.sk n4 f4).sk n5 f5) (ftr (fw f4 dn_df) (fw f5 dn_df))
  rw [if_neg c] at k
  refine ⟨fun c => ?_, fun c => ?_⟩
  · rw [if_pos c] at k
    exact ⟨F + 7, h.1.2.2.1, sNu_add h.2.2.2 (fun m5 n5 f5 => k m5 (h.sk n5 f5) (fw f5 dn_df))⟩
  rw [if_neg c] at k
  refine ⟨fun c => ?_, fun c => ?_⟩
  · rw [if_pos c] at k
    exact fun m' e => k m' (h.pl e) (fste e (Or.inl ⟨rfl, by omega, by omega⟩))
  rw [if_neg c] at k
  refine ⟨fun c => ?_, fun c => ?_⟩
  · rw [if_pos c] at k
    refine ⟨F + 7, h.1.2.2.1, sNu_take h.2.2.2 (fun m4 n4 f4 => ⟨fun c2 m' e => ?_, fun c2 => ?_⟩)⟩
    · rw [if_pos c2] at k
      exact k m' ((h.sk n4 f4).pl e) (ftr (fw f4 dn_df) (fste e (Or.inl ⟨rfl, by omega, by omega⟩)))
    · rw [if_neg c2] at k
      exact k m4 (h.sk n4 f4) (fw f4 dn_df)
  rw [if_neg c] at k
  exact sFo_join h k
theorem sFo_goesOn {K : Mm → Int32 → Prop} (h : FmAt m F sl dl cap f) (k : ∀ m', FmAt m' F sl dl cap (fgo sl dl cap 250 f).2 → FrP (DF F) m m' → (∀ st de, (fgo sl dl cap 250 f).1 = some (st, de) → m'.iv F 6 = de ∧ m'.iv F 7 = if st = 11 then 1 else 0) → K m' (match (fgo sl dl cap 250 f).1 with
    | some _ => 1
    | none => 0)) : WFo_goesOn F m K := by
  have L : ∀ (n : Nat) (z : Int32) (m2 : Mm) (f : FS), z.toInt = 250 - (n : Int) → n ≤ 250 → FmAt m2 F sl dl cap f → FrP (DF F) m m2 → (∀ m', FmAt m' F sl dl cap (fgo sl dl cap n f).2 → FrP (DF F) m m' → (∀ st de, (fgo sl dl cap n f).1 = some (st, de) → m'.iv F 6 = de ∧ m'.iv F 7 = if st = 11 then 1 else 0) → K m' (match (fgo sl dl cap n f).1 with
      | some _ => 1
      | none => 0)) → WFo_goesOn_L2 F K (n + 1) z m2 := by
    intro n
    induction n with
    | zero =>
      intro z m2 f hz hn h2 f2 k
      refine WFo_goesOn_L2_i ⟨fun c => ?_, fun c => k m2 h2 f2 (fun st de e => by cases e)⟩
      have e1 : (250 : Int32).toInt = 250 := rfl
      omega
    | succ n ih =>
      intro z m2 f hz hn h2 f2 k
      have e1 : (250 : Int32).toInt = 250 := rfl
      have e3 : (1 : Int32).toInt = 1 := rfl
      refine WFo_goesOn_L2_i ⟨fun c => ?_, fun c => by omega⟩
      refine ⟨F + 1, h2.1.1, sNu_size h2.1.2.2.2.1 ⟨fun c2 => ⟨fun c3 => ?_, fun c3 => ?_⟩, fun c2 => ?_⟩⟩
      · rw [i32_nat (by have := h2.1.2.2.2.1.1; omega), h2.2.1] at c2
        have c3 := (lg_cmp_eq _ _).mp c3
        rw [h2.2.2.1] at c3
        refine ⟨F + 1, h2.1.1, sNu_at h2.1.2.2.2.1 ⟨F + 3, h2.1.2.1, sNu_at h2.1.2.2.2.2.1 ?_⟩⟩
        intro m31 e31
        rw [h2.2.1] at e31 ⊢
        have h31 := h2.pl e31
        have f31 : FrP (DF F) m m31 := ftr f2 (fste e31 (Or.inl ⟨rfl, by omega, by omega⟩))
        have gg : fgo sl dl cap (n + 1) f = if lat sl f.1 = 11 ∨ lat sl f.1 = 12 then (some (lat sl f.1, lat dl f.1), (f.1 + 1, f.2.1, f.2.2)) else fgo sl dl cap n (fstep cap (lat sl f.1) (lat dl f.1) (f.1 + 1, f.2.1, f.2.2)) := if_pos ⟨c2, c3⟩
        have ask : ∀ (m35 m39 : Mm) (t : Int32), (lat sl f.1 = 11 ∨ lat sl f.1 = 12) → m35 = m31.st F 6 (.int (lat dl f.1)) → m39 = m35.st F 7 (.int t) → (t = if lat sl f.1 = 11 then 1 else 0) → K m39 1 := by
          intro m35 m39 t co e35 e39 et
          rw [gg, if_pos co] at k
          refine k m39 ((h31.ot e35 (Or.inl rfl)).ot e39 (Or.inr rfl)) (ftr f31 (ftr (fste e35 (Or.inl ⟨rfl, by omega, by omega⟩)) (fste e39 (Or.inl ⟨rfl, by omega, by omega⟩)))) (fun st de e => ?_)
          obtain ⟨rfl, rfl⟩ : lat sl f.1 = st ∧ lat dl f.1 = de := by
            have e := Option.some.inj e
            exact ⟨congrArg Prod.fst e, congrArg Prod.snd e⟩
          exact ⟨by rw [e39, si_ne (by omega), e35, si_eq], by rw [e39, si_eq]; exact et⟩
        refine ⟨fun c4 m35 e35 => ⟨fun c5 m39 e39 => ?_, fun c5 m39 e39 => ?_⟩, fun c4 => ⟨fun c5 m35 e35 => ⟨fun c6 m39 e39 => ?_, fun c6 m39 e39 => ?_⟩, fun c5 => ?_⟩⟩
        · exact ask m35 m39 1 (Or.inl c4) e35 e39 (if_pos c5).symm
        · exact absurd c4 c5
        · exact absurd c6 c4
        · exact ask m35 m39 0 (Or.inr c5) e35 e39 (if_neg c6).symm
        · rw [gg, if_neg (fun e => e.elim c4 c5)] at k
          refine sFo_takeStep h31 (fun m' h' f' => ?_)
          exact ih (z + 1) m' _ (by rw [i32_add rfl rfl (by omega)]; omega) (by omega) h' (ftr f31 f') k
      · have gg : fgo sl dl cap (n + 1) f = (none, f) := if_neg (fun e => c3 ((lg_cmp_eq _ _).mpr (h2.2.2.1.trans e.2)))
        rw [gg] at k
        exact k m2 h2 f2 (fun st de e => by cases e)
      · rw [i32_nat (by have := h2.1.2.2.2.1.1; omega), h2.2.1] at c2
        have gg : fgo sl dl cap (n + 1) f = (none, f) := if_neg (fun e => c2 e.1)
        rw [gg] at k
        exact k m2 h2 f2 (fun st de e => by cases e)
  exact ⟨251, L 250 0 m f rfl (Nat.le_refl _) h frf k⟩
theorem sPS_isFail {K : Mm → Int32 → Prop} (k1 : isF v → K m 1) (k0 : ¬ isF v → K m 0) : WPS_isFail v m K := by
  have e : (0 < (lg_cmp v 4000000000).toInt) ↔ isF v := by
    have h := lg_cmp_gt v 4000000000
    rw [Int32.lt_iff_toInt_lt] at h
    exact h
  exact ⟨fun c => k1 (e.mp c), fun c => k0 (fun h => c (e.mpr h))⟩
theorem sFo_start {K : Mm → Prop} (h : FmS m F sl dl cap) (k : ∀ m', FmAt m' F sl dl cap (0, 0, []) → FrP (DF F) m m' → K m') : WFo_start F m K := by
  unfold WFo_start
  intro m1 e1 m4 e4
  have f4 : FrP (fun p c => p = F ∧ (c = 4 ∨ c = 5)) m m4 := ftr (fste e1 ⟨rfl, Or.inl rfl⟩) (fste e4 ⟨rfl, Or.inr rfl⟩)
  have h4 : FmS m4 F sl dl cap := h.fr f4 (fun p c _ _ e => by unfold DF; omega)
  refine ⟨F + 7, h4.2.2.1, sNu_clear ⟨by omega, h4.2.2.2.2.2.2.2⟩ h4.2.2.2.2.2.1 h4.2.2.2.2.2.2.1 (fun m' n' f' => ?_)⟩
  refine k m' ⟨h4.fr f' (fun p c _ _ e => dn_df p c e), ?_, ?_, n'⟩ (ftr (fw f4 (fun p c e => by unfold DF; omega)) (fw f' dn_df))
  · rw [fiv f' (by unfold DN; omega), e4, si_ne (by omega), e1, si_eq]
  · rw [flg f' (by unfold DN; omega), e4, sl_eq]
theorem sFo_give {K : Mm → Prop} (h : FmAt m F sl dl cap f) (k : ∀ m', FmAt m' F sl dl cap (fgive cap f v) → FrP (DF F) m m' → K m') : WFo_give F v m K := by
  refine sPS_isFail (fun c => ⟨fun c2 => ?_, fun c2 m' e => ?_⟩) (fun c => ⟨fun c2 => ?_, fun c2 => absurd rfl c2⟩)
  · cases c2
  · rw [show fgive cap f v = _ from if_pos c] at k
    exact k m' (h.fa e) (fste e (Or.inl ⟨rfl, by omega, by omega⟩))
  · rw [show fgive cap f v = _ from if_neg c] at k
    exact ⟨F + 7, h.1.2.2.1, sNu_add h.2.2.2 (fun m' n' f' => k m' (h.sk n' f') (fw f' dn_df))⟩
theorem sFo_outcome {K : Mm → Int64 → Prop} (h : FmAt m F sl dl cap f) (k : K m (fout f)) : WFo_outcome F m K := by
  unfold fout at k
  unfold WFo_outcome
  rw [h.2.2.1]
  refine ⟨fun c => ?_, fun c => ?_⟩
  · rw [if_pos ((lg_cmp_eq _ _).mp c)] at k
    exact ⟨F + 7, h.1.2.2.1, sNu_last h.2.2.2 k⟩
  · rw [if_neg (fun e => c ((lg_cmp_eq _ _).mpr e))] at k
    exact k
end FO
