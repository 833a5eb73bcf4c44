/-! memory that grows -/
/-- what lies below n is the same -/
def Sm (n : Nat) (m m' : Mm) : Prop := (∀ p c, p < n → m'.vv p c = m.vv p c) ∧ ∀ p, p < n → m'.ln p = m.ln p
def FrG (D : Nat → Nat → Prop) (m m' : Mm) : Prop := (∀ p c, p < m.nx → ¬ D p c → m'.vv p c = m.vv p c) ∧ (∀ p, p < m.nx → m'.ln p = m.ln p) ∧ m.nx ≤ m'.nx
def D0 : Nat → Nat → Prop := fun _ _ => False
section GR
variable {D E : Nat → Nat → Prop} {m m' m1 m2 : Mm} {n p c q a b N k A F cap cp : Nat} {l sl dl : List Int32} {x y cs : Int32} {r : Rd} {v : Value} {f : Nat → Value} {T : Tp} {w : Ws}
theorem FrG.of (h : FrP D m m') : FrG D m m' := ⟨fun p c _ n => h.1 p c n, fun p _ => h.2.1 p, Nat.le_of_eq h.2.2.symm⟩
theorem FrG.tr (h1 : FrG D m m1) (h2 : FrG D m1 m') : FrG D m m' := ⟨fun p c hp n => (h2.1 p c (Nat.lt_of_lt_of_le hp h1.2.2) n).trans (h1.1 p c hp n), fun p hp => (h2.2.1 p (Nat.lt_of_lt_of_le hp h1.2.2)).trans (h1.2.1 p hp), Nat.le_trans h1.2.2 h2.2.2⟩
theorem FrG.wk (h : FrG D m m') (hD : ∀ p c, p < m.nx → D p c → E p c) : FrG E m m' := ⟨fun p c hp n => h.1 p c hp (fun d => n (hD p c hp d)), h.2⟩
/-- what comes later may touch what is new -/
theorem FrG.tn (h1 : FrG D m m1) (h2 : FrG E m1 m') (hE : ∀ p c, p < m.nx → E p c → D p c) : FrG D m m' := ⟨fun p c hp n => (h2.1 p c (Nat.lt_of_lt_of_le hp h1.2.2) (fun e => n (hE p c hp e))).trans (h1.1 p c hp n), fun p hp => (h2.2.1 p (Nat.lt_of_lt_of_le hp h1.2.2)).trans (h1.2.1 p hp), Nat.le_trans h1.2.2 h2.2.2⟩
theorem FrG.nw : FrG D m (m.nw f k) := ⟨fun p c hp _ => if_neg (Nat.ne_of_lt hp), fun p hp => if_neg (Nat.ne_of_lt hp), Nat.le_succ _⟩
theorem FrG.nwe (e : m' = m.nw f k) : FrG D m m' := by subst e; exact FrG.nw
/-- as a frame of what lies below, and the same below -/
theorem FrG.cut (h : FrG D m m') : ∃ m2, FrP D m m2 ∧ Sm m.nx m2 m' := by
  refine ⟨(fun p c => if p < m.nx then m'.1 p c else m.1 p c, m.2.1, m.2.2), ⟨fun p c hd => ?_, fun _ => rfl, rfl⟩, fun p c hp => ?_, fun p hp => h.2.1 p hp⟩
  · show (if p < m.nx then m'.1 p c else m.1 p c) = m.1 p c
    split
    · rename_i hp
      exact h.1 p c hp hd
    · rfl
  · show m'.1 p c = (if p < m.nx then m'.1 p c else m.1 p c)
    rw [if_pos hp]
theorem Sm.iv (h : Sm n m m') (hp : p < n) : m'.iv p c = m.iv p c := congrArg vI (h.1 p c hp)
theorem Sm.lg (h : Sm n m m') (hp : p < n) : m'.lg p c = m.lg p c := congrArg vL (h.1 p c hp)
theorem Sm.rv (h : Sm n m m') (hp : p < n) : m'.rv p c = m.rv p c := congrArg vR (h.1 p c hp)
theorem Sm.ln (h : Sm n m m') (hp : p < n) : m'.ln p = m.ln p := h.2 p hp
theorem FrG.iv (h : FrG D m m') (hp : p < m.nx) (nd : ¬ D p c) : m'.iv p c = m.iv p c := congrArg vI (h.1 p c hp nd)
theorem FrG.lg (h : FrG D m m') (hp : p < m.nx) (nd : ¬ D p c) : m'.lg p c = m.lg p c := congrArg vL (h.1 p c hp nd)
theorem FrG.rv (h : FrG D m m') (hp : p < m.nx) (nd : ¬ D p c) : m'.rv p c = m.rv p c := congrArg vR (h.1 p c hp nd)
theorem FrG.ln (h : FrG D m m') (hp : p < m.nx) : m'.ln p = m.ln p := h.2.1 p hp
theorem NumAt.sm (h : NumAt m q a N l) (s : Sm n m m') (hq : q < n) (ha : a < n) : NumAt m' q a N l := ⟨h.1, (s.rv hq).trans h.2.1, (s.ln ha).trans h.2.2.1, (s.iv hq).trans h.2.2.2.1, fun i hi => (s.iv ha).trans (h.2.2.2.2 i hi)⟩
theorem NumAt.gr (h : NumAt m q a N l) (f : FrG D m m') (hq : q < m.nx) (ha : a < m.nx) (h0 : ¬ D q 0) (h1 : ¬ D q 1) (hA : ∀ c, ¬ D a c) : NumAt m' q a N l := by
  obtain ⟨m2, f2, s2⟩ := f.cut
  exact (h.fr f2 h0 h1 hA).sm s2 hq ha
theorem RA.sm (h : RA m cs r) (s : Sm n m m') (hn : 40 ≤ n) : RA m' cs r := by
  obtain ⟨⟨n1, n2, ⟨l3, n3⟩, n4, ⟨l5, n5⟩, n6, l7, n7⟩, b⟩ := h
  refine ⟨⟨n1.sm s (by omega) (by omega), n2.sm s (by omega) (by omega), ⟨l3, n3.sm s (by omega) (by omega)⟩, n4.sm s (by omega) (by omega), ⟨l5, n5.sm s (by omega) (by omega)⟩, n6.sm s (by omega) (by omega), l7, n7.sm s (by omega) (by omega)⟩, ?_⟩
  have g : 25 < n := by omega
  rw [s.rv g, s.rv g, s.rv g, s.rv g, s.rv g, s.rv g, s.rv g, s.iv g, s.iv g, s.iv g, s.iv g, s.iv g, s.iv g]
  exact b
theorem FmS.sm (h : FmS m F sl dl cap) (s : Sm n m m') (hn : F + 8 < n) : FmS m' F sl dl cap := by
  obtain ⟨h0, h1, h3, n1, n2, r, l, cp⟩ := h
  exact ⟨(s.rv (by omega)).trans h0, (s.rv (by omega)).trans h1, (s.rv (by omega)).trans h3, n1.sm s (by omega) (by omega), n2.sm s (by omega) (by omega), (s.rv (by omega)).trans r, (s.ln (by omega)).trans l, cp⟩
theorem StF.sm (h : StF T m) (s : Sm n m m') (hn : 25 ≤ n) : StF T m' := by
  obtain ⟨⟨a1, a2, a3⟩, ⟨a4, a5⟩, a6, ⟨a7, a8, a9⟩, b1, b2, b3, b4, b5, b6⟩ := h
  exact ⟨⟨(s.rv (by omega)).trans a1, (s.ln (by omega)).trans a2, (s.iv (by omega)).trans a3⟩, ⟨(s.rv (by omega)).trans a4, (s.ln (by omega)).trans a5⟩, (s.rv (by omega)).trans a6, ⟨(s.rv (by omega)).trans a7, (s.rv (by omega)).trans a8, (s.ln (by omega)).trans a9⟩, (s.rv (by omega)).trans b1, (s.rv (by omega)).trans b2, (s.rv (by omega)).trans b3, (s.rv (by omega)).trans b4, (s.ln (by omega)).trans b5, (s.ln (by omega)).trans b6⟩
theorem StC.sm (h : StC T k m) (s : Sm n m m') (hn : 3 ≤ n) (hA : T.A k + 2 < n) (hF : T.ns ≤ k → T.F k + 8 < n) : StC T k m' := by
  obtain ⟨a1, a2, a3, a4, a5, a6, a7⟩ := h
  refine ⟨(s.rv (by omega)).trans a1, (s.iv (by omega)).trans a2, (s.iv (by omega)).trans a3, (s.iv (by omega)).trans a4, (s.rv (by omega)).trans a5, a6, fun hk => ?_⟩
  obtain ⟨b1, b2, b3⟩ := a7 hk
  exact ⟨b1, (s.rv (by omega)).trans b2, b3.sm s (hF hk)⟩
theorem RpC.sm (h : RpC T m w k) (s : Sm n m m') (hA : T.A k + 2 < n) : RpC T m' w k := by
  obtain ⟨a1, a2, a3, a4, a5⟩ := h
  exact ⟨(s.iv (by omega)).trans a1, (s.iv (by omega)).trans a2, (s.lg (by omega)).trans a3, (s.iv (by omega)).trans a4, a5.sm s (by omega) (by omega)⟩
/-! new rows of numbers -/
theorem nw_iv_o : (m.nw f k).iv p c = if p = m.nx then vI (f c) else m.iv p c := by
  show vI (if p = m.nx then f c else m.1 p c) = _
  split <;> rfl
theorem nw_rv_o : (m.nw f k).rv p c = if p = m.nx then vR (f c) else m.rv p c := by
  show vR (if p = m.nx then f c else m.1 p c) = _
  split <;> rfl
theorem nw_ln : (m.nw f k).ln p = if p = m.nx then k else m.ln p := rfl
theorem nw_nx : (m.nw f k).nx = m.nx + 1 := rfl
theorem sNu_init {K : Mm → Prop} (hx : x.toInt = (N : Int)) (hN : N ≤ 750) (hq : q < m.nx) (hs : m.iv q 1 = 0) (k : ∀ m', NumAt m' q m.nx N [] → FrG (fun p c => p = q ∧ c = 0) m m' → m'.nx = m.nx + 1 → K m') : WNu_init q x m K := by
  have e0 : (0 : Int32).toInt = 0 := rfl
  refine ⟨fun c => by omega, fun c => ⟨⟨by omega, by omega⟩, fun m1 e1 m2 e2 => ?_⟩⟩
  have x1 : m1.nx = m.nx + 1 := by rw [e1]; rfl
  refine k m2 ⟨⟨by omega, by omega, Nat.zero_le _⟩, ?_, ?_, ?_, fun i hi => absurd hi (Nat.not_lt_zero _)⟩ (FrG.tr (FrG.nwe e1) (FrG.of (fste e2 ⟨rfl, rfl⟩))) (by rw [e2]; exact x1)
  · rw [e2, sr_eq]
  · rw [e2]
    show m1.ln m.nx = N
    rw [e1, nw_ln, if_pos rfl]
    omega
  · rw [e2, si_ne (by omega), e1, nw_iv_o, if_neg (by omega), hs]
    rfl
theorem lt_dl {q a q1 a1 : Nat} (h : q ≠ q1) : ¬ DN q a q1 0 ∨ q1 = a := by
  unfold DN
  omega
theorem sNu_takeFrom {K : Mm → Prop} {q1 a1 N1 : Nat} {l0 : List Int32} (h : NumAt m q a N l0) (h1 : NumAt m q1 a1 N1 l) (hN : l.length ≤ N) (hd : q ≠ q1 ∧ q ≠ a1 ∧ a ≠ q1 ∧ a ≠ a1) (k : ∀ m', NumAt m' q a N l → FrP (DN q a) m m' → K m') : WNu_takeFrom q q1 m K := by
  have e1 : (1 : Int32).toInt = 1 := rfl
  have o1 : ∀ p c, (p = q1 ∨ p = a1) → ¬ DN q a p c := fun p c e => by unfold DN; omega
  have Lp : ∀ (n i : Nat) (z : Int32) (m2 : Mm), z.toInt = (i : Int) → i ≤ l.length → l.length - i < n → NumAt m2 q a N (l.take i) → NumAt m2 q1 a1 N1 l → FrP (DN q a) m m2 → WNu_takeFrom_L6 q q1 K n z m2 := by
    intro n
    induction n with
    | zero => intro i z m2 _ _ hn; exact absurd hn (Nat.not_lt_zero _)
    | succ n ih =>
      intro i z m2 hz hi hn g g1 f
      have z1 := g1.sz
      have c1 := g1.cap
      have c0 := g.cap
      obtain ⟨⟨b1, b2, b3⟩, b4, b5, b6, b7⟩ := g
      have hb := g1.1
      have tl : (l.take i).length = i := by rw [List.length_take]; omega
      refine WNu_takeFrom_L6_i ⟨fun c => ⟨a1, g1.2.1, fun c2 => ⟨a, b4, fun c3 => ⟨⟨by omega, by have := g1.2.2.1; omega⟩, ⟨by omega, by rw [b5]; omega⟩, fun m3 e3 m4 e4 => ?_⟩, fun c3 => by omega⟩, fun c2 => by have := hb.2.2; omega⟩, fun c m3 e3 => ?_⟩
      · have li : i < l.length := by omega
        have zi : z.toInt.toNat = i := by omega
        have f3 : FrP (DN q a) m2 m3 := fste e3 (Or.inr rfl)
        have f4 : FrP (DN q a) m3 m4 := fste e4 (Or.inl ⟨rfl, Or.inl rfl⟩)
        refine ih (i + 1) (z + 1) m4 (by rw [i32_add hz e1 (by omega)]; omega) (by omega) (by omega) ?_ (g1.fr (ftr f3 f4) (o1 _ _ (Or.inl rfl)) (o1 _ _ (Or.inl rfl)) (fun c => o1 _ _ (Or.inr rfl))) (ftr f (ftr f3 f4))
        have tl1 : (l.take (i + 1)).length = i + 1 := by rw [List.length_take]; omega
        refine ⟨⟨b1, b2, by omega⟩, ?_, ?_, ?_, fun j hj => ?_⟩
        · rw [e4, sr_ne (by omega), e3, sr_ne (by omega)]
          exact b4
        · rw [e4, e3]
          exact b5
        · rw [e4, si_eq, e3, si_ne (by omega), b6, tl, tl1]
          exact i32_sc i (by omega)
        · rw [e4, si_ne (by omega), e3]
          have gl : ∀ j, j < i + 1 → (l.take (i + 1))[j]?.getD 0 = l[j]?.getD 0 := fun j hj => by rw [List.getElem?_take, if_pos hj]
          by_cases hj2 : j = i
          · subst hj2
            rw [zi, si_eq, g1.2.2.2.2 j li, gl j (by omega)]
          · rw [si_ne (by omega), gl j (by omega)]
            have := b7 j (by omega)
            rw [this, List.getElem?_take, if_pos (by omega)]
      · have li : i = l.length := by omega
        subst li
        rw [List.take_length] at b6 b7
        have f3 : FrP (DN q a) m2 m3 := fste e3 (Or.inl ⟨rfl, Or.inr rfl⟩)
        refine k m3 ⟨⟨b1, b2, hN⟩, ?_, ?_, ?_, fun j hj => ?_⟩ (ftr f f3)
        · rw [e3, sr_ne (by omega)]
          exact b4
        · rw [e3]
          exact b5
        · rw [e3, si_ne (by omega)]
          exact b6
        · rw [e3, si_ne (by omega)]
          exact b7 j hj
  exact sNu_clear' h (fun m1 n1 f1 => ⟨l.length + 1, Lp (l.length + 1) 0 0 m1 rfl (Nat.zero_le _) (by omega) n1 (h1.fr f1 (o1 _ _ (Or.inl rfl)) (o1 _ _ (Or.inl rfl)) (fun c => o1 _ _ (Or.inr rfl))) f1⟩)
theorem sNu_trimmed {K : Mm → Nat → Prop} {q1 a1 N1 : Nat} (h1 : NumAt m q1 a1 N1 l) (hq : q1 < m.nx) (ha : a1 < m.nx) (hl : l.length ≤ 750) (k : ∀ m', NumAt m' m.nx (m.nx + 1) l.length l → FrG D0 m m' → m'.nx = m.nx + 2 → K m' (m.nx + 1)) : WNu_trimmed q1 m K := by
  intro m1 e1
  have x1 : m1.nx = m.nx + 1 := by rw [e1]; rfl
  have g1 : FrG D0 m m1 := FrG.nwe e1
  have h2 := h1.gr g1 hq ha (fun e => e) (fun e => e) (fun _ e => e)
  refine sNu_init (N := l.length) h2.sz hl (by omega) ?_ (fun m2 n2 g2 x2 => ?_)
  · rw [e1, nw_iv_o, if_pos rfl]
    rfl
  rw [x1] at n2 x2
  have h3 := h2.gr g2 (by omega) (by omega) (by omega) (by omega) (fun c => by omega)
  have hb := h1.1.1
  exact sNu_takeFrom n2 h3 (Nat.le_refl _) (by omega) (fun m3 n3 f3 => k m3 n3 ((g1.tn g2 (fun p c hp e => by omega)).tn (FrG.of f3) (fun p c hp e => by unfold DN at e; omega)) (by rw [fnx f3]; exact x2))
end GR
