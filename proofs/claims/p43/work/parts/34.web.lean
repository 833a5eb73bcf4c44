/-! the web: where its cells lie (T), what they are (w) -/
def Lay (T : Tp) : Prop := T.n ≤ 23 ∧ (∀ k, k < T.n → 60 ≤ T.A k ∧ (T.ns ≤ k → 60 ≤ T.F k)) ∧ (∀ j k, j < T.n → k < T.n → j ≠ k → T.A j + 2 < T.A k ∨ T.A k + 2 < T.A j) ∧ (∀ j k, j < T.n → k < T.n → T.ns ≤ k → T.A j + 2 < T.F k ∨ T.F k + 8 < T.A j) ∧ (∀ j k, j < T.n → k < T.n → T.ns ≤ j → T.ns ≤ k → j ≠ k → T.F j + 8 < T.F k ∨ T.F k + 8 < T.F j)
def StF (T : Tp) (m : Mm) : Prop := (m.rv 1 0 = 3 ∧ m.ln 2 = 24 ∧ m.iv 1 2 = nI T.n) ∧ (m.rv 1 1 = 4 ∧ m.ln 3 = 24) ∧ m.rv 1 3 = 5 ∧ (m.rv 1 4 = 7 ∧ m.rv 1 5 = 9 ∧ m.ln 8 = 60) ∧ m.rv 21 0 = 2 ∧ (m.rv 22 0 = 2 ∧ m.rv 22 1 = 24 ∧ m.rv 22 2 = 25 ∧ m.ln 23 = 24 ∧ m.ln 24 = 24)
def StC (T : Tp) (k : Nat) (m : Mm) : Prop := m.rv 2 k = T.A k + 1 ∧ m.iv (T.A k) 0 = T.kd k ∧ m.iv (T.A k) 1 = -1 ∧ m.iv (T.A k) 2 = 0 ∧ m.rv (T.A k) 9 = T.A k + 2 ∧ (k < T.ns → T.kd k = 1) ∧ (T.ns ≤ k → (T.kd k = 3 ∨ T.kd k = 4) ∧ m.rv (T.A k) 8 = T.F k + 1 ∧ FmS m (T.F k) (T.P k).1 (T.P k).2.1 (T.P k).2.2)
def RpC (T : Tp) (m : Mm) (w : Ws) (k : Nat) : Prop := m.iv (T.A k) 4 = w.co k ∧ m.iv (T.A k) 6 = nI (w.ru k) ∧ m.lg (T.A k) 7 = w.ou k ∧ m.iv (T.A k) 3 = w.bu k ∧ NumAt m (T.A k + 1) (T.A k + 2) 24 ((w.rd k).map nI)
def Rep (T : Tp) (m : Mm) (w : Ws) : Prop := (∀ k, k < T.n → RpC T m w k) ∧ (∀ j, j < 24 → ∀ i, i < 32 → bt (m.iv 3 j) i = decide (i < T.n ∧ j ∈ w.rd i)) ∧ NumAt m 4 5 24 (w.qu.map nI) ∧ ∃ lg, NumAt m 6 7 60 lg
def Wb (T : Tp) (m : Mm) (w : Ws) : Prop := Lay T ∧ StF T m ∧ (∀ k, k < T.n → StC T k m) ∧ Rep T m w
/-- what the puller may write; of formulas those below b -/
def Dy (T : Tp) (b : Nat) : Nat → Nat → Prop := fun p c => (∃ k, k < T.n ∧ ((p = T.A k ∧ 3 ≤ c ∧ c ≤ 7) ∨ (p = T.A k + 1 ∧ (c = 1 ∨ c = 2)) ∨ p = T.A k + 2)) ∨ p = 3 ∨ (p = 4 ∧ (c = 1 ∨ c = 2)) ∨ p = 5 ∨ (p = 6 ∧ (c = 1 ∨ c = 2)) ∨ p = 7 ∨ p = 8 ∨ (∃ k, k < T.n ∧ T.ns ≤ k ∧ k < b ∧ DF (T.F k) p c)
theorem nn_ref {A : Prop} {B : Nat → Prop} {p : Nat} (h : B p) : nn A B (p + 1) := ⟨fun e => (by cases e), fun p' e => by
  obtain rfl : p = p' := by injection e
  exact h⟩
theorem nn_nul {A : Prop} {B : Nat → Prop} (h : A) : nn A B 0 := ⟨fun _ => h, fun p e => by cases e⟩
section WE
variable {T : Tp} {m m' : Mm} {w : Ws} {D : Nat → Nat → Prop} {x y : Int32} {j k b : Nat}
theorem i32_of {x : Int32} {k : Nat} (hx : x.toInt = (k : Int)) (h : k < 2147483648) : x = nI k := Int32.toInt_inj.mp (by rw [hx, nI_toInt (by omega)])
theorem StF.fr (h : StF T m) (f : FrP D m m') (hd : ∀ p c, p < 60 → D p c → (p = 3 ∨ p = 4 ∨ p = 5 ∨ p = 6 ∨ p = 7 ∨ p = 8 ∨ (p = 22 ∧ 3 ≤ c) ∨ p = 23 ∨ p = 24 ∨ (p = 1 ∧ c = 7))) : StF T m' := by
  have g : ∀ p c, p < 60 → ¬ (p = 3 ∨ p = 4 ∨ p = 5 ∨ p = 6 ∨ p = 7 ∨ p = 8 ∨ (p = 22 ∧ 3 ≤ c) ∨ p = 23 ∨ p = 24 ∨ (p = 1 ∧ c = 7)) → ¬ D p c := fun p c a n e => n (hd p c a e)
  obtain ⟨⟨a1, a2, a3⟩, ⟨a4, a5⟩, a6, ⟨a7, a8, a9⟩, b1, b2, b3, b4, b5, b6⟩ := h
  exact ⟨⟨(frv f (g _ _ (by omega) (by omega))).trans a1, (fln f).trans a2, (fiv f (g _ _ (by omega) (by omega))).trans a3⟩, ⟨(frv f (g _ _ (by omega) (by omega))).trans a4, (fln f).trans a5⟩, (frv f (g _ _ (by omega) (by omega))).trans a6, ⟨(frv f (g _ _ (by omega) (by omega))).trans a7, (frv f (g _ _ (by omega) (by omega))).trans a8, (fln f).trans a9⟩, (frv f (g _ _ (by omega) (by omega))).trans b1, (frv f (g _ _ (by omega) (by omega))).trans b2, (frv f (g _ _ (by omega) (by omega))).trans b3, (frv f (g _ _ (by omega) (by omega))).trans b4, (fln f).trans b5, (fln f).trans b6⟩
theorem StC.fr (h : StC T k m) (f : FrP D m m') (h2 : ¬ D 2 k) (ha : ∀ c, (c ≤ 2 ∨ 8 ≤ c) → ¬ D (T.A k) c) (hF : T.ns ≤ k → ∀ p c, T.F k ≤ p → p ≤ T.F k + 8 → D p c → DF (T.F k) p c) : StC T k m' := by
  obtain ⟨a1, a2, a3, a4, a5, a6, a7⟩ := h
  refine ⟨(frv f h2).trans a1, (fiv f (ha _ (by omega))).trans a2, (fiv f (ha _ (by omega))).trans a3, (fiv f (ha _ (by omega))).trans a4, (frv f (ha _ (by omega))).trans a5, a6, fun hk => ?_⟩
  obtain ⟨b1, b2, b3⟩ := a7 hk
  exact ⟨b1, (frv f (ha _ (by omega))).trans b2, b3.fr f (hF hk)⟩
/-- all that is fixed outlives what the puller writes -/
theorem St.dy (L : Lay T) (h1 : StF T m) (h2 : ∀ k, k < T.n → StC T k m) (f : FrP (Dy T b) m m') : StF T m' ∧ ∀ k, k < T.n → StC T k m' := by
  obtain ⟨l1, l2, l3, l4, l5⟩ := L
  refine ⟨h1.fr f (fun p c hp hd => ?_), fun k hk => (h2 k hk).fr f ?_ ?_ ?_⟩
  · rcases hd with ⟨i, hi, hd⟩ | hd | hd | hd | hd | hd | hd | ⟨i, hi, hs, hb, hd⟩
    · have := (l2 i hi).1
      omega
    · omega
    · omega
    · omega
    · omega
    · omega
    · omega
    · have := (l2 i hi).2 hs
      unfold DF at hd
      omega
  · rintro (⟨i, hi, hd⟩ | hd | hd | hd | hd | hd | hd | ⟨i, hi, hs, hb, hd⟩)
    · have := (l2 i hi).1
      omega
    · omega
    · omega
    · omega
    · omega
    · omega
    · omega
    · have := (l2 i hi).2 hs
      unfold DF at hd
      omega
  · intro c hc
    have a0 := (l2 k hk).1
    rintro (⟨i, hi, hd⟩ | hd | hd | hd | hd | hd | hd | ⟨i, hi, hs, hb, hd⟩)
    · by_cases e : i = k
      · subst e
        omega
      · have := l3 i k hi hk e
        omega
    · omega
    · omega
    · omega
    · omega
    · omega
    · omega
    · have := l4 k i hk hi hs
      unfold DF at hd
      omega
  · intro hs p c hp1 hp2 hd
    have a0 := (l2 k hk).2 hs
    rcases hd with ⟨i, hi, hd⟩ | hd | hd | hd | hd | hd | hd | ⟨i, hi, hs', hb, hd⟩
    · have := l4 i k hi hk hs
      omega
    · omega
    · omega
    · omega
    · omega
    · omega
    · omega
    · by_cases e : i = k
      · subst e
        exact hd
      · have := l5 i k hi hk hs' hs e
        unfold DF at hd
        omega
theorem sWe_cell {K : Mm → Nat → Prop} (h : Wb T m w) (hx : x.toInt = (k : Int)) (hk : k < T.n) (kk : K m (T.A k + 1)) : WWe_cell 1 x m K := by
  obtain ⟨L, ⟨⟨a1, a2, a3⟩, -⟩, hC, -⟩ := h
  have hn := L.1
  unfold WWe_cell
  have e1 : (m.iv 1 2).toInt = (T.n : Int) := by rw [a3]; exact nI_toInt (by omega)
  have e2 : (Int32.ofNat (m.ln 2)).toInt = 24 := by rw [a2]; rfl
  refine ⟨fun c => by omega, fun c => ⟨fun c2 => ⟨2, a1, fun c3 => ⟨⟨by omega, by omega⟩, fun c4 => ?_, fun p c4 => ?_⟩, fun c3 => by omega⟩, fun c2 => by omega⟩⟩
  · rw [show x.toInt.toNat = k by omega, (hC k hk).1] at c4
    omega
  · rw [show x.toInt.toNat = k by omega, (hC k hk).1] at c4
    rw [← c4]
    exact kk
theorem sWe_cell0 {K : Mm → Nat → Prop} (h : Wb T m w) (hx : x.toInt < 0 ∨ (T.n : Int) ≤ x.toInt) (kk : K m 0) : WWe_cell 1 x m K := by
  obtain ⟨L, ⟨⟨a1, a2, a3⟩, -⟩, hC, -⟩ := h
  have hn := L.1
  unfold WWe_cell
  have e1 : (m.iv 1 2).toInt = (T.n : Int) := by rw [a3]; exact nI_toInt (by omega)
  exact ⟨fun c => kk, fun c => ⟨fun c2 => by omega, fun c2 => kk⟩⟩
theorem sWe_readersOf {K : Mm → Int32 → Prop} (h : Wb T m w) (hx : x.toInt = (k : Int)) (hk : k < 24) (kk : K m (m.iv 3 k)) : WWe_readersOf 1 x m K := by
  obtain ⟨L, ⟨-, ⟨a4, a5⟩, -⟩, hC, -⟩ := h
  unfold WWe_readersOf
  have e2 : (Int32.ofNat (m.ln 3)).toInt = 24 := by rw [a5]; rfl
  refine ⟨fun c => by omega, fun c => ⟨3, a4, fun c3 => ⟨⟨by omega, by omega⟩, ?_⟩, fun c3 => by omega⟩⟩
  rw [show x.toInt.toNat = k by omega]
  exact kk
end WE
