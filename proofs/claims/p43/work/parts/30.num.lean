/-! frames: what a call may change (D), the rest stays -/
def FrP (D : Nat → Nat → Prop) (m m' : Mm) : Prop := (∀ p c, ¬ D p c → m'.vv p c = m.vv p c) ∧ (∀ p, m'.ln p = m.ln p) ∧ m'.nx = m.nx
section FR
variable {D E : Nat → Nat → Prop} {m m' m1 m2 : Mm} {q b p c : Nat} {v : Value} {x y : Int32} {z : Int64}
theorem frf : FrP D m m := ⟨fun _ _ _ => rfl, fun _ => rfl, rfl⟩
theorem ftr (h1 : FrP D m m1) (h2 : FrP D m1 m2) : FrP D m m2 := ⟨fun p c h => (h2.1 p c h).trans (h1.1 p c h), fun p => (h2.2.1 p).trans (h1.2.1 p), h2.2.2.trans h1.2.2⟩
theorem fw (h : FrP D m m') (hD : ∀ p c, D p c → E p c) : FrP E m m' := ⟨fun p c n => h.1 p c (fun d => n (hD p c d)), h.2⟩
theorem fst_ (h : D q b) : FrP D m (m.st q b v) := ⟨fun p c n => if_neg (fun e => n (by rw [e.1, e.2]; exact h)), fun _ => rfl, rfl⟩
theorem fste (e : m' = m.st q b v) (h : D q b) : FrP D m m' := by
  rw [e]
  exact fst_ h
theorem fiv (h : FrP D m m') (n : ¬ D p c) : m'.iv p c = m.iv p c := congrArg vI (h.1 p c n)
theorem flg (h : FrP D m m') (n : ¬ D p c) : m'.lg p c = m.lg p c := congrArg vL (h.1 p c n)
theorem frv (h : FrP D m m') (n : ¬ D p c) : m'.rv p c = m.rv p c := congrArg vR (h.1 p c n)
theorem fln (h : FrP D m m') : m'.ln p = m.ln p := h.2.1 p
theorem fnx (h : FrP D m m') : m'.nx = m.nx := h.2.2
theorem st_eq : (m.st q b v).vv q b = v := if_pos ⟨rfl, rfl⟩
theorem st_ne (h : ¬ (p = q ∧ c = b)) : (m.st q b v).vv p c = m.vv p c := if_neg h
theorem si_eq : (m.st q b (.int x)).iv q b = x := congrArg vI st_eq
theorem si_ne (h : ¬ (p = q ∧ c = b)) : (m.st q b v).iv p c = m.iv p c := congrArg vI (st_ne h)
theorem sl_eq : (m.st q b (.long z)).lg q b = z := congrArg vL st_eq
theorem sl_ne (h : ¬ (p = q ∧ c = b)) : (m.st q b v).lg p c = m.lg p c := congrArg vL (st_ne h)
theorem sr_eq {n : Nat} : (m.st q b (.ref n)).rv q b = n := congrArg vR st_eq
theorem sr_ne (h : ¬ (p = q ∧ c = b)) : (m.st q b v).rv p c = m.rv p c := congrArg vR (st_ne h)
end FR
theorem i32_sc (n : Nat) (h : n < 2147483647) : Int32.ofNat n + 1 = Int32.ofNat (n + 1) := Int32.toInt_inj.mp (by
  rw [i32_add (i32_nat (by omega)) (show (1 : Int32).toInt = 1 from rfl) (by omega), i32_nat (by omega)]
  omega)
theorem i32_pd (n : Nat) (h0 : 0 < n) (h : n < 2147483648) : Int32.ofNat n - 1 = Int32.ofNat (n - 1) := Int32.toInt_inj.mp (by
  rw [i32_sub (i32_nat (by omega)) (show (1 : Int32).toInt = 1 from rfl) (by omega), i32_nat (by omega)]
  omega)
/-- a Numbers at q with its array at a, of room N, holds l -/
def NumAt (m : Mm) (q a N : Nat) (l : List Int32) : Prop := (q ≠ a ∧ N ≤ 1000 ∧ l.length ≤ N) ∧ m.rv q 0 = a + 1 ∧ m.ln a = N ∧ m.iv q 1 = Int32.ofNat l.length ∧ ∀ i, i < l.length → m.iv a i = (l[i]?).getD 0
def DN (q a : Nat) : Nat → Nat → Prop := fun p c => (p = q ∧ (c = 1 ∨ c = 2)) ∨ p = a
def lat (l : List Int32) (x : Int32) : Int32 := if 0 ≤ x.toInt ∧ x.toInt < (l.length : Int) then (l[x.toInt.toNat]?).getD 0 else -1
def llast (l : List Int32) : Int32 := (l[l.length - 1]?).getD (-1)
def ladd (N : Nat) (l : List Int32) (x : Int32) : List Int32 := if l.length < N then l ++ [x] else l
def lput (l : List Int32) (i x : Int32) : List Int32 := if 0 ≤ i.toInt then l.set i.toInt.toNat x else l
theorem lget_d {l : List Int32} {i : Nat} (h : i < l.length) (d d' : Int32) : (l[i]?).getD d = (l[i]?).getD d' := by
  rw [List.getElem?_eq_getElem h]
  rfl
section NU
variable {D : Nat → Nat → Prop} {m m' : Mm} {q a N : Nat} {l : List Int32} {x y : Int32}
theorem dn0 (h : q ≠ a) : ¬ DN q a q 0 := by
  rintro (⟨-, e | e⟩ | e)
  · cases e
  · cases e
  · exact h e
theorem NumAt.fr (h : NumAt m q a N l) (f : FrP D m m') (h0 : ¬ D q 0) (h1 : ¬ D q 1) (ha : ∀ c, ¬ D a c) : NumAt m' q a N l := by
  obtain ⟨hb, hr, hl, hs, he⟩ := h
  exact ⟨hb, (frv f h0).trans hr, (fln f).trans hl, (fiv f h1).trans hs, fun i hi => (fiv f (ha i)).trans (he i hi)⟩
theorem NumAt.sz (h : NumAt m q a N l) : (m.iv q 1).toInt = (l.length : Int) := by
  rw [h.2.2.2.1]
  exact i32_nat (by have := h.1.2.1; have := h.1.2.2; omega)
theorem NumAt.cap (h : NumAt m q a N l) : (Int32.ofNat (m.ln a)).toInt = (N : Int) := by
  rw [h.2.2.1]
  exact i32_nat (by have := h.1.2.1; omega)
theorem sNu_size {K : Mm → Int32 → Prop} (h : NumAt m q a N l) (k : K m (Int32.ofNat l.length)) : WNu_size q m K := by
  unfold WNu_size
  rw [h.2.2.2.1]
  exact k
theorem sNu_at {K : Mm → Int32 → Prop} (h : NumAt m q a N l) (k : K m (lat l x)) : WNu_at q x m K := by
  have hz := h.sz
  have hc := h.cap
  obtain ⟨⟨hq, hN, hle⟩, hr, hl, hs, he⟩ := h
  unfold WNu_at
  refine ⟨fun c => ?_, fun c => ⟨fun c2 => ⟨a, hr, fun c3 => ⟨⟨by omega, by omega⟩, ?_⟩, fun c3 => ?_⟩, fun c2 => ?_⟩⟩
  · rw [show lat l x = -1 from if_neg (by omega)] at k
    exact k
  · rw [show lat l x = (l[x.toInt.toNat]?).getD 0 from if_pos (by omega)] at k
    rw [he _ (by omega)]
    exact k
  · exfalso
    rw [hc] at c3
    omega
  · rw [show lat l x = -1 from if_neg (by omega)] at k
    exact k
theorem sNu_last {K : Mm → Int32 → Prop} (h : NumAt m q a N l) (k : K m (llast l)) : WNu_last q m K := by
  have hz := h.sz
  have hc := h.cap
  obtain ⟨⟨hq, hN, hle⟩, hr, hl, hs, he⟩ := h
  unfold WNu_last
  refine ⟨fun c => ⟨a, hr, fun c2 => ?_, fun c2 => ?_⟩, fun c => ?_⟩
  · exfalso
    rw [hc] at c2
    omega
  · have e1 : m.iv q 1 - 1 = Int32.ofNat (l.length - 1) := by rw [hs]; exact i32_pd _ (by omega) (by omega)
    have e2 : (m.iv q 1 - 1).toInt = ((l.length - 1 : Nat) : Int) := by rw [e1]; exact i32_nat (by omega)
    have e3 : (m.iv q 1 - 1).toInt.toNat = l.length - 1 := by omega
    refine ⟨⟨by omega, by omega⟩, ?_⟩
    rw [e3, he _ (by omega), lget_d (by omega) 0 (-1)]
    exact k
  · have e0 : l.length = 0 := by omega
    rw [show llast l = -1 by unfold llast; rw [List.getElem?_eq_none (by omega)]; rfl] at k
    exact k
theorem sNu_take {K : Mm → Int32 → Prop} (h : NumAt m q a N l) (k : ∀ m', NumAt m' q a N l.dropLast → FrP (DN q a) m m' → K m' (llast l)) : WNu_take q m K := by
  have hz := h.sz
  have hc := h.cap
  have h' := h
  obtain ⟨⟨hq, hN, hle⟩, hr, hl, hs, he⟩ := h
  unfold WNu_take
  refine ⟨fun c => ⟨a, hr, fun c2 => ?_, fun c2 => ?_⟩, fun c => ?_⟩
  · exfalso
    rw [hc] at c2
    omega
  · intro m6 e6
    have e1 : m.iv q 1 - 1 = Int32.ofNat (l.length - 1) := by rw [hs]; exact i32_pd _ (by omega) (by omega)
    have s6 : m6.iv q 1 = Int32.ofNat (l.length - 1) := by rw [e6, si_eq]; exact e1
    have t6 : (m6.iv q 1).toInt = ((l.length - 1 : Nat) : Int) := by rw [s6]; exact i32_nat (by omega)
    have n6 : (m6.iv q 1).toInt.toNat = l.length - 1 := by omega
    have a6 : ∀ i, m6.iv a i = m.iv a i := fun i => by rw [e6]; exact si_ne (by omega)
    have l6 : m6.ln a = N := by rw [e6]; exact hl
    have r6 : m6.rv q 0 = a + 1 := by rw [e6, sr_ne (by omega)]; exact hr
    refine ⟨a, r6, ⟨by omega, by omega⟩, ?_⟩
    rw [n6, a6, he _ (by omega), lget_d (by omega) 0 (-1)]
    refine k m6 ⟨⟨hq, hN, by rw [List.length_dropLast]; omega⟩, r6, l6, by rw [s6, List.length_dropLast], fun i hi => ?_⟩ (fste e6 (Or.inl ⟨rfl, Or.inl rfl⟩))
    rw [List.length_dropLast] at hi
    rw [a6, he i (by omega), List.getElem?_dropLast, if_pos hi]
  · have e0 : l = [] := List.length_eq_zero_iff.mp (by omega)
    subst e0
    exact k m h' frf
theorem sNu_add {K : Mm → Prop} (h : NumAt m q a N l) (k : ∀ m', NumAt m' q a N (ladd N l x) → FrP (DN q a) m m' → K m') : WNu_add q x m K := by
  obtain ⟨⟨hq, hN, hle⟩, hr, hl, hs, he⟩ := h
  unfold WNu_add
  intro m1 e1
  have f1 : FrP (DN q a) m m1 := fste e1 (Or.inl ⟨rfl, Or.inr rfl⟩)
  have r1 : m1.rv q 0 = a + 1 := (frv f1 (dn0 hq)).trans hr
  have s1 : m1.iv q 1 = Int32.ofNat l.length := by rw [e1, si_ne (by omega)]; exact hs
  have t1 : (m1.iv q 1).toInt = (l.length : Int) := by rw [s1]; exact i32_nat (by omega)
  have a1 : ∀ i, m1.iv a i = m.iv a i := fun i => by rw [e1]; exact si_ne (by omega)
  have l1 : m1.ln a = N := by rw [e1]; exact hl
  have b1 : NumAt m1 q a N l := ⟨⟨hq, hN, hle⟩, r1, l1, s1, fun i hi => (a1 i).trans (he i hi)⟩
  have c1 := b1.cap
  refine ⟨fun c => absurd c (by omega), fun c => ⟨a, r1, fun c2 => ⟨⟨by omega, by omega⟩, ?_⟩, fun c2 => ?_⟩⟩
  · intro m2 e2 m3 e3
    have el : ladd N l x = l ++ [x] := if_pos (by omega)
    rw [el] at k
    have tn : (m1.iv q 1).toInt.toNat = l.length := by omega
    rw [tn] at e2
    refine k m3 ⟨⟨hq, hN, by rw [List.length_append]; show l.length + 1 ≤ N; omega⟩, ?_, ?_, ?_, ?_⟩ ?_
    · rw [e3, sr_ne (by omega), e2, sr_ne (by omega)]
      exact r1
    · rw [e3, e2]
      exact l1
    · rw [e3, si_eq, e2, si_ne (by omega), s1, List.length_append]
      exact i32_sc _ (by omega)
    · intro i hi
      rw [List.length_append] at hi
      have hi : i < l.length + 1 := hi
      rw [e3, si_ne (by omega), e2]
      by_cases h2 : i = l.length
      · subst h2
        rw [si_eq]
        simp
      · rw [si_ne (by omega), a1, he i (by omega), List.getElem?_append_left (by omega)]
    · exact ftr f1 (ftr (fste e2 (Or.inr rfl)) (fste e3 (Or.inl ⟨rfl, Or.inl rfl⟩)))
  · rw [c1] at c2
    have el : ladd N l x = l := if_neg (by omega)
    rw [el] at k
    exact k m1 b1 f1
theorem sNu_put {K : Mm → Prop} (h : NumAt m q a N l) (k : ∀ m', NumAt m' q a N (lput l x y) → FrP (DN q a) m m' → K m') : WNu_put q x y m K := by
  have hz := h.sz
  have hc := h.cap
  have h' := h
  obtain ⟨⟨hq, hN, hle⟩, hr, hl, hs, he⟩ := h
  unfold WNu_put
  refine ⟨fun c => ?_, fun c => ⟨fun c2 => ⟨a, hr, fun c3 => ⟨⟨by omega, by omega⟩, ?_⟩, fun c3 => ?_⟩, fun c2 => ?_⟩⟩
  · rw [show lput l x y = l from if_neg (by omega)] at k
    exact k m h' frf
  · intro m8 e8
    have el : lput l x y = l.set x.toInt.toNat y := if_pos (by omega)
    rw [el] at k
    refine k m8 ⟨⟨hq, hN, by rw [List.length_set]; exact hle⟩, ?_, ?_, ?_, ?_⟩ (fste e8 (Or.inr rfl))
    · rw [e8, sr_ne (by omega)]
      exact hr
    · rw [e8]
      exact hl
    · rw [e8, si_ne (by omega), List.length_set]
      exact hs
    · intro i hi
      rw [List.length_set] at hi
      rw [e8, List.getElem?_set]
      by_cases h2 : x.toInt.toNat = i
      · subst h2
        rw [si_eq, if_pos rfl, if_pos hi]
        rfl
      · rw [si_ne (by omega), if_neg h2]
        exact he i hi
  · exfalso
    rw [hc] at c3
    omega
  · have el : lput l x y = l := by
      unfold lput
      rw [if_pos (by omega)]
      exact List.set_eq_of_length_le (by omega)
    rw [el] at k
    exact k m h' frf
theorem sNu_dropLast {K : Mm → Prop} (h : NumAt m q a N l) (k : ∀ m', NumAt m' q a N l.dropLast → FrP (DN q a) m m' → K m') : WNu_dropLast q m K := by
  have hz := h.sz
  have h' := h
  obtain ⟨⟨hq, hN, hle⟩, hr, hl, hs, he⟩ := h
  unfold WNu_dropLast
  refine ⟨fun c m6 e6 => ?_, fun c => ?_⟩
  · have e1 : m.iv q 1 - 1 = Int32.ofNat (l.length - 1) := by rw [hs]; exact i32_pd _ (by omega) (by omega)
    have s6 : m6.iv q 1 = Int32.ofNat (l.length - 1) := by rw [e6, si_eq]; exact e1
    have a6 : ∀ i, m6.iv a i = m.iv a i := fun i => by rw [e6]; exact si_ne (by omega)
    refine k m6 ⟨⟨hq, hN, by rw [List.length_dropLast]; omega⟩, by rw [e6, sr_ne (by omega)]; exact hr, by rw [e6]; exact hl, by rw [s6, List.length_dropLast], fun i hi => ?_⟩ (fste e6 (Or.inl ⟨rfl, Or.inl rfl⟩))
    rw [List.length_dropLast] at hi
    rw [a6, he i (by omega), List.getElem?_dropLast, if_pos hi]
  · have e0 : l = [] := List.length_eq_zero_iff.mp (by omega)
    subst e0
    exact k m h' frf
theorem sNu_clear {K : Mm → Prop} (hb : q ≠ a ∧ N ≤ 1000) (hr : m.rv q 0 = a + 1) (hl : m.ln a = N) (k : ∀ m', NumAt m' q a N [] → FrP (DN q a) m m' → K m') : WNu_clear q m K := by
  unfold WNu_clear
  intro m1 e1 m4 e4
  have hq := hb.1
  refine k m4 ⟨⟨hb.1, hb.2, Nat.zero_le _⟩, ?_, ?_, ?_, fun i hi => absurd hi (Nat.not_lt_zero _)⟩ (ftr (fste e1 (Or.inl ⟨rfl, Or.inl rfl⟩)) (fste e4 (Or.inl ⟨rfl, Or.inr rfl⟩)))
  · rw [e4, sr_ne (by omega), e1, sr_ne (by omega)]
    exact hr
  · rw [e4, e1]
    exact hl
  · rw [e4, si_ne (by omega), e1, si_eq]
    rfl
theorem sNu_clear' {K : Mm → Prop} (h : NumAt m q a N l) (k : ∀ m', NumAt m' q a N [] → FrP (DN q a) m m' → K m') : WNu_clear q m K := sNu_clear ⟨h.1.1, h.1.2.1⟩ h.2.1 h.2.2.1 k
theorem sNu_drop1 {K : Mm → Prop} (h : NumAt m q a N [x]) (k : ∀ m', NumAt m' q a N [] → FrP (DN q a) m m' → K m') : WNu_drop q x m K := by
  have hz : (m.iv q 1).toInt = 1 := h.sz
  have hc := h.cap
  obtain ⟨⟨hq, hN, hle⟩, hr, hl, hs, he⟩ := h
  have hle : 1 ≤ N := hle
  have e0 : (0 : Int32).toInt = 0 := rfl
  have e1 : ((0 : Int32) + 1).toInt = 1 := rfl
  refine ⟨2, WNu_drop_L4_i ⟨fun c => ⟨a, hr, fun c2 => ⟨⟨by omega, by omega⟩, fun c3 => ?_, fun c3 => ?_⟩, fun c2 => ?_⟩, fun c => ?_⟩⟩
  · refine WNu_drop_L4_i ⟨fun c => ?_, fun c => ?_⟩
    · exfalso
      omega
    · intro m5 e5
      refine k m5 ⟨⟨hq, hN, Nat.zero_le _⟩, by rw [e5, sr_ne (by omega)]; exact hr, by rw [e5]; exact hl, by rw [e5, si_eq]; rfl, fun i hi => absurd hi (Nat.not_lt_zero _)⟩ (fste e5 (Or.inl ⟨rfl, Or.inl rfl⟩))
  · exfalso
    exact c3 (he 0 (Nat.zero_lt_one))
  · exfalso
    omega
  · exfalso
    omega
theorem sNu_drop0 {K : Mm → Prop} (h : NumAt m q a N []) (k : ∀ m', NumAt m' q a N [] → FrP (DN q a) m m' → K m') : WNu_drop q x m K := by
  have hz : (m.iv q 1).toInt = 0 := h.sz
  obtain ⟨⟨hq, hN, hle⟩, hr, hl, hs, he⟩ := h
  have e0 : (0 : Int32).toInt = 0 := rfl
  refine ⟨1, WNu_drop_L4_i ⟨fun c => ?_, fun c => ?_⟩⟩
  · exfalso
    omega
  · intro m5 e5
    exact k m5 ⟨⟨hq, hN, Nat.zero_le _⟩, by rw [e5, sr_ne (by omega)]; exact hr, by rw [e5]; exact hl, by rw [e5, si_eq]; rfl, fun i hi => absurd hi (Nat.not_lt_zero _)⟩ (fste e5 (Or.inl ⟨rfl, Or.inl rfl⟩))
/-- whatever comes to stand in it: what is inserted is only spelled -/
theorem NumAt.any (hb : q ≠ a ∧ N ≤ 1000) (hr : m.rv q 0 = a + 1) (hl : m.ln a = N) {n : Nat} (hn : n ≤ N) (hs : m.iv q 1 = Int32.ofNat n) : ∃ l : List Int32, NumAt m q a N l := by
  refine ⟨(List.range n).map (fun i => m.iv a i), ⟨hb.1, hb.2, by simpa using hn⟩, hr, hl, by simpa using hs, fun i hi => ?_⟩
  have hi : i < n := by simpa using hi
  simp [hi]
theorem sNu_insert {K : Mm → Prop} (h : NumAt m q a N l) (k : ∀ m' l', NumAt m' q a N l' → FrP (DN q a) m m' → K m') : WNu_insert q x y m K := by
  have hz := h.sz
  have hc := h.cap
  have h' := h
  obtain ⟨⟨hq, hN, hle⟩, hr, hl, hs, he⟩ := h
  unfold WNu_insert
  refine ⟨fun c => k m l h' frf, fun c => ⟨fun c2 => k m l h' frf, fun c2 => ⟨a, hr, fun c3 => ?_, fun c3 => k m l h' frf⟩⟩⟩
  have L : ∀ (n : Nat) (z : Int32) (m8 : Mm), x.toInt ≤ z.toInt → z.toInt ≤ (l.length : Int) → FrP (DN q a) m m8 → m8.iv q 1 = m.iv q 1 → (z.toInt - x.toInt).toNat < n → WNu_insert_L30 q x y K n z m8 := by
    intro n
    induction n with
    | zero => intro z m8 _ _ _ _ hn; exact absurd hn (Nat.not_lt_zero _)
    | succ n ih =>
      intro z m8 h1 h2 f8 s8 hn
      have r8 : m8.rv q 0 = a + 1 := (frv f8 (dn0 hq)).trans hr
      have l8 : m8.ln a = N := (fln f8).trans hl
      refine WNu_insert_L30_i ⟨fun c4 => ⟨a, r8, ?_⟩, fun c4 => ⟨a, r8, ⟨by omega, by omega⟩, ?_⟩⟩
      · have ez : (z - 1).toInt = z.toInt - 1 := i32_sub rfl rfl (by have := i32_rng z; have := i32_rng x; have e1 : (1 : Int32).toInt = 1 := rfl; omega)
        refine ⟨⟨by omega, by omega⟩, ⟨by omega, by omega⟩, fun m24 e24 => ?_⟩
        exact ih (z - 1) m24 (by omega) (by omega) (ftr f8 (fste e24 (Or.inr rfl))) (by rw [e24, si_ne (by omega)]; exact s8) (by omega)
      · intro m31 e31 m34 e34
        have f34 : FrP (DN q a) m m34 := ftr f8 (ftr (fste e31 (Or.inr rfl)) (fste e34 (Or.inl ⟨rfl, Or.inl rfl⟩)))
        obtain ⟨l', hl'⟩ := NumAt.any (m := m34) (N := N) (n := l.length + 1) ⟨hq, hN⟩ ((frv f34 (dn0 hq)).trans hr) ((fln f34).trans hl) (by omega) (by rw [e34, si_eq, e31, si_ne (by omega), s8, hs]; exact i32_sc _ (by omega))
        exact k m34 l' hl' f34
  exact ⟨(((m.iv q 1).toInt - x.toInt).toNat) + 1, L _ _ m (by omega) (by omega) frf rfl (by omega)⟩
end NU
