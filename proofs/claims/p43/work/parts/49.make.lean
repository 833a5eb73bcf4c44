/-! a cell is made -/
def Tp.ex (T : Tp) (a f : Nat) (kd : Int32) (P : List Int32 × List Int32 × Nat) : Tp := (T.ns, T.n + 1, fun k => if k = T.n then a else T.A k, fun k => if k = T.n then f else T.F k, fun k => if k = T.n then kd else T.kd k, fun k => if k = T.n then P else T.P k)
def Ws.ex (w : Ws) (n : Nat) (co : Int32) (ou : Int64) : Ws := (fun k => if k = n then co else w.co k, fun k => if k = n then 0 else w.ru k, fun k => if k = n then ou else w.ou k, fun k => if k = n then 0 else w.bu k, fun k => if k = n then [] else w.rd k, w.qu)
/-- all that there is lies below b -/
def Und (T : Tp) (b : Nat) : Prop := ∀ k, k < T.n → T.A k + 2 < b ∧ (T.ns ≤ k → T.F k + 8 < b)
section MK
variable {D E : Nat → Nat → Prop} {m m' m1 m2 : Mm} {n p c q a b N k A F cap cp lim f r5 : Nat} {l sl dl tp : List Int32} {x y cs cs0 kd x1 x2 : Int32} {x3 ou : Int64} {r r0 : Rd} {v : Value} {T : Tp} {w : Ws} {P : List Int32 × List Int32 × Nat}
theorem ex_A (h : k ≠ T.n) : (T.ex a f kd P).A k = T.A k := if_neg h
theorem ex_F (h : k ≠ T.n) : (T.ex a f kd P).F k = T.F k := if_neg h
theorem ex_k (h : k ≠ T.n) : (T.ex a f kd P).kd k = T.kd k := if_neg h
theorem ex_P (h : k ≠ T.n) : (T.ex a f kd P).P k = T.P k := if_neg h
theorem ex_A0 : (T.ex a f kd P).A T.n = a := if_pos rfl
theorem ex_F0 : (T.ex a f kd P).F T.n = f := if_pos rfl
theorem ex_k0 : (T.ex a f kd P).kd T.n = kd := if_pos rfl
theorem ex_P0 : (T.ex a f kd P).P T.n = P := if_pos rfl
theorem Lay.ex (L : Lay T) (hn : T.n < 23) (u : Und T lim) (ha : lim ≤ a) (h60 : 60 ≤ a) (hf : T.ns ≤ T.n → lim ≤ f ∧ f + 8 < a ∧ 60 ≤ f) : Lay (T.ex a f kd P) := by
  obtain ⟨l1, l2, l3, l4, l5⟩ := L
  refine ⟨hn, fun k hk => ?_, fun j k hj hk hjk => ?_, fun j k hj hk hs => ?_, fun j k hj hk hs hs' hjk => ?_⟩
  · have hk : k < T.n + 1 := hk
    by_cases e : k = T.n
    · subst e
      rw [ex_A0, ex_F0]
      exact ⟨h60, fun h => (hf h).2.2⟩
    · rw [ex_A e, ex_F e]
      exact l2 k (by omega)
  · have hk : k < T.n + 1 := hk
    have hj : j < T.n + 1 := hj
    by_cases e : k = T.n
    · subst e
      rw [ex_A0, ex_A hjk]
      have := (u j (by omega)).1
      omega
    · by_cases e2 : j = T.n
      · subst e2
        rw [ex_A0, ex_A e]
        have := (u k (by omega)).1
        omega
      · rw [ex_A e, ex_A e2]
        exact l3 j k (by omega) (by omega) hjk
  · have hk : k < T.n + 1 := hk
    have hj : j < T.n + 1 := hj
    have hs : T.ns ≤ k := hs
    by_cases e : k = T.n
    · subst e
      have := hf hs
      by_cases e2 : j = T.n
      · subst e2
        rw [ex_A0, ex_F0]
        omega
      · rw [ex_F0, ex_A e2]
        have := (u j (by omega)).1
        omega
    · by_cases e2 : j = T.n
      · subst e2
        rw [ex_A0, ex_F e]
        have := (u k (by omega)).2 hs
        omega
      · rw [ex_F e, ex_A e2]
        exact l4 j k (by omega) (by omega) hs
  · have hk : k < T.n + 1 := hk
    have hj : j < T.n + 1 := hj
    have hs : T.ns ≤ j := hs
    have hs' : T.ns ≤ k := hs'
    by_cases e : k = T.n
    · subst e
      have := hf hs'
      rw [ex_F0, ex_F hjk]
      have := (u j (by omega)).2 hs
      omega
    · by_cases e2 : j = T.n
      · subst e2
        have := hf hs
        rw [ex_F0, ex_F e]
        have := (u k (by omega)).2 hs'
        omega
      · rw [ex_F e, ex_F e2]
        exact l5 j k (by omega) (by omega) hs hs' hjk
theorem Und.ex (u : Und T lim) (hb : lim ≤ b) (ha : a + 2 < b) (hf : T.ns ≤ T.n → f + 8 < b) : Und (T.ex a f kd P) b := fun k hk => by
  have hk : k < T.n + 1 := hk
  by_cases e : k = T.n
  · subst e
    rw [ex_A0, ex_F0]
    exact ⟨ha, hf⟩
  · rw [ex_A e, ex_F e]
    have := u k (by omega)
    exact ⟨by omega, fun h => by have := this.2 h; omega⟩
theorem StC.ex (h : StC T k m) (hk : k ≠ T.n) : StC (T.ex a f kd P) k m := by
  unfold StC
  rw [ex_A hk, ex_F hk, ex_k hk, ex_P hk]
  exact h
theorem RpC.ex {co : Int32} (h : RpC T m w k) (hk : k ≠ T.n) : RpC (T.ex a f kd P) m (w.ex T.n co ou) k := by
  unfold RpC
  rw [ex_A hk]
  have e1 : (w.ex T.n co ou).co k = w.co k := if_neg hk
  have e2 : (w.ex T.n co ou).ru k = w.ru k := if_neg hk
  have e3 : (w.ex T.n co ou).ou k = w.ou k := if_neg hk
  have e4 : (w.ex T.n co ou).bu k = w.bu k := if_neg hk
  have e5 : (w.ex T.n co ou).rd k = w.rd k := if_neg hk
  rw [e1, e2, e3, e4, e5]
  exact h
theorem sCe_init {K : Mm → Prop} (hA : m.nx = A + 1) (k : ∀ m', m'.rv A 9 = A + 2 → NumAt m' (A + 1) (A + 2) 24 [] → FrG (fun p c => p = A ∧ c = 9) m m' → m'.nx = A + 3 → K m') : WCe_init A m K := by
  intro m1 e1
  have x1 : m1.nx = A + 2 := by rw [e1, nw_nx]; omega
  have g1 : FrG D0 m m1 := FrG.nwe e1
  refine sNu_init (N := 24) rfl (by omega) (by omega) (by rw [e1, nw_iv_o, if_pos rfl]; rfl) (fun m2 n2 g2 x2 m3 e3 => ?_)
  have g3 : FrG (fun p c => p = A ∧ c = 9) m2 m3 := FrG.of (fste e3 ⟨rfl, rfl⟩)
  rw [x1, hA] at n2
  rw [hA] at e3 g2
  refine k m3 (by rw [e3, sr_eq]) (n2.gr g3 (by omega) (by omega) (by omega) (by omega) (fun c => by omega)) (((g1.wk (fun p c _ e => absurd e id)).tn g2 (fun p c hp e => by omega)).tr g3) (by rw [e3]; show m2.nx = A + 3; omega)
theorem sCe_become {K : Mm → Prop} (hr : m.rv A 9 = q + 1) (hn : NumAt m q a 24 l) (hd : q ≠ A ∧ a ≠ A) (k : ∀ m', m'.iv A 0 = x1 → m'.iv A 1 = x2 → m'.iv A 2 = 0 → m'.iv A 3 = 0 → m'.iv A 4 = (if r5 = 0 then 0 else 2) → m'.iv A 6 = 0 → m'.lg A 7 = x3 → m'.rv A 8 = r5 → NumAt m' q a 24 [] → FrP (fun p c => (p = A ∧ c ≤ 8) ∨ DN q a p c) m m' → K m') : WCe_become A x1 x2 x3 r5 m K := by
  have hdn : ∀ c, ¬ DN q a A c := fun c => by unfold DN; omega
  have go : ∀ (v : Value) (z : Int32), vR v = r5 → z = (if r5 = 0 then 0 else 2) → ∀ m9, m9 = ((((((((m.st A 0 (.int x1)).st A 1 (.int x2)).st A 2 (.int 0)).st A 3 (.int 0)).st A 4 (.int z)).st A 5 (.long 0)).st A 6 (.int 0)).st A 7 (.long x3)).st A 8 v → ∃ p, m9.rv A 9 = p + 1 ∧ WNu_clear p m9 (fun m10 => K m10) := by
    intro v z hv hz m9 e9
    have f9 : FrP (fun p c => p = A ∧ c ≤ 8) m m9 := by
      rw [e9]
      exact ftr (ftr (ftr (ftr (ftr (ftr (ftr (ftr (fst_ ⟨rfl, by omega⟩) (fst_ ⟨rfl, by omega⟩)) (fst_ ⟨rfl, by omega⟩)) (fst_ ⟨rfl, by omega⟩)) (fst_ ⟨rfl, by omega⟩)) (fst_ ⟨rfl, by omega⟩)) (fst_ ⟨rfl, by omega⟩)) (fst_ ⟨rfl, by omega⟩)) (fst_ ⟨rfl, by omega⟩)
    have n9 := hn.fr f9 (by omega) (by omega) (fun c => by omega)
    refine ⟨q, (frv f9 (by omega)).trans hr, sNu_clear' n9 (fun m10 n10 f10 => ?_)⟩
    have I : ∀ c, m10.iv A c = m9.iv A c := fun c => fiv f10 (hdn c)
    have R : ∀ c, m10.rv A c = m9.rv A c := fun c => frv f10 (hdn c)
    have G : ∀ c, m10.lg A c = m9.lg A c := fun c => flg f10 (hdn c)
    refine k m10 ?_ ?_ ?_ ?_ ?_ ?_ ?_ ?_ n10 (ftr (fw f9 (fun p c h => Or.inl h)) (fw f10 (fun p c h => Or.inr h)))
    · rw [I, e9]
      repeat rw [si_ne (by omega)]
      rw [si_eq]
    · rw [I, e9]
      repeat rw [si_ne (by omega)]
      rw [si_eq]
    · rw [I, e9]
      repeat rw [si_ne (by omega)]
      rw [si_eq]
    · rw [I, e9]
      repeat rw [si_ne (by omega)]
      rw [si_eq]
    · rw [I, e9]
      repeat rw [si_ne (by omega)]
      rw [si_eq, hz]
    · rw [I, e9]
      repeat rw [si_ne (by omega)]
      rw [si_eq]
    · rw [G, e9]
      repeat rw [sl_ne (by omega)]
      rw [sl_eq]
    · rw [R, e9, ← hv]
      exact congrArg vR st_eq
  refine ⟨fun e => ?_, fun q5 e => ?_⟩
  · intro m1 e1 m2 e2 m3 e3 m4 e4 m5 e5 m6 e6 m7 e7 m8 e8 m9 e9
    exact go .null 0 e.symm (by rw [if_pos e]) m9 (by rw [e9, e8, e7, e6, e5, e4, e3, e2, e1])
  · intro m1 e1 m2 e2 m3 e3 m4 e4 m5 e5 m6 e6 m7 e7 m8 e8 m9 e9
    exact go (.ref (q5 + 1)) 2 e.symm (by rw [if_neg (by omega)]) m9 (by rw [e9, e8, e7, e6, e5, e4, e3, e2, e1])
theorem sWe_isFull {K : Mm → Int32 → Prop} (h : Wb T m w) (k : K m 0) : WWe_isFull 1 m K := by
  have hn := h.1.1
  have c1 : (m.iv 1 2).toInt = (T.n : Int) := by rw [h.2.1.1.2.2]; exact nI_toInt (by omega)
  have e2 : (Int32.ofNat (m.ln 2)).toInt = 24 := by rw [h.2.1.1.2.1]; rfl
  exact ⟨2, h.2.1.1.1, fun _ => k, fun c => by omega⟩
theorem sWe_mayOwn {K : Mm → Int32 → Prop} (h : Wb T m w) (k : K m 1) : WWe_mayOwn 1 (-1) m K :=
  sWe_cell0 h (Or.inl (by decide)) (nn_nul ⟨fun _ => k, fun c => absurd rfl c⟩)
theorem sWe_addCell {K : Mm → Int32 → Prop} (h : Wb T m w) (hn : T.n < 23) (hz : m.rv 2 T.n = 0) (h60 : 60 ≤ m.nx) (u : Und T lim) (hl : lim ≤ m.nx) (x2n : x2 = -1) (k1 : T.n < T.ns → x1 = 1 ∧ r5 = 0) (kf : T.ns ≤ T.n → (x1 = 3 ∨ x1 = 4) ∧ r5 = F + 1 ∧ lim ≤ F ∧ F + 8 < m.nx ∧ 60 ≤ F ∧ FmS m F P.1 P.2.1 P.2.2)
    (k : ∀ m', Wb (T.ex m.nx F x1 P) m' (w.ex T.n (if T.n < T.ns then 0 else 2) x3) → FrG (fun p c => (p = 2 ∧ c = T.n) ∨ (p = 1 ∧ c = 2)) m m' → m'.nx = m.nx + 3 → K m' (nI T.n)) : WWe_addCell 1 x1 x2 x3 r5 m K := by
  obtain ⟨L, hF, hC, r1, r2, r3, lg, r4⟩ := h
  have hn' : T.n < 24 := by omega
  have c1 : (m.iv 1 2).toInt = (T.n : Int) := by rw [hF.1.2.2]; exact nI_toInt (by omega)
  have l2 : m.ln 2 = 24 := hF.1.2.1
  have e2 : (Int32.ofNat (m.ln 2)).toInt = 24 := by rw [l2]; rfl
  have cn : (m.iv 1 2).toInt.toNat = T.n := by omega
  have r50 : r5 = 0 ↔ T.n < T.ns := by
    by_cases hs : T.n < T.ns
    · exact ⟨fun _ => hs, fun _ => (k1 hs).2⟩
    · have := (kf (by omega)).2.1
      exact ⟨fun e => by omega, fun e => absurd e hs⟩
  have room : ∀ (J : Mm → Nat → Prop), (∀ m', m'.rv m.nx 9 = m.nx + 2 → NumAt m' (m.nx + 1) (m.nx + 2) 24 [] → m'.rv 2 T.n = m.nx + 1 → FrG (fun p c => p = 2 ∧ c = T.n) m m' → m'.nx = m.nx + 3 → J m' (m.nx + 1)) → WWe_roomFor 1 (m.iv 1 2) m J := by
    intro J kk
    refine ⟨fun c => by omega, fun c => ⟨2, hF.1.1, fun c2 => ⟨⟨by omega, by omega⟩, fun c3 m3 e3 => ?_, fun p c3 => ?_⟩, fun c2 => by omega⟩⟩
    · have g3 : FrG D0 m m3 := FrG.nwe e3
      have x3' : m3.nx = m.nx + 1 := by rw [e3, nw_nx]
      refine sCe_init (A := m.nx) x3' (fun m4 a1 a2 g4 x4 => ⟨⟨by omega, ?_⟩, fun m5 e5 => ?_⟩)
      · rw [g4.ln (by omega), g3.ln (by omega), l2]
        omega
      · rw [cn] at e5 ⊢
        have g5 : FrG (fun p c => p = 2 ∧ c = T.n) m4 m5 := FrG.of (fste e5 ⟨rfl, rfl⟩)
        have x5 : m5.nx = m.nx + 3 := by rw [e5]; exact x4
        have g : FrG (fun p c => p = 2 ∧ c = T.n) m m5 := ((g3.wk (fun p c _ e => absurd e id)).tn g4 (fun p c hp e => by omega)).tr g5
        have q5 : m5.rv 2 T.n = m.nx + 1 := by rw [e5, sr_eq]
        refine ⟨2, (g.rv (by omega) (by omega)).trans hF.1.1, ⟨by omega, ?_⟩, fun c6 => by omega, fun p c6 => ?_⟩
        · rw [g.ln (by omega), l2]
          omega
        · obtain rfl : p = m.nx := by omega
          exact kk m5 ((g5.rv (by omega) (by omega)).trans a1) (a2.gr g5 (by omega) (by omega) (by omega) (by omega) (fun c => by omega)) q5 g x5
    · rw [cn] at c3
      omega
  have rest : ∀ m5, m5.rv m.nx 9 = m.nx + 2 → NumAt m5 (m.nx + 1) (m.nx + 2) 24 [] → m5.rv 2 T.n = m.nx + 1 → FrG (fun p c => p = 2 ∧ c = T.n) m m5 → m5.nx = m.nx + 3 → WCe_become m.nx x1 x2 x3 r5 m5 (fun m6 => ∀ m7, m7 = m6.st 1 2 (.int ((m6.iv 1 2) + (1 : Int32))) → K m7 ((m7.iv 1 2) - (1 : Int32))) := by
    intro m5 a1 a2 a3 g5 x5
    refine sCe_become a1 a2 (by omega) (fun m6 b0 b1 b2 b3 b4 b6 b7 b8 n6 f6 m7 e7 => ?_)
    have g6 : FrG (fun p c => (p = 2 ∧ c = T.n) ∨ (p = 1 ∧ c = 2)) m m6 := (g5.wk (fun p c _ e => Or.inl e)).tn (FrG.of f6) (fun p c hp e => by unfold DN at e; omega)
    have s7 : FrP (fun p c => p = 1 ∧ c = 2) m6 m7 := fste e7 ⟨rfl, rfl⟩
    have g7 : FrG (fun p c => (p = 2 ∧ c = T.n) ∨ (p = 1 ∧ c = 2)) m m7 := g6.tr ((FrG.of s7).wk (fun p c _ e => Or.inr e))
    have x6 : m6.nx = m.nx + 3 := (fnx f6).trans x5
    have x7 : m7.nx = m.nx + 3 := (fnx s7).trans x6
    have c6 : m6.iv 1 2 = nI T.n := by
      rw [fiv f6 (by unfold DN; omega), g5.iv (by omega) (by omega)]
      exact hF.1.2.2
    have c7 : m7.iv 1 2 = nI (T.n + 1) := by rw [e7, si_eq, c6]; exact nI_1 _
    rw [c7, show nI (T.n + 1) - (1 : Int32) = nI T.n from nI_pred _]
    obtain ⟨m8, f8, s8⟩ := g7.cut
    refine k m7 ⟨L.ex hn u hl h60 (fun hs => ?_), ?_, fun i hi => ?_, fun i hi => ?_, fun j hj i hi => ?_, ?_, lg, ?_⟩ g7 x7
    · obtain ⟨-, -, q1, q2, q3, -⟩ := kf hs
      exact ⟨q1, q2, q3⟩
    · obtain ⟨⟨a1, a2, a3⟩, ⟨a4, a5⟩, a6, ⟨a7, a8, a9⟩, b1, b2, b3, b4, b5, b6⟩ := hF
      exact ⟨⟨(g7.rv (by omega) (by omega)).trans a1, (g7.ln (by omega)).trans a2, c7⟩, ⟨(g7.rv (by omega) (by omega)).trans a4, (g7.ln (by omega)).trans a5⟩, (g7.rv (by omega) (by omega)).trans a6, ⟨(g7.rv (by omega) (by omega)).trans a7, (g7.rv (by omega) (by omega)).trans a8, (g7.ln (by omega)).trans a9⟩, (g7.rv (by omega) (by omega)).trans b1, (g7.rv (by omega) (by omega)).trans b2, (g7.rv (by omega) (by omega)).trans b3, (g7.rv (by omega) (by omega)).trans b4, (g7.ln (by omega)).trans b5, (g7.ln (by omega)).trans b6⟩
    · have hi : i < T.n + 1 := hi
      by_cases e : i = T.n
      · subst e
        unfold StC
        rw [ex_A0, ex_F0, ex_k0, ex_P0]
        refine ⟨?_, (fiv s7 (by omega)).trans b0, (fiv s7 (by omega)).trans (b1.trans x2n), (fiv s7 (by omega)).trans b2, ?_, fun hs => (k1 hs).1, fun hs => ?_⟩
        · rw [frv s7 (by omega), frv f6 (by unfold DN; omega)]
          exact a3
        · rw [frv s7 (by omega), frv f6 (by unfold DN; omega)]
          exact a1
        · obtain ⟨q0, q1, q2, q3, q4, q5⟩ := kf hs
          refine ⟨q0, (frv s7 (by omega)).trans (b8.trans q1), ?_⟩
          exact (q5.fr f8 (fun p c p1 p2 e => by omega)).sm s8 q3
      · have ui := u i (by omega)
        refine StC.ex ?_ e
        exact ((hC i (by omega)).fr f8 (by omega) (fun c _ => by have := (L.2.1 i (by omega)).1; omega) (fun hs p c p1 p2 e => by have := (L.2.1 i (by omega)).2 hs; omega)).sm s8 (by omega) (by omega) (fun hs => by have := ui.2 hs; omega)
    · have hi : i < T.n + 1 := hi
      by_cases e : i = T.n
      · subst e
        unfold RpC
        rw [ex_A0]
        have y1 : (w.ex T.n (if T.n < T.ns then 0 else 2) x3).co T.n = (if T.n < T.ns then 0 else 2) := if_pos rfl
        have y2 : (w.ex T.n (if T.n < T.ns then 0 else 2) x3).ru T.n = 0 := if_pos rfl
        have y3 : (w.ex T.n (if T.n < T.ns then 0 else 2) x3).ou T.n = x3 := if_pos rfl
        have y4 : (w.ex T.n (if T.n < T.ns then 0 else 2) x3).bu T.n = 0 := if_pos rfl
        have y5 : (w.ex T.n (if T.n < T.ns then 0 else 2) x3).rd T.n = [] := if_pos rfl
        rw [y1, y2, y3, y4, y5]
        refine ⟨(fiv s7 (by omega)).trans (b4.trans ?_), (fiv s7 (by omega)).trans b6, (flg s7 (by omega)).trans b7, (fiv s7 (by omega)).trans b3, n6.fr s7 (by omega) (by omega) (fun c => by omega)⟩
        by_cases hs : T.n < T.ns
        · rw [if_pos (r50.mpr hs), if_pos hs]
        · rw [if_neg (fun e => hs (r50.mp e)), if_neg hs]
      · have ui := u i (by omega)
        have l60 := (L.2.1 i (by omega)).1
        refine RpC.ex ?_ e
        exact ((r1 i (by omega)).fr f8 (fun c _ _ => by omega) (by omega) (by omega) (fun c => by omega)).sm s8 (by omega)
    · rw [g7.iv (by omega) (by omega), r2 j hj i hi]
      refine decide_eq_decide.mpr ?_
      show i < T.n ∧ j ∈ w.rd i ↔ i < T.n + 1 ∧ j ∈ (if i = T.n then [] else w.rd i)
      by_cases e : i = T.n
      · rw [if_pos e]
        exact ⟨fun h => by omega, fun h => absurd h.2 List.not_mem_nil⟩
      · rw [if_neg e]
        exact ⟨fun h => ⟨by omega, h.2⟩, fun h => ⟨by omega, h.2⟩⟩
    · exact r3.gr g7 (by omega) (by omega) (by omega) (by omega) (fun c => by omega)
    · exact r4.gr g7 (by omega) (by omega) (by omega) (by omega) (fun c => by omega)
  refine ⟨fun e => ⟨fun c => by omega, fun c => ⟨2, hF.1.1, fun c2 => room _ (fun m5 a1 a2 a3 g5 x5 => nn_ref ?_), fun c2 => by omega⟩⟩, fun q5 e => ⟨fun c => by omega, fun c => ⟨2, hF.1.1, fun c2 => room _ (fun m5 a1 a2 a3 g5 x5 => nn_ref ?_), fun c2 => by omega⟩⟩⟩
  · have := rest m5 a1 a2 a3 g5 x5
    rw [e] at this
    exact this
  · have := rest m5 a1 a2 a3 g5 x5
    rw [e] at this
    exact this
end MK
