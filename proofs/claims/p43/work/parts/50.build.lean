/-! sources, memos, the effect: as the law makes them -/
def Bd (T : Tp) (m : Mm) (w : Ws) : Prop := Ps m ∧ Wb T m w ∧ Gd T ∧ (∀ k, k < T.n → w.bu k = 0 ∧ w.rd k = [] ∧ w.ru k = 0 ∧ w.co k = (if k < T.ns then 0 else 2) ∧ (T.ns ≤ k → T.kd k = 3)) ∧ w.qu = [] ∧ m.iv 1 7 = nI 0 ∧ (∀ k, T.n ≤ k → k < 24 → m.rv 2 k = 0) ∧ (m.rv 0 5 = 26 ∧ m.rv 0 6 = 41) ∧ 60 ≤ m.nx ∧ Und T m.nx
/-- the tape, and the reader at rest -/
def Tr (m : Mm) (tp : List Int32) : Prop := NumAt m 40 41 250 tp ∧ ∃ cs r, RA m cs r
/-- what stands on the tape is a formula over the cells below k -/
def FmOk (k : Nat) (tp : List Int32) : Prop := (∀ x, (lat tp x).toInt ≠ 126) ∧ (rAll (nI k) tp).fa = -1 ∧ (rTake (nI k) tp).wp = 0 ∧ (rTake (nI k) tp).op = [] ∧ ∀ cap, Good k ((rTake (nI k) tp).sl, (rTake (nI k) tp).dl, cap)
section BU
variable {D E : Nat → Nat → Prop} {m m' m1 m2 : Mm} {n p c q a b N k A F cap cp lim f r5 : Nat} {l sl dl tp : List Int32} {x y cs cs0 kd x1 x2 : Int32} {x3 ou : Int64} {r r0 : Rd} {v : Value} {T : Tp} {w w' : Ws} {P : List Int32 × List Int32 × Nat}
theorem Wb.lo (h : Wb T m w) (g : FrG D m m') (hD : ∀ p c, p < m.nx → D p c → 25 ≤ p ∧ p < 60) (h60 : 60 ≤ m.nx) (u : Und T m.nx) : Wb T m' w := by
  obtain ⟨L, hF, hC, r1, r2, r3, lg, r4⟩ := h
  obtain ⟨m2, f, s⟩ := (g.wk (E := fun p c => D p c ∧ p < m.nx) (fun p c hp e => ⟨e, hp⟩)).cut
  have lo : ∀ p c, (p < 25 ∨ 60 ≤ p) → ¬ (D p c ∧ p < m.nx) := fun p c hp e => by
    have := hD p c e.2 e.1
    omega
  have s25 : Sm 25 m m2 := (FrG.of f).sm (by omega) (fun p c hp => lo p c (Or.inl hp))
  refine ⟨L, (hF.sm s25 (Nat.le_refl _)).sm s (by omega), fun i hi => ?_, fun i hi => ?_, fun j hj i hi => ?_, ?_, lg, ?_⟩
  · have ui := u i hi
    have li := L.2.1 i hi
    exact ((hC i hi).fr f (lo _ _ (by omega)) (fun c _ => lo _ _ (Or.inr li.1)) (fun hs p c p1 p2 e => absurd e (lo _ _ (Or.inr (by have := li.2 hs; omega))))).sm s (by omega) ui.1 ui.2
  · have ui := u i hi
    have li := L.2.1 i hi
    exact ((r1 i hi).fr f (fun c _ _ => lo _ _ (Or.inr li.1)) (lo _ _ (by omega)) (lo _ _ (by omega)) (fun c => lo _ _ (by omega))).sm s (by omega)
  · rw [s.iv (by omega), fiv f (lo _ _ (by omega))]
    exact r2 j hj i hi
  · exact (r3.fr f (lo _ _ (by omega)) (lo _ _ (by omega)) (fun c => lo _ _ (by omega))).sm s (by omega) (by omega)
  · exact (r4.fr f (lo _ _ (by omega)) (lo _ _ (by omega)) (fun c => lo _ _ (by omega))).sm s (by omega) (by omega)
theorem Bd.lo (h : Bd T m w) (g : FrG D m m') (hD : ∀ p c, p < m.nx → D p c → 25 ≤ p ∧ p < 60) : Bd T m' w := by
  obtain ⟨⟨p1, p2, p3⟩, h2, G, hk, hq, hb, hz, ⟨t1, t2⟩, h60, u⟩ := h
  have lo : ∀ p c, p < 25 → ¬ D p c := fun p c hp e => by
    have := hD p c (by omega) e
    omega
  have nx := g.2.2
  exact ⟨⟨(g.rv (by omega) (lo _ _ (by omega))).trans p1, (g.rv (by omega) (lo _ _ (by omega))).trans p2, (g.rv (by omega) (lo _ _ (by omega))).trans p3⟩, h2.lo g hD h60 u, G, hk, hq, (g.iv (by omega) (lo _ _ (by omega))).trans hb, fun k k1 k2 => (g.rv (by omega) (lo _ _ (by omega))).trans (hz k k1 k2), ⟨(g.rv (by omega) (lo _ _ (by omega))).trans t1, (g.rv (by omega) (lo _ _ (by omega))).trans t2⟩, by omega, fun k hk => by
    have := u k hk
    exact ⟨by omega, fun hs => by have := this.2 hs; omega⟩⟩
theorem RA.gq (h : RA m cs r) (g : FrG D m m') (hn : 40 ≤ m.nx) (hD : ∀ p c, 25 ≤ p → p < 42 → ¬ D p c) : RA m' cs r := by
  obtain ⟨⟨n1, n2, ⟨l3, n3⟩, n4, ⟨l5, n5⟩, n6, l7, n7⟩, b⟩ := h
  have N : ∀ {q a N : Nat} {l : List Int32}, NumAt m q a N l → 25 ≤ q → q < 40 → 25 ≤ a → a < 40 → NumAt m' q a N l := fun h q1 q2 a1 a2 => h.gr g (by omega) (by omega) (hD _ _ q1 (by omega)) (hD _ _ q1 (by omega)) (fun c => hD _ _ a1 (by omega))
  refine ⟨⟨N n1 (by omega) (by omega) (by omega) (by omega), N n2 (by omega) (by omega) (by omega) (by omega), ⟨l3, N n3 (by omega) (by omega) (by omega) (by omega)⟩, N n4 (by omega) (by omega) (by omega) (by omega), ⟨l5, N n5 (by omega) (by omega) (by omega) (by omega)⟩, N n6 (by omega) (by omega) (by omega) (by omega), l7, N n7 (by omega) (by omega) (by omega) (by omega)⟩, ?_⟩
  have I : ∀ c, m'.iv 25 c = m.iv 25 c := fun c => g.iv (by omega) (hD _ _ (by omega) (by omega))
  have R : ∀ c, m'.rv 25 c = m.rv 25 c := fun c => g.rv (by omega) (hD _ _ (by omega) (by omega))
  rw [R, R, R, R, R, R, R, I, I, I, I, I, I]
  exact b
theorem Tr.gr (h : Tr m tp) (g : FrG D m m') (hD : ∀ p c, 25 ≤ p → p < 42 → ¬ D p c) (h60 : 60 ≤ m.nx) : Tr m' tp := by
  obtain ⟨t, cs, r, h⟩ := h
  exact ⟨t.gr g (by omega) (by omega) (hD _ _ (by omega) (by omega)) (hD _ _ (by omega) (by omega)) (fun c => hD _ _ (by omega) (by omega)), cs, r, h.gq g (by omega) hD⟩
theorem aFeed {K : Mm → Int32 → Prop} (B : Bd T m w) (t : Tr m tp) (hx : 0 ≤ x.toInt ∧ x.toInt ≤ 255) (hl : tp.length < 250) (kk : ∀ m' z, Bd T m' w → Tr m' (tp ++ [x]) → m'.nx = m.nx → K m' z) : WPS_feed 0 x m K := by
  have e255 : (255 : Int32).toInt = 255 := rfl
  have e250 : (250 : Int32).toInt = 250 := rfl
  obtain ⟨t1, cs, r, t2⟩ := t
  have tz : (Int32.ofNat tp.length).toInt = (tp.length : Int) := nI_toInt (by omega)
  have h6 := B.2.2.2.2.2.2.2.1.2
  refine ⟨fun c => by omega, fun c => ⟨fun c2 => by omega, fun c2 => ⟨40, h6, sNu_size t1 ⟨fun c3 => ⟨40, h6, sNu_add t1 (fun m1 n1 f1 => ?_)⟩, fun c3 => by omega⟩⟩⟩⟩
  have e : ladd 250 tp x = tp ++ [x] := if_pos hl
  rw [e] at n1
  have B1 := B.lo (FrG.of f1) (fun p c hp e => by unfold DN at e; omega)
  have t3 : RA m1 cs r := t2.gr (FrG.of f1) (by have := B.2.2.2.2.2.2.2.2.1; omega) (fun p c hp e => by unfold DN at e; omega)
  exact ⟨40, B1.2.2.2.2.2.2.2.1.2, sNu_size n1 (kk m1 _ B1 ⟨n1, cs, r, t3⟩ (fnx f1))⟩
theorem Gd.ex (G : Gd T) (h : T.ns ≤ T.n → Good T.n P) : Gd (T.ex a f kd P) := fun k hk hs => by
  have hk : k < T.n + 1 := hk
  by_cases e : k = T.n
  · subst e
    rw [ex_P0]
    exact h hs
  · rw [ex_P e]
    exact G k (by omega) hs
/-- what a new cell leaves of all the rest -/
theorem Bd.ex (B : Bd T m w) (hw : Wb (T.ex a f kd P) m' (w.ex T.n (if T.n < T.ns then 0 else 2) ou)) (g : FrG (fun p c => (p = 2 ∧ c = T.n) ∨ (p = 1 ∧ c = 2)) m m') (ha : a = m.nx) (hnx : m'.nx = m.nx + 3) (hf : T.ns ≤ T.n → f + 8 < m.nx ∧ Good T.n P ∧ kd = 3) : Bd (T.ex a f kd P) m' (w.ex T.n (if T.n < T.ns then 0 else 2) ou) := by
  obtain ⟨⟨p1, p2, p3⟩, h2, G, hk, hq, hb, hz, ⟨t1, t2⟩, h60, u⟩ := B
  refine ⟨⟨(g.rv (by omega) (by omega)).trans p1, (g.rv (by omega) (by omega)).trans p2, (g.rv (by omega) (by omega)).trans p3⟩, hw, G.ex (fun hs => (hf hs).2.1), fun k hkn => ?_, hq, (g.iv (by omega) (by omega)).trans hb, fun k k1 k2 => ?_, ⟨(g.rv (by omega) (by omega)).trans t1, (g.rv (by omega) (by omega)).trans t2⟩, by omega, u.ex (by omega) (by omega) (fun hs => by have := (hf hs).1; omega)⟩
  · have hkn : k < T.n + 1 := hkn
    by_cases e : k = T.n
    · subst e
      refine ⟨if_pos rfl, if_pos rfl, if_pos rfl, if_pos rfl, fun hs => ?_⟩
      rw [ex_k0]
      exact (hf hs).2.2
    · obtain ⟨a1, a2, a3, a4, a5⟩ := hk k (by omega)
      refine ⟨(if_neg e).trans a1, (if_neg e).trans a2, (if_neg e).trans a3, (if_neg e).trans a4, fun hs => ?_⟩
      rw [ex_k e]
      exact a5 hs
  · have k1 : T.n + 1 ≤ k := k1
    rw [g.rv (by omega) (by omega)]
    exact hz k (by omega) k2
theorem aSource {K : Mm → Int32 → Prop} (B : Bd T m w) (t : Tr m tp) (hs : T.n < T.ns) (hn : T.n < 23) (kk : ∀ m' z T' w', T'.n = T.n + 1 → T'.ns = T.ns → Bd T' m' w' → Tr m' tp → m'.nx = m.nx + 3 → K m' z) : WPS_source 0 x (-1) m K := by
  have B0 := B
  obtain ⟨⟨p1, p2, p3⟩, h2, G, hk, hq, hb, hz, ⟨t1, t2⟩, h60, u⟩ := B
  refine ⟨1, p1, sWe_mayOwn h2 ⟨fun c => absurd c (by decide), fun _ => ⟨1, p1, sWe_isFull h2 ⟨fun _ => ⟨1, p1, ?_⟩, fun c => absurd rfl c⟩⟩⟩⟩
  refine sWe_addCell (F := 0) (P := ([], [], 0)) h2 hn (hz _ (Nat.le_refl _) (by omega)) h60 u (Nat.le_refl _) rfl (fun _ => ⟨rfl, rfl⟩) (fun c => by omega) (fun m' hw g hnx => ?_)
  exact kk m' _ (T.ex m.nx 0 1 ([], [], 0)) _ rfl rfl (B0.ex hw g rfl hnx (fun c => by omega)) (t.gr g (fun p c hp hp2 => by omega) h60) hnx
/-- what memo and effect have in common -/
theorem aComp {K : Mm → Int32 → Prop} (B : Bd T m w) (t : Tr m tp) (hs : T.ns ≤ T.n) (hn : T.n < 23) (ok : FmOk T.n tp) (hkd : kd = 3 ∨ kd = 4) (kk : ∀ m' m1 P, Good T.n P → Bd T m1 w → Tr m1 tp → Und T m.nx → m.nx + 8 < m1.nx → m1.nx = m.nx + 9 → Wb (T.ex m1.nx m.nx kd P) m' (w.ex T.n (if T.n < T.ns then 0 else 2) 0) → FrG (fun p c => (p = 2 ∧ c = T.n) ∨ (p = 1 ∧ c = 2)) m1 m' → m'.nx = m1.nx + 3 → K m' (nI T.n)) : WPS_newComputed 0 kd (-1) m K := by
  have B0 := B
  obtain ⟨⟨p1, p2, p3⟩, h2, G, hk, hq, hb, hz, ⟨t1, t2⟩, h60, u⟩ := B
  obtain ⟨tt, cs, r, ra⟩ := t
  obtain ⟨o1, o2, o3, o4, o5⟩ := ok
  refine ⟨1, p1, sWe_mayOwn h2 ⟨fun c => absurd c (by decide), fun _ => ⟨25, t1, 40, t2, 1, p1, ?_⟩⟩⟩
  unfold WWe_count
  rw [h2.2.1.1.2.2]
  refine sRe_take ra tt o1 h60 o2 o3 o4 (fun m1 cap s1 ra1 g1 x1 => nn_ref ?_)
  have hD : ∀ p c, p < m.nx → DZ p c → 25 ≤ p ∧ p < 60 := fun p c hp e => by unfold DZ at e; omega
  have B1 := B0.lo g1 hD
  have t1' : NumAt m1 40 41 250 tp := tt.gr g1 (by omega) (by omega) (by unfold DZ; omega) (by unfold DZ; omega) (fun c => by unfold DZ; omega)
  obtain ⟨⟨q1, q2, q3⟩, h3, -, -, -, -, hz1, -, h61, u1⟩ := B1
  refine ⟨1, q1, sWe_isFull h3 ⟨fun _ => ⟨1, q1, ?_⟩, fun c => absurd rfl c⟩⟩
  exact sWe_addCell (F := m.nx) (P := ((rTake (nI T.n) tp).sl, (rTake (nI T.n) tp).dl, cap)) h3 hn (hz1 _ (Nat.le_refl _) (by omega)) h61 u (by omega) rfl (fun c => by omega) (fun _ => ⟨hkd, rfl, Nat.le_refl _, by omega, h60, s1⟩) (fun m' hw g hnx => kk m' m1 _ (o5 cap) (B0.lo g1 hD) ⟨t1', _, _, ra1⟩ u (by omega) x1 hw g hnx)
theorem aMemo {K : Mm → Int32 → Prop} (B : Bd T m w) (t : Tr m tp) (hs : T.ns ≤ T.n) (hn : T.n < 23) (ok : FmOk T.n tp) (kk : ∀ m' z T' w', T'.n = T.n + 1 → T'.ns = T.ns → Bd T' m' w' → Tr m' [] → m'.nx = m.nx + 12 → K m' z) : WPS_memo 0 (-1) m K := by
  refine aComp B t hs hn ok (Or.inl rfl) (fun m' m1 P g B1 t1 u1 x0 x1 hw g1 hnx => ?_)
  have B2 := B1.ex hw g1 rfl hnx (fun _ => ⟨x0, g, rfl⟩)
  have h60 := B1.2.2.2.2.2.2.2.2.1
  obtain ⟨tt, cs, r, ra⟩ := t1.gr g1 (fun p c hp hp2 => by omega) h60
  refine ⟨40, B2.2.2.2.2.2.2.2.1.2, sNu_clear' tt (fun m2 n2 f2 => ?_)⟩
  have h61 := B2.2.2.2.2.2.2.2.2.1
  exact kk m2 _ (T.ex m1.nx m.nx 3 P) _ rfl rfl (B2.lo (FrG.of f2) (fun p c hp e => by unfold DN at e; omega)) ⟨n2, cs, r, ra.gr (FrG.of f2) (by omega) (fun p c hp e => by unfold DN at e; omega)⟩ (by rw [fnx f2]; omega)
theorem inv_new (hk : ∀ k, k < T.n → w.bu k = 0 ∧ w.rd k = [] ∧ w.ru k = 0 ∧ w.co k = (if k < T.ns then 0 else 2)) : Inv T w := by
  refine ⟨fun k h => ?_, fun k h hs => ?_, fun k h hs h2 => ?_, fun k h h0 j hj => ?_, fun k h => ?_⟩
  · rw [(hk k h).2.2.2]
    split
    · exact Or.inl rfl
    · exact Or.inr (Or.inr rfl)
  · exact ⟨(hk k h).2.2.2.trans (if_pos hs), (hk k h).2.1⟩
  · exact absurd ((hk k h).2.2.2.trans (if_neg (by omega))) h2
  · rw [(hk k h).2.1] at hj
    exact absurd hj List.not_mem_nil
  · rw [(hk k h).2.1]
    exact ⟨List.nodup_nil, fun j hj => absurd hj List.not_mem_nil⟩
/-- the effect's making ends with the first flush: then the acts begin -/
theorem aEffect {K : Mm → Int32 → Prop} (B : Bd T m w) (t : Tr m tp) (hs : T.ns ≤ T.n) (hn : T.n < 23) (ok : FmOk T.n tp) (kk : ∀ m' z T' w', T'.n = T.n + 1 → T'.ns = T.ns → Ef T' → Act T' m' w' 0 → m'.nx = m.nx + 12 → K m' z) : WPS_effect 0 (-1) m K := by
  refine aComp B t hs hn ok (Or.inr rfl) (fun m' m1 P g B1 t1 u1 x0 x1 hw g1 hnx => ?_)
  have h60 := B1.2.2.2.2.2.2.2.2.1
  obtain ⟨tt, cs, r, ra⟩ := t1.gr g1 (fun p c hp hp2 => by omega) h60
  have r6 := (g1.rv (p := 0) (c := 6) (by omega) (by omega)).trans B1.2.2.2.2.2.2.2.1.2
  refine ⟨40, r6, sNu_clear' tt (fun m2 n2 f2 => ⟨fun c => ?_, fun _ => ?_⟩)⟩
  · rw [nI_toInt (by omega)] at c
    omega
  have hw2 : Wb (T.ex m1.nx m.nx 4 P) m2 (w.ex T.n (if T.n < T.ns then 0 else 2) 0) := hw.lo (FrG.of f2) (fun p c hp e => by unfold DN at e; omega) (by omega) (u1.ex (by omega) (by omega) (fun _ => by omega))
  have lo : ∀ p c, p < 25 → ¬ DN 40 41 p c := fun p c hp => by unfold DN; omega
  have P1 := B1.1
  have P2 : Ps m2 := ⟨(frv f2 (lo _ _ (by omega))).trans ((g1.rv (by omega) (by omega)).trans P1.1), (frv f2 (lo _ _ (by omega))).trans ((g1.rv (by omega) (by omega)).trans P1.2.1), (frv f2 (lo _ _ (by omega))).trans ((g1.rv (by omega) (by omega)).trans P1.2.2)⟩
  have b2 : m2.iv 1 7 = nI 0 := (fiv f2 (lo _ _ (by omega))).trans ((g1.iv (by omega) (by omega)).trans B1.2.2.2.2.2.1)
  have nq := hw2.2.2.2.2.2.1
  have q0 : (w.ex T.n (if T.n < T.ns then 0 else 2) 0).qu = [] := B1.2.2.2.2.1
  rw [q0] at nq
  refine ⟨1, P2.1, 4, hw2.2.1.2.2.1, sNu_add nq (fun m3 n3 f3 => ⟨21, ?_, ?_⟩)⟩
  · rw [frv f3 (by unfold DN; omega)]
    exact P2.2.1
  have e3 : ladd 24 [] (nI T.n) = [T.n].map nI := rfl
  have hw3 : Wb (T.ex m1.nx m.nx 4 P) m3 ((w.ex T.n (if T.n < T.ns then 0 else 2) 0).1, (w.ex T.n (if T.n < T.ns then 0 else 2) 0).2.1, (w.ex T.n (if T.n < T.ns then 0 else 2) 0).2.2.1, (w.ex T.n (if T.n < T.ns then 0 else 2) 0).2.2.2.1, (w.ex T.n (if T.n < T.ns then 0 else 2) 0).2.2.2.2.1, [T.n]) := Wb.que hw2 f3 n3 (fun _ => rfl) rfl rfl rfl rfl
  have lo3 : ∀ p c, (p < 4 ∨ 5 < p) → ¬ DN 4 5 p c := fun p c hp => by unfold DN; omega
  have P3 : Ps m3 := ⟨(frv f3 (lo3 _ _ (by omega))).trans P2.1, (frv f3 (lo3 _ _ (by omega))).trans P2.2.1, (frv f3 (lo3 _ _ (by omega))).trans P2.2.2⟩
  have hk : ∀ k, k < T.n + 1 → (w.ex T.n (if T.n < T.ns then 0 else 2) 0).bu k = 0 ∧ (w.ex T.n (if T.n < T.ns then 0 else 2) 0).rd k = [] ∧ (w.ex T.n (if T.n < T.ns then 0 else 2) 0).ru k = 0 ∧ (w.ex T.n (if T.n < T.ns then 0 else 2) 0).co k = (if k < T.ns then 0 else 2) := fun k hk => by
    by_cases e : k = T.n
    · subst e
      exact ⟨if_pos rfl, if_pos rfl, if_pos rfl, if_pos rfl⟩
    · obtain ⟨a1, a2, a3, a4, a5⟩ := B1.2.2.2.1 k (by omega)
      exact ⟨(if_neg e).trans a1, (if_neg e).trans a2, (if_neg e).trans a3, (if_neg e).trans a4⟩
  have S : Ef (T.ex m1.nx m.nx 4 P) := by
    refine ⟨B1.2.2.1.ex (fun _ => g), fun k hk e4 => ?_, by show T.ns < T.n + 1; omega, ?_⟩
    · have hk : k < T.n + 1 := hk
      show k + 1 = T.n + 1
      by_cases e : k = T.n
      · omega
      · exfalso
        rw [ex_k e] at e4
        by_cases hs2 : k < T.ns
        · rw [(B1.2.1.2.2.1 k (by omega)).2.2.2.2.2.1 hs2] at e4
          exact absurd e4 (by decide)
        · rw [(B1.2.2.2.1 k (by omega)).2.2.2.2 (by omega)] at e4
          exact absurd e4 (by decide)
    · show (T.ex m1.nx m.nx 4 P).kd T.n = 4
      exact ex_k0
  have cn : (w.ex T.n (if T.n < T.ns then 0 else 2) 0).co T.n = 2 := (hk T.n (by omega)).2.2.2.trans (if_neg (by omega))
  refine aFlush S P3 hw3 (inv_new hk) (fun j hj => (hk j hj).1) ?_ ((fiv f3 (lo3 _ _ (by omega))).trans b2) (by omega) (fun m4 w4 A4 _ _ _ n4 => kk m4 _ (T.ex m1.nx m.nx 4 P) w4 rfl rfl S A4 (by rw [n4, fnx f3, fnx f2, hnx, x1]))
  show [T.n] = (if (w.ex T.n (if T.n < T.ns then 0 else 2) 0).co T.n = 0 then [] else [T.n])
  rw [cn]
  rfl
end BU
