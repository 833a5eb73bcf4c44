/-! the class's memory at the start, as the law's making begins -/
def T00 (ns : Nat) : Tp := (ns, 0, fun _ => 0, fun _ => 0, fun _ => 0, fun _ => ([], [], 0))
def W00 : Ws := (fun _ => 0, fun _ => 0, fun _ => 0, fun _ => 0, fun _ => [], [])
theorem num0 {m : Mm} {q N : Nat} (h : m.rv q 0 = q + 2 ∧ m.ln (q + 1) = N ∧ m.iv q 1 = 0) (hN : N ≤ 1000) : NumAt m q (q + 1) N [] :=
  ⟨⟨by omega, hN, Nat.zero_le _⟩, h.1, h.2.1, h.2.2, fun i hi => absurd hi (Nat.not_lt_zero _)⟩
theorem bd_first {m : Mm} {ns : Nat} (h : SP m) : Bd (T00 ns) m W00 ∧ Tr m [] := by
  obtain ⟨⟨p1, p2, p3, p4, p5⟩, ⟨w1, w2, w3, w4, w5, w6, w7, w8, w9, w10⟩, ⟨u1, u2, u3, u4, u5, u6⟩, hz, ⟨r1, r2, r3, r4, r5, r6, r7, r8⟩, hn, nx⟩ := h
  have N : ∀ q n, (q, n) ∈ [(4, 24), (6, 60), (26, 250), (28, 250), (30, 750), (32, 250), (34, 250), (36, 250), (38, 250), (40, 250)] → n ≤ 1000 → NumAt m q (q + 1) n [] := fun q n hm hN => num0 (hn (q, n) hm) hN
  have Z : ∀ {k : Nat} {X : Prop}, k < (T00 ns).n → X := fun {k X} hk => absurd hk (Nat.not_lt_zero k)
  refine ⟨⟨⟨p1, p2, p3⟩, ⟨⟨Nat.zero_le _, fun k hk => Z hk, fun j k hj => Z hj, fun j k hj => Z hj, fun j k hj => Z hj⟩, ⟨⟨w1, w2, w3⟩, ⟨w4, w5⟩, w6, ⟨w7, w8, w9⟩, u1, u2, u3, u4, u5, u6⟩, fun k hk => Z hk, fun k hk => Z hk, fun j hj i hi => ?_, N 4 24 (by simp) (by omega), [], N 6 60 (by simp) (by omega)⟩, fun k hk => Z hk, fun k hk => Z hk, rfl, w10, fun k _ hk => (hz k hk).2, ⟨p4, p5⟩, by omega, fun k hk => Z hk⟩, N 40 250 (by simp) (by omega), m.iv 25 8, ([], [], [], [], m.iv 25 9, m.iv 25 10, m.iv 25 11, m.iv 25 12), ⟨N 26 250 (by simp) (by omega), N 28 250 (by simp) (by omega), ⟨[], N 30 750 (by simp) (by omega)⟩, N 32 250 (by simp) (by omega), ⟨[], N 34 250 (by simp) (by omega)⟩, N 36 250 (by simp) (by omega), [], N 38 250 (by simp) (by omega)⟩, ⟨r1, r2, r3, r4, r5, r6, r7⟩, by rw [r8]; decide, rfl, rfl, rfl, rfl, rfl⟩
  rw [(hz j hj).1]
  rw [show decide (i < (T00 ns).n ∧ j ∈ W00.rd i) = false from decide_eq_false (fun e => absurd e.1 (Nat.not_lt_zero i))]
  exact (by decide : ∀ i, i < 32 → bt 0 i = false) i hi
