/-! a formula is read -/
def rStep (cs : Int32) (tp : List Int32) (r : Rd) : Rd := if (if r.wp = 0 then rSg (lat tp r.at) r else rPart cs tp r).ps = 0 then (if r.wp = 0 then rSg (lat tp r.at) r else rPart cs tp r) else rWp (rEnd 250 (rPs (if r.wp = 0 then rSg (lat tp r.at) r else rPart cs tp r) 0)) 0
def rLoop (cs : Int32) (tp : List Int32) : Nat → Rd → Rd
  | 0, r => r
  | n + 1, r => if r.at.toInt < (tp.length : Int) ∧ r.fa = -1 then rLoop cs tp n (rStep cs tp r) else r
def r00 : Rd := ([], [], [], [], 0, -1, 1, 0)
def rAll (cs : Int32) (tp : List Int32) : Rd := rLoop cs tp tp.length r00
def rTake (cs : Int32) (tp : List Int32) : Rd := rGat 1 250 (rAll cs tp)
section TK
variable {D E : Nat → Nat → Prop} {m m' m1 m2 : Mm} {n p c q a b N k A F cap cp : Nat} {l sl dl tp : List Int32} {x y cs cs0 : Int32} {r r0 : Rd} {v : Value} {f : Nat → Value}
theorem FrG.sm (f : FrG D m m') (hn : n ≤ m.nx) (hD : ∀ p c, p < n → ¬ D p c) : Sm n m m' := ⟨fun p c hp => f.1 p c (by omega) (hD p c hp), fun p hp => f.2.1 p (by omega)⟩
theorem RA.gr (h : RA m cs r) (f : FrG D m m') (hn : 40 ≤ m.nx) (hD : ∀ p c, p < 40 → ¬ D p c) : RA m' cs r := h.sm (f.sm hn hD) (Nat.le_refl _)
theorem RA.scs (h : RA m cs0 r) (e : m' = m.st 25 8 (.int cs)) : RA m' cs r := by
  have f : FrP (fun p c => p = 25 ∧ c = 8) m m' := fste e ⟨rfl, rfl⟩
  obtain ⟨⟨n1, n2, ⟨l3, n3⟩, n4, ⟨l5, n5⟩, n6, l7, n7⟩, ⟨a0, a1, a2, a3, a4, a5, a6⟩, b1, b2, b3, b4, b5, b6⟩ := h
  refine ⟨⟨n1.fr f (by omega) (by omega) (fun c => by omega), n2.fr f (by omega) (by omega) (fun c => by omega), ⟨l3, n3.fr f (by omega) (by omega) (fun c => by omega)⟩, n4.fr f (by omega) (by omega) (fun c => by omega), ⟨l5, n5.fr f (by omega) (by omega) (fun c => by omega)⟩, n6.fr f (by omega) (by omega) (fun c => by omega), l7, n7.fr f (by omega) (by omega) (fun c => by omega)⟩, ?_⟩
  rw [frv f (c := 0) (by omega), frv f (c := 1) (by omega), frv f (c := 2) (by omega), frv f (c := 3) (by omega), frv f (c := 4) (by omega), frv f (c := 5) (by omega), frv f (c := 6) (by omega), fiv f (p := 25) (c := 7) (by omega), show m'.iv 25 8 = cs by rw [e, si_eq], fiv f (p := 25) (c := 9) (by omega), fiv f (p := 25) (c := 10) (by omega), fiv f (p := 25) (c := 11) (by omega), fiv f (p := 25) (c := 12) (by omega)]
  exact ⟨⟨a0, a1, a2, a3, a4, a5, a6⟩, b1, rfl, b3, b4, b5, b6⟩
theorem dr_cs (e : m' = m.st 25 8 v) : FrP DZ m m' := fste e (Or.inl ⟨rfl, by omega⟩)
theorem sRe_start {K : Mm → Prop} (h : RA m cs0 r) (k : ∀ m', RA m' cs r00 → FrP DZ m m' → K m') : WRe_start 25 cs m K := by
  refine ⟨26, h.2.1.1, sNu_clear' h.1.1 (fun m1 n1 f1 => ?_)⟩
  have h1 := h.n1 n1 f1
  refine ⟨28, h1.2.1.2.1, sNu_clear' h1.1.2.1 (fun m2 n2 f2 => ?_)⟩
  have h2 := h1.n2 n2 f2
  obtain ⟨l3, n3⟩ := h2.1.2.2.1
  refine ⟨30, h2.2.1.2.2.1, sNu_clear' n3 (fun m3 n3 f3 => ?_)⟩
  have h3 := h2.n3 n3 f3
  refine ⟨32, h3.2.1.2.2.2.1, sNu_clear' h3.1.2.2.2.1 (fun m4 n4 f4 => ?_)⟩
  have h4 := h3.n4 n4 f4
  obtain ⟨l5, n5⟩ := h4.1.2.2.2.2.1
  refine ⟨34, h4.2.1.2.2.2.2.1, sNu_clear' n5 (fun m5 n5 f5 => ?_)⟩
  have h5 := h4.n5 n5 f5
  refine ⟨36, h5.2.1.2.2.2.2.2.1, sNu_clear' h5.1.2.2.2.2.2.1 (fun m6 n6 f6 => ?_)⟩
  have h6 := h5.n6 n6 f6
  obtain ⟨l7, n7⟩ := h6.1.2.2.2.2.2.2
  refine ⟨38, h6.2.1.2.2.2.2.2.2, sNu_clear' n7 (fun m7 n7 f7 m8 e8 m9 e9 m10 e10 m11 e11 m12 e12 m13 e13 => ?_)⟩
  have h7 := h6.n7 n7 f7
  have h8 := h7.sdp e8 (by decide)
  have h9 := h8.scs e9
  have h13 := (((h9.sat e10).sfa e11).swp e12).sps e13
  exact k m13 h13 (ftr (dz1 f1) (ftr (dz2 f2) (ftr (dz3 f3) (ftr (dz4 f4) (ftr (dz5 f5) (ftr (dz6 f6) (ftr (dz7 f7) (ftr (dr_dp e8) (ftr (dr_cs e9) (ftr (dr_at e10) (ftr (dr_fa e11) (ftr (dr_wp e12) (dr_ps e13)))))))))))))
theorem sFo_init {K : Mm → Prop} (h : RA m cs r) (hF : m.nx = F + 1) (h60 : 60 ≤ F) (hx : 0 ≤ x.toInt ∧ x.toInt ≤ 250) (k : ∀ m', FmS m' F r.sl r.dl x.toInt.toNat → FrG (fun p _ => p = F) m m' → m'.nx = F + 9 → K m') : WFo_init F 26 28 30 x m K := by
  have lo : ∀ {a b : Mm}, FrG D0 a b → 60 ≤ a.nx → RA a cs r → RA b cs r := fun f hn h => h.gr f (by omega) (fun _ _ _ e => e)
  have ls : ∀ {a b : Mm} {c : Nat} {v : Value}, b = a.st F c v → 60 ≤ a.nx → RA a cs r → RA b cs r := fun e hn h => h.gr (D := fun p _ => p = F) (FrG.of (fste e rfl)) (by omega) (fun p c hp e => by omega)
  have fs : ∀ {a b : Mm} {c : Nat} {v : Value}, b = a.st F c v → FrG (fun p _ => p = F) a b := fun e => FrG.of (fste e rfl)
  have sl1 := h.1.1.1.2.2
  have dl1 := h.1.2.1.1.2.2
  refine sNu_trimmed h.1.1 (by omega) (by omega) (by omega) (fun m1 n1 g1 x1 => ⟨m.nx, rfl, fun m2 e2 => ?_⟩)
  have h2 := ls e2 (by omega) (lo g1 (by omega) h)
  have x2 : m2.nx = F + 3 := by rw [e2]; show m1.nx = F + 3; omega
  refine sNu_trimmed h2.1.2.1 (by omega) (by omega) (by omega) (fun m3 n3 g3 x3 => ⟨m2.nx, rfl, fun m4 e4 => ?_⟩)
  have h4 := ls e4 (by omega) (lo g3 (by omega) h2)
  have x4 : m4.nx = F + 5 := by rw [e4]; show m3.nx = F + 5; omega
  obtain ⟨l3, t3⟩ := h4.1.2.2.1
  have t3l := t3.1.2.2
  refine sNu_trimmed t3 (by omega) (by omega) (by omega) (fun m5 n5 g5 x5 => ⟨m4.nx, rfl, fun m6 e6 m7 e7 => ?_⟩)
  have x6 : m6.nx = F + 7 := by rw [e6]; show m5.nx = F + 7; omega
  have x7 : m7.nx = F + 8 := by rw [e7]; show m6.nx + 1 = F + 8; omega
  have g7 : FrG D0 m6 m7 := FrG.nwe e7
  refine sNu_init (N := x.toInt.toNat) (by omega) (by omega) (by omega) (by rw [e7, nw_iv_o, if_pos rfl]; rfl) (fun m8 n8 g8 x8 m9 e9 => ?_)
  have x9 : m9.nx = F + 9 := by rw [e9]; show m8.nx = F + 9; omega
  rw [x7] at n8
  rw [x6] at n8 e9 g8
  rw [x4] at n5 e6
  rw [x2] at n3 e4
  rw [hF] at n1 e2
  have g34 : FrG (fun p _ => p = F) m2 m9 := (((((g3.wk (fun p c _ e => absurd e id)).tr (fs e4)).tr (g5.wk (fun p c _ e => absurd e id))).tr (fs e6)).tr (g7.wk (fun p c _ e => absurd e id))).tn g8 (fun p c hp e => by omega) |>.tr (fs e9)
  have g54 : FrG (fun p _ => p = F) m4 m9 := ((((g5.wk (fun p c _ e => absurd e id)).tr (fs e6)).tr (g7.wk (fun p c _ e => absurd e id))).tn g8 (fun p c hp e => by omega)).tr (fs e9)
  have a1 : NumAt m9 (F + 1) (F + 2) r.sl.length r.sl := (n1.gr (fs e2) (by omega) (by omega) (by omega) (by omega) (fun c => by omega)).gr g34 (by omega) (by omega) (by omega) (by omega) (fun c => by omega)
  have a2 : NumAt m9 (F + 3) (F + 4) r.dl.length r.dl := (n3.gr (fs e4) (by omega) (by omega) (by omega) (by omega) (fun c => by omega)).gr g54 (by omega) (by omega) (by omega) (by omega) (fun c => by omega)
  have a3 : NumAt m9 (F + 7) (F + 8) x.toInt.toNat [] := n8.gr (fs e9) (by omega) (by omega) (by omega) (by omega) (fun c => by omega)
  refine k m9 ⟨?_, ?_, ?_, a1, a2, a3.2.1, a3.2.2.1, by omega⟩ ((g1.wk (fun p c _ e => absurd e id)).tr ((fs e2).tr g34)) x9
  · have q1 : ¬ (F = F ∧ 0 = 3) := by omega
    rw [e9, sr_ne (by omega), g8.rv (by omega) (by omega), g7.rv (by omega) id, e6, sr_ne (by omega), g5.rv (by omega) id, e4, sr_ne (by omega), g3.rv (by omega) id, e2, sr_eq]
  · rw [e9, sr_ne (by omega), g8.rv (by omega) (by omega), g7.rv (by omega) id, e6, sr_ne (by omega), g5.rv (by omega) id, e4, sr_eq]
  · rw [e9, sr_eq]
theorem sRe_take {K : Mm → Nat → Prop} (h : RA m cs0 r0) (t : NumAt m 40 41 250 tp) (ht : ∀ x, (lat tp x).toInt ≠ 126) (hn : 60 ≤ m.nx) (ok1 : (rAll cs tp).fa = -1) (ok2 : (rTake cs tp).wp = 0) (ok3 : (rTake cs tp).op = [])
    (k : ∀ m' cap, FmS m' m.nx (rTake cs tp).sl (rTake cs tp).dl cap → RA m' cs (rTake cs tp) → FrG DZ m m' → m'.nx = m.nx + 9 → K m' (m.nx + 1)) : WRe_take 25 40 cs m K := by
  have e1 : (1 : Int32).toInt = 1 := rfl
  have tl := t.1.2.2
  have tz : (Int32.ofNat tp.length).toInt = (tp.length : Int) := nI_toInt (by omega)
  have En : ∀ (m2 : Mm) (x5 : Int32), RA m2 cs (rAll cs tp) → FrP DZ m m2 → (((m2.iv 25 10) = (-1)) → WRe_gather 25 1 m2 (fun m112 => (m112.iv 25 11 = 0 ∨ m112.iv 25 11 = 1) → (((m112.iv 25 11) = 0) → ∃ p116, m112.rv 25 3 = p116 + 1 ∧ WNu_size p116 m112 (fun m119 x121 => ((0 < x121.toInt) → ∀ m123, m123 = m119.st 25 10 (.int x5) → K m123 0) ∧ (¬ (0 < x121.toInt) → ∀ m126, m126 = m119.nw (eV (.inr (2, xDf 2 8))) 0 → ∃ p132, m126.rv 25 0 = p132 + 1 ∧ ∃ p135, m126.rv 25 1 = p135 + 1 ∧ ∃ p138, m126.rv 25 2 = p138 + 1 ∧ WFo_init (m119.nx) p132 p135 p138 (m126.iv 25 7) m126 (fun m141 => K m141 ((m119.nx) + 1))))) ∧ (¬ ((m112.iv 25 11) = 0) → ∀ m145, m145 = m112.st 25 10 (.int x5) → K m145 0))) ∧ (¬ ((m2.iv 25 10) = (-1)) → K m2 0) := by
    intro m2 x5 h2 f2
    have hfa := h2.2.2.2.2.2.1
    refine ⟨fun _ => sRe_gather h2 (fun m3 h3 f3 _ => ⟨fun _ => ?_, fun c => absurd (h3.2.2.2.2.2.2.1.trans ok2) c⟩), fun c => absurd (hfa.trans ok1) c⟩
    have h3' : RA m3 cs (rTake cs tp) := h3
    have n4 := h3'.1.2.2.2.1
    rw [ok3] at n4
    refine ⟨32, h3.2.1.2.2.2.1, sNu_size n4 ⟨fun c => absurd c (by decide), fun _ m4 e4 => ?_⟩⟩
    have g4 : FrG D0 m3 m4 := FrG.nwe e4
    have x3 : m3.nx = m.nx := (fnx f3).trans (fnx f2)
    have x4 : m4.nx = m.nx + 1 := by rw [e4, nw_nx, x3]
    have h4 := h3'.gr g4 (by omega) (fun _ _ _ e => e)
    refine ⟨26, h4.2.1.1, 28, h4.2.1.2.1, 30, h4.2.1.2.2.1, ?_⟩
    rw [x3]
    refine sFo_init (F := m.nx) h4 x4 hn h4.2.2.1 (fun m5 s5 g5 x5 => ?_)
    have g45 : FrG DZ m m5 := (FrG.of (ftr f2 f3)).tn (g4.tn (E := fun p _ => p = m.nx) g5 (fun p c hp e => by omega)) (fun p c hp e => absurd e id)
    exact k m5 _ s5 (h4.gr g5 (by omega) (fun p c hp e => by omega)) g45 x5
  refine sRe_start h (fun m1 h1 f1 => sNu_size (tape_fr t f1) ?_)
  have Lp : ∀ (n : Nat) (y : Int32) (m2 : Mm) (r2 : Rd), n ≤ tp.length → y.toInt = (tp.length : Int) - (n : Int) → RA m2 cs r2 → FrP DZ m m2 → rLoop cs tp n r2 = rAll cs tp → WRe_take_L13 25 40 (Int32.ofNat tp.length) K (n + 1) y m2 := by
    intro n
    induction n with
    | zero =>
      intro y m2 r2 hn hy h2 f2 e2
      have e2 : r2 = rAll cs tp := e2
      subst e2
      exact WRe_take_L13_i ⟨fun c => by omega, fun _ => En m2 _ h2 f2⟩
    | succ n ih =>
      intro y m2 r2 hn hy h2 f2 e2
      rw [rLoop] at e2
      have ha := h2.2.2.2.2.1
      have hf := h2.2.2.2.2.2.1
      have hw := h2.2.2.2.2.2.2.1
      have t2 := tape_fr t f2
      refine WRe_take_L13_i ⟨fun c => ⟨fun c2 => ⟨fun c3 _ => ⟨fun c4 => ?_, fun c4 => ?_⟩, fun c3 => ?_⟩, fun c2 => ?_⟩, fun c => by omega⟩
      · rw [ha, tz] at c2
        rw [hf] at c3
        rw [hw] at c4
        rw [if_pos ⟨c2, c3⟩] at e2
        unfold rStep at e2
        rw [if_pos c4] at e2
        refine sNu_at t2 (sRe_sg h2 (fun m3 h3 f3 _ => ?_))
        rw [ha] at h3
        have hp := h3.2.2.2.2.2.2.2
        refine ⟨fun c5 => ?_, fun c5 => ?_⟩
        · rw [if_pos (hp.symm.trans c5)] at e2
          exact ih _ m3 _ (by omega) (by rw [i32_add rfl e1 (by omega)]; omega) h3 (ftr f2 f3) e2
        · rw [if_neg (fun e => c5 (hp.trans e))] at e2
          exact sRe_endPart h3 (fun m4 h4 f4 => ih _ m4 _ (by omega) (by rw [i32_add rfl e1 (by omega)]; omega) h4 (ftr f2 (ftr f3 f4)) e2)
      · rw [ha, tz] at c2
        rw [hf] at c3
        rw [hw] at c4
        rw [if_pos ⟨c2, c3⟩] at e2
        unfold rStep at e2
        rw [if_neg c4] at e2
        refine sRe_readPart h2 t2 ht (fun m3 h3 f3 _ => ?_)
        have hp := h3.2.2.2.2.2.2.2
        refine ⟨fun c5 => ?_, fun c5 => ?_⟩
        · rw [if_pos (hp.symm.trans c5)] at e2
          exact ih _ m3 _ (by omega) (by rw [i32_add rfl e1 (by omega)]; omega) h3 (ftr f2 f3) e2
        · rw [if_neg (fun e => c5 (hp.trans e))] at e2
          exact sRe_endPart h3 (fun m4 h4 f4 => ih _ m4 _ (by omega) (by rw [i32_add rfl e1 (by omega)]; omega) h4 (ftr f2 (ftr f3 f4)) e2)
      · rw [hf] at c3
        rw [if_neg (fun e => c3 e.2)] at e2
        subst e2
        exact En m2 _ h2 f2
      · rw [ha, tz] at c2
        rw [if_neg (fun e => c2 e.1)] at e2
        subst e2
        exact En m2 _ h2 f2
  exact ⟨tp.length + 1, Lp tp.length 0 m1 r00 (Nat.le_refl _) (by show (0 : Int) = _; omega) h1 f1 rfl⟩
end TK
