/-! what is made: rows of numbers, formulas, cells -/
theorem HT.rho {ks : List cT} {σ : Nat → Nat → Int32} {ρ ρ' : Nat → xE} {h : List xE} (hT : HT ks σ ρ h) (hr : ∀ q t, xnth ks q = some t → Nat.beq t.1 0 = true → ρ q = ρ' q) : HT ks σ ρ' h := by
  refine ⟨hT.1, fun q t hq => ?_⟩
  obtain ⟨e, e1, e2⟩ := hT.2 q t hq
  exact ⟨e, e1, e2.up (fun _ _ _ h => h) (hr q t hq)⟩
def oArr (N : Nat) : xE := .inl (0, N, .inl (fun _ => 0))
def oNum : xE := .inr (4, [.null, .int 0, .int 0])
theorem eNum {ks : List cT} {σ : Nat → Nat → Int32} {ρ : Nat → xE} {q p N : Nat} (hp : xnth ks p = some (1, N)) : eOK ks σ ρ q (14, N) (.inr (4, [.ref (p + 1), .int 0, .int 0])) := by
  refine ⟨_, rfl, rfl, fun s hs => ?_⟩
  match s, hs with
  | 0, _ => exact ⟨_, rfl, p, rfl, hp, rfl⟩
  | 1, _ => exact ⟨_, rfl, 0, rfl, by decide, by show (0 : Int) ≤ (N : Int); omega⟩
  | 2, _ => exact ⟨_, rfl, 0, rfl⟩
  | n + 3, hs => exact absurd (show n + 3 < 3 from hs) (by omega)
/-- a fresh row, which lies last -/
def CNI (ks : List cT) (σ : Nat → Nat → Int32) (ρ : Nat → xE) (x : Int32) : yQ := fun h' r => r = none ∧ ∃ N : Nat, N ≤ 750 ∧ (0 ≤ x.toInt → (N : Int) = x.toInt) ∧ HT (ks ++ [(14, N), (1, N)]) σ ρ h'
theorem c43 {ks : List cT} {σ : Nat → Nat → Int32} {ρ : Nat → xE} {h : List xE} (hT : HT ks σ ρ h) (x1 : Int32) (hx : x1.toInt ≤ 750) : yM 43 1 750 [.ref (h.length + 1), .int x1] (h ++ [oNum]) (CNI ks σ ρ x1) := by
  refine yM.st xM_43 rfl rfl (fun lv g => ?_)
  have g0 := g 0 _ rfl
  have g1 := g 1 _ rfl
  refine yT.aan (pc' := 1) g0 rfl rfl rfl ?_
  refine yT.obj (pc' := 4) rfl rfl (by decide) rfl ?_
  refine yT.aan (pc' := 5) g0 rfl rfl rfl ?_
  refine yT.iln (pc' := 6) g1 rfl rfl ?_
  have K : ∀ (z : Int32) (X : Int), z.toInt = X → 0 ≤ X → X ≤ 750 → (0 ≤ x1.toInt → X = x1.toInt) → yT 0 [] rX4_init 1 750 14 lv [.int z, .ref (h.length + 1)] (h ++ [oNum]) (CNI ks σ ρ x1) := by
    intro z X hz h0 h1 h2
    refine yT.w (yT.na (pc' := 16) (G := 0) (w := (X.toNat, .inl (fun _ => 0))) hz ⟨h0, by omega⟩ rfl rfl rfl rfl ?_) (Nat.le_refl _) (by omega) (fun _ _ h => h)
    have hq : xnth (h ++ [oNum] ++ [oArr X.toNat]) h.length = some oNum := xnth_app xnth_at
    refine yT.pf (pc' := 19) hq rfl rfl rfl rfl ?_
    have e1 : (h ++ [oNum] ++ [oArr X.toNat]).set h.length (.inr (4, [Value.null, .int 0, .int 0].set 0 (.ref ((h ++ [oNum]).length + 1)))) = h ++ [.inr (4, [.ref (h.length + 1 + 1), .int 0, .int 0]), oArr X.toNat] := by
      rw [List.append_assoc, show [oNum] ++ [oArr X.toNat] = oNum :: [oArr X.toNat] from rfl, set_at, List.length_append]
      rfl
    show yT 0 [] rX4_init 1 0 19 lv [] ((h ++ [oNum] ++ [oArr X.toNat]).set h.length (.inr (4, [Value.null, .int 0, .int 0].set 0 (.ref ((h ++ [oNum]).length + 1))))) _
    rw [e1]
    refine yT.retV rfl rfl ⟨rfl, X.toNat, by omega, fun h3 => by rw [← h2 h3]; omega, ?_⟩
    refine hT.app rfl (fun _ _ => rfl) (fun i t hi => ?_)
    match i, hi with
    | 0, hi =>
      obtain rfl : ((14, X.toNat) : cT) = t := by injection hi
      refine ⟨_, rfl, ?_⟩
      rw [← hT.1]
      exact eNum (by rw [hT.1]; exact xnth_at1)
    | 1, hi =>
      obtain rfl : ((1, X.toNat) : cT) = t := by injection hi
      exact ⟨_, rfl, _, rfl⟩
  refine yT.if1 (t := 13) (pc' := 9) rfl rfl rfl (c1_ge rfl) (fun c => ?_) (fun c => ?_)
  · refine yT.iln (pc' := 14) g1 rfl rfl ?_
    exact K x1 _ rfl c hx (fun _ => rfl)
  · refine yT.kI (pc' := 10) rfl rfl (by decide) (fun z e => ?_)
    refine yT.p (pc' := 14) rfl rfl (fun _ _ _ _ => rfl) ?_
    exact K z _ e (by decide) (by decide) (fun h => absurd h c)
theorem c57 {ks : List cT} {σ : Nat → Nat → Int32} {ρ : Nat → xE} {h : List xE} (hT : HT ks σ ρ h) {q0 N : Nat} (o0 : xnth ks q0 = some (14, N)) (hN : N ≤ 750) : yM 57 2 753 [.ref (q0 + 1)] h (CN ks σ ρ (fun _ => yT0)) := by
  refine yM.st xM_57 rfl rfl (fun lv g => ?_)
  have g0 := g 0 _ rfl
  refine yT.nwc (pc' := 3) (n := 3) (G2 := 750) rfl rfl rfl rfl (by decide) ?_
  refine yT.p (pc' := 4) rfl rfl (fun _ _ _ _ => rfl) ?_
  refine yT.aan (pc' := 5) g0 rfl rfl rfl ?_
  obtain ⟨fs, h1, h2, h3⟩ := hT.obj o0 rfl
  obtain ⟨v, v1, x, rfl, v2, v3⟩ := h3 1 (show 1 < 3 by decide)
  have v3 : x.toInt ≤ (N : Int) := v3
  refine yT.gf (pc' := 8) (xnth_app h1) v1 rfl rfl ?_
  refine yT.cv (G2 := 0) xM_43 (xnth_at (l := [])) (c43 hT x (by omega)) rfl (by decide) (by decide) rfl rfl rfl (fun h' ret hh => ?_)
  obtain ⟨rfl, N', n1, n2, hT'⟩ := hh
  refine yT.p (pc' := 12) (lv' := xst1 _ 1 (.ref (h.length + 1))) rfl rfl (fun _ _ _ _ => rfl) ?_
  refine yT.aan (pc' := 13) xg_eq rfl rfl rfl ?_
  refine yT.aan (pc' := 14) (xg_ne g0 rfl) rfl rfl rfl ?_
  have o1 : xnth (ks ++ [(14, N'), (1, N')]) h.length = some (14, N') := by rw [hT.1]; exact xnth_at
  refine kV (yT.cc (G2 := 0) (pc' := 17) rfl rfl rfl hT' o1 xM_56 (c56 hT' o1 n1 (xnth_app o0) hN) rfl (by decide) (by decide) rfl) (fun h2 hT2 _ => ?_)
  refine yT.aan (pc' := 18) xg_eq rfl rfl rfl ?_
  exact yT.retA rfl rfl rfl ⟨_, h.length, N', ⟨_, rfl, Nat.le_refl _, rfl⟩, hT2, rfl, o1, n1, trivial⟩
def rp (ρ : Nat → xE) (p : Nat) (e : xE) : Nat → xE := fun j => if j = p then e else ρ j
theorem rp_at {ρ : Nat → xE} {p : Nat} {e : xE} : rp ρ p e p = e := if_pos rfl
section RP
variable {ks : List cT} {σ : Nat → Nat → Int32} {ρ : Nat → xE} {h : List xE} {p : Nat} {e e' : xE} {t : cT}
theorem HT.raw2 (hT : HT ks σ ρ h) (e : xE) : HT (ks ++ [(0, 0)]) σ (rp ρ h.length e) (h ++ [e]) := by
  rw [hT.1]
  exact hT.raw e
theorem HT.rs (hT : HT ks σ (rp ρ p e) h) (ho : xnth ks p = some (0, 0)) : HT ks σ (rp ρ p e') (h.set p e') := by
  refine (hT.rawset (e := e') ho).rho (fun q t _ _ => ?_)
  show (if q = p then e' else if q = p then e else ρ q) = (if q = p then e' else ρ q)
  by_cases hq : q = p
  · rw [if_pos hq, if_pos hq]
  · rw [if_neg hq, if_neg hq, if_neg hq]
theorem HT.pr (hT : HT ks σ (rp ρ p e) h) (ho : xnth ks p = some (0, 0)) (he : eOK (ks.set p t) σ ρ p t e) : HT (ks.set p t) σ ρ h :=
  hT.prom ho (by rw [rp_at]; exact he) (fun j hj => if_neg hj)
theorem HT.rat (hT : HT ks σ (rp ρ p e) h) (ho : xnth ks p = some (0, 0)) : xnth h p = some e := by
  rw [hT.rawat ho, rp_at]
theorem xnth_sr {q : Nat} {u : cT} (ho : xnth ks p = some (0, 0)) (hq : xnth ks q = some u) (hu : Nat.beq u.1 0 = false) : xnth (ks.set p t) q = some u := by
  by_cases h : p = q
  · subst h
    rw [ho] at hq
    obtain rfl : ((0, 0) : cT) = u := by injection hq
    cases hu
  · rw [xnth_set_ne h]
    exact hq
end RP
theorem eFor {ks : List cT} {σ : Nat → Nat → Int32} {ρ : Nat → xE} {q a b c d A B C E : Nat} (ha : xnth ks a = some (14, A)) (hA : A ≤ 750) (hb : xnth ks b = some (14, B)) (hB : B ≤ 750) (hc : xnth ks c = some (14, C)) (hC : C ≤ 750) (hd : xnth ks d = some (14, E)) (hE : E ≤ 750) :
    eOK ks σ ρ q (12, 0) (.inr (2, [.ref (a + 1), .ref (b + 1), .ref (c + 1), .ref (d + 1), .int 0, .long 0, .int 0, .int 0])) := by
  refine ⟨_, rfl, rfl, fun s hs => ?_⟩
  match s, hs with
  | 0, _ => exact ⟨_, rfl, a, A, rfl, ha, hA⟩
  | 1, _ => exact ⟨_, rfl, b, B, rfl, hb, hB⟩
  | 2, _ => exact ⟨_, rfl, c, C, rfl, hc, hC⟩
  | 3, _ => exact ⟨_, rfl, d, E, rfl, hd, hE⟩
  | 4, _ => exact ⟨_, rfl, 0, rfl⟩
  | 5, _ => exact ⟨_, rfl, 0, rfl⟩
  | 6, _ => exact ⟨_, rfl, 0, rfl⟩
  | 7, _ => exact ⟨_, rfl, 0, rfl, Or.inl rfl⟩
  | n + 8, hs => exact absurd (show n + 8 < 8 from hs) (by omega)
def oFor : xE := .inr (2, [.null, .null, .null, .null, .int 0, .long 0, .int 0, .int 0])
theorem c10 {ks : List cT} {σ : Nat → Nat → Int32} {ρ : Nat → xE} {h : List xE} (hT : HT ks σ ρ h) {q1 N1 q2 N2 q3 N3 : Nat} (o1 : xnth ks q1 = some (14, N1)) (hN1 : N1 ≤ 750) (o2 : xnth ks q2 = some (14, N2)) (hN2 : N2 ≤ 750) (o3 : xnth ks q3 = some (14, N3)) (hN3 : N3 ≤ 750) (x4 : Int32) (hx : x4.toInt ≤ 750) :
    yM 10 3 3012 [.ref (h.length + 1), .ref (q1 + 1), .ref (q2 + 1), .ref (q3 + 1), .int x4] (h ++ [oFor]) (CM ks σ ρ (12, 0) 9) := by
  refine yM.st xM_10 rfl rfl (fun lv g => ?_)
  have g0 := g 0 _ rfl
  have g1 := g 1 _ rfl
  have g2 := g 2 _ rfl
  have g3 := g 3 _ rfl
  have g4 := g 4 _ rfl
  have hT0 := hT.raw2 oFor
  have o0 : xnth (ks ++ [((0, 0) : cT)]) h.length = some (0, 0) := by rw [hT.1]; exact xnth_at
  generalize hp : h.length = p at *
  generalize h ++ [oFor] = h0 at *
  refine yT.aan (pc' := 1) g0 rfl rfl rfl ?_
  refine yT.obj (pc' := 4) rfl rfl (by decide) rfl ?_
  refine yT.aan (pc' := 5) g0 rfl rfl rfl ?_
  refine yT.aan (pc' := 6) g1 rfl rfl rfl ?_
  refine kCN (yT.cc (G2 := 2259) (pc' := 9) rfl rfl rfl hT0 (xnth_app o1) xM_57 (c57 hT0 (xnth_app o1) hN1) rfl (by decide) (by decide) rfl) (fun h1 ks1 r1 R1 ke1 hT1 oo1 hR1 _ => ?_)
  refine yT.pf (pc' := 12) (hT1.rat (ke1.up o0)) rfl rfl rfl rfl ?_
  replace hT1 := hT1.rs (e' := .inr (2, [.ref (r1 + 1), .null, .null, .null, .int 0, .long 0, .int 0, .int 0])) (ke1.up o0)
  refine yT.aan (pc' := 13) g0 rfl rfl rfl ?_
  refine yT.aan (pc' := 14) g2 rfl rfl rfl ?_
  refine kCN (yT.cc (G2 := 1506) (pc' := 17) rfl rfl rfl hT1 (ke1.up (xnth_app o2)) xM_57 (c57 hT1 (ke1.up (xnth_app o2)) hN2) rfl (by decide) (by decide) rfl) (fun h2 ks2 r2 R2 ke2 hT2 oo2 hR2 _ => ?_)
  refine yT.pf (pc' := 20) (hT2.rat (ke2.up (ke1.up o0))) rfl rfl rfl rfl ?_
  replace hT2 := hT2.rs (e' := .inr (2, [.ref (r1 + 1), .ref (r2 + 1), .null, .null, .int 0, .long 0, .int 0, .int 0])) (ke2.up (ke1.up o0))
  refine yT.aan (pc' := 21) g0 rfl rfl rfl ?_
  refine yT.aan (pc' := 22) g3 rfl rfl rfl ?_
  refine kCN (yT.cc (G2 := 753) (pc' := 25) rfl rfl rfl hT2 (ke2.up (ke1.up (xnth_app o3))) xM_57 (c57 hT2 (ke2.up (ke1.up (xnth_app o3))) hN3) rfl (by decide) (by decide) rfl) (fun h3 ks3 r3 R3 ke3 hT3 oo3 hR3 _ => ?_)
  refine yT.pf (pc' := 28) (hT3.rat (ke3.up (ke2.up (ke1.up o0)))) rfl rfl rfl rfl ?_
  replace hT3 := hT3.rs (e' := .inr (2, [.ref (r1 + 1), .ref (r2 + 1), .ref (r3 + 1), .null, .int 0, .long 0, .int 0, .int 0])) (ke3.up (ke2.up (ke1.up o0)))
  show yT 0 [] rX2_init 3 753 28 lv [] (h3.set p (.inr (2, [.ref (r1 + 1), .ref (r2 + 1), .ref (r3 + 1), .null, .int 0, .long 0, .int 0, .int 0]))) _
  generalize h3.set p (.inr (2, [.ref (r1 + 1), .ref (r2 + 1), .ref (r3 + 1), .null, .int 0, .long 0, .int 0, .int 0])) = h3' at *
  refine yT.aan (pc' := 29) g0 rfl rfl rfl ?_
  refine yT.nwc (pc' := 32) (n := 3) (G2 := 750) rfl rfl rfl rfl (by decide) ?_
  refine yT.p (pc' := 33) rfl rfl (fun _ _ _ _ => rfl) ?_
  refine yT.il (pc' := 35) g4 rfl rfl ?_
  refine yT.cv (G2 := 0) xM_43 (xnth_at (l := [])) (c43 hT3 x4 hx) rfl (by decide) (by decide) rfl rfl rfl (fun h4 ret hh => ?_)
  obtain ⟨rfl, N', n1, n2, hT4⟩ := hh
  have ke4 : KE ks3 (ks3 ++ [(14, N'), (1, N')]) 2 := ⟨_, rfl, Nat.le_refl _, rfl⟩
  have oo4 : xnth (ks3 ++ [(14, N'), (1, N')]) h3'.length = some (14, N') := by rw [hT3.1]; exact xnth_at
  generalize ks3 ++ [(14, N'), (1, N')] = ks4 at *
  have o04 := ke4.up (ke3.up (ke2.up (ke1.up o0)))
  refine yT.pf (pc' := 41) (hT4.rat o04) rfl rfl rfl rfl ?_
  replace hT4 := hT4.rs (e' := .inr (2, [.ref (r1 + 1), .ref (r2 + 1), .ref (r3 + 1), .ref (h3'.length + 1), .int 0, .long 0, .int 0, .int 0])) o04
  have hT5 := hT4.pr (t := (12, 0)) o04 (eFor (xnth_sr o04 (ke4.up (ke3.up (ke2.up oo1))) rfl) hR1 (xnth_sr o04 (ke4.up (ke3.up oo2)) rfl) hR2 (xnth_sr o04 (ke4.up oo3) rfl) hR3 (xnth_sr o04 oo4 rfl) n1)
  obtain ⟨l, hl, l1, l2⟩ := ((ke1.tr ke2).tr ke3).tr ke4
  have e5 : ks4.set p (12, 0) = ks ++ (12, 0) :: l := by
    rw [hl, ← hp, hT.1, List.append_assoc, show [((0, 0) : cT)] ++ l = (0, 0) :: l from rfl, set_at]
  refine yT.retV rfl rfl ⟨rfl, ks4.set p (12, 0), ⟨(12, 0) :: l, e5, by rw [List.length_cons]; omega, by rw [List.all_cons, l2]; rfl⟩, hT5, ?_⟩
  rw [e5]
  exact xnth_at
def oCell : xE := .inr (1, [.int 0, .int 0, .int 0, .int 0, .int 0, .long 0, .int 0, .long 0, .null, .null])
theorem eCell {ks : List cT} {σ : Nat → Nat → Int32} {ρ : Nat → xE} {q a : Nat} (ha : xnth ks a = some (14, 24)) : eOK ks σ ρ q (11, 0) (.inr (1, [.int 0, .int 0, .int 0, .int 0, .int 0, .long 0, .int 0, .long 0, .null, .ref (a + 1)])) := by
  refine ⟨_, rfl, rfl, fun s hs => ?_⟩
  match s, hs with
  | 0, _ => exact ⟨_, rfl, 0, rfl⟩
  | 1, _ => exact ⟨_, rfl, 0, rfl⟩
  | 2, _ => exact ⟨_, rfl, 0, rfl, Or.inl rfl⟩
  | 3, _ => exact ⟨_, rfl, 0, rfl, Or.inl rfl⟩
  | 4, _ => exact ⟨_, rfl, 0, rfl⟩
  | 5, _ => exact ⟨_, rfl, 0, rfl⟩
  | 6, _ => exact ⟨_, rfl, 0, rfl⟩
  | 7, _ => exact ⟨_, rfl, 0, rfl⟩
  | 8, _ => exact ⟨_, rfl, Or.inl rfl⟩
  | 9, _ => exact ⟨_, rfl, a, rfl, ha, rfl⟩
  | n + 10, hs => exact absurd (show n + 10 < 10 from hs) (by omega)
theorem c5 {ks : List cT} {σ : Nat → Nat → Int32} {ρ : Nat → xE} {h : List xE} (hT : HT ks σ ρ h) : yM 5 2 753 [.ref (h.length + 1)] (h ++ [oCell]) (CM ks σ ρ (11, 0) 3) := by
  refine yM.st xM_5 rfl rfl (fun lv g => ?_)
  have g0 := g 0 _ rfl
  have hT0 := hT.raw2 oCell
  have o0 : xnth (ks ++ [((0, 0) : cT)]) h.length = some (0, 0) := by rw [hT.1]; exact xnth_at
  generalize hp : h.length = p at *
  generalize h ++ [oCell] = h0 at *
  refine yT.aan (pc' := 1) g0 rfl rfl rfl ?_
  refine yT.obj (pc' := 4) rfl rfl (by decide) rfl ?_
  refine yT.aan (pc' := 5) g0 rfl rfl rfl ?_
  refine yT.nwc (pc' := 8) (n := 3) (G2 := 750) rfl rfl rfl rfl (by decide) ?_
  refine yT.p (pc' := 9) rfl rfl (fun _ _ _ _ => rfl) ?_
  refine yT.kb (pc' := 11) rfl rfl (by decide) (fun z ez => ?_)
  refine yT.cv (G2 := 0) xM_43 (xnth_at (l := [])) (c43 hT0 z (by omega)) rfl (by decide) (by decide) rfl rfl rfl (fun h4 ret hh => ?_)
  obtain ⟨rfl, N', n1, n2, hT4⟩ := hh
  obtain rfl : N' = 24 := by have := n2 (by omega); omega
  have ke4 : KE (ks ++ [(0, 0)]) (ks ++ [(0, 0)] ++ [(14, 24), (1, 24)]) 2 := ⟨_, rfl, Nat.le_refl _, rfl⟩
  have oo4 : xnth (ks ++ [(0, 0)] ++ [(14, 24), (1, 24)]) h0.length = some (14, 24) := by rw [hT0.1]; exact xnth_at
  generalize hk4 : ks ++ [((0, 0) : cT)] ++ [(14, 24), (1, 24)] = ks4 at *
  have o04 := ke4.up o0
  refine yT.pf (pc' := 17) (hT4.rat o04) rfl rfl rfl rfl ?_
  replace hT4 := hT4.rs (e' := .inr (1, [.int 0, .int 0, .int 0, .int 0, .int 0, .long 0, .int 0, .long 0, .null, .ref (h0.length + 1)])) o04
  have hT5 := hT4.pr (t := (11, 0)) o04 (eCell (xnth_sr o04 oo4 rfl))
  have e5 : ks4.set p (11, 0) = ks ++ [(11, 0), (14, 24), (1, 24)] := by
    rw [← hk4, ← hp, hT.1, List.append_assoc, show [((0, 0) : cT)] ++ [(14, 24), (1, 24)] = (0, 0) :: [(14, 24), (1, 24)] from rfl, set_at]
  refine yT.retV rfl rfl ⟨rfl, ks4.set p (11, 0), ⟨_, e5, by decide, rfl⟩, hT5, ?_⟩
  rw [e5]
  exact xnth_at
