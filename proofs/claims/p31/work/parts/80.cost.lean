/-! cells are made once: what stands in a web's rows is promised by numbers, and paid for once -/
theorem yM.pin {a F G : Nat} {as : List Value} {h : List xE} {Q : yQ} (k : yM a F G as h Q) : ∃ h1 r1, Q h1 r1 ∧ yM a F G as h (fun h' r' => h' = h1 ∧ r' = r1) := by
  obtain ⟨r, n0, d0, k1, k2, k3, k4⟩ := k
  exact ⟨r.1, r.2.1, k4, r, n0, d0, k1, k2, k3, rfl, rfl⟩
def nzr (f : Nat → Int32) : Nat → Nat
  | 0 => 0
  | n + 1 => nzr f n + (if f n = 1 then 0 else 1)
theorem nzr_cg {f g : Nat → Int32} : ∀ n, (∀ j, j < n → g j = f j) → nzr g n = nzr f n
  | 0, _ => rfl
  | n + 1, h => by
    unfold nzr
    rw [nzr_cg n (fun j hj => h j (by omega)), h n (by omega)]
theorem nzr_st {f g : Nat → Int32} {i : Nat} (hi : f i ≠ 1) (hg : g i = 1) (ho : ∀ j, j ≠ i → g j = f j) : ∀ n, i < n → nzr g n + 1 = nzr f n
  | 0, h => absurd h (Nat.not_lt_zero _)
  | n + 1, h => by
    unfold nzr
    by_cases e : i = n
    · subst e
      rw [nzr_cg i (fun j hj => ho j (by omega)), if_pos hg, if_neg hi]
    · have := nzr_st hi hg ho n (by omega)
      rw [ho n (fun e' => e e'.symm)]
      omega
/-- cells that may still be made -/
def nz (σ : Nat → Nat → Int32) : Nat := nzr (σ 2) 24 + nzr (σ 12) 24
def PR (σ σ' : Nat → Nat → Int32) : Prop := ∀ q, q ≠ 2 → q ≠ 12 → σ' q = σ q
theorem PR.rf {σ : Nat → Nat → Int32} : PR σ σ := fun _ _ _ => rfl
theorem PR.tr {σ τ υ : Nat → Nat → Int32} (h : PR σ τ) (k : PR τ υ) : PR σ υ := fun q a b => (k q a b).trans (h q a b)
theorem nz_st {σ : Nat → Nat → Int32} {q i : Nat} (hq : q = 2 ∨ q = 12) (hi : i < 24) (h : σ q i ≠ 1) : nz (us σ q i 1) + 1 = nz σ ∧ PR σ (us σ q i 1) := by
  refine ⟨?_, fun p a b => us_nq (by omega)⟩
  unfold nz
  rcases hq with rfl | rfl
  · have := nzr_st (f := σ 2) (g := us σ 2 i 1 2) h us_eq (fun j hj => us_ne (fun e => hj e.2)) 24 hi
    rw [show us σ 2 i 1 12 = σ 12 from us_nq (by decide)]
    omega
  · have := nzr_st (f := σ 12) (g := us σ 12 i 1 12) h us_eq (fun j hj => us_ne (fun e => hj e.2)) 24 hi
    rw [show us σ 12 i 1 2 = σ 2 from us_nq (by decide)]
    omega
theorem cells_at {ks : List cT} {B0 q : Nat} (K : KE KS0 ks B0) (o : xnth ks q = some (3, 0)) : q = 2 ∨ q = 12 := by
  obtain ⟨l, rfl, -, hl⟩ := K
  rw [xnth_eq] at o
  by_cases hq : q < 79
  · rw [List.getElem?_append_left hq] at o
    have D : ∀ q : Fin 79, KS0[q.1]? = some (3, 0) → q.1 = 2 ∨ q.1 = 12 := by decide
    exact D ⟨q, hq⟩ o
  · rw [List.getElem?_append_right (Nat.le_of_not_lt hq)] at o
    have m := List.mem_of_getElem? o
    exact absurd (List.all_eq_true.mp hl _ m) (by decide)
section CO
variable {L : Nat} {iv : List (Int × Int)} {M : xM} {F G pc pc' len a b : Nat} {lv : xLv} {h : List xE} {Q : yQ} {r : List Value} {x : Int32} {X : Int} {ks : List cT} {σ : Nat → Nat → Int32} {ρ : Nat → xE} {q B0 : Nat}
theorem hT_prm {i : Nat} {f : Nat → Option Nat} (hT : HT ks σ ρ h) (ho : xnth ks q = some (3, 0)) (h1 : xnth h q = some (.inl (3, 24, .inr (.inr (.inr (.inr f)))))) (hn : f i ≠ none) : HT ks (us σ q i 1) ρ h := by
  refine ⟨hT.1, fun q' t' h' => ?_⟩
  by_cases hq : q = q'
  · subst hq
    rw [ho] at h'
    obtain rfl : ((3, 0) : cT) = t' := by injection h'
    obtain ⟨e, e1, f', rfl, e2, e3⟩ := hT.2 q _ ho
    rw [h1] at e1
    injection e1 with e1
    injection e1 with e1
    have e4 : f = f' := by
      injection e1 with e5 e6
      injection e6 with e7 e8
      injection e8 with e9
      injection e9 with e10
      injection e10 with e11
      injection e11
    subst e4
    refine ⟨_, h1, f, rfl, e2, fun j hj => ?_⟩
    by_cases hji : j = i
    · subst hji
      exact hn
    · rw [us_ne (fun e => hji e.2)] at hj
      exact e3 j hj
  · obtain ⟨u, u1, u2⟩ := hT.2 q' t' h'
    exact ⟨u, u1, u2.sg (us_nq (fun e => hq e.symm)).symm⟩
theorem yT.ccap (hf : xfet (xMt M) pc = some (.aaload, len, a, b)) (hp : pc + len = pc') (hT : HT ks σ ρ h) (ho : xnth ks q = some (3, 0)) (px : x.toInt = X) (hI : 0 ≤ X ∧ X < 24) (k0 : σ q X.toNat ≠ 1 → yT L iv M F G pc' lv (.null :: r) h Q) (k : ∀ p, xnth ks p = some (11, 0) → HT ks (us σ q X.toNat 1) ρ h → yT L iv M F G pc' lv (.ref (p + 1) :: r) h Q) : yT L iv M F G pc lv (.int x :: .ref (q + 1) :: r) h Q := by
  obtain ⟨f, h1, h2, h3⟩ := hT.ca ho
  rcases h2 X.toNat (by omega) with e | ⟨p, e, o⟩
  · refine yT.aa h1 rfl px hI hf hp ?_
    rw [e]
    exact k0 (fun hh => h3 _ hh e)
  · refine yT.aa h1 rfl px hI hf hp ?_
    rw [e]
    exact k p o (hT_prm hT ho h1 (by rw [e]; exact fun hh => by cases hh))
theorem yT.casp {p : Nat} (hf : xfet (xMt M) pc = some (.aastore, len, a, b)) (hp : pc + len = pc') (hT : HT ks σ ρ h) (ho : xnth ks q = some (3, 0)) (px : x.toInt = X) (hI : 0 ≤ X ∧ X < 24) (hv : xnth ks p = some (11, 0)) (k : ∀ h', HT ks (us σ q X.toNat 1) ρ h' → yT L iv M F G pc' lv r h' Q) : yT L iv M F G pc lv (.ref (p + 1) :: .int x :: .ref (q + 1) :: r) h Q := by
  obtain ⟨f, h1, h2, h3⟩ := hT.ca ho
  obtain ⟨fs, e1, e2, e3⟩ := hT.obj hv rfl
  subst hp
  have hin := xin_of (n := 24) px hI
  have hx : x.toNatClampNeg = X.toNat := by rw [← px]; rfl
  have hS : HT ks σ ρ (h.set q (.inl (3, 24, .inr (.inr (.inr (.inr (va_up f X.toNat (some (p + 1))))))))) := hT.set ho ⟨va_up f X.toNat (some (p + 1)), rfl, fun i hi24 => by
      by_cases hi : i = X.toNat
      · exact Or.inr ⟨p, by rw [hi]; exact va_up_self _ _ _, hv⟩
      · rw [va_up_ne _ _ hi]
        exact h2 i hi24, fun i hi => by
      by_cases hi2 : i = X.toNat
      · rw [hi2, va_up_self]
        exact fun e => by cases e
      · rw [va_up_ne _ _ hi2]
        exact h3 i hi⟩
  refine yT.p hf rfl (fun C cs sl fr => ?_) (k _ (hT_prm hS ho (xnth_set (xnth_lt h1)) (by rw [va_up_self]; exact fun e => by cases e)))
  show (match xnth h q with
      | some (.inl (t, n, .inr (.inr (.inr (.inr f))))) => (match xnth h p with
        | some (.inr (ci, _)) => bif xin x n && ((Nat.beq t 3 && Nat.beq ci 1) || (Nat.beq t 4 && Nat.beq ci 6)) then
          xset h q (.inl (t, n, .inr (.inr (.inr (.inr (va_up f x.toNatClampNeg (some (p + 1)))))))) (fun h' => some ((pc + len, lv, r, h', sl, fr), (([], cs) : xO))) else none
        | _ => none)
      | _ => none) = _
  rw [h1]
  show (match xnth h p with
        | some (.inr (ci, _)) => bif xin x 24 && ((Nat.beq 3 3 && Nat.beq ci 1) || (Nat.beq 3 4 && Nat.beq ci 6)) then
          xset h q (.inl (3, 24, .inr (.inr (.inr (.inr (va_up f x.toNatClampNeg (some (p + 1)))))))) (fun h' => some ((pc + len, lv, r, h', sl, fr), (([], cs) : xO))) else none
        | _ => none) = _
  rw [e1]
  show (bif xin x 24 && true then
          xset h q (.inl (3, 24, .inr (.inr (.inr (.inr (va_up f x.toNatClampNeg (some (p + 1)))))))) (fun h' => some ((pc + len, lv, r, h', sl, fr), (([], cs) : xO))) else none) = _
  rw [hin, xset_eq (xnth_lt h1), hx]
  rfl
end CO
section CP
variable {ks : List cT} {σ : Nat → Nat → Int32} {ρ : Nat → xE} {h : List xE} {B0 : Nat}
/-- room for a cell, paid for once -/
theorem c90p (hT : HT ks σ ρ h) (K : KE KS0 ks B0) {q0 : Nat} (o0 : xnth ks q0 = some (17, 0)) (x1 : Int32) : ∃ (G : Nat) (σ' : Nat → Nat → Int32), G + 763 * nz σ' ≤ 763 * nz σ ∧ PR σ σ' ∧ yM 90 3 G [.ref (q0 + 1), .int x1] h (CA ks σ' ρ (4, 11, 0) 3 yT0) := by
  obtain ⟨fs, h1, h2, h3⟩ := hT.obj o0 rfl
  obtain ⟨v, v1, p, rfl, op, -⟩ := h3 0 (by decide)
  have op : xnth ks p = some (3, 0) := op
  have w : FV h q0 7 0 (.ref (p + 1)) := ⟨fs, h1, v1⟩
  have S : ∀ (G : Nat) (σ' : Nat → Nat → Int32), ((σ p x1.toInt.toNat = 1 ∧ σ' = σ) ∨ (763 ≤ G ∧ σ' = us σ p x1.toInt.toNat 1)) → 0 ≤ x1.toInt ∧ x1.toInt < 24 → yM 90 3 G [.ref (q0 + 1), .int x1] h (CA ks σ' ρ (4, 11, 0) 3 yT0) := by
    intro G σ' hc hx
    refine yM.st xM_90 rfl rfl (fun lv g => ?_)
    have g0 := g 0 _ rfl
    have g1 := g 1 _ rfl
    have KK : ∀ (ks' : List cT) (h' : List xE) (G : Nat), KE ks ks' 3 → HT ks' σ' ρ h' → yT 0 [] rX7_roomFor 3 G 37 lv [] h' (CA ks σ' ρ (4, 11, 0) 3 yT0) := by
      intro ks' h' G ke hT'
      refine yT.aan (pc' := 38) g0 rfl rfl rfl ?_
      refine yT.cgR (pc' := 41) rfl rfl hT' (ke.up o0) rfl rfl (fun qc w oc => ?_)
      refine yT.iln (pc' := 42) g1 rfl rfl ?_
      refine yT.cca (pc' := 43) rfl rfl hT' oc rfl hx ?_ (fun q o => ?_)
      · exact yT.retA rfl rfl rfl (qAN0 ke hT' trivial)
      · exact yT.retA rfl rfl rfl (qAN ke hT' trivial o rfl)
    refine yT.iln (pc' := 1) g1 rfl rfl ?_
    refine yT.if1 (t := 13) (pc' := 4) rfl rfl rfl (c1_lt rfl) (fun _ => by omega) (fun c1 => ?_)
    refine yT.iln (pc' := 5) g1 rfl rfl ?_
    refine yT.aan (pc' := 6) g0 rfl rfl rfl ?_
    refine yT.cgk (pc' := 9) rfl rfl w ?_
    refine yT.cal (pc' := 10) rfl rfl hT op rfl (by omega) (fun z ez => ?_)
    refine yT.if2 (t := 15) (pc' := 13) rfl rfl rfl (c2_lt rfl ez) (fun c2 => ?_) (fun _ => by omega)
    refine yT.aan (pc' := 16) g0 rfl rfl rfl ?_
    refine yT.cgk (pc' := 19) rfl rfl w ?_
    refine yT.iln (pc' := 20) g1 rfl rfl ?_
    refine yT.ccap (pc' := 21) rfl rfl hT op rfl hx (fun hn => ?_) (fun q o hP => ?_)
    · rcases hc with ⟨hc, -⟩ | ⟨hG, rfl⟩
      · exact absurd hc hn
      · refine yT.p (pc' := 24) rfl rfl (fun _ _ _ _ => rfl) ?_
        refine yT.aan (pc' := 25) g0 rfl rfl rfl ?_
        refine yT.cgk (pc' := 28) rfl rfl w ?_
        refine yT.iln (pc' := 29) g1 rfl rfl ?_
        refine yT.nwc (pc' := 32) (n := 10) (G2 := G - 10) rfl rfl rfl rfl (by omega) ?_
        refine yT.p (pc' := 33) rfl rfl (fun _ _ _ _ => rfl) ?_
        refine yT.cv (G2 := 0) xM_5 (xnth_at (l := [])) (c5 hT) rfl (by decide) (by omega) rfl rfl rfl (fun h' ret hh => ?_)
        obtain ⟨rfl, ks', ke, hT', o'⟩ := hh
        rw [← hT.1] at o'
        refine yT.casp (pc' := 37) rfl rfl hT' (ke.up op) rfl hx o' (fun h'' hT'' => ?_)
        exact KK ks' h'' _ ke hT''
    · refine yT.p (pc' := 37) rfl rfl (fun _ _ _ _ => rfl) ?_
      rcases hc with ⟨hc, rfl⟩ | ⟨hG, rfl⟩
      · exact KK ks h _ (KE.rf.w (Nat.zero_le _)) hT
      · exact KK ks h _ (KE.rf.w (Nat.zero_le _)) hP
  by_cases hx : 0 ≤ x1.toInt ∧ x1.toInt < 24
  · by_cases hp : σ p x1.toInt.toNat = 1
    · exact ⟨0, σ, by omega, PR.rf, S 0 σ (Or.inl ⟨hp, rfl⟩) hx⟩
    · obtain ⟨n1, n2⟩ := nz_st (cells_at K op) (i := x1.toInt.toNat) (by omega) hp
      exact ⟨763, _, by omega, n2, S 763 _ (Or.inr ⟨Nat.le_refl _, rfl⟩) hx⟩
  · refine ⟨0, σ, by omega, PR.rf, ?_⟩
    refine yM.st xM_90 rfl rfl (fun lv g => ?_)
    have g0 := g 0 _ rfl
    have g1 := g 1 _ rfl
    have N : yT 0 [] rX7_roomFor 3 0 13 lv [] h (CA ks σ ρ (4, 11, 0) 3 yT0) := by
      refine yT.p (pc' := 14) rfl rfl (fun _ _ _ _ => rfl) ?_
      exact yT.retA rfl rfl rfl (qAN0 (KE.rf.w (Nat.zero_le _)) hT trivial)
    refine yT.iln (pc' := 1) g1 rfl rfl ?_
    refine yT.if1 (t := 13) (pc' := 4) rfl rfl rfl (c1_lt rfl) (fun _ => N) (fun c1 => ?_)
    refine yT.iln (pc' := 5) g1 rfl rfl ?_
    refine yT.aan (pc' := 6) g0 rfl rfl rfl ?_
    refine yT.cgk (pc' := 9) rfl rfl w ?_
    refine yT.cal (pc' := 10) rfl rfl hT op rfl (by omega) (fun z ez => ?_)
    exact yT.if2 (t := 15) (pc' := 13) rfl rfl rfl (c2_lt rfl ez) (fun c2 => by omega) (fun _ => N)
/-- a web taken from another: cells that stand cost nothing -/
theorem c91p (hT : HT ks σ ρ h) (K : KE KS0 ks B0) {q0 : Nat} (o0 : xnth ks q0 = some (17, 0)) {q1 : Nat} (o1 : xnth ks q1 = some (17, 0)) : ∃ (G : Nat) (σ' : Nat → Nat → Int32), G + 763 * nz σ' ≤ 763 * nz σ ∧ PR σ σ' ∧ yM 91 6 G [.ref (q0 + 1), .ref (q1 + 1)] h (CA ks (us σ' q0 7 (σ' q1 7)) ρ (9, 0, 0) 72 yT0) := by
  have L : ∀ (n : Nat) (lv : xLv) (ks' : List cT) (h' : List xE) (σ1 : Nat → Nat → Int32) (i : Nat) (x : Int32), x.toInt = (i : Int) → i ≤ 24 → KE ks ks' (3 * i) → HT ks' σ1 ρ h' → xget lv 0 = some (.ref (q0 + 1)) → xget lv 1 = some (.ref (q1 + 1)) → xget lv 2 = some (.int x) → 24 - i < n →
      ∃ (G : Nat) (σ' : Nat → Nat → Int32), G + 763 * nz σ' ≤ 763 * nz σ1 ∧ PR σ1 σ' ∧ yT 0 [] rX7_takeFrom 6 G 2 lv [] h' (CA ks (us σ' q0 7 (σ' q1 7)) ρ (9, 0, 0) 72 yT0) := by
    intro n
    induction n with
    | zero => intro lv ks' h' σ1 i x _ _ _ _ _ _ _ hn; exact absurd hn (Nat.not_lt_zero _)
    | succ n ih =>
      intro lv ks' h' σ1 i x ex hi ke hT' g0 g1 g2 hn
      have out : ∀ G, yT 0 [] rX7_takeFrom 6 G 53 lv [] h' (CA ks (us σ1 q0 7 (σ1 q1 7)) ρ (9, 0, 0) 72 yT0) := fun G => yT.w (c91f53 (ke.w (by omega)) hT' (ke.up o0) g0 (ke.up o1) g1) (Nat.le_refl _) (Nat.zero_le _) (fun _ _ h => h)
      obtain ⟨fs, f1, f2, f3⟩ := hT'.obj (ke.up o1) rfl
      obtain ⟨v, v1, y, rfl⟩ := f3 2 (by decide)
      have w : FV h' q1 7 2 (.int y) := ⟨fs, f1, v1⟩
      by_cases hy : y.toInt ≤ (i : Int) ∨ 24 ≤ i
      · refine ⟨0, σ1, by omega, PR.rf, ?_⟩
        refine yT.iln (pc' := 3) g2 rfl rfl ?_
        refine yT.aan (pc' := 4) g1 rfl rfl rfl ?_
        refine yT.cgk (pc' := 7) rfl rfl w ?_
        refine yT.if2 (t := 53) (pc' := 10) rfl rfl rfl (c2_ge ex rfl) (fun _ => out _) (fun c1 => ?_)
        refine yT.iln (pc' := 11) g2 rfl rfl ?_
        refine yT.aan (pc' := 12) g0 rfl rfl rfl ?_
        refine yT.cgR (pc' := 15) rfl rfl hT' (ke.up o0) rfl rfl (fun qc _ oc => ?_)
        refine yT.cal (pc' := 16) rfl rfl hT' oc rfl (by omega) (fun w ew => ?_)
        exact yT.if2 (t := 53) (pc' := 19) rfl rfl rfl (c2_ge ex ew) (fun _ => out _) (fun c2 => by omega)
      · have hi2 : i + 1 ≤ 24 := by omega
        obtain ⟨G1, σ2, n1, pr1, k90⟩ := c90p hT' (K.tr ke) (ke.up o0) x
        obtain ⟨h2, r2, E2, k90'⟩ := k90.pin
        obtain ⟨ks2, k2, hT2, R2, -⟩ := E2
        have ke3 : KE ks ks2 (3 * (i + 1)) := (ke.tr k2).w (by omega)
        have o1' := ke3.up o1
        obtain ⟨h3, r3, E3, k87'⟩ := (c87 hT2 o1' x).pin
        obtain ⟨hT3, R3, -⟩ := E3
        have eu0 : (x + 1).toInt = ((i + 1 : Nat) : Int) := by
          rw [Int32.toInt_add, ex]
          show Int.bmod ((i : Int) + 1) 4294967296 = _
          exact Int.bmod_eq_of_le (by omega) (by omega)
        have T : ∀ (lv4 : xLv) (h4 : List xE), HT ks2 σ2 ρ h4 → xget lv4 0 = some (.ref (q0 + 1)) → xget lv4 1 = some (.ref (q1 + 1)) → xget lv4 2 = some (.int x) → ∃ (G : Nat) (σ' : Nat → Nat → Int32), G + 763 * nz σ' ≤ 763 * nz σ2 ∧ PR σ2 σ' ∧ yT 0 [] rX7_takeFrom 6 G 47 lv4 [] h4 (CA ks (us σ' q0 7 (σ' q1 7)) ρ (9, 0, 0) 72 yT0) := by
          intro lv4 h4 hT4 a0 a1 a2
          obtain ⟨G, σ', b1, b2, b3⟩ := ih (xst1 lv4 2 (.int (x + 1))) ks2 h4 σ2 (i + 1) (x + 1) eu0 hi2 ke3 hT4 (xg_ne a0 rfl) (xg_ne a1 rfl) xg_eq (by omega)
          refine ⟨G, σ', b1, b2, ?_⟩
          refine yT.inc (pc' := 50) a2 ex rfl rfl rfl ⟨by decide, by omega⟩ (fun u eu => ?_)
          obtain rfl : u = x + 1 := i32_ext (by rw [eu, eu0]; omega)
          exact yT.p (pc' := 2) rfl rfl (fun _ _ _ _ => rfl) b3
        -- from roomFor's answer to the loop's end
        have U : ∀ (lv2 : xLv) (v2 : Value), lv2 = xst1 lv 3 v2 → (v2 = .null ∨ ∃ p, v2 = .ref (p + 1) ∧ xnth ks2 p = some (11, 0)) → ∃ (G : Nat) (σ' : Nat → Nat → Int32), G + 763 * nz σ' ≤ 763 * nz σ2 ∧ PR σ2 σ' ∧ yT 0 [] rX7_takeFrom 6 G 25 lv2 [] h2 (CA ks (us σ' q0 7 (σ' q1 7)) ρ (9, 0, 0) 72 yT0) := by
          intro lv2 v2 hl hv2
          have a0 : xget lv2 0 = some (.ref (q0 + 1)) := by rw [hl]; exact xg_ne g0 (by rcases hv2 with rfl | ⟨p, rfl, -⟩ <;> rfl)
          have a1 : xget lv2 1 = some (.ref (q1 + 1)) := by rw [hl]; exact xg_ne g1 (by rcases hv2 with rfl | ⟨p, rfl, -⟩ <;> rfl)
          have a2 : xget lv2 2 = some (.int x) := by rw [hl]; exact xg_ne g2 (by rcases hv2 with rfl | ⟨p, rfl, -⟩ <;> rfl)
          have a3 : xget lv2 3 = some v2 := by rw [hl]; exact xg_eq
          obtain ⟨v3, rfl, hv3⟩ := (show ∃ v, r3 = some v ∧ (v = .null ∨ ∃ p, v = .ref (p + 1) ∧ xnth ks2 p = some (11, 0) ∧ Nat.beq 11 0 = false) from R3)
          have call : ∀ (G : Nat) (σ' : Nat → Nat → Int32), yT 0 [] rX7_takeFrom 6 G 30 lv2 [v3] h3 (CA ks (us σ' q0 7 (σ' q1 7)) ρ (9, 0, 0) 72 yT0) → yT 0 [] rX7_takeFrom 6 G 25 lv2 [] h2 (CA ks (us σ' q0 7 (σ' q1 7)) ρ (9, 0, 0) 72 yT0) := by
            intro G σ' k
            refine yT.aan (pc' := 26) a1 rfl rfl rfl ?_
            refine yT.iln (pc' := 27) a2 rfl rfl ?_
            refine (yT.cc (G2 := G) (pc' := 30) rfl rfl rfl hT2 o1' xM_87 k87' rfl (by decide) (by omega) rfl) (fun h' ret e => ?_)
            obtain ⟨rfl, rfl⟩ := e
            exact k
          rcases hv3 with rfl | ⟨p3, rfl, o3, -⟩
          · obtain ⟨G, σ', b1, b2, b3⟩ := T (xst1 lv2 4 .null) h3 hT3 (xg_ne a0 rfl) (xg_ne a1 rfl) (xg_ne a2 rfl)
            refine ⟨G, σ', b1, b2, call G σ' ?_⟩
            refine yT.p (pc' := 32) (lv' := xst1 _ 4 .null) rfl rfl (fun _ _ _ _ => rfl) ?_
            rcases hv2 with rfl | ⟨p2, rfl, o2⟩
            · refine yT.aan (pc' := 33) (xg_ne a3 rfl) rfl rfl rfl ?_
              exact yT.p (pc' := 47) rfl rfl (fun _ _ _ _ => rfl) b3
            · refine yT.aan (pc' := 33) (xg_ne a3 rfl) rfl rfl rfl ?_
              refine yT.p (pc' := 36) rfl rfl (fun _ _ _ _ => rfl) ?_
              refine yT.aa_ (pc' := 38) xg_eq rfl rfl rfl ?_
              exact yT.p (pc' := 47) rfl rfl (fun _ _ _ _ => rfl) b3
          · rcases hv2 with rfl | ⟨p2, rfl, o2⟩
            · obtain ⟨G, σ', b1, b2, b3⟩ := T (xst1 lv2 4 (.ref (p3 + 1))) h3 hT3 (xg_ne a0 rfl) (xg_ne a1 rfl) (xg_ne a2 rfl)
              refine ⟨G, σ', b1, b2, call G σ' ?_⟩
              refine yT.p (pc' := 32) (lv' := xst1 _ 4 (.ref (p3 + 1))) rfl rfl (fun _ _ _ _ => rfl) ?_
              refine yT.aan (pc' := 33) (xg_ne a3 rfl) rfl rfl rfl ?_
              exact yT.p (pc' := 47) rfl rfl (fun _ _ _ _ => rfl) b3
            · obtain ⟨h4, r4, E4, k7'⟩ := (c7 hT3 o2 o3).pin
              obtain ⟨hT4, R4, -⟩ := E4
              obtain rfl : r4 = none := R4
              obtain ⟨G, σ', b1, b2, b3⟩ := T (xst1 lv2 4 (.ref (p3 + 1))) h4 hT4 (xg_ne a0 rfl) (xg_ne a1 rfl) (xg_ne a2 rfl)
              refine ⟨G, σ', b1, b2, call G σ' ?_⟩
              refine yT.p (pc' := 32) (lv' := xst1 _ 4 (.ref (p3 + 1))) rfl rfl (fun _ _ _ _ => rfl) ?_
              refine yT.aan (pc' := 33) (xg_ne a3 rfl) rfl rfl rfl ?_
              refine yT.p (pc' := 36) rfl rfl (fun _ _ _ _ => rfl) ?_
              refine yT.aa_ (pc' := 38) xg_eq rfl rfl rfl ?_
              refine yT.p (pc' := 41) rfl rfl (fun _ _ _ _ => rfl) ?_
              refine yT.aan (pc' := 42) (xg_ne a3 rfl) rfl rfl rfl ?_
              refine yT.aa_ (pc' := 44) xg_eq rfl rfl rfl ?_
              refine (yT.cc (G2 := G) (pc' := 47) rfl rfl rfl hT3 o2 xM_7 k7' rfl (by decide) (by omega) rfl) (fun h' ret e => ?_)
              obtain ⟨rfl, rfl⟩ := e
              exact b3
        obtain ⟨v2, rfl, hv2⟩ := (show ∃ v, r2 = some v ∧ (v = .null ∨ ∃ p, v = .ref (p + 1) ∧ xnth ks2 p = some (11, 0) ∧ Nat.beq 11 0 = false) from R2)
        have hv2' : v2 = .null ∨ ∃ p, v2 = .ref (p + 1) ∧ xnth ks2 p = some (11, 0) := by
          rcases hv2 with e | ⟨p, e, o, -⟩
          · exact Or.inl e
          · exact Or.inr ⟨p, e, o⟩
        obtain ⟨G, σ', b1, b2, b3⟩ := U _ v2 rfl hv2'
        refine ⟨G1 + G, σ', by omega, pr1.tr b2, ?_⟩
        refine yT.iln (pc' := 3) g2 rfl rfl ?_
        refine yT.aan (pc' := 4) g1 rfl rfl rfl ?_
        refine yT.cgk (pc' := 7) rfl rfl w ?_
        refine yT.if2 (t := 53) (pc' := 10) rfl rfl rfl (c2_ge ex rfl) (fun c => by omega) (fun c1 => ?_)
        refine yT.iln (pc' := 11) g2 rfl rfl ?_
        refine yT.aan (pc' := 12) g0 rfl rfl rfl ?_
        refine yT.cgR (pc' := 15) rfl rfl hT' (ke.up o0) rfl rfl (fun qc _ oc => ?_)
        refine yT.cal (pc' := 16) rfl rfl hT' oc rfl (by omega) (fun w ew => ?_)
        refine yT.if2 (t := 53) (pc' := 19) rfl rfl rfl (c2_ge ex ew) (fun _ => by omega) (fun c2 => ?_)
        refine yT.aan (pc' := 20) g0 rfl rfl rfl ?_
        refine yT.iln (pc' := 21) g2 rfl rfl ?_
        refine (yT.cc (G2 := G) (pc' := 24) rfl rfl rfl hT' (ke.up o0) xM_90 k90' rfl (by decide) (by omega) rfl) (fun h' ret e => ?_)
        obtain ⟨rfl, rfl⟩ := e
        rcases hv2' with rfl | ⟨p2, rfl, o2⟩
        · exact yT.p (pc' := 25) (lv' := xst1 _ 3 .null) rfl rfl (fun _ _ _ _ => rfl) b3
        · exact yT.p (pc' := 25) (lv' := xst1 _ 3 (.ref (p2 + 1))) rfl rfl (fun _ _ _ _ => rfl) b3
  obtain ⟨G, σ', b1, b2, b3⟩ := L 25 (xst1 (lv_args 0 [.ref (q0 + 1), .ref (q1 + 1)]) 2 (.int 0)) ks h σ 0 0 rfl (by omega) (KE.rf.w (Nat.zero_le _)) hT (xg_ne rfl rfl) (xg_ne rfl rfl) xg_eq (by omega)
  refine ⟨G, σ', b1, b2, yM.of xM_91 rfl rfl rfl ?_⟩
  refine yT.kI (pc' := 1) rfl rfl (by decide) (fun z ez => ?_)
  obtain rfl : z = 0 := i32_ext (show z.toInt = (0 : Int32).toInt from ez)
  exact yT.p (pc' := 2) (lv' := xst1 _ 2 (.int 0)) rfl rfl (fun _ _ _ _ => rfl) b3
theorem nz_o {σ : Nat → Nat → Int32} {q s : Nat} {v : Int32} (h1 : q ≠ 2) (h2 : q ≠ 12) : nz (us σ q s v) = nz σ := by
  unfold nz
  rw [us_nq (fun e => h1 e.symm), us_nq (fun e => h2 e.symm)]
theorem c148p {q0 : Nat} (hT : HT ks σ ρ h) (K : KE KS0 ks B0) (o0 : xnth ks q0 = some (18, 0)) : ∃ (G : Nat) (σ' : Nat → Nat → Int32), G + 763 * nz σ' ≤ 763 * nz σ ∧ PR σ σ' ∧ yM 148 7 G [.ref (q0 + 1)] h (CA ks (us (us σ' 11 7 (σ' 1 7)) q0 2 1) ρ (0, 0, 0) 72 (fun _ r => r = some (.int 1))) := by
  obtain ⟨G, σ', b1, b2, b3⟩ := c91p hT K (q0 := 11) (q1 := 1) (K.up rfl) (K.up rfl)
  refine ⟨G, σ', b1, b2, ?_⟩
  refine yM.st xM_148 rfl rfl (fun lv g => ?_)
  have g0 := g 0 _ rfl
  refine yT.aan (pc' := 1) g0 rfl rfl rfl ?_
  refine yT.cg8 (pc' := 4) rfl rfl hT o0 rfl rfl (fun _ => ?_)
  refine yT.aan (pc' := 5) g0 rfl rfl rfl ?_
  refine yT.cg8 (pc' := 8) rfl rfl hT o0 rfl rfl (fun _ => ?_)
  refine kAV (yT.cc (G2 := 0) (pc' := 11) rfl rfl rfl hT (K.up rfl) xM_91 b3 rfl (by decide) (by omega) rfl) (fun h1 ks1 ke hT1 _ => ?_)
  refine yT.aan (pc' := 12) g0 rfl rfl rfl ?_
  refine yT.kI (pc' := 13) rfl rfl (by decide) (fun u eu => ?_)
  have e1 : u = 1 := i32_ext (show u.toInt = (1 : Int32).toInt from eu)
  refine yT.cpX (pc' := 16) (c := 1) rfl rfl hT1 (ke.up o0) rfl rfl (by rw [e1]; rfl) eu (by omega) e1 (fun h2 hT2 _ _ => ?_)
  refine yT.kI (pc' := 17) rfl rfl (by decide) (fun v ev => ?_)
  exact yT.retI rfl rfl (qAI ke hT2 (by rw [i32_ext (show v.toInt = (1 : Int32).toInt from ev)]))
theorem c149p {q0 : Nat} (hT : HT ks σ ρ h) (K : KE KS0 ks B0) (o0 : xnth ks q0 = some (18, 0)) : ∃ (G : Nat) (σ' : Nat → Nat → Int32), G + 763 * nz σ' ≤ 763 * nz σ ∧ PR σ σ' ∧ yM 149 7 G [.ref (q0 + 1)] h (fun h' r => ∃ (ks' : List cT) (x : Int32), r = some (.int x) ∧ KE ks ks' 72 ∧ ((σ q0 2 = 0 ∧ x = -5 ∧ σ' = σ ∧ HT ks' σ ρ h') ∨ (σ q0 2 = 1 ∧ x = 1 ∧ HT ks' (us σ' 1 7 (σ' 11 7)) ρ h'))) := by
  by_cases hk : σ q0 2 = 1
  · obtain ⟨G, σ', b1, b2, b3⟩ := c91p hT K (q0 := 1) (q1 := 11) (K.up rfl) (K.up rfl)
    refine ⟨G, σ', b1, b2, ?_⟩
    refine yM.st xM_149 rfl rfl (fun lv g => ?_)
    have g0 := g 0 _ rfl
    refine yT.aan (pc' := 1) g0 rfl rfl rfl ?_
    refine yT.cgX (pc' := 4) rfl rfl hT o0 rfl rfl (fun x w i j z => ?_)
    have hx : x.toInt = 1 := by
      rw [z, hk]
      rfl
    refine yT.if1 (t := 14) (pc' := 7) rfl rfl rfl (c1_ne rfl) (fun k => ?_) (fun k => by omega)
    refine yT.aan (pc' := 15) g0 rfl rfl rfl ?_
    refine yT.cg8 (pc' := 18) rfl rfl hT o0 rfl rfl (fun _ => ?_)
    refine yT.aan (pc' := 19) g0 rfl rfl rfl ?_
    refine yT.cg8 (pc' := 22) rfl rfl hT o0 rfl rfl (fun _ => ?_)
    refine kAV (yT.cc (G2 := 0) (pc' := 25) rfl rfl rfl hT (K.up rfl) xM_91 b3 rfl (by decide) (by omega) rfl) (fun h1 ks1 ke hT1 _ => ?_)
    refine yT.w (c149f25 ke hT1 (K.tr ke) (ke.up o0) g0) (by decide) (Nat.zero_le _) (fun h' r hh => ?_)
    obtain ⟨ks', k1, k2, ⟨v, rfl, y, rfl⟩, k4⟩ := hh
    exact ⟨ks', y, rfl, k1, Or.inr ⟨hk, by injection (Option.some.inj k4), k2⟩⟩
  · refine ⟨0, σ, by omega, PR.rf, ?_⟩
    refine yM.st xM_149 rfl rfl (fun lv g => ?_)
    have g0 := g 0 _ rfl
    refine yT.aan (pc' := 1) g0 rfl rfl rfl ?_
    refine yT.cgX (pc' := 4) rfl rfl hT o0 rfl rfl (fun x w i j z => ?_)
    have j : x.toInt ≤ 1 := j
    have hx : x.toInt ≠ 1 := fun e => hk (by rw [← z]; exact i32_ext (show x.toInt = (1 : Int32).toInt from e))
    refine yT.if1 (t := 14) (pc' := 7) rfl rfl rfl (c1_ne rfl) (fun k => by omega) (fun k => ?_)
    refine yT.aan (pc' := 8) g0 rfl rfl rfl ?_
    refine yT.kb (pc' := 10) rfl rfl (by decide) (fun u eu => ?_)
    refine kI (yT.cc (G2 := 0) (pc' := 13) rfl rfl rfl hT o0 xM_153 (c153 hT K o0 u) rfl (by decide) (by decide) rfl) (fun h1 y hT1 E => ?_)
    obtain rfl : y = u := by injection (Option.some.inj E)
    exact yT.retI rfl rfl ⟨ks, y, rfl, KE.rf.w (Nat.zero_le _), Or.inl ⟨by rw [← z]; exact i32_ext (show x.toInt = 0 by omega), i32_ext eu, rfl, hT1⟩⟩
end CP
