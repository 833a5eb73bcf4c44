/-! rows copied; signs -/
def cpy (σ : sg) (p q n : Nat) : sg := fun a => if a = q then (fun j => bif Nat.blt j n then σ p j else σ q j) else σ a
theorem cpy_ne {σ : sg} {p q n a : Nat} (h : a ≠ q) : cpy σ p q n a = σ a := if_neg h
theorem cpy_at {σ : sg} {p q n : Nat} : cpy σ p q n q = fun j => bif Nat.blt j n then σ p j else σ q j := if_pos rfl
theorem yM264 {h : List xE} {p q N : Nat} {f g : Nat → Int32} (h1 : xnth h p = some (.inl (0, N, .inl f))) (h2 : xnth h q = some (.inl (0, N, .inl g))) (hpq : Nat.beq p q = false) (hN : Nat.ble N 60000 = true) : yM 264 0 0 [.ref (p + 1), .ref (q + 1)] h (fun h' r => h' = h.set q (.inl (0, N, .inl (fun j => bif Nat.blt j N then f j else g j))) ∧ r = none) := by
  refine ⟨(h.set q _, none, 0, 0), 0, 1, fun n d cs _ hd => ?_, Nat.le_refl _, Nat.le_refl _, rfl, rfl⟩
  obtain ⟨d, rfl⟩ : ∃ d', d = d' + 1 := ⟨d - 1, by omega⟩
  have e : xBt 264 [.ref (p + 1), .ref (q + 1)] h ([], cs) = some ((h.set q (.inl (0, N, .inl (fun j => bif Nat.blt j N then f j else g j))), none, 0, 0), ([], cs)) := by
    have e0 : xBt 264 [.ref (p + 1), .ref (q + 1)] h ([], cs) = (match xnth h p with
      | some (.inl (0, N, .inl f)) => (match xnth h q with
        | some (.inl (0, N', .inl g)) => bif Nat.beq N N' && (!(Nat.beq p q) && (Nat.ble N 60000 && true)) then
          xset h q (.inl (0, N, .inl (fun j => bif Nat.blt j N then f j else g j))) (fun h' => some ((h', none, 0, 0), (([], cs) : xO))) else none
        | _ => none)
      | _ => none) := rfl
    rw [e0, h1]
    show (match xnth h q with
        | some (.inl (0, N', .inl g)) => bif Nat.beq N N' && (!(Nat.beq p q) && (Nat.ble N 60000 && true)) then
          xset h q (.inl (0, N, .inl (fun j => bif Nat.blt j N then f j else g j))) (fun h' => some ((h', none, 0, 0), (([], cs) : xO))) else none
        | _ => none) = _
    rw [h2]
    show (bif Nat.beq N N && (!(Nat.beq p q) && (Nat.ble N 60000 && true)) then
          xset h q (.inl (0, N, .inl (fun j => bif Nat.blt j N then f j else g j))) (fun h' => some ((h', none, 0, 0), (([], cs) : xO))) else none) = _
    rw [Nat.beq_refl, hpq, hN]
    exact xset_eq (xnth_lt h2)
  show (match xBt 264 [.ref (p + 1), .ref (q + 1)] h ([], cs) with
      | some z => some z
      | none => match xnth xMs 264 with
        | some M => xexe 0 [] xMs (xC xBt [] xMs n d) n M [.ref (p + 1), .ref (q + 1)] h ([], cs)
        | none => none) = _
  rw [e]
section CPY
variable {ks : List cT} {B0 : Nat} {σ : sg} {ρ : Nat → xE} {h : List xE} {p q n : Nat}
theorem r264 (hT : HT ks σ ρ h) (op : xnth ks p = some (5, n)) (oq : xnth ks q = some (5, n)) (hpq : Nat.beq p q = false) (hn : Nat.ble n 60000 = true) : yM 264 0 0 [.ref (p + 1), .ref (q + 1)] h (SQV ks (cpy σ p q n) ρ) := by
  obtain ⟨e, h1, rfl⟩ := hT.2 p _ op
  obtain ⟨e2, h2, rfl⟩ := hT.2 q _ oq
  refine (yM264 (f := σ p) (g := σ q) h1 h2 hpq hn).w (Nat.le_refl _) (Nat.le_refl _) (fun h' r hh => ?_)
  obtain ⟨rfl, rfl⟩ := hh
  refine ⟨⟨by rw [List.length_set]; exact hT.1, fun q' t' h' => ?_⟩, rfl⟩
  by_cases hq : q = q'
  · subst hq
    rw [oq] at h'
    obtain rfl : ((5, n) : cT) = t' := by injection h'
    refine ⟨_, xnth_set (by rw [hT.1]; exact xnth_lt oq), ?_⟩
    show _ = (Sum.inl (0, n, .inl (cpy σ p q n q)) : xE)
    rw [cpy_at]
  · obtain ⟨u, u1, u2⟩ := hT.2 q' t' h'
    exact ⟨u, by rw [xnth_set_ne hq]; exact u1, u2.sg (cpy_ne (fun e => hq e.symm)).symm⟩
theorem r264i (hT : HT ks σ ρ h) (op : xnth ks p = some (1, n)) (oq : xnth ks q = some (1, n)) (hpq : Nat.beq p q = false) (hn : Nat.ble n 60000 = true) : yM 264 0 0 [.ref (p + 1), .ref (q + 1)] h (SQV ks σ ρ) := by
  obtain ⟨f, h1⟩ := hT.ia op
  obtain ⟨g, h2⟩ := hT.ia oq
  refine (yM264 h1 h2 hpq hn).w (Nat.le_refl _) (Nat.le_refl _) (fun h' r hh => ?_)
  obtain ⟨rfl, rfl⟩ := hh
  exact ⟨hT.set oq ⟨_, rfl⟩, rfl⟩
theorem r265 (hT : HT ks σ ρ h) (op : xnth ks p = some (2, n)) (oq : xnth ks q = some (2, n)) (hn : Nat.ble n 60000 = true) : yM 265 0 0 [.ref (p + 1), .ref (q + 1)] h (SQV ks σ ρ) := by
  have hn := Nat.le_of_ble_eq_true hn
  refine yM.st xM_265 rfl rfl (fun lv g => ?_)
  have g0 := g 0 _ rfl
  have g1 := g 1 _ rfl
  refine yT.kI (pc' := 1) rfl rfl (by decide) (fun z ez => ?_)
  refine yT.p (pc' := 2) (lv' := xst1 _ 2 (.int z)) rfl rfl (fun _ _ _ _ => rfl) ?_
  have L : ∀ (m : Nat) (lv : xLv) (h' : List xE) (i : Nat) (x : Int32), x.toInt = (i : Int) → HT ks σ ρ h' → xget lv 0 = some (.ref (p + 1)) → xget lv 1 = some (.ref (q + 1)) → xget lv 2 = some (.int x) → n - i < m → yT 0 [] rX9_copies_ 0 0 2 lv [] h' (SQV ks σ ρ) := by
    intro m
    induction m with
    | zero => intro lv h' i x _ _ _ _ _ hm; exact absurd hm (Nat.not_lt_zero _)
    | succ m ih =>
      intro lv h' i x ex hT' g0 g1 g2 hm
      refine yT.iln (pc' := 3) g2 rfl rfl ?_
      refine yT.aan (pc' := 4) g0 rfl rfl rfl ?_
      refine yT.cal (pc' := 5) rfl rfl hT' op rfl (by omega) (fun w ew => ?_)
      refine yT.if2 (t := 20) (pc' := 8) rfl rfl rfl (c2_ge ex ew) (fun _ => ?_) (fun c => ?_)
      · exact yT.retV rfl rfl ⟨hT', rfl⟩
      · refine yT.aan (pc' := 9) g1 rfl rfl rfl ?_
        refine yT.iln (pc' := 10) g2 rfl rfl ?_
        refine yT.aan (pc' := 11) g0 rfl rfl rfl ?_
        refine yT.iln (pc' := 12) g2 rfl rfl ?_
        refine yT.cla (pc' := 13) rfl rfl hT' op ex (by omega) (fun y => ?_)
        refine yT.cls (pc' := 14) rfl rfl hT' oq ex (by omega) (fun h2 hT2 _ => ?_)
        refine yT.inc (pc' := 17) g2 ex rfl rfl rfl ⟨by decide, by omega⟩ (fun u eu => ?_)
        refine yT.p (pc' := 2) rfl rfl (fun _ _ _ _ => rfl) ?_
        exact ih _ h2 (i + 1) u (by omega) hT2 (xg_ne g0 rfl) (xg_ne g1 rfl) xg_eq (by omega)
  exact L (n + 1) _ h 0 z (by omega) hT (xg_ne g0 rfl) (xg_ne g1 rfl) xg_eq (by omega)
theorem r254 (hT : HT ks σ ρ h) {x : Int32} {k : Nat} {c : Int32} (ex : x.toInt = (k : Int)) (hk : k < 8) (hc : xnth [(43 : Int32), 45, 42, 47, 37, 60, 61, 62] k = some c) : yM 254 8 0 [.int x] h (SQI ks σ ρ (fun r => r = c)) := by
  refine ⟨(h, some (.int c), 0, 8), 0, 1, fun n d cs _ hd => ?_, Nat.le_refl _, Nat.le_refl _, hT, c, rfl, rfl⟩
  obtain ⟨d, rfl⟩ : ∃ d', d = d' + 1 := ⟨d - 1, by omega⟩
  have hx : x.toNatClampNeg = k := by
    show x.toInt.toNat = k
    omega
  have h0 : decide (0 ≤ x) = true := decide_eq_true (Int32.le_iff_toInt_le.mpr (by rw [ex]; exact Int.natCast_nonneg k))
  have e : xBt 254 [.int x] h ([], cs) = some ((h, some (.int c), 0, 8), ([], cs)) := by
    have e0 : xBt 254 [.int x] h ([], cs) = (bif decide (0 ≤ x) then (match xnth [(43 : Int32), 45, 42, 47, 37, 60, 61, 62] x.toNatClampNeg with
      | some c => some ((h, some (.int c), 0, 8), (([], cs) : xO))
      | none => none) else none) := rfl
    rw [e0, h0, hx, hc]
    rfl
  show (match xBt 254 [.int x] h ([], cs) with
      | some z => some z
      | none => match xnth xMs 254 with
        | some M => xexe 0 [] xMs (xC xBt [] xMs n d) n M [.int x] h ([], cs)
        | none => none) = _
  rw [e]
end CPY
/-- kept -/
def S3 (k : Nat) (σ τ : sg) : Prop := RI (k + 1) τ ∧ OT σ τ ∧ fl τ 12 = fl σ 12 ∧ nw τ 6769 = nw σ 6769 ∧ nw (kp τ) 6769 = nw σ 6769 ∧ fl τ 6 = 1
theorem NI.cp {k : Nat} {t lb : Int} {σ τ : sg} (n : NI k t lb σ) (h : τ 61 = fun j => bif Nat.blt j 6918 then σ 61 j else 0) : NI k t lb τ := n.cg (fun i hi => by
  unfold nw
  rw [h]
  show ((bif Nat.blt i 6918 then σ 61 i else 0) : Int32).toInt = _
  rw [show Nat.blt i 6918 = true from Nat.ble_eq_true_of_le hi]
  rfl)
theorem S3.img {k : Nat} {σ : sg} {v : Int32} (h : RI k σ) (hv : v.toInt = 1) : S3 k σ (us (cpy σ 61 64 6918) 60 6 v) := by
  have e : ∀ q, q ≠ 60 → q ≠ 64 → us (cpy σ 61 64 6918) 60 6 v q = σ q := fun q a b => by rw [us_nq a, cpy_ne b]
  have f : ∀ s, s ≠ 6 → fl (us (cpy σ 61 64 6918) 60 6 v) s = fl σ s := fun s hs => (congrArg Int32.toInt (us_ne (fun e => hs e.2))).trans (fl_eq (cpy_ne (by decide)))
  have f12 := f 12 (by decide)
  have ek : ∀ i, i < 6918 → nw (kp (us (cpy σ 61 64 6918) 60 6 v)) i = nw σ i := fun i hi => by
    show ((if 61 = 61 then us (cpy σ 61 64 6918) 60 6 v 64 else us (cpy σ 61 64 6918) 60 6 v 61) i).toInt = (σ 61 i).toInt
    rw [if_pos rfl, us_nq (by decide), cpy_at]
    show ((bif Nat.blt i 6918 then σ 61 i else σ 64 i) : Int32).toInt = _
    rw [show Nat.blt i 6918 = true from Nat.ble_eq_true_of_le hi]
    rfl
  refine ⟨⟨?_, ?_, h.2.2.1.e (e _ (by decide) (by decide)) (e _ (by decide) (by decide)), (f 13 (by decide)).trans h.2.2.2.1, fun i hi => (bz_eq (e 67 (by decide) (by decide))).trans (h.2.2.2.2.1 i hi), by rw [f12]; exact h.2.2.2.2.2⟩, fun q hq => e q (by omega) (by omega), f12, nw_e (e _ (by decide) (by decide)), ek _ (by decide), fl_at.trans hv⟩
  · rw [f12]
    exact (h.1.e (e _ (by decide) (by decide))).mono (by omega) (by omega) (by omega)
  · rw [f12]
    exact (h.1.cg ek).mono (by omega) (by omega) (by omega)
/-- taken back -/
def BK (k : Nat) (σ τ : sg) : Prop := RI (k + 1) τ ∧ OT σ τ ∧ fl τ 12 = fl σ 12 ∧ nw τ 6769 = nw (kp σ) 6769 ∧ nw (kp τ) 6769 = nw (kp σ) 6769 ∧ fl τ 6 = fl σ 6
theorem BK.in {k : Nat} {σ : sg} (h : RI k σ) : BK k σ (cpy σ 64 61 6918) := by
  have e : ∀ q, q ≠ 61 → cpy σ 64 61 6918 q = σ q := fun q b => cpy_ne b
  have f : ∀ s, fl (cpy σ 64 61 6918) s = fl σ s := fun s => fl_eq (e _ (by decide))
  have ek : ∀ i, i < 6918 → nw (cpy σ 64 61 6918) i = nw (kp σ) i := fun i hi => by
    show (cpy σ 64 61 6918 61 i).toInt = ((if 61 = 61 then σ 64 else σ 61) i).toInt
    rw [if_pos rfl, cpy_at]
    show ((bif Nat.blt i 6918 then σ 64 i else σ 61 i) : Int32).toInt = _
    rw [show Nat.blt i 6918 = true from Nat.ble_eq_true_of_le hi]
    rfl
  refine ⟨⟨?_, ?_, h.2.2.1.e (e _ (by decide)) (e _ (by decide)), (f 13).trans h.2.2.2.1, fun i hi => (bz_eq (e 67 (by decide))).trans (h.2.2.2.2.1 i hi), by rw [f 12]; exact h.2.2.2.2.2⟩, fun q hq => e q (by omega), f 12, ek _ (by decide), nw_e (kp_e (e _ (by decide))), f 6⟩
  · rw [f 12]
    exact (h.2.1.cg ek).mono (by omega) (by omega) (by omega)
  · rw [f 12]
    exact (h.2.1.e (kp_e (e _ (by decide)))).mono (by omega) (by omega) (by omega)
theorem BK.st {k s : Nat} {σ τ : sg} {v : Int32} (h : BK k σ τ) (hs : s < 8) (hv : v.toInt = -1 ∨ v.toInt = (τ 76 s).toInt) : BK k σ (us τ 76 s v) := by
  obtain ⟨a, b, c, d, d2, e⟩ := h
  have u : ∀ q, q ≠ 76 → us τ 76 s v q = τ q := fun q hq => us_nq hq
  have f12 : fl (us τ 76 s v) 12 = fl τ 12 := fl_eq (u _ (by decide))
  refine ⟨⟨?_, ?_, fun j hj => ?_, (fl_eq (u _ (by decide))).trans a.2.2.2.1, fun i hi => (bz_eq (u 67 (by decide))).trans (a.2.2.2.2.1 i hi), by rw [f12]; exact a.2.2.2.2.2⟩, b.tr (fun q hq => u q (by omega)), f12.trans c, (nw_e (u _ (by decide))).trans d, (nw_e (kp_e (u _ (by decide)))).trans d2, (fl_eq (u _ (by decide))).trans e⟩
  · rw [f12]
    exact a.1.e (u _ (by decide))
  · rw [f12]
    exact a.2.1.e (kp_e (u _ (by decide)))
  · have hS := a.2.2.1 j hj
    rw [show us τ 76 s v 77 = τ 77 from us_nq (by decide)]
    by_cases hjs : j = s
    · subst hjs
      rw [us_eq]
      omega
    · rw [us_ne (fun e => hjs e.2)]
      exact hS
theorem sgn_some {k : Nat} (h : k < 8) : ∃ c, xnth [(43 : Int32), 45, 42, 47, 37, 60, 61, 62] k = some c := xnth_some h
