/-! draws; what is made, taken -/
theorem ush_b (x : Int32) : 0 ≤ ((x.toUInt32 >>> (Int32.toUInt32 16 &&& Int32.toUInt32 31)).toInt32).toInt ∧ ((x.toUInt32 >>> (Int32.toUInt32 16 &&& Int32.toUInt32 31)).toInt32).toInt ≤ 65535 := by
  have h16 : (Int32.toUInt32 16 &&& Int32.toUInt32 31) = (16 : UInt32) := by decide
  rw [h16]
  have h : (x.toUInt32 >>> (16 : UInt32)).toNat ≤ 65535 := by
    rw [UInt32.toNat_shiftRight]
    have : x.toUInt32.toNat < 4294967296 := x.toUInt32.toBitVec.isLt
    show x.toUInt32.toNat >>> 16 ≤ 65535
    rw [Nat.shiftRight_eq_div_pow]
    omega
  show 0 ≤ (x.toUInt32 >>> (16 : UInt32)).toBitVec.toInt ∧ (x.toUInt32 >>> (16 : UInt32)).toBitVec.toInt ≤ 65535
  have h : (x.toUInt32 >>> (16 : UInt32)).toBitVec.toNat ≤ 65535 := h
  rw [BitVec.toInt_eq_toNat_cond]
  split <;> omega
theorem rem_b {x y : Int32} (hx : 0 ≤ x.toInt ∧ x.toInt ≤ 65535) (hy : 0 < y.toInt) : 0 ≤ (x - x / y * y).toInt ∧ (x - x / y * y).toInt < y.toInt := by
  have hb := i32_rng y
  have d1 : x.toInt.tdiv y.toInt = x.toInt / y.toInt := Int.tdiv_eq_ediv_of_nonneg hx.1
  have d2 : 0 ≤ x.toInt / y.toInt := Int.ediv_nonneg hx.1 (by omega)
  have d3 : x.toInt / y.toInt * y.toInt ≤ x.toInt := Int.ediv_mul_le _ (by omega)
  have d4 : x.toInt / y.toInt ≤ x.toInt := Int.ediv_le_self _ hx.1
  have d5 : x.toInt - x.toInt / y.toInt * y.toInt = x.toInt % y.toInt := by
    have := Int.emod_add_mul_ediv x.toInt y.toInt
    rw [Int.mul_comm] at this
    omega
  have d6 := Int.emod_nonneg x.toInt (show y.toInt ≠ 0 by omega)
  have d7 := Int.emod_lt_of_pos x.toInt hy
  have d8 : 0 ≤ x.toInt / y.toInt * y.toInt := Int.mul_nonneg d2 (by omega)
  have e1 : (x / y).toInt = x.toInt / y.toInt := by
    rw [Int32.toInt_div, d1]
    exact Int.bmod_eq_of_le (by omega) (by omega)
  have e2 : (x / y * y).toInt = x.toInt / y.toInt * y.toInt := by
    rw [Int32.toInt_mul, e1]
    exact Int.bmod_eq_of_le (by omega) (by omega)
  have e3 : (x - x / y * y).toInt = x.toInt % y.toInt := by
    rw [Int32.toInt_sub, e2, d5]
    exact Int.bmod_eq_of_le (by omega) (by omega)
  rw [e3]
  exact ⟨d6, d7⟩
section YD
variable {L : Nat} {iv : List (Int × Int)} {M : xM} {F G pc pc' len a b : Nat} {lv : xLv} {h : List xE} {Q : yQ} {r : List Value} {x y : Int32} {X Y : Int}
theorem yT.ush16 (py : y.toInt = 16) (hf : xfet (xMt M) pc = some (.iushr, len, a, b)) (hp : pc + len = pc') (k : ∀ z : Int32, 0 ≤ z.toInt ∧ z.toInt ≤ 65535 → yT L iv M F G pc' lv (.int z :: r) h Q) : yT L iv M F G pc lv (.int y :: .int x :: r) h Q := by
  subst hp
  obtain rfl : y = 16 := i32_ext py
  exact yT.p hf rfl (fun _ _ _ _ => rfl) (k _ (ush_b x))
theorem yT.rem2 (px : x.toInt = X) (py : y.toInt = Y) (hX : 0 ≤ X ∧ X ≤ 65535) (hY : 0 < Y) (hf : xfet (xMt M) pc = some (.irem, len, a, b)) (hp : pc + len = pc') (k : ∀ z : Int32, 0 ≤ z.toInt ∧ z.toInt < Y → yT L iv M F G pc' lv (.int z :: r) h Q) : yT L iv M F G pc lv (.int y :: .int x :: r) h Q := by
  subst px py
  exact yT.rem (fun e => by
    rw [e] at hY
    exact absurd hY (by decide)) hf hp (k _ (rem_b hX hY))
end YD
def DRW (σ τ : sg) : Prop := ∃ v, τ = us σ 61 6917 v
theorem EF.drw {d : Int} {σ τ υ : sg} (h : EF d σ τ) (k : DRW τ υ) : EF d σ υ := by
  obtain ⟨v, rfl⟩ := k
  exact h.sed
theorem EF.mk {d : Int} {σ τ υ : sg} (h : EF d σ τ) (k : MK τ υ) : EF d σ υ := h.pf ((PF.rf h.2.2.2.2.1).mk k)
theorem f12 {ks : List cT} {B0 : Nat} (K : KE KS0 ks B0) {σ : sg} {ρ : Nat → xE} {h : List xE} (hT : HT ks σ ρ h) : ∃ m : Nat, fl σ 12 = (m : Int) ∧ m ≤ 250 := by
  obtain ⟨fs, w1, w2, w3⟩ := hT.obj (K.up rfl : xnth ks 60 = some (19, 0)) rfl
  obtain ⟨v, v1, x, rfl, x1, x2, x3⟩ := w3 12 (by decide)
  have x3 : x.toInt ≤ 250 := x3
  refine ⟨x.toInt.toNat, ?_, by omega⟩
  unfold fl
  rw [← x1]
  omega
theorem S0.md {k : Nat} {σ τ : sg} {a b : Int} (h : RI k σ) (h24 : nw σ 6768 < 24) (m : MD (nw σ 6768).toNat a b σ τ) (ha : a = 1 ∨ a = 5) (hb : b < nw σ 6768) : S0 k σ τ := by
  have hcm := h.1.1.1.1
  have m1 := m.1
  have m4 := m.2.2.2.1
  have m31 := m.2.2.2.2.2 31 (by decide) (by decide) (by decide)
  have n := (NI.md h.1 (by omega) (by omega) m (by omega) (by omega)).src (by omega) m31
  have e12 : fl τ 12 = fl σ 12 := fl_eq (m1 60 (by decide))
  refine ⟨⟨?_, ?_, h.2.2.1.e (m1 _ (by decide)) (m1 _ (by decide)), (fl_eq (m1 60 (by decide))).trans h.2.2.2.1, fun i hi => (bz_eq (m1 67 (by decide))).trans (h.2.2.2.2.1 i hi), by rw [e12]; exact h.2.2.2.2.2⟩, fun q hq => m1 q (by omega), e12, m.2.1 6769 (by omega) (by decide), nw_e (kp_e (m1 64 (by decide))), fl_eq (m1 60 (by decide))⟩
  · rw [e12]
    exact n.mono (Nat.le_refl _) (by omega) (by omega)
  · rw [e12]
    exact (h.2.1.e (kp_e (m1 64 (by decide)))).mono (by omega) (by omega) (by omega)
/-- the tape was read, and is empty -/
theorem S1.frd {k : Nat} {σ τ : sg} {r : Int32} (h : RI k σ) (f : FRD σ τ r) : S1 k σ τ ∧ fl τ 12 = 0 := by
  obtain ⟨f1, f2, f3, -⟩ := f
  have h0 := h.2.2.2.2.2
  exact ⟨S1.tape h (fun q a _ => f1 q a) (fun s hs => congrArg Int32.toInt (f2 s (by omega) (by omega) (by omega))) (by omega) (by omega), f3⟩
/-- and what was read is a cell's formula -/
theorem RX.end {k lbn : Nat} {lb t' : Int} {σ τ : sg} (h : RI k σ) (n : NI (k + 1) 0 lb τ) (hq : ∀ q, q ≠ 60 → q ≠ 61 → τ q = σ q) (h12 : fl τ 12 = 0) (hf : ∀ s, s = 6 ∨ s = 13 → fl τ s = fl σ s) (hb : nw τ 6769 = nw σ 6769) : RX (k + 1) lb τ ∧ OT σ τ ∧ CR1 σ τ := by
  have h0 := h.2.2.2.2.2
  refine ⟨⟨?_, ?_, h.2.2.1.e (hq _ (by decide) (by decide)) (hq _ (by decide) (by decide)), (hf 13 (by decide)).trans h.2.2.2.1, fun i hi => (bz_eq (hq 67 (by decide) (by decide))).trans (h.2.2.2.2.1 i hi), by omega⟩, fun q hh => hq q (by omega) (by omega), hb, nw_e (kp_e (hq 64 (by decide) (by decide))), hf 6 (by decide)⟩
  · rw [h12]
    exact n
  · rw [h12]
    exact (h.2.1.e (kp_e (hq 64 (by decide) (by decide)))).mono (by omega) (by omega) (by omega)
theorem lt_tp {σ τ : sg} {m : Nat} {c : Nat} (hl : ∀ k, ltr τ c k = if (k : Int) < (m : Int) then (σ 71 k).toInt else -1) (hm : fl σ 12 = (m : Int)) : lt τ c = ⟨tp σ, nw τ 6768⟩ := by
  unfold lt
  refine congrArg (fun f => (f, nw τ 6768)) (funext (fun k => ?_))
  rw [hl k]
  unfold tp
  rw [hm]
theorem RX.new {k m : Nat} {σ σ1 σ2 τ : sg} {r : Int32} {a b : Int} (h : RI k σ) (f : FRD σ σ1 r) (hr : r.toInt = -1) (hm : fl σ 12 = (m : Int)) (hm2 : m ≤ 250) (h24 : nw σ1 6768 < 24) (d : MD (nw σ1 6768).toNat a b σ1 σ2) (ha : a = 3 ∨ a = 4) (hb : b < nw σ1 6768) (t : TK σ2 τ (nw σ1 6768).toNat m m) : (RX (k + 1) (10000 * (k : Int)) τ ∧ OT σ τ ∧ CR1 σ τ) ∧ fl τ 12 = 0 ∧ nw τ (282 * (nw σ1 6768).toNat + 0) = a := by
  obtain ⟨f1, f2, f3, f4, f5, f6⟩ := f
  have e61 := f1 61 (by decide)
  have n1 := h.1.e e61
  have hcm := n1.1.1.1
  have hP := f6 hr
  rw [hm] at hP
  have d1 := d.1
  have t1 := t.1
  have kc : nw τ 6768 = nw σ1 6768 + 1 := by
    rw [t.2.1 6768 (by omega), d.2.2.1]
    omega
  have e71 : σ2 71 = σ 71 := (d1 71 (by decide)).trans (f1 71 (by decide))
  have hP2 : PK (lt τ (nw σ1 6768).toNat) 0 0 m := by
    rw [lt_tp (σ := σ) (m := m) (fun k => by rw [t.letr k, e71]) hm]
    refine PK.mm ?_ hP
    rw [kc, nw_e e61]
    omega
  have fq : ∀ s, fl τ s = fl σ1 s := fun s => (fl_eq (t1 60 (by decide))).trans (fl_eq (d1 60 (by decide)))
  have g12 : fl τ 12 = 0 := (fq 12).trans f3
  have n2 := (NI.md n1 (by omega) (by omega) d (by omega) (by omega)).tk (t' := 0) (by omega) t hm2 hP2 (by omega)
  refine ⟨RX.end (lbn := 0) (t' := 0) h n2 (fun q a b => (t1 q b).trans ((d1 q b).trans (f1 q a))) g12 (fun s hs => (fq s).trans (congrArg Int32.toInt (f2 s (by omega) (by omega) (by omega)))) ?_, g12, ?_⟩
  · rw [t.2.1 6769 (by omega), d.2.1 6769 (by omega) (by decide), nw_e e61]
  · rw [t.2.1 _ (by omega)]
    exact d.2.2.2.1
theorem RX.rfm {k m c : Nat} {σ σ1 τ : sg} {r : Int32} (h : RI k σ) (f : FRD σ σ1 r) (hr : r.toInt = -1) (hm : fl σ 12 = (m : Int)) (hm2 : m ≤ 250) (hc : c < 24) (t : TK σ1 τ c m m) : (RX (k + 1) (10000 * (k : Int)) τ ∧ OT σ τ ∧ CR1 σ τ) ∧ fl τ 12 = 0 := by
  obtain ⟨f1, f2, f3, f4, f5, f6⟩ := f
  have e61 := f1 61 (by decide)
  have n1 := h.1.e e61
  have hP := f6 hr
  rw [hm] at hP
  have t1 := t.1
  have kc : nw τ 6768 = nw σ1 6768 := t.2.1 6768 (by omega)
  have hP2 : PK (lt τ c) 0 0 m := by
    rw [lt_tp (σ := σ) (m := m) (fun k => by rw [t.letr k, f1 71 (by decide)]) hm]
    refine PK.mm ?_ hP
    rw [kc, nw_e e61]
    exact Int.le_refl _
  have fq : ∀ s, fl τ s = fl σ1 s := fun s => fl_eq (t1 60 (by decide))
  have g12 : fl τ 12 = 0 := (fq 12).trans f3
  have n2 := (NI.nj (c := c) n1).tk (t' := 0) hc t hm2 hP2 (by omega)
  refine ⟨RX.end (lbn := 0) (t' := 0) h (n2.mono (by omega) (by omega) (by omega)) (fun q a b => (t1 q b).trans (f1 q a)) g12 (fun s hs => (fq s).trans (congrArg Int32.toInt (f2 s (by omega) (by omega) (by omega)))) ?_, g12⟩
  rw [t.2.1 6769 (by omega), nw_e e61]
theorem S1.fin {k : Nat} {d lb : Int} {σ τ υ : sg} (h : (RX (k + 1) lb τ ∧ OT σ τ ∧ CR1 σ τ) ∧ fl τ 12 = 0) (e : EF d τ υ) (hl : lb + d ≤ 10000 * ((k : Int) + 1)) : S1 k σ υ ∧ fl υ 12 = 0 := by
  obtain ⟨⟨a, b, c⟩, g⟩ := h
  obtain ⟨e1, e2, e3, e4⟩ := e.cr
  exact ⟨⟨RX.mono (a.ef e) (Nat.le_refl _) (by omega), b.tr e.ot, e2.trans c.1, e3.trans c.2.1, e4.trans c.2.2⟩, e1.trans g⟩
