/-! the start: what PulledSignals' constructor makes -/
def KS0 : List Nat := [18, 17, 3, 1, 14, 1, 14, 1, 2, 14, 1, 17, 3, 1, 14, 1, 14, 1, 2, 14, 1, 15, 10, 2, 1, 13, 14, 1, 14, 1, 14, 1, 14, 1, 14, 1, 14, 1, 14, 1, 14, 1, 4, 1, 16, 2, 16, 2, 16, 2, 16, 2, 16, 2, 16, 2, 16, 2, 16, 2]
def z0 : List xE := [.inr (8, xDf 8 9)]
def rB (ks : List Nat) (v : Value) (t : Nat) : Bool := match v with
  | .ref (p + 1) => (match xnth ks p with
    | some u => Nat.beq u t
    | none => false)
  | _ => false
def vB (ks : List Nat) (c : Nat × Nat) (v : Value) : Bool := match c.1 with
  | 0 => (match v with
    | .int _ => true
    | _ => false)
  | 1 => (match v with
    | .int x => decide (x = 0) || decide (x = 1)
    | _ => false)
  | 2 => (match v with
    | .long _ => true
    | _ => false)
  | 4 => (match v with
    | .null => true
    | v => rB ks v c.2)
  | _ => false
def fB (ks : List Nat) (t : Nat) (n : Nat) (f : Nat → Option Nat) : Bool := (List.range n).all (fun i => match f i with
  | none => true
  | some k => rB ks (.ref k) t)
def eB (ks : List Nat) (t : Nat) (e : xE) : Bool := match Nat.ble 10 t with
  | true => (match e with
    | .inr (a, fs) => Nat.beq a (t - 10) && (Nat.beq fs.length (gFs t).length && (List.range (gFs t).length).all (fun s => match xnth fs s with
      | some v => vB ks (gK t s) v
      | none => false))
    | _ => false)
  | false => match t with
    | 1 => (match e with
      | .inl (0, _, .inl _) => true
      | _ => false)
    | 2 => (match e with
      | .inl (1, _, .inr (.inl _)) => true
      | _ => false)
    | 3 => (match e with
      | .inl (3, n, .inr (.inr (.inr (.inr f)))) => fB ks 11 n f
      | _ => false)
    | 4 => (match e with
      | .inl (4, n, .inr (.inr (.inr (.inr f)))) => fB ks 16 n f
      | _ => false)
    | _ => false
def hB (ks : List Nat) (h : List xE) : Bool := Nat.beq h.length ks.length && (List.range ks.length).all (fun q => match xnth ks q with
  | some t => (match xnth h q with
    | some e => eB ks t e
    | none => false)
  | none => false)
theorem rB_ok {ks : List Nat} {v : Value} {t : Nat} (h : rB ks v t = true) : ∃ p, v = .ref (p + 1) ∧ xnth ks p = some t := by
  unfold rB at h
  split at h
  · rename_i p
    split at h
    · rename_i u hu
      obtain rfl := Nat.eq_of_beq_eq_true h
      exact ⟨p, rfl, hu⟩
    · cases h
  · cases h
theorem vB_ok {ks : List Nat} {c : Nat × Nat} {v : Value} (h : vB ks c v = true) : gV ks c v := by
  obtain ⟨c1, c2⟩ := c
  unfold vB at h
  unfold gV
  dsimp only at h ⊢
  split at h
  · cases v with
    | int x => exact ⟨x, rfl⟩
    | _ => cases h
  · cases v with
    | int x =>
      replace h : (decide (x = 0) || decide (x = 1)) = true := h
      rw [Bool.or_eq_true, decide_eq_true_eq, decide_eq_true_eq] at h
      exact ⟨x, rfl, h⟩
    | _ => cases h
  · cases v with
    | long x => exact ⟨x, rfl⟩
    | _ => cases h
  · cases v with
    | null => exact Or.inl rfl
    | ref n => exact Or.inr (rB_ok (t := c2) h)
    | _ => cases h
  · cases h
theorem fB_ok {ks : List Nat} {t n : Nat} {f : Nat → Option Nat} (h : fB ks t n f = true) : ∀ i, i < n → f i = none ∨ ∃ p, f i = some (p + 1) ∧ xnth ks p = some t := fun i hi => by
  have h1 := List.all_eq_true.mp h i (List.mem_range.mpr hi)
  cases hf : f i with
  | none => exact Or.inl rfl
  | some k =>
    rw [hf] at h1
    obtain ⟨p, e1, e2⟩ := rB_ok (show rB ks (.ref k) t = true from h1)
    obtain rfl : k = p + 1 := by injection e1
    exact Or.inr ⟨p, rfl, e2⟩
theorem eB_ok {ks : List Nat} {t : Nat} {e : xE} (h : eB ks t e = true) : gE ks t e := by
  unfold eB at h
  unfold gE
  split at h
  · rename_i h10
    split at h
    · rename_i a fs
      rw [Bool.and_eq_true, Bool.and_eq_true] at h
      obtain ⟨h1, h2, h3⟩ := h
      obtain rfl := Nat.eq_of_beq_eq_true h1
      rw [h10]
      refine ⟨fs, rfl, Nat.eq_of_beq_eq_true h2, fun s hs => ?_⟩
      have h4 := List.all_eq_true.mp h3 s (List.mem_range.mpr hs)
      cases hv : xnth fs s with
      | none =>
        rw [hv] at h4
        cases h4
      | some v =>
        rw [hv] at h4
        exact ⟨v, rfl, vB_ok h4⟩
    · cases h
  · rename_i h10
    rw [h10]
    dsimp only
    split at h
    · split at h
      · exact ⟨_, _, rfl⟩
      · cases h
    · split at h
      · exact ⟨_, _, rfl⟩
      · cases h
    · split at h
      · exact ⟨_, _, rfl, fB_ok h⟩
      · cases h
    · split at h
      · exact ⟨_, _, rfl, fB_ok h⟩
      · cases h
    · cases h
theorem hB_ok {ks : List Nat} {h : List xE} (hc : hB ks h = true) : TT ks h := by
  unfold hB at hc
  rw [Bool.and_eq_true] at hc
  refine ⟨Nat.eq_of_beq_eq_true hc.1, fun q t hq => ?_⟩
  have h1 := List.all_eq_true.mp hc.2 q (List.mem_range.mpr (xnth_lt hq))
  rw [hq] at h1
  dsimp only at h1
  cases he : xnth h q with
  | none =>
    rw [he] at h1
    cases h1
  | some e =>
    rw [he] at h1
    exact ⟨e, rfl, eB_ok h1⟩
/-- what the class's memory is at the start -/
abbrev SP (m : Mm) : Prop := (m.rv 0 0 = 2 ∧ m.rv 0 3 = 22 ∧ m.rv 0 4 = 23 ∧ m.rv 0 5 = 26 ∧ m.rv 0 6 = 41) ∧ (m.rv 1 0 = 3 ∧ m.ln 2 = 24 ∧ m.iv 1 2 = 0 ∧ m.rv 1 1 = 4 ∧ m.ln 3 = 24 ∧ m.rv 1 3 = 5 ∧ m.rv 1 4 = 7 ∧ m.rv 1 5 = 9 ∧ m.ln 8 = 60 ∧ m.iv 1 7 = 0) ∧ (m.rv 21 0 = 2 ∧ m.rv 22 0 = 2 ∧ m.rv 22 1 = 24 ∧ m.rv 22 2 = 25 ∧ m.ln 23 = 24 ∧ m.ln 24 = 24) ∧ (∀ j, j < 24 → m.iv 3 j = 0 ∧ m.rv 2 j = 0) ∧
  (m.rv 25 0 = 27 ∧ m.rv 25 1 = 29 ∧ m.rv 25 2 = 31 ∧ m.rv 25 3 = 33 ∧ m.rv 25 4 = 35 ∧ m.rv 25 5 = 37 ∧ m.rv 25 6 = 39 ∧ m.iv 25 7 = 0) ∧
  (∀ t, t ∈ [(4, 24), (6, 60), (26, 250), (28, 250), (30, 750), (32, 250), (34, 250), (36, 250), (38, 250), (40, 250)] → m.rv t.1 0 = t.1 + 2 ∧ m.ln (t.1 + 1) = t.2 ∧ m.iv t.1 1 = 0) ∧ m.nx = 60
def stB : Bool := match xC xBt [] xMs 1000000 16 84 [.ref 1] z0 ([], []) with
  | some (r, ([], [])) => Nat.ble r.2.2.1 3500 && (Nat.ble r.2.2.2 3 && (hB KS0 r.1 && (decide (SP (mm r.1)) && r.2.1.isNone)))
  | _ => false
set_option maxRecDepth 1000000 in
theorem stB_ok : stB = true := by decide +kernel
/-- the constructor's contract -/
theorem st_cM : cM 84 3 3500 [.ref (0 + 1)] z0 (fun h' r => r = none ∧ TT KS0 h' ∧ SP (mm h')) := by
  have h := stB_ok
  unfold stB at h
  split at h
  · rename_i r he
    simp only [Bool.and_eq_true, decide_eq_true_eq, Option.isNone_iff_eq_none] at h
    obtain ⟨h1, h2, h3, h4, h5⟩ := h
    exact ⟨1000000, 16, r, he, Nat.le_of_ble_eq_true h1, Nat.le_of_ble_eq_true h2, h5, hB_ok h3, h4⟩
  · cases h
