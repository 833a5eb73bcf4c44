/-! the reader: what it holds, and what each of its calls does to that -/
abbrev Rd : Type := List Int32 × List Int32 × List Int32 × List Int32 × Int32 × Int32 × Int32 × Int32
/-- steps, details, open, jumps, place, fault, whether a part is wanted, whether one stands -/
def Rd.sl (r : Rd) : List Int32 := r.1
def Rd.dl (r : Rd) : List Int32 := r.2.1
def Rd.op (r : Rd) : List Int32 := r.2.2.1
def Rd.oj (r : Rd) : List Int32 := r.2.2.2.1
def Rd.at (r : Rd) : Int32 := r.2.2.2.2.1
def Rd.fa (r : Rd) : Int32 := r.2.2.2.2.2.1
def Rd.wp (r : Rd) : Int32 := r.2.2.2.2.2.2.1
def Rd.ps (r : Rd) : Int32 := r.2.2.2.2.2.2.2
def RA (m : Mm) (cs : Int32) (r : Rd) : Prop := (NumAt m 26 27 250 r.sl ∧ NumAt m 28 29 250 r.dl ∧ (∃ l, NumAt m 30 31 750 l) ∧ NumAt m 32 33 250 r.op ∧ (∃ l, NumAt m 34 35 250 l) ∧ NumAt m 36 37 250 r.oj ∧ ∃ l, NumAt m 38 39 250 l) ∧ (m.rv 25 0 = 27 ∧ m.rv 25 1 = 29 ∧ m.rv 25 2 = 31 ∧ m.rv 25 3 = 33 ∧ m.rv 25 4 = 35 ∧ m.rv 25 5 = 37 ∧ m.rv 25 6 = 39) ∧ (0 ≤ (m.iv 25 7).toInt ∧ (m.iv 25 7).toInt ≤ 250) ∧ m.iv 25 8 = cs ∧ m.iv 25 9 = r.at ∧ m.iv 25 10 = r.fa ∧ m.iv 25 11 = r.wp ∧ m.iv 25 12 = r.ps
def DZ : Nat → Nat → Prop := fun p c => (p = 25 ∧ 7 ≤ c) ∨ (26 ≤ p ∧ p ≤ 39 ∧ (p % 2 = 0 → c = 1 ∨ c = 2))
def rAdd (r : Rd) (s d : Int32) : Rd := (ladd 250 r.sl s, ladd 250 r.dl d, r.2.2)
def rOpen (r : Rd) (w : Int32) : Rd := (r.sl, r.dl, ladd 250 r.op w, ladd 250 r.oj (-1), r.2.2.2.2)
def rClose (r : Rd) : Rd := (r.sl, r.dl, r.op.dropLast, r.oj.dropLast, r.2.2.2.2)
def rDl (r : Rd) (l : List Int32) : Rd := (r.sl, l, r.2.2)
def rOp (r : Rd) (l : List Int32) : Rd := (r.sl, r.dl, l, r.2.2.2)
def rOj (r : Rd) (l : List Int32) : Rd := (r.sl, r.dl, r.op, l, r.2.2.2.2)
def rAt (r : Rd) (x : Int32) : Rd := (r.sl, r.dl, r.op, r.oj, x, r.2.2.2.2.2)
def rFa (r : Rd) (x : Int32) : Rd := (r.sl, r.dl, r.op, r.oj, r.at, x, r.2.2.2.2.2.2)
def rWp (r : Rd) (x : Int32) : Rd := (r.sl, r.dl, r.op, r.oj, r.at, r.fa, x, r.ps)
def rPs (r : Rd) (x : Int32) : Rd := (r.sl, r.dl, r.op, r.oj, r.at, r.fa, r.wp, x)
section RR
variable {m m' : Mm} {cs x y : Int32} {r : Rd} {l : List Int32} {p c : Nat} {v : Value}
theorem dr_num {q a : Nat} (h : q = 26 ∧ a = 27 ∨ q = 28 ∧ a = 29 ∨ q = 30 ∧ a = 31 ∨ q = 32 ∧ a = 33 ∨ q = 34 ∧ a = 35 ∨ q = 36 ∧ a = 37 ∨ q = 38 ∧ a = 39) : ∀ p c, DN q a p c → DZ p c := fun p c e => by
  unfold DN at e
  unfold DZ
  omega
theorem RA.n1 (h : RA m cs r) (n : NumAt m' 26 27 250 l) (f : FrP (DN 26 27) m m') : RA m' cs (l, r.2) := by
  obtain ⟨⟨n1, n2, ⟨l3, n3⟩, n4, ⟨l5, n5⟩, n6, l7, n7⟩, ⟨a0, a1, a2, a3, a4, a5, a6⟩, b1, b2, b3, b4, b5, b6⟩ := h
  have g : ∀ p c, ¬ (p = 26 ∧ (c = 1 ∨ c = 2) ∨ p = 27) → ¬ DN 26 27 p c := fun _ _ h => h
  refine ⟨⟨n, n2.fr f (g _ _ (by omega)) (g _ _ (by omega)) (fun c => g _ _ (by omega)), ⟨l3, n3.fr f (g _ _ (by omega)) (g _ _ (by omega)) (fun c => g _ _ (by omega))⟩, n4.fr f (g _ _ (by omega)) (g _ _ (by omega)) (fun c => g _ _ (by omega)), ⟨l5, n5.fr f (g _ _ (by omega)) (g _ _ (by omega)) (fun c => g _ _ (by omega))⟩, n6.fr f (g _ _ (by omega)) (g _ _ (by omega)) (fun c => g _ _ (by omega)), l7, n7.fr f (g _ _ (by omega)) (g _ _ (by omega)) (fun c => g _ _ (by omega))⟩, ?_⟩
  rw [frv f (g 25 0 (by omega)), frv f (g 25 1 (by omega)), frv f (g 25 2 (by omega)), frv f (g 25 3 (by omega)), frv f (g 25 4 (by omega)), frv f (g 25 5 (by omega)), frv f (g 25 6 (by omega)), fiv f (g 25 7 (by omega)), fiv f (g 25 8 (by omega)), fiv f (g 25 9 (by omega)), fiv f (g 25 10 (by omega)), fiv f (g 25 11 (by omega)), fiv f (g 25 12 (by omega))]
  exact ⟨⟨a0, a1, a2, a3, a4, a5, a6⟩, b1, b2, b3, b4, b5, b6⟩
theorem RA.n2 (h : RA m cs r) (n : NumAt m' 28 29 250 l) (f : FrP (DN 28 29) m m') : RA m' cs (rDl r l) := by
  obtain ⟨⟨n1, n2, ⟨l3, n3⟩, n4, ⟨l5, n5⟩, n6, l7, n7⟩, ⟨a0, a1, a2, a3, a4, a5, a6⟩, b1, b2, b3, b4, b5, b6⟩ := h
  have g : ∀ p c, ¬ (p = 28 ∧ (c = 1 ∨ c = 2) ∨ p = 29) → ¬ DN 28 29 p c := fun _ _ h => h
  refine ⟨⟨n1.fr f (g _ _ (by omega)) (g _ _ (by omega)) (fun c => g _ _ (by omega)), n, ⟨l3, n3.fr f (g _ _ (by omega)) (g _ _ (by omega)) (fun c => g _ _ (by omega))⟩, n4.fr f (g _ _ (by omega)) (g _ _ (by omega)) (fun c => g _ _ (by omega)), ⟨l5, n5.fr f (g _ _ (by omega)) (g _ _ (by omega)) (fun c => g _ _ (by omega))⟩, n6.fr f (g _ _ (by omega)) (g _ _ (by omega)) (fun c => g _ _ (by omega)), l7, n7.fr f (g _ _ (by omega)) (g _ _ (by omega)) (fun c => g _ _ (by omega))⟩, ?_⟩
  rw [frv f (g 25 0 (by omega)), frv f (g 25 1 (by omega)), frv f (g 25 2 (by omega)), frv f (g 25 3 (by omega)), frv f (g 25 4 (by omega)), frv f (g 25 5 (by omega)), frv f (g 25 6 (by omega)), fiv f (g 25 7 (by omega)), fiv f (g 25 8 (by omega)), fiv f (g 25 9 (by omega)), fiv f (g 25 10 (by omega)), fiv f (g 25 11 (by omega)), fiv f (g 25 12 (by omega))]
  exact ⟨⟨a0, a1, a2, a3, a4, a5, a6⟩, b1, b2, b3, b4, b5, b6⟩
theorem RA.n3 (h : RA m cs r) (n : NumAt m' 30 31 750 l) (f : FrP (DN 30 31) m m') : RA m' cs r := by
  obtain ⟨⟨n1, n2, ⟨l3, n3⟩, n4, ⟨l5, n5⟩, n6, l7, n7⟩, ⟨a0, a1, a2, a3, a4, a5, a6⟩, b1, b2, b3, b4, b5, b6⟩ := h
  have g : ∀ p c, ¬ (p = 30 ∧ (c = 1 ∨ c = 2) ∨ p = 31) → ¬ DN 30 31 p c := fun _ _ h => h
  refine ⟨⟨n1.fr f (g _ _ (by omega)) (g _ _ (by omega)) (fun c => g _ _ (by omega)), n2.fr f (g _ _ (by omega)) (g _ _ (by omega)) (fun c => g _ _ (by omega)), ⟨_, n⟩, n4.fr f (g _ _ (by omega)) (g _ _ (by omega)) (fun c => g _ _ (by omega)), ⟨l5, n5.fr f (g _ _ (by omega)) (g _ _ (by omega)) (fun c => g _ _ (by omega))⟩, n6.fr f (g _ _ (by omega)) (g _ _ (by omega)) (fun c => g _ _ (by omega)), l7, n7.fr f (g _ _ (by omega)) (g _ _ (by omega)) (fun c => g _ _ (by omega))⟩, ?_⟩
  rw [frv f (g 25 0 (by omega)), frv f (g 25 1 (by omega)), frv f (g 25 2 (by omega)), frv f (g 25 3 (by omega)), frv f (g 25 4 (by omega)), frv f (g 25 5 (by omega)), frv f (g 25 6 (by omega)), fiv f (g 25 7 (by omega)), fiv f (g 25 8 (by omega)), fiv f (g 25 9 (by omega)), fiv f (g 25 10 (by omega)), fiv f (g 25 11 (by omega)), fiv f (g 25 12 (by omega))]
  exact ⟨⟨a0, a1, a2, a3, a4, a5, a6⟩, b1, b2, b3, b4, b5, b6⟩
theorem RA.n4 (h : RA m cs r) (n : NumAt m' 32 33 250 l) (f : FrP (DN 32 33) m m') : RA m' cs (rOp r l) := by
  obtain ⟨⟨n1, n2, ⟨l3, n3⟩, n4, ⟨l5, n5⟩, n6, l7, n7⟩, ⟨a0, a1, a2, a3, a4, a5, a6⟩, b1, b2, b3, b4, b5, b6⟩ := h
  have g : ∀ p c, ¬ (p = 32 ∧ (c = 1 ∨ c = 2) ∨ p = 33) → ¬ DN 32 33 p c := fun _ _ h => h
  refine ⟨⟨n1.fr f (g _ _ (by omega)) (g _ _ (by omega)) (fun c => g _ _ (by omega)), n2.fr f (g _ _ (by omega)) (g _ _ (by omega)) (fun c => g _ _ (by omega)), ⟨l3, n3.fr f (g _ _ (by omega)) (g _ _ (by omega)) (fun c => g _ _ (by omega))⟩, n, ⟨l5, n5.fr f (g _ _ (by omega)) (g _ _ (by omega)) (fun c => g _ _ (by omega))⟩, n6.fr f (g _ _ (by omega)) (g _ _ (by omega)) (fun c => g _ _ (by omega)), l7, n7.fr f (g _ _ (by omega)) (g _ _ (by omega)) (fun c => g _ _ (by omega))⟩, ?_⟩
  rw [frv f (g 25 0 (by omega)), frv f (g 25 1 (by omega)), frv f (g 25 2 (by omega)), frv f (g 25 3 (by omega)), frv f (g 25 4 (by omega)), frv f (g 25 5 (by omega)), frv f (g 25 6 (by omega)), fiv f (g 25 7 (by omega)), fiv f (g 25 8 (by omega)), fiv f (g 25 9 (by omega)), fiv f (g 25 10 (by omega)), fiv f (g 25 11 (by omega)), fiv f (g 25 12 (by omega))]
  exact ⟨⟨a0, a1, a2, a3, a4, a5, a6⟩, b1, b2, b3, b4, b5, b6⟩
theorem RA.n5 (h : RA m cs r) (n : NumAt m' 34 35 250 l) (f : FrP (DN 34 35) m m') : RA m' cs r := by
  obtain ⟨⟨n1, n2, ⟨l3, n3⟩, n4, ⟨l5, n5⟩, n6, l7, n7⟩, ⟨a0, a1, a2, a3, a4, a5, a6⟩, b1, b2, b3, b4, b5, b6⟩ := h
  have g : ∀ p c, ¬ (p = 34 ∧ (c = 1 ∨ c = 2) ∨ p = 35) → ¬ DN 34 35 p c := fun _ _ h => h
  refine ⟨⟨n1.fr f (g _ _ (by omega)) (g _ _ (by omega)) (fun c => g _ _ (by omega)), n2.fr f (g _ _ (by omega)) (g _ _ (by omega)) (fun c => g _ _ (by omega)), ⟨l3, n3.fr f (g _ _ (by omega)) (g _ _ (by omega)) (fun c => g _ _ (by omega))⟩, n4.fr f (g _ _ (by omega)) (g _ _ (by omega)) (fun c => g _ _ (by omega)), ⟨_, n⟩, n6.fr f (g _ _ (by omega)) (g _ _ (by omega)) (fun c => g _ _ (by omega)), l7, n7.fr f (g _ _ (by omega)) (g _ _ (by omega)) (fun c => g _ _ (by omega))⟩, ?_⟩
  rw [frv f (g 25 0 (by omega)), frv f (g 25 1 (by omega)), frv f (g 25 2 (by omega)), frv f (g 25 3 (by omega)), frv f (g 25 4 (by omega)), frv f (g 25 5 (by omega)), frv f (g 25 6 (by omega)), fiv f (g 25 7 (by omega)), fiv f (g 25 8 (by omega)), fiv f (g 25 9 (by omega)), fiv f (g 25 10 (by omega)), fiv f (g 25 11 (by omega)), fiv f (g 25 12 (by omega))]
  exact ⟨⟨a0, a1, a2, a3, a4, a5, a6⟩, b1, b2, b3, b4, b5, b6⟩
theorem RA.n6 (h : RA m cs r) (n : NumAt m' 36 37 250 l) (f : FrP (DN 36 37) m m') : RA m' cs (rOj r l) := by
  obtain ⟨⟨n1, n2, ⟨l3, n3⟩, n4, ⟨l5, n5⟩, n6, l7, n7⟩, ⟨a0, a1, a2, a3, a4, a5, a6⟩, b1, b2, b3, b4, b5, b6⟩ := h
  have g : ∀ p c, ¬ (p = 36 ∧ (c = 1 ∨ c = 2) ∨ p = 37) → ¬ DN 36 37 p c := fun _ _ h => h
  refine ⟨⟨n1.fr f (g _ _ (by omega)) (g _ _ (by omega)) (fun c => g _ _ (by omega)), n2.fr f (g _ _ (by omega)) (g _ _ (by omega)) (fun c => g _ _ (by omega)), ⟨l3, n3.fr f (g _ _ (by omega)) (g _ _ (by omega)) (fun c => g _ _ (by omega))⟩, n4.fr f (g _ _ (by omega)) (g _ _ (by omega)) (fun c => g _ _ (by omega)), ⟨l5, n5.fr f (g _ _ (by omega)) (g _ _ (by omega)) (fun c => g _ _ (by omega))⟩, n, l7, n7.fr f (g _ _ (by omega)) (g _ _ (by omega)) (fun c => g _ _ (by omega))⟩, ?_⟩
  rw [frv f (g 25 0 (by omega)), frv f (g 25 1 (by omega)), frv f (g 25 2 (by omega)), frv f (g 25 3 (by omega)), frv f (g 25 4 (by omega)), frv f (g 25 5 (by omega)), frv f (g 25 6 (by omega)), fiv f (g 25 7 (by omega)), fiv f (g 25 8 (by omega)), fiv f (g 25 9 (by omega)), fiv f (g 25 10 (by omega)), fiv f (g 25 11 (by omega)), fiv f (g 25 12 (by omega))]
  exact ⟨⟨a0, a1, a2, a3, a4, a5, a6⟩, b1, b2, b3, b4, b5, b6⟩
theorem RA.n7 (h : RA m cs r) (n : NumAt m' 38 39 250 l) (f : FrP (DN 38 39) m m') : RA m' cs r := by
  obtain ⟨⟨n1, n2, ⟨l3, n3⟩, n4, ⟨l5, n5⟩, n6, l7, n7⟩, ⟨a0, a1, a2, a3, a4, a5, a6⟩, b1, b2, b3, b4, b5, b6⟩ := h
  have g : ∀ p c, ¬ (p = 38 ∧ (c = 1 ∨ c = 2) ∨ p = 39) → ¬ DN 38 39 p c := fun _ _ h => h
  refine ⟨⟨n1.fr f (g _ _ (by omega)) (g _ _ (by omega)) (fun c => g _ _ (by omega)), n2.fr f (g _ _ (by omega)) (g _ _ (by omega)) (fun c => g _ _ (by omega)), ⟨l3, n3.fr f (g _ _ (by omega)) (g _ _ (by omega)) (fun c => g _ _ (by omega))⟩, n4.fr f (g _ _ (by omega)) (g _ _ (by omega)) (fun c => g _ _ (by omega)), ⟨l5, n5.fr f (g _ _ (by omega)) (g _ _ (by omega)) (fun c => g _ _ (by omega))⟩, n6.fr f (g _ _ (by omega)) (g _ _ (by omega)) (fun c => g _ _ (by omega)), _, n⟩, ?_⟩
  rw [frv f (g 25 0 (by omega)), frv f (g 25 1 (by omega)), frv f (g 25 2 (by omega)), frv f (g 25 3 (by omega)), frv f (g 25 4 (by omega)), frv f (g 25 5 (by omega)), frv f (g 25 6 (by omega)), fiv f (g 25 7 (by omega)), fiv f (g 25 8 (by omega)), fiv f (g 25 9 (by omega)), fiv f (g 25 10 (by omega)), fiv f (g 25 11 (by omega)), fiv f (g 25 12 (by omega))]
  exact ⟨⟨a0, a1, a2, a3, a4, a5, a6⟩, b1, b2, b3, b4, b5, b6⟩
theorem RA.sat (h : RA m cs r) (e : m' = m.st 25 9 (.int x)) : RA m' cs (rAt r x) := by
  have f : FrP (fun p c => p = 25 ∧ c = 9) m m' := fste e ⟨rfl, rfl⟩
  obtain ⟨⟨n1, n2, ⟨l3, n3⟩, n4, ⟨l5, n5⟩, n6, l7, n7⟩, ⟨a0, a1, a2, a3, a4, a5, a6⟩, b1, b2, b3, b4, b5, b6⟩ := h
  refine ⟨⟨n1.fr f (by omega) (by omega) (fun c => by omega), n2.fr f (by omega) (by omega) (fun c => by omega), ⟨l3, n3.fr f (by omega) (by omega) (fun c => by omega)⟩, n4.fr f (by omega) (by omega) (fun c => by omega), ⟨l5, n5.fr f (by omega) (by omega) (fun c => by omega)⟩, n6.fr f (by omega) (by omega) (fun c => by omega), l7, n7.fr f (by omega) (by omega) (fun c => by omega)⟩, ?_⟩
  rw [frv f (c := 0) (by omega), frv f (c := 1) (by omega), frv f (c := 2) (by omega), frv f (c := 3) (by omega), frv f (c := 4) (by omega), frv f (c := 5) (by omega), frv f (c := 6) (by omega), fiv f (p := 25) (c := 7) (by omega), fiv f (p := 25) (c := 8) (by omega), show m'.iv 25 9 = x by rw [e, si_eq], fiv f (p := 25) (c := 10) (by omega), fiv f (p := 25) (c := 11) (by omega), fiv f (p := 25) (c := 12) (by omega)]
  exact ⟨⟨a0, a1, a2, a3, a4, a5, a6⟩, b1, b2, rfl, b4, b5, b6⟩
theorem dr_at (e : m' = m.st 25 9 v) : FrP DZ m m' := fste e (Or.inl ⟨rfl, by omega⟩)
theorem RA.sfa (h : RA m cs r) (e : m' = m.st 25 10 (.int x)) : RA m' cs (rFa r x) := by
  have f : FrP (fun p c => p = 25 ∧ c = 10) m m' := fste e ⟨rfl, rfl⟩
  obtain ⟨⟨n1, n2, ⟨l3, n3⟩, n4, ⟨l5, n5⟩, n6, l7, n7⟩, ⟨a0, a1, a2, a3, a4, a5, a6⟩, b1, b2, b3, b4, b5, b6⟩ := h
  refine ⟨⟨n1.fr f (by omega) (by omega) (fun c => by omega), n2.fr f (by omega) (by omega) (fun c => by omega), ⟨l3, n3.fr f (by omega) (by omega) (fun c => by omega)⟩, n4.fr f (by omega) (by omega) (fun c => by omega), ⟨l5, n5.fr f (by omega) (by omega) (fun c => by omega)⟩, n6.fr f (by omega) (by omega) (fun c => by omega), l7, n7.fr f (by omega) (by omega) (fun c => by omega)⟩, ?_⟩
  rw [frv f (c := 0) (by omega), frv f (c := 1) (by omega), frv f (c := 2) (by omega), frv f (c := 3) (by omega), frv f (c := 4) (by omega), frv f (c := 5) (by omega), frv f (c := 6) (by omega), fiv f (p := 25) (c := 7) (by omega), fiv f (p := 25) (c := 8) (by omega), fiv f (p := 25) (c := 9) (by omega), show m'.iv 25 10 = x by rw [e, si_eq], fiv f (p := 25) (c := 11) (by omega), fiv f (p := 25) (c := 12) (by omega)]
  exact ⟨⟨a0, a1, a2, a3, a4, a5, a6⟩, b1, b2, b3, rfl, b5, b6⟩
theorem dr_fa (e : m' = m.st 25 10 v) : FrP DZ m m' := fste e (Or.inl ⟨rfl, by omega⟩)
theorem RA.swp (h : RA m cs r) (e : m' = m.st 25 11 (.int x)) : RA m' cs (rWp r x) := by
  have f : FrP (fun p c => p = 25 ∧ c = 11) m m' := fste e ⟨rfl, rfl⟩
  obtain ⟨⟨n1, n2, ⟨l3, n3⟩, n4, ⟨l5, n5⟩, n6, l7, n7⟩, ⟨a0, a1, a2, a3, a4, a5, a6⟩, b1, b2, b3, b4, b5, b6⟩ := h
  refine ⟨⟨n1.fr f (by omega) (by omega) (fun c => by omega), n2.fr f (by omega) (by omega) (fun c => by omega), ⟨l3, n3.fr f (by omega) (by omega) (fun c => by omega)⟩, n4.fr f (by omega) (by omega) (fun c => by omega), ⟨l5, n5.fr f (by omega) (by omega) (fun c => by omega)⟩, n6.fr f (by omega) (by omega) (fun c => by omega), l7, n7.fr f (by omega) (by omega) (fun c => by omega)⟩, ?_⟩
  rw [frv f (c := 0) (by omega), frv f (c := 1) (by omega), frv f (c := 2) (by omega), frv f (c := 3) (by omega), frv f (c := 4) (by omega), frv f (c := 5) (by omega), frv f (c := 6) (by omega), fiv f (p := 25) (c := 7) (by omega), fiv f (p := 25) (c := 8) (by omega), fiv f (p := 25) (c := 9) (by omega), fiv f (p := 25) (c := 10) (by omega), show m'.iv 25 11 = x by rw [e, si_eq], fiv f (p := 25) (c := 12) (by omega)]
  exact ⟨⟨a0, a1, a2, a3, a4, a5, a6⟩, b1, b2, b3, b4, rfl, b6⟩
theorem dr_wp (e : m' = m.st 25 11 v) : FrP DZ m m' := fste e (Or.inl ⟨rfl, by omega⟩)
theorem RA.sps (h : RA m cs r) (e : m' = m.st 25 12 (.int x)) : RA m' cs (rPs r x) := by
  have f : FrP (fun p c => p = 25 ∧ c = 12) m m' := fste e ⟨rfl, rfl⟩
  obtain ⟨⟨n1, n2, ⟨l3, n3⟩, n4, ⟨l5, n5⟩, n6, l7, n7⟩, ⟨a0, a1, a2, a3, a4, a5, a6⟩, b1, b2, b3, b4, b5, b6⟩ := h
  refine ⟨⟨n1.fr f (by omega) (by omega) (fun c => by omega), n2.fr f (by omega) (by omega) (fun c => by omega), ⟨l3, n3.fr f (by omega) (by omega) (fun c => by omega)⟩, n4.fr f (by omega) (by omega) (fun c => by omega), ⟨l5, n5.fr f (by omega) (by omega) (fun c => by omega)⟩, n6.fr f (by omega) (by omega) (fun c => by omega), l7, n7.fr f (by omega) (by omega) (fun c => by omega)⟩, ?_⟩
  rw [frv f (c := 0) (by omega), frv f (c := 1) (by omega), frv f (c := 2) (by omega), frv f (c := 3) (by omega), frv f (c := 4) (by omega), frv f (c := 5) (by omega), frv f (c := 6) (by omega), fiv f (p := 25) (c := 7) (by omega), fiv f (p := 25) (c := 8) (by omega), fiv f (p := 25) (c := 9) (by omega), fiv f (p := 25) (c := 10) (by omega), fiv f (p := 25) (c := 11) (by omega), show m'.iv 25 12 = x by rw [e, si_eq]]
  exact ⟨⟨a0, a1, a2, a3, a4, a5, a6⟩, b1, b2, b3, b4, b5, rfl⟩
theorem dr_ps (e : m' = m.st 25 12 v) : FrP DZ m m' := fste e (Or.inl ⟨rfl, by omega⟩)
theorem RA.sdp (h : RA m cs r) (e : m' = m.st 25 7 (.int x)) (hb : 0 ≤ x.toInt ∧ x.toInt ≤ 250) : RA m' cs (r) := by
  have f : FrP (fun p c => p = 25 ∧ c = 7) m m' := fste e ⟨rfl, rfl⟩
  obtain ⟨⟨n1, n2, ⟨l3, n3⟩, n4, ⟨l5, n5⟩, n6, l7, n7⟩, ⟨a0, a1, a2, a3, a4, a5, a6⟩, b1, b2, b3, b4, b5, b6⟩ := h
  refine ⟨⟨n1.fr f (by omega) (by omega) (fun c => by omega), n2.fr f (by omega) (by omega) (fun c => by omega), ⟨l3, n3.fr f (by omega) (by omega) (fun c => by omega)⟩, n4.fr f (by omega) (by omega) (fun c => by omega), ⟨l5, n5.fr f (by omega) (by omega) (fun c => by omega)⟩, n6.fr f (by omega) (by omega) (fun c => by omega), l7, n7.fr f (by omega) (by omega) (fun c => by omega)⟩, ?_⟩
  rw [frv f (c := 0) (by omega), frv f (c := 1) (by omega), frv f (c := 2) (by omega), frv f (c := 3) (by omega), frv f (c := 4) (by omega), frv f (c := 5) (by omega), frv f (c := 6) (by omega), show m'.iv 25 7 = x by rw [e, si_eq], fiv f (p := 25) (c := 8) (by omega), fiv f (p := 25) (c := 9) (by omega), fiv f (p := 25) (c := 10) (by omega), fiv f (p := 25) (c := 11) (by omega), fiv f (p := 25) (c := 12) (by omega)]
  exact ⟨⟨a0, a1, a2, a3, a4, a5, a6⟩, hb, b2, b3, b4, b5, b6⟩
theorem dr_dp (e : m' = m.st 25 7 v) : FrP DZ m m' := fste e (Or.inl ⟨rfl, by omega⟩)
theorem dz1 (f : FrP (DN 26 27) m m') : FrP DZ m m' := fw f (dr_num (by omega))
theorem dz2 (f : FrP (DN 28 29) m m') : FrP DZ m m' := fw f (dr_num (by omega))
theorem dz3 (f : FrP (DN 30 31) m m') : FrP DZ m m' := fw f (dr_num (by omega))
theorem dz4 (f : FrP (DN 32 33) m m') : FrP DZ m m' := fw f (dr_num (by omega))
theorem dz5 (f : FrP (DN 34 35) m m') : FrP DZ m m' := fw f (dr_num (by omega))
theorem dz6 (f : FrP (DN 36 37) m m') : FrP DZ m m' := fw f (dr_num (by omega))
theorem dz7 (f : FrP (DN 38 39) m m') : FrP DZ m m' := fw f (dr_num (by omega))
theorem sRe_addStep {K : Mm → Prop} (h : RA m cs r) (k : ∀ m', RA m' cs (rAdd r x y) → FrP DZ m m' → K m') : WRe_addStep 25 x y m K :=
  ⟨26, h.2.1.1, sNu_add h.1.1 (fun m1 n1 f1 => by
    have h1 := h.n1 n1 f1
    exact ⟨28, h1.2.1.2.1, sNu_add h1.1.2.1 (fun m2 n2 f2 => k m2 (h1.n2 n2 f2) (ftr (dz1 f1) (dz2 f2)))⟩)⟩
theorem sRe_openUp {K : Mm → Prop} (h : RA m cs r) (k : ∀ m', RA m' cs (rOpen r x) → FrP DZ m m' → K m') : WRe_openUp 25 x m K :=
  ⟨32, h.2.1.2.2.2.1, sNu_add h.1.2.2.2.1 (fun m1 n1 f1 => by
    have h1 := h.n4 n1 f1
    obtain ⟨l3, n3⟩ := h1.1.2.2.1
    obtain ⟨l5, n5⟩ := h1.1.2.2.2.2.1
    exact ⟨34, h1.2.1.2.2.2.2.1, 30, h1.2.1.2.2.1, sNu_size n3 (sNu_add n5 (fun m2 n2 f2 => by
      have h2 := h1.n5 n2 f2
      exact ⟨36, h2.2.1.2.2.2.2.2.1, sNu_add h2.1.2.2.2.2.2.1 (fun m3 n3 f3 => k m3 (h2.n6 n3 f3) (ftr (dz4 f1) (ftr (dz5 f2) (dz6 f3))))⟩))⟩)⟩
theorem sRe_closeDown {K : Mm → Prop} (h : RA m cs r) (k : ∀ m', RA m' cs (rClose r) → FrP DZ m m' → K m') : WRe_closeDown 25 m K :=
  ⟨32, h.2.1.2.2.2.1, sNu_dropLast h.1.2.2.2.1 (fun m1 n1 f1 => by
    have h1 := h.n4 n1 f1
    obtain ⟨l5, n5⟩ := h1.1.2.2.2.2.1
    exact ⟨34, h1.2.1.2.2.2.2.1, sNu_dropLast n5 (fun m2 n2 f2 => by
      have h2 := h1.n5 n2 f2
      exact ⟨36, h2.2.1.2.2.2.2.2.1, sNu_dropLast h2.1.2.2.2.2.2.1 (fun m3 n3 f3 => k m3 (h2.n6 n3 f3) (ftr (dz4 f1) (ftr (dz5 f2) (dz6 f3))))⟩)⟩)⟩
theorem sRe_closeWithPart {K : Mm → Prop} (h : RA m cs r) (k : ∀ m', RA m' cs (rClose r) → FrP DZ m m' → K m') : WRe_closeWithPart 25 m K := by
  obtain ⟨l7, n7⟩ := h.1.2.2.2.2.2.2
  obtain ⟨l5, n5⟩ := h.1.2.2.2.2.1
  exact ⟨38, h.2.1.2.2.2.2.2.2, sNu_size n7 ⟨34, h.2.1.2.2.2.2.1, sNu_last n5 (sNu_put n7 (fun m1 n1 f1 => sRe_closeDown (h.n7 n1 f1) (fun m2 h2 f2 => k m2 h2 (ftr (dz7 f1) f2))))⟩⟩
def rLev (x : Int32) : Int32 := if x.toInt = 0 then 2 else if x.toInt = 1 then 2 else if x.toInt = 2 then 3 else if x.toInt = 3 then 3 else if x.toInt = 4 then 3 else if x.toInt = 5 then 1 else if x.toInt = 6 then 1 else if x.toInt = 7 then 1 else 0
theorem sRe_level {K : Mm → Int32 → Prop} (k : K m (rLev x)) : WRe_level x m K := by
  unfold rLev at k
  refine ⟨fun c => by rw [if_pos c] at k; exact k, fun c => ?_⟩
  rw [if_neg c] at k
  refine ⟨fun c => by rw [if_pos c] at k; exact k, fun c => ?_⟩
  rw [if_neg c] at k
  refine ⟨fun c => by rw [if_pos c] at k; exact k, fun c => ?_⟩
  rw [if_neg c] at k
  refine ⟨fun c => by rw [if_pos c] at k; exact k, fun c => ?_⟩
  rw [if_neg c] at k
  refine ⟨fun c => by rw [if_pos c] at k; exact k, fun c => ?_⟩
  rw [if_neg c] at k
  refine ⟨fun c => by rw [if_pos c] at k; exact k, fun c => ?_⟩
  rw [if_neg c] at k
  refine ⟨fun c => by rw [if_pos c] at k; exact k, fun c => ?_⟩
  rw [if_neg c] at k
  refine ⟨fun c => by rw [if_pos c] at k; exact k, fun c => ?_⟩
  rw [if_neg c] at k
  exact k
def rJoin (x : Int32) : Int32 := if x.toInt = 37 then 4 else if x.toInt = 42 then 2 else if x.toInt = 43 then 0 else if x.toInt = 45 then 1 else if x.toInt = 47 then 3 else if x.toInt = 60 then 5 else if x.toInt = 61 then 6 else if x.toInt = 62 then 7 else -1
theorem sRe_joiningSign {K : Mm → Int32 → Prop} (k : K m (rJoin x)) : WRe_joiningSign x m K := by
  unfold rJoin at k
  refine ⟨fun c => by rw [if_pos c] at k; exact k, fun c => ?_⟩
  rw [if_neg c] at k
  refine ⟨fun c => by rw [if_pos c] at k; exact k, fun c => ?_⟩
  rw [if_neg c] at k
  refine ⟨fun c => by rw [if_pos c] at k; exact k, fun c => ?_⟩
  rw [if_neg c] at k
  refine ⟨fun c => by rw [if_pos c] at k; exact k, fun c => ?_⟩
  rw [if_neg c] at k
  refine ⟨fun c => by rw [if_pos c] at k; exact k, fun c => ?_⟩
  rw [if_neg c] at k
  refine ⟨fun c => by rw [if_pos c] at k; exact k, fun c => ?_⟩
  rw [if_neg c] at k
  refine ⟨fun c => by rw [if_pos c] at k; exact k, fun c => ?_⟩
  rw [if_neg c] at k
  refine ⟨fun c => by rw [if_pos c] at k; exact k, fun c => ?_⟩
  rw [if_neg c] at k
  exact k
def rAw (x : Int32) : Int32 := if x.toInt = 21 then 63 else if x.toInt = 22 then 58 else if x.toInt = 23 then 93 else if x.toInt = 24 then 44 else 41
theorem sRe_awaited {K : Mm → Int32 → Prop} (k : K m (rAw x)) : WRe_awaited x m K := by
  unfold rAw at k
  refine ⟨fun c => by rw [if_pos c] at k; exact k, fun c => ?_⟩
  rw [if_neg c] at k
  refine ⟨fun c => by rw [if_pos c] at k; exact k, fun c => ?_⟩
  rw [if_neg c] at k
  refine ⟨fun c => by rw [if_pos c] at k; exact k, fun c => ?_⟩
  rw [if_neg c] at k
  refine ⟨fun c => by rw [if_pos c] at k; exact k, fun c => ?_⟩
  rw [if_neg c] at k
  exact k
/-- joins what stands open by signs of a level, or of a higher one -/
def rGat (lv : Int32) : Nat → Rd → Rd
  | 0, r => r
  | n + 1, r => if (rLev (llast r.op)).toInt < lv.toInt then r else if r.wp = 0 then rGat lv n (rClose (rAdd r (llast r.op) 0)) else r
theorem sRe_gather {K : Mm → Prop} (h : RA m cs r) (k : ∀ m', RA m' cs (rGat x 250 r) → FrP DZ m m' → K m') : WRe_gather 25 x m K := by
  have e250 : (250 : Int32).toInt = 250 := rfl
  have e1 : (1 : Int32).toInt = 1 := rfl
  have Lp : ∀ (n : Nat) (y : Int32) (m1 : Mm) (r1 : Rd), n ≤ 250 → y.toInt = 250 - (n : Int) → RA m1 cs r1 → (∀ m', RA m' cs (rGat x n r1) → FrP DZ m1 m' → K m') → WRe_gather_L2 25 x K (n + 1) y m1 := by
    intro n
    induction n with
    | zero =>
      intro y m1 r1 hn hy h1 k1
      exact WRe_gather_L2_i ⟨fun c => by omega, fun c => k1 m1 h1 frf⟩
    | succ n ih =>
      intro y m1 r1 hn hy h1 k1
      rw [rGat] at k1
      have hp := h1.2.1
      have hs := h1.2.2.2.2.2.2.1
      refine WRe_gather_L2_i ⟨fun c => ⟨32, hp.2.2.2.1, sNu_last h1.1.2.2.2.1 (sRe_level ⟨fun c2 => ?_, fun c2 _ => ⟨fun c3 => ?_, fun c3 => ?_⟩⟩)⟩, fun c => by omega⟩
      · rw [if_pos c2] at k1
        exact k1 m1 h1 frf
      · rw [if_neg c2, if_pos (hs.symm.trans c3)] at k1
        refine ⟨32, hp.2.2.2.1, sNu_last h1.1.2.2.2.1 (sRe_addStep h1 (fun m2 h2 f2 => sRe_closeDown h2 (fun m3 h3 f3 => ?_)))⟩
        obtain ⟨l7, n7⟩ := h3.1.2.2.2.2.2.2
        refine ⟨38, h3.2.1.2.2.2.2.2.2, sNu_dropLast n7 (fun m4 n4 f4 => ?_)⟩
        have h4 := h3.n7 n4 f4
        obtain ⟨l3, n3⟩ := h4.1.2.2.1
        refine ⟨30, h4.2.1.2.2.1, 38, h4.2.1.2.2.2.2.2.2, sNu_last n4 (sNu_insert n3 (fun m5 l' n5 f5 => ?_))⟩
        have h5 := h4.n3 n5 f5
        refine ⟨30, h5.2.1.2.2.1, sNu_add n5 (fun m6 n6 f6 => ?_)⟩
        refine ih (y + 1) m6 _ (by omega) (by rw [i32_add rfl e1 (by omega)]; omega) (h5.n3 n6 f6) (fun m' h' f' => k1 m' h' (ftr f2 (ftr f3 (ftr (dz7 f4) (ftr (dz3 f5) (ftr (dz3 f6) f'))))))
      · rw [if_neg c2, if_neg (fun e => c3 (hs.trans e))] at k1
        exact k1 m1 h1 frf
  exact ⟨251, Lp 250 0 m r (Nat.le_refl _) rfl h k⟩
def rEnd : Nat → Rd → Rd
  | 0, r => r
  | n + 1, r => if llast r.op = 9 then rEnd n (rClose (rAdd r 9 0)) else r
theorem sRe_endPart {K : Mm → Prop} (h : RA m cs r) (k : ∀ m', RA m' cs (rWp (rEnd 250 (rPs r 0)) 0) → FrP DZ m m' → K m') : WRe_endPart 25 m K := by
  have e250 : (250 : Int32).toInt = 250 := rfl
  have e1 : (1 : Int32).toInt = 1 := rfl
  have Lp : ∀ (n : Nat) (y : Int32) (m1 : Mm) (r1 : Rd), n ≤ 250 → y.toInt = 250 - (n : Int) → RA m1 cs r1 → (∀ m', RA m' cs (rWp (rEnd n r1) 0) → FrP DZ m1 m' → K m') → WRe_endPart_L25 25 K (n + 1) y m1 := by
    intro n
    induction n with
    | zero =>
      intro y m1 r1 hn hy h1 k1
      exact WRe_endPart_L25_i ⟨fun c => by omega, fun c m2 e2 => k1 m2 (h1.swp e2) (dr_wp e2)⟩
    | succ n ih =>
      intro y m1 r1 hn hy h1 k1
      rw [rEnd] at k1
      have hp := h1.2.1
      refine WRe_endPart_L25_i ⟨fun c => ⟨32, hp.2.2.2.1, sNu_last h1.1.2.2.2.1 ⟨fun c2 => ?_, fun c2 m2 e2 => ?_⟩⟩, fun c => by omega⟩
      · rw [if_pos c2] at k1
        refine sRe_addStep h1 (fun m2 h2 f2 => ?_)
        obtain ⟨l3, n3⟩ := h2.1.2.2.1
        refine ⟨30, h2.2.1.2.2.1, sNu_add n3 (fun m3 n3 f3 => sRe_closeWithPart (h2.n3 n3 f3) (fun m4 h4 f4 => ?_))⟩
        exact ih (y + 1) m4 _ (by omega) (by rw [i32_add rfl e1 (by omega)]; omega) h4 (fun m' h' f' => k1 m' h' (ftr f2 (ftr (dz3 f3) (ftr f4 f'))))
      · rw [if_neg c2] at k1
        exact k1 m2 (h1.swp e2) (dr_wp e2)
  intro m1 e1'
  have h1 := h.sps e1'
  obtain ⟨l7, n7⟩ := h1.1.2.2.2.2.2.2
  refine ⟨38, h1.2.1.2.2.2.2.2.2, sNu_size n7 (fun m2 e2 => ?_)⟩
  have l7N := n7.1.2.2
  have h2 := h1.sdp e2 (by
    have hb := h1.2.2.1
    split
    · rw [show (Int32.ofNat l7.length).toInt = (l7.length : Int) from nI_toInt (by omega)]
      omega
    · exact hb)
  exact ⟨251, Lp 250 0 m2 _ (Nat.le_refl _) rfl h2 (fun m' h' f' => k m' h' (ftr (dr_ps e1') (ftr (dr_dp e2) f')))⟩
end RR
