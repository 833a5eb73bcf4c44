/-! what a formula comes to, by what it is told (no machine here) -/
def radd (R : List Nat) (j : Nat) : List Nat := if j ∈ R then R else R ++ [j]
def evl (sl dl : List Int32) (cap : Nat) : Nat → (Nat → Int64) → FS → List Nat → Int64 × List Nat
  | 0, _, f, R => (fout f, R)
  | n + 1, env, f, R => match fgo sl dl cap 250 f with
    | (none, f') => (fout f', R)
    | (some sd, f') => evl sl dl cap n env (fgive cap f' (env sd.2.toInt.toNat)) (radd R sd.2.toInt.toNat)
def f00 : FS := (0, 0, [])
/-- the cell's outcome, and what it asked -/
def evP (P : List Int32 × List Int32 × Nat) (env : Nat → Int64) : Int64 × List Nat := evl P.1 P.2.1 P.2.2 250 env f00 []
/-- a program that asks for letters below k alone, and tracks them -/
def Good (k : Nat) (P : List Int32 × List Int32 × Nat) : Prop := ∀ x : Int32, lat P.1 x ≠ 12 ∧ (lat P.1 x = 11 → 0 ≤ (lat P.2.1 x).toInt ∧ (lat P.2.1 x).toInt < (k : Int))
section PU
variable {sl dl : List Int32} {cap : Nat} {env env' : Nat → Int64} {f : FS} {R : List Nat} {P : List Int32 × List Int32 × Nat} {k : Nat}
theorem radd_sub {j : Nat} : ∀ i, i ∈ R → i ∈ radd R j := fun i h => by
  unfold radd
  split
  · exact h
  · exact List.mem_append_left _ h
theorem radd_self {j : Nat} : j ∈ radd R j := by
  unfold radd
  split
  · assumption
  · exact List.mem_append_right _ List.mem_cons_self
theorem radd_mem {i j : Nat} (h : i ∈ radd R j) : i ∈ R ∨ i = j := by
  unfold radd at h
  split at h
  · exact Or.inl h
  · rcases List.mem_append.mp h with h | h
    · exact Or.inl h
    · exact Or.inr (List.mem_singleton.mp h)
theorem radd_nd {j : Nat} (h : R.Nodup) : (radd R j).Nodup := by
  unfold radd
  split
  · exact h
  · rename_i hn
    refine List.nodup_append.mpr ⟨h, (by simp), fun a ha b hb e => ?_⟩
    have hb := List.mem_singleton.mp hb
    subst hb; subst e
    exact hn ha
theorem evl_sub : ∀ (n : Nat) (f : FS) (R : List Nat), ∀ i, i ∈ R → i ∈ (evl sl dl cap n env f R).2
  | 0, f, R, i, h => h
  | n + 1, f, R, i, h => by
    unfold evl
    split
    · exact h
    · exact evl_sub n _ _ i (radd_sub i h)
theorem evl_congr : ∀ (n : Nat) (f : FS) (R : List Nat), (∀ i, i ∈ (evl sl dl cap n env f R).2 → env i = env' i) → evl sl dl cap n env f R = evl sl dl cap n env' f R
  | 0, f, R, h => rfl
  | n + 1, f, R, h => by
    unfold evl at h ⊢
    split
    · rfl
    · rename_i sd f' e
      rw [e] at h
      have h1 : env sd.2.toInt.toNat = env' sd.2.toInt.toNat := h _ (evl_sub n _ _ _ radd_self)
      rw [← h1]
      exact evl_congr n _ _ h
/-- what it asks for lies below k -/
theorem fgo_good (G : Good k P) : ∀ (n : Nat) (f : FS) (sd : Int32 × Int32), (fgo P.1 P.2.1 P.2.2 n f).1 = some sd → sd.1 = 11 ∧ 0 ≤ sd.2.toInt ∧ sd.2.toInt < (k : Int)
  | 0, f, sd, h => by cases h
  | n + 1, f, sd, h => by
    unfold fgo at h
    split at h
    · split at h
      · rename_i hc
        have h := Option.some.inj h
        subst h
        have g := G f.1
        rcases hc with hc | hc
        · exact ⟨hc, g.2 hc⟩
        · exact absurd hc g.1
      · exact fgo_good G n _ sd h
    · cases h
theorem evl_lt (G : Good k P) : ∀ (n : Nat) (f : FS) (R : List Nat), (∀ i, i ∈ R → i < k) → ∀ i, i ∈ (evl P.1 P.2.1 P.2.2 n env f R).2 → i < k
  | 0, f, R, h, i, hi => h i hi
  | n + 1, f, R, h, i, hi => by
    unfold evl at hi
    split at hi
    · exact h i hi
    · rename_i sd f' e
      have g := fgo_good G 250 f sd (by rw [e])
      refine evl_lt G n _ _ (fun a ha => ?_) i hi
      rcases radd_mem ha with ha | ha
      · exact h a ha
      · omega
theorem evP_lt (G : Good k P) : ∀ i, i ∈ (evP P env).2 → i < k := evl_lt G 250 f00 [] (fun i h => absurd h List.not_mem_nil)
theorem evP_congr (h : ∀ i, i ∈ (evP P env).2 → env i = env' i) : evP P env = evP P env' := evl_congr 250 f00 [] h
end PU
/-! the web as plain numbers -/
abbrev Ws : Type := (Nat → Int32) × (Nat → Nat) × (Nat → Int64) × (Nat → Int32) × (Nat → List Nat) × List Nat
/-- colours, runs, outcomes, busy, reads, queue -/
def Ws.co (w : Ws) : Nat → Int32 := w.1
def Ws.ru (w : Ws) : Nat → Nat := w.2.1
def Ws.ou (w : Ws) : Nat → Int64 := w.2.2.1
def Ws.bu (w : Ws) : Nat → Int32 := w.2.2.2.1
def Ws.rd (w : Ws) : Nat → List Nat := w.2.2.2.2.1
def Ws.qu (w : Ws) : List Nat := w.2.2.2.2.2
abbrev Tp : Type := Nat × Nat × (Nat → Nat) × (Nat → Nat) × (Nat → Int32) × (Nat → List Int32 × List Int32 × Nat)
/-- sources, cells, where each cell lies, where its formula, its kind, its program -/
def Tp.ns (T : Tp) : Nat := T.1
def Tp.n (T : Tp) : Nat := T.2.1
def Tp.A (T : Tp) : Nat → Nat := T.2.2.1
def Tp.F (T : Tp) : Nat → Nat := T.2.2.2.1
def Tp.kd (T : Tp) : Nat → Int32 := T.2.2.2.2.1
def Tp.P (T : Tp) : Nat → List Int32 × List Int32 × Nat := T.2.2.2.2.2
/-- what is always so, also while cells run (they are dirty then) -/
def Inv (T : Tp) (w : Ws) : Prop :=
  (∀ k, k < T.n → w.co k = 0 ∨ w.co k = 1 ∨ w.co k = 2) ∧
  (∀ k, k < T.n → k < T.ns → w.co k = 0 ∧ w.rd k = []) ∧
  (∀ k, k < T.n → T.ns ≤ k → w.co k ≠ 2 → evP (T.P k) w.ou = (w.ou k, w.rd k)) ∧
  (∀ k, k < T.n → w.co k = 0 → ∀ j, j ∈ w.rd k → w.co j = 0) ∧
  (∀ k, k < T.n → (w.rd k).Nodup ∧ ∀ j, j ∈ w.rd k → j < k)
def Gd (T : Tp) : Prop := ∀ k, k < T.n → T.ns ≤ k → Good k (T.P k)
/-- what a cell is, worked out anew from the sources; by how deep it may go -/
def pln (T : Tp) (src : Nat → Int64) : Nat → Nat → Int64
  | 0, _ => 0
  | d + 1, k => if k < T.ns then src k else (evP (T.P k) (pln T src d)).1
section IV
variable {T : Tp} {w w' : Ws} {k : Nat}
theorem pln_st (G : Gd T) {src : Nat → Int64} : ∀ (d d' k : Nat), k < T.n → k < d → k < d' → pln T src d k = pln T src d' k
  | 0, _, _, _, h, _ => absurd h (Nat.not_lt_zero _)
  | _ + 1, 0, _, _, _, h => absurd h (Nat.not_lt_zero _)
  | d + 1, d' + 1, k, hk, h1, h2 => by
    unfold pln
    by_cases hs : k < T.ns
    · rw [if_pos hs, if_pos hs]
    · rw [if_neg hs, if_neg hs]
      refine congrArg Prod.fst (evP_congr (fun i hi => ?_))
      have hik := evP_lt (G k hk (by omega)) i hi
      exact pln_st G d d' i (by omega) (by omega) (by omega)
/-- what is clean is what is worked out anew -/
theorem clean_pl (I : Inv T w) (G : Gd T) : ∀ (d k : Nat), k < T.n → k < d → w.co k = 0 → w.ou k = pln T w.ou d k
  | 0, k, _, h, _ => absurd h (Nat.not_lt_zero _)
  | d + 1, k, hk, h, hc => by
    obtain ⟨i1, i2, i3, i4, i5⟩ := I
    unfold pln
    by_cases hs : k < T.ns
    · rw [if_pos hs]
    · rw [if_neg hs]
      have e := i3 k hk (by omega) (by rw [hc]; decide)
      have e2 : evP (T.P k) w.ou = evP (T.P k) (pln T w.ou d) := evP_congr (fun i hi => by
        rw [e] at hi
        have hik := (i5 k hk).2 i hi
        exact clean_pl ⟨i1, i2, i3, i4, i5⟩ G d i (by omega) (by omega) (i4 k hk hc i hi))
      rw [← e2, e]
end IV
