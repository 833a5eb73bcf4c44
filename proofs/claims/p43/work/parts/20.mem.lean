/-! the class's heap by tags (1, 2: int[], long[]; 3, 4: Cell[], Shelf[]; 10 + c: an object of class c), and what it holds as one function -/
def gTab : List (List (Nat × Nat)) := [
  [(4, 17), (4, 2), (4, 1), (0, 0), (0, 0)],
  [(0, 0), (0, 0), (1, 0), (1, 0), (0, 0), (2, 0), (0, 0), (2, 0), (4, 12), (4, 14)],
  [(4, 14), (4, 14), (4, 14), (4, 14), (0, 0), (2, 0), (0, 0), (1, 0)],
  [(4, 14), (4, 14), (4, 14), (4, 14), (4, 14), (4, 14), (4, 14), (0, 0), (0, 0), (0, 0), (0, 0), (1, 0), (1, 0)],
  [(4, 1), (0, 0), (0, 0)],
  [(4, 17)],
  [(4, 2), (0, 0), (0, 0)],
  [(4, 3), (4, 1), (0, 0), (4, 14), (4, 14), (4, 2), (4, 14), (0, 0), (0, 0)],
  [(4, 17), (4, 17), (1, 0), (4, 15), (4, 10), (4, 13), (4, 14), (4, 4), (4, 1)]]
def gFs (t : Nat) : List (Nat × Nat) := match xnth gTab (t - 10) with
  | some l => l
  | none => []
def gK (t s : Nat) : Nat × Nat := match xnth (gFs t) s with
  | some c => c
  | none => (9, 0)
def gV (ks : List Nat) (c : Nat × Nat) (v : Value) : Prop := match c.1 with
  | 0 => ∃ x : Int32, v = .int x
  | 1 => ∃ x : Int32, v = .int x ∧ (x = 0 ∨ x = 1)
  | 2 => ∃ x : Int64, v = .long x
  | 4 => v = .null ∨ ∃ p, v = .ref (p + 1) ∧ xnth ks p = some c.2
  | _ => False
def gE (ks : List Nat) (t : Nat) (e : xE) : Prop := match Nat.ble 10 t with
  | true => ∃ fs : List Value, e = .inr (t - 10, fs) ∧ fs.length = (gFs t).length ∧ ∀ s, s < (gFs t).length → ∃ v, xnth fs s = some v ∧ gV ks (gK t s) v
  | false => match t with
    | 1 => ∃ (n : Nat) (f : Nat → Int32), e = .inl (0, n, .inl f)
    | 2 => ∃ (n : Nat) (f : Nat → Int64), e = .inl (1, n, .inr (.inl f))
    | 3 => ∃ (n : Nat) (f : Nat → Option Nat), e = .inl (3, n, .inr (.inr (.inr (.inr f)))) ∧ ∀ i, i < n → f i = none ∨ ∃ p, f i = some (p + 1) ∧ xnth ks p = some 11
    | 4 => ∃ (n : Nat) (f : Nat → Option Nat), e = .inl (4, n, .inr (.inr (.inr (.inr f)))) ∧ ∀ i, i < n → f i = none ∨ ∃ p, f i = some (p + 1) ∧ xnth ks p = some 16
    | _ => False
def TT (ks : List Nat) (h : List xE) : Prop := h.length = ks.length ∧ ∀ q t, xnth ks q = some t → ∃ e, xnth h q = some e ∧ gE ks t e
def gok (t a b c : Nat) : Bool := Nat.ble 10 t && (Nat.beq (t - 10) a && (Nat.blt b (gFs t).length && Nat.beq (gK t b).1 c))
/-- what a heap holds: at place q, in slot b; how long the array there is; how many places there are -/
def Mm : Type := (Nat → Nat → Value) × (Nat → Nat) × Nat
def vI (v : Value) : Int32 := match v with
  | .int x => x
  | _ => 0
def vL (v : Value) : Int64 := match v with
  | .long x => x
  | _ => 0
def vR (v : Value) : Nat := match v with
  | .ref x => x
  | _ => 0
def vr : Nat → Value
  | 0 => .null
  | n + 1 => .ref (n + 1)
def fV (o : Option Value) : Value := match o with
  | some v => v
  | none => .null
def eV (e : xE) (b : Nat) : Value := match e with
  | .inr (_, fs) => fV (xnth fs b)
  | .inl (_, _, .inl f) => .int (f b)
  | .inl (_, _, .inr (.inl f)) => .long (f b)
  | .inl (_, _, .inr (.inr (.inr (.inr f)))) => va_rf (f b)
  | _ => .null
def eN (e : xE) : Nat := match e with
  | .inl (_, n, _) => n
  | .inr _ => 0
def oV (o : Option xE) (b : Nat) : Value := match o with
  | some e => eV e b
  | none => .null
def oN (o : Option xE) : Nat := match o with
  | some e => eN e
  | none => 0
def mm (h : List xE) : Mm := (fun q b => oV (xnth h q) b, fun q => oN (xnth h q), h.length)
def Mm.vv (m : Mm) (q b : Nat) : Value := m.1 q b
def Mm.iv (m : Mm) (q b : Nat) : Int32 := vI (m.1 q b)
def Mm.lg (m : Mm) (q b : Nat) : Int64 := vL (m.1 q b)
def Mm.rv (m : Mm) (q b : Nat) : Nat := vR (m.1 q b)
def Mm.ln (m : Mm) (q : Nat) : Nat := m.2.1 q
def Mm.nx (m : Mm) : Nat := m.2.2
def Mm.st (m : Mm) (q b : Nat) (v : Value) : Mm := (fun p c => if p = q ∧ c = b then v else m.1 p c, m.2.1, m.2.2)
def Mm.nw (m : Mm) (f : Nat → Value) (k : Nat) : Mm := (fun p c => if p = m.2.2 then f c else m.1 p c, fun p => if p = m.2.2 then k else m.2.1 p, m.2.2 + 1)
theorem mx_set {h : List xE} {q : Nat} {e e' : xE} {b : Nat} {v : Value} (ho : xnth h q = some e) (h1 : eV e' b = v) (h2 : ∀ c, c ≠ b → eV e' c = eV e c) (h3 : eN e' = eN e) : mm (h.set q e') = (mm h).st q b v := by
  have hq := xnth_lt ho
  refine Prod.ext (funext fun p => funext fun c => ?_) (Prod.ext (funext fun p => ?_) ?_)
  · show oV (xnth (h.set q e') p) c = if p = q ∧ c = b then v else oV (xnth h p) c
    by_cases hp : p = q
    · subst hp
      rw [xnth_set hq, ho]
      by_cases hc : c = b
      · subst hc
        rw [if_pos ⟨rfl, rfl⟩]
        exact h1
      · rw [if_neg (fun e => hc e.2)]
        exact h2 c hc
    · rw [xnth_set_ne (fun e => hp e.symm), if_neg (fun e => hp e.1)]
  · show oN (xnth (h.set q e') p) = oN (xnth h p)
    by_cases hp : p = q
    · subst hp
      rw [xnth_set hq, ho]
      exact h3
    · rw [xnth_set_ne (fun e => hp e.symm)]
  · show (h.set q e').length = h.length
    rw [List.length_set]
theorem mx_app (h : List xE) (e : xE) : mm (h ++ [e]) = (mm h).nw (eV e) (eN e) := by
  have k : ∀ p, xnth (h ++ [e]) p = if p = h.length then some e else xnth h p := by
    intro p
    rw [xnth_eq, xnth_eq]
    by_cases hp : p = h.length
    · subst hp
      rw [if_pos rfl, List.getElem?_append_right (Nat.le_refl _), Nat.sub_self]
      rfl
    · rw [if_neg hp]
      by_cases hl : p < h.length
      · rw [List.getElem?_append_left hl]
      · rw [List.getElem?_eq_none (by rw [List.length_append]; show h.length + 1 ≤ p; omega), List.getElem?_eq_none (by omega)]
  refine Prod.ext (funext fun p => funext fun c => ?_) (Prod.ext (funext fun p => ?_) ?_)
  · show oV (xnth (h ++ [e]) p) c = if p = h.length then eV e c else oV (xnth h p) c
    rw [k]
    by_cases hp : p = h.length
    · rw [if_pos hp, if_pos hp]; rfl
    · rw [if_neg hp, if_neg hp]
  · show oN (xnth (h ++ [e]) p) = if p = h.length then eN e else oN (xnth h p)
    rw [k]
    by_cases hp : p = h.length
    · rw [if_pos hp, if_pos hp]; rfl
    · rw [if_neg hp, if_neg hp]
  · show (h ++ [e]).length = h.length + 1
    rw [List.length_append]
    rfl
section TTs
variable {ks : List Nat} {h : List xE} {q t : Nat}
theorem TT.set {e : xE} (hT : TT ks h) (ho : xnth ks q = some t) (he : gE ks t e) : TT ks (h.set q e) := by
  refine ⟨by rw [List.length_set]; exact hT.1, fun p u hp => ?_⟩
  by_cases hq : q = p
  · subst hq
    rw [ho] at hp
    obtain rfl : t = u := by injection hp
    exact ⟨e, xnth_set (by rw [hT.1]; exact xnth_lt ho), he⟩
  · rw [xnth_set_ne hq]
    exact hT.2 p u hp
theorem TT.obj (hT : TT ks h) (ho : xnth ks q = some t) (h9 : Nat.ble 10 t = true) : ∃ fs : List Value, xnth h q = some (.inr (t - 10, fs)) ∧ fs.length = (gFs t).length ∧ ∀ s, s < (gFs t).length → ∃ v, xnth fs s = some v ∧ gV ks (gK t s) v := by
  obtain ⟨e, h1, h2⟩ := hT.2 q t ho
  unfold gE at h2
  rw [h9] at h2
  obtain ⟨fs, rfl, h3, h4⟩ := h2
  exact ⟨fs, h1, h3, h4⟩
theorem TT.ia (hT : TT ks h) (ho : xnth ks q = some 1) : ∃ (n : Nat) (f : Nat → Int32), xnth h q = some (.inl (0, n, .inl f)) := by
  obtain ⟨e, h1, n, f, rfl⟩ := hT.2 q _ ho
  exact ⟨n, f, h1⟩
theorem TT.la (hT : TT ks h) (ho : xnth ks q = some 2) : ∃ (n : Nat) (f : Nat → Int64), xnth h q = some (.inl (1, n, .inr (.inl f))) := by
  obtain ⟨e, h1, n, f, rfl⟩ := hT.2 q _ ho
  exact ⟨n, f, h1⟩
theorem TT.ca (hT : TT ks h) (ho : xnth ks q = some 3) : ∃ (n : Nat) (f : Nat → Option Nat), xnth h q = some (.inl (3, n, .inr (.inr (.inr (.inr f))))) ∧ ∀ i, i < n → f i = none ∨ ∃ p, f i = some (p + 1) ∧ xnth ks p = some 11 := by
  obtain ⟨e, h1, n, f, rfl, h2⟩ := hT.2 q _ ho
  exact ⟨n, f, h1, h2⟩
end TTs
def KG (a b : List Nat) : Prop := ∃ l : List Nat, b = a ++ l
theorem KG.rf {a : List Nat} : KG a a := ⟨[], (List.append_nil a).symm⟩
theorem KG.tr {a b c : List Nat} (h1 : KG a b) (h2 : KG b c) : KG a c := by
  obtain ⟨l1, rfl⟩ := h1
  obtain ⟨l2, rfl⟩ := h2
  exact ⟨l1 ++ l2, List.append_assoc _ _ _⟩
theorem xnth_ap {α : Type} {a l : List α} {q : Nat} {t : α} (h : xnth a q = some t) : xnth (a ++ l) q = some t := by
  rw [xnth_eq] at h ⊢
  rw [List.getElem?_append_left (List.getElem?_eq_some_iff.mp h).1]
  exact h
theorem KG.up {a b : List Nat} {q t : Nat} (h1 : KG a b) (h : xnth a q = some t) : xnth b q = some t := by
  obtain ⟨l1, rfl⟩ := h1
  exact xnth_ap h
theorem gV.up {ks ks' : List Nat} {c : Nat × Nat} {v : Value} (kg : KG ks ks') (h : gV ks c v) : gV ks' c v := by
  obtain ⟨c1, c2⟩ := c
  unfold gV at h ⊢
  split at h <;> first | exact h | skip
  rcases h with h | ⟨p, e, o⟩
  · exact Or.inl h
  · exact Or.inr ⟨p, e, kg.up o⟩
theorem gE.up {ks ks' : List Nat} {t : Nat} {e : xE} (kg : KG ks ks') (h : gE ks t e) : gE ks' t e := by
  unfold gE at h ⊢
  split at h
  · obtain ⟨fs, e1, e2, e3⟩ := h
    refine ⟨fs, e1, e2, fun s hs => ?_⟩
    obtain ⟨v, v1, v2⟩ := e3 s hs
    exact ⟨v, v1, v2.up kg⟩
  · split at h
    · exact h
    · exact h
    · obtain ⟨n, f, e1, e2⟩ := h
      refine ⟨n, f, e1, fun i hi => ?_⟩
      rcases e2 i hi with e3 | ⟨p, e3, e4⟩
      · exact Or.inl e3
      · exact Or.inr ⟨p, e3, kg.up e4⟩
    · obtain ⟨n, f, e1, e2⟩ := h
      refine ⟨n, f, e1, fun i hi => ?_⟩
      rcases e2 i hi with e3 | ⟨p, e3, e4⟩
      · exact Or.inl e3
      · exact Or.inr ⟨p, e3, kg.up e4⟩
    · exact h
theorem TT.app {ks : List Nat} {h : List xE} {t : Nat} {e : xE} (hT : TT ks h) (he : gE (ks ++ [t]) t e) : TT (ks ++ [t]) (h ++ [e]) := by
  refine ⟨by rw [List.length_append, List.length_append, hT.1]; rfl, fun q u hq => ?_⟩
  by_cases hk : q < ks.length
  · have ho : xnth ks q = some u := by
      rw [xnth_eq, List.getElem?_append_left hk] at hq
      rw [xnth_eq]
      exact hq
    obtain ⟨e0, e1, e2⟩ := hT.2 q u ho
    exact ⟨e0, xnth_ap e1, e2.up ⟨_, rfl⟩⟩
  · have hq2 : q = ks.length := by
      have := xnth_lt hq
      rw [List.length_append] at this
      have : q < ks.length + 1 := this
      omega
    subst hq2
    rw [xnth_eq, List.getElem?_append_right (Nat.le_refl _), Nat.sub_self] at hq
    obtain rfl : t = u := by injection hq
    refine ⟨e, ?_, he⟩
    rw [xnth_eq, List.getElem?_append_right (by rw [hT.1]; exact Nat.le_refl _), hT.1, Nat.sub_self]
    rfl
/-- the fields of a new object have their types -/
def gdf (a n : Nat) : Bool := Nat.beq (xDf a n).length (gFs (a + 10)).length && (List.range (gFs (a + 10)).length).all (fun s => match xnth (xDf a n) s with
  | some v => (match (gK (a + 10) s).1 with
    | 0 => (match v with | .int _ => true | _ => false)
    | 1 => (match v with | .int x => decide (x = 0) | _ => false)
    | 2 => (match v with | .long _ => true | _ => false)
    | 4 => (match v with | .null => true | _ => false)
    | _ => false)
  | none => false)
theorem gdf_ok {ks : List Nat} {a n : Nat} (hd : gdf a n = true) : gE ks (a + 10) (.inr (a, xDf a n)) := by
  unfold gdf at hd
  rw [Bool.and_eq_true] at hd
  obtain ⟨d1, d2⟩ := hd
  have h9 : Nat.ble 10 (a + 10) = true := Nat.ble_eq_true_of_le (by omega)
  unfold gE
  rw [h9]
  refine ⟨xDf a n, by rw [Nat.add_sub_cancel], Nat.eq_of_beq_eq_true d1, fun s hs => ?_⟩
  have h := List.all_eq_true.mp d2 s (List.mem_range.mpr hs)
  split at h
  · rename_i v hv
    refine ⟨v, hv, ?_⟩
    unfold gV
    split at h
    · split at h
      · exact ⟨_, rfl⟩
      · cases h
    · split at h
      · exact ⟨_, rfl, Or.inl (of_decide_eq_true h)⟩
      · cases h
    · split at h
      · exact ⟨_, rfl⟩
      · cases h
    · split at h
      · exact Or.inl rfl
      · cases h
    · cases h
  · cases h
def i32_ushr (x y : Int32) : Int32 := (x.toUInt32 >>> (y.toUInt32 &&& Int32.toUInt32 31)).toInt32
theorem i32_dec (x : Int32) : x + Int32.ofInt (-1) = x - 1 := by
  rw [Int32.sub_eq_add_neg]
  rfl
/-! what a method leaves -/
abbrev PV (ks : List Nat) (K : Mm → Prop) : yQ := fun h' r => r = none ∧ TT ks h' ∧ K (mm h')
abbrev PI (ks : List Nat) (K : Mm → Int32 → Prop) : yQ := fun h' r => ∃ x : Int32, r = some (.int x) ∧ TT ks h' ∧ K (mm h') x
abbrev PZ (ks : List Nat) (K : Mm → Int32 → Prop) : yQ := fun h' r => ∃ x : Int32, r = some (.int x) ∧ TT ks h' ∧ (x = 0 ∨ x = 1) ∧ K (mm h') x
abbrev PL (ks : List Nat) (K : Mm → Int64 → Prop) : yQ := fun h' r => ∃ x : Int64, r = some (.long x) ∧ TT ks h' ∧ K (mm h') x
abbrev PR (ks : List Nat) (t : Nat) (K : Mm → Nat → Prop) : yQ := fun h' r => ∃ v : Nat, r = some (vr v) ∧ (v = 0 ∨ ∃ p, v = p + 1 ∧ xnth ks p = some t) ∧ TT ks h' ∧ K (mm h') v
abbrev PVa (ks : List Nat) (K : Mm → Prop) : yQ := fun h' r => r = none ∧ ∃ ks', KG ks ks' ∧ TT ks' h' ∧ K (mm h')
abbrev PIa (ks : List Nat) (K : Mm → Int32 → Prop) : yQ := fun h' r => ∃ x : Int32, r = some (.int x) ∧ ∃ ks', KG ks ks' ∧ TT ks' h' ∧ K (mm h') x
abbrev PRa (ks : List Nat) (t : Nat) (K : Mm → Nat → Prop) : yQ := fun h' r => ∃ v : Nat, r = some (vr v) ∧ ∃ ks', KG ks ks' ∧ (v = 0 ∨ ∃ p, v = p + 1 ∧ xnth ks' p = some t) ∧ TT ks' h' ∧ K (mm h') v
def nn (A : Prop) (B : Nat → Prop) : Nat → Prop := fun r => (r = 0 → A) ∧ ∀ p, r = p + 1 → B p
def nz (f : Mm → Nat → Prop) : Mm → Nat → Prop := fun m r => ∃ p, r = p + 1 ∧ f m p
def cdec (c : ClassFile.Cond) (x : Int32) : Bool := match c with
  | .eq => decide (x = 0)
  | .ne => !decide (x = 0)
  | .lt => decide (x < 0)
  | .ge => decide (0 ≤ x)
  | .gt => decide (0 < x)
  | .le => decide (x ≤ 0)
def cdec2 (c : ClassFile.Cond) (x y : Int32) : Bool := match c with
  | .eq => decide (x = y)
  | .ne => !decide (x = y)
  | .lt => decide (x < y)
  | .ge => decide (y ≤ x)
  | .gt => decide (y < x)
  | .le => decide (x ≤ y)
section YZ
variable {L : Nat} {iv : List (Int × Int)} {M : xM} {F G pc pc' len a b : Nat} {ins : Instr} {lv lv' : xLv} {st st' : List Value} {h h' : List xE} {Q : yQ} {r : List Value} {x y : Int32} {ks : List Nat} {q t t0 : Nat}
theorem yT.zk {n : Int} {z : Int32} (hf : xfet (xMt M) pc = some (.iconst n, len, a, b)) (hp : pc + len = pc') (hz : Int32.ofInt n = z) (k : yT L iv M F G pc' lv (.int z :: st) h Q) : yT L iv M F G pc lv st h Q := by
  subst hp; subst hz
  exact yT.p hf rfl (fun _ _ _ _ => rfl) k
theorem yT.zb {n : Int} {z : Int32} (hf : xfet (xMt M) pc = some (.bipush n, len, a, b)) (hp : pc + len = pc') (hz : (Int8.ofInt n).toInt32 = z) (k : yT L iv M F G pc' lv (.int z :: st) h Q) : yT L iv M F G pc lv st h Q := by
  subst hp; subst hz
  exact yT.p hf rfl (fun _ _ _ _ => rfl) k
theorem yT.zs {n : Int} {z : Int32} (hf : xfet (xMt M) pc = some (.sipush n, len, a, b)) (hp : pc + len = pc') (hz : (Int16.ofInt n).toInt32 = z) (k : yT L iv M F G pc' lv (.int z :: st) h Q) : yT L iv M F G pc lv st h Q := by
  subst hp; subst hz
  exact yT.p hf rfl (fun _ _ _ _ => rfl) k
theorem yT.zl {n : Fin 2} {z : Int64} (hf : xfet (xMt M) pc = some (.lconst n, len, a, b)) (hp : pc + len = pc') (hz : Int64.ofNat (n : Nat) = z) (k : yT L iv M F G pc' lv (.long z :: st) h Q) : yT L iv M F G pc lv st h Q := by
  subst hp; subst hz
  exact yT.p hf rfl (fun _ _ _ _ => rfl) k
theorem yT.zw {i : Nat} {z : Int64} {w : Nat × Nat × Int64 × Nat} (hf : xfet (xMt M) pc = some (.ldc2_w i, len, a, b)) (hp : pc + len = pc') (hw : xnth xI64 a = some w) (hz : w.2.2.1 = z) (k : yT L iv M F G pc' lv (.long z :: st) h Q) : yT L iv M F G pc lv st h Q := by
  subst hp; subst hz
  refine yT.p hf rfl (fun _ _ _ _ => ?_) k
  show (match xnth xI64 a with
    | some q => some ((pc + len, lv, Value.long q.2.2.1 :: st, h, _, _), _)
    | none => none) = _
  rw [hw]
theorem yT.zd {i : Nat} {z : Int32} {w : Nat × Nat × Int32 × Nat} (hf : xfet (xMt M) pc = some (.ldc i, len, a, b)) (hp : pc + len = pc') (hw : xnth xI32 a = some w) (hz : w.2.2.1 = z) (k : yT L iv M F G pc' lv (.int z :: st) h Q) : yT L iv M F G pc lv st h Q := by
  subst hp; subst hz
  refine yT.p hf rfl (fun _ _ _ _ => ?_) k
  show (match xnth xI32 a with
    | some q => some ((pc + len, lv, Value.int q.2.2.1 :: st, h, _, _), _)
    | none => none) = _
  rw [hw]
theorem yT.zush (hf : xfet (xMt M) pc = some (.iushr, len, a, b)) (hp : pc + len = pc') (k : yT L iv M F G pc' lv (.int (i32_ushr x y) :: r) h Q) : yT L iv M F G pc lv (.int y :: .int x :: r) h Q := by
  subst hp
  exact yT.p hf rfl (fun _ _ _ _ => rfl) k
theorem yT.zmx {i : Nat} (hf : xfet (xMt M) pc = some (.invokestatic i, len, a, 7)) (hp : pc + 3 = pc') (hF : 1 ≤ F) (hr : Nat.ble (xcat r) 8 = true) (k : yT L iv M F G pc' lv (.int (if x < y then y else x) :: r) h Q) : yT L iv M F G pc lv (.int y :: .int x :: r) h Q := by
  subst hp
  intro sl fr
  obtain ⟨S, rr, z, k1, hf', hr', he, k2, k3, k4⟩ := k sl (Nat.max fr 1)
  refine ⟨S, rr, z, yTo.cons (d1 := 0) (fun n d m cs _ _ => xrun_S hf rfl ?_) k1, hf', hr', he, by omega, Nat.le_trans k3 (Nat.max_le.mpr ⟨Nat.max_le.mpr ⟨Nat.le_max_left _ _, Nat.le_trans hF (Nat.le_max_right _ _)⟩, Nat.le_max_right _ _⟩), k4⟩
  show (bif Nat.ble (xcat r) 8 then some ((pc + 3, lv, Value.int (if x < y then y else x) :: r, h, sl, Nat.max fr 1), (([], cs) : xO)) else none) = _
  rw [hr]
  rfl
/-! tests -/
section TS
variable {off : Int}
theorem yT.zy1 {c : ClassFile.Cond} {t : Nat} (hf : xfet (xMt M) pc = some (.ifCond c off, len, a, b)) (hj : xjmp pc off = some t) (hp : pc + len = pc') (hx : cdec c x = true) (k : yT L iv M F G t lv r h Q) : yT L iv M F G pc lv (.int x :: r) h Q :=
  yT.if1 (P := cdec c x = true) hf hj hp ⟨cdec c x, Iff.rfl, fun _ _ => by cases c <;> rfl⟩ (fun _ => k) (fun e => absurd hx e)
theorem yT.zn1 {c : ClassFile.Cond} {t : Nat} (hf : xfet (xMt M) pc = some (.ifCond c off, len, a, b)) (hj : xjmp pc off = some t) (hp : pc + len = pc') (hx : cdec c x = false) (k : yT L iv M F G pc' lv r h Q) : yT L iv M F G pc lv (.int x :: r) h Q :=
  yT.if1 (P := cdec c x = true) hf hj hp ⟨cdec c x, Iff.rfl, fun _ _ => by cases c <;> rfl⟩ (fun e => by rw [hx] at e; cases e) (fun _ => k)
theorem yT.zy2 {c : ClassFile.Cond} {t : Nat} (hf : xfet (xMt M) pc = some (.if_icmp c off, len, a, b)) (hj : xjmp pc off = some t) (hp : pc + len = pc') (hx : cdec2 c x y = true) (k : yT L iv M F G t lv r h Q) : yT L iv M F G pc lv (.int y :: .int x :: r) h Q :=
  yT.if2 (P := cdec2 c x y = true) hf hj hp ⟨cdec2 c x y, Iff.rfl, fun _ _ => by cases c <;> rfl⟩ (fun _ => k) (fun e => absurd hx e)
theorem yT.zn2 {c : ClassFile.Cond} {t : Nat} (hf : xfet (xMt M) pc = some (.if_icmp c off, len, a, b)) (hj : xjmp pc off = some t) (hp : pc + len = pc') (hx : cdec2 c x y = false) (k : yT L iv M F G pc' lv r h Q) : yT L iv M F G pc lv (.int y :: .int x :: r) h Q :=
  yT.if2 (P := cdec2 c x y = true) hf hj hp ⟨cdec2 c x y, Iff.rfl, fun _ _ => by cases c <;> rfl⟩ (fun e => by rw [hx] at e; cases e) (fun _ => k)
theorem yT.zlt1 {t : Nat} (hf : xfet (xMt M) pc = some (.ifCond .lt off, len, a, b)) (hj : xjmp pc off = some t) (hp : pc + len = pc') (k1 : x.toInt < 0 → yT L iv M F G t lv r h Q) (k2 : ¬ x.toInt < 0 → yT L iv M F G pc' lv r h Q) : yT L iv M F G pc lv (.int x :: r) h Q := yT.if1 hf hj hp (c1_lt rfl) k1 k2
theorem yT.zge1 {t : Nat} (hf : xfet (xMt M) pc = some (.ifCond .ge off, len, a, b)) (hj : xjmp pc off = some t) (hp : pc + len = pc') (k1 : x.toInt < 0 → yT L iv M F G pc' lv r h Q) (k2 : ¬ x.toInt < 0 → yT L iv M F G t lv r h Q) : yT L iv M F G pc lv (.int x :: r) h Q := yT.if1 hf hj hp (c1_ge rfl) (fun c => k2 (by omega)) (fun c => k1 (by omega))
theorem yT.zgt1 {t : Nat} (hf : xfet (xMt M) pc = some (.ifCond .gt off, len, a, b)) (hj : xjmp pc off = some t) (hp : pc + len = pc') (k1 : 0 < x.toInt → yT L iv M F G t lv r h Q) (k2 : ¬ 0 < x.toInt → yT L iv M F G pc' lv r h Q) : yT L iv M F G pc lv (.int x :: r) h Q := yT.if1 hf hj hp (c1_gt rfl) k1 k2
theorem yT.zle1 {t : Nat} (hf : xfet (xMt M) pc = some (.ifCond .le off, len, a, b)) (hj : xjmp pc off = some t) (hp : pc + len = pc') (k1 : 0 < x.toInt → yT L iv M F G pc' lv r h Q) (k2 : ¬ 0 < x.toInt → yT L iv M F G t lv r h Q) : yT L iv M F G pc lv (.int x :: r) h Q := yT.if1 hf hj hp (c1_le rfl) (fun c => k2 (by omega)) (fun c => k1 (by omega))
theorem yT.zeq1 {t : Nat} (hf : xfet (xMt M) pc = some (.ifCond .eq off, len, a, b)) (hj : xjmp pc off = some t) (hp : pc + len = pc') (k1 : x = 0 → yT L iv M F G t lv r h Q) (k2 : ¬ x = 0 → yT L iv M F G pc' lv r h Q) : yT L iv M F G pc lv (.int x :: r) h Q := yT.if1 hf hj hp ⟨decide (x = 0), decide_eq_true_iff, fun _ _ => rfl⟩ k1 k2
theorem yT.zne1 {t : Nat} (hf : xfet (xMt M) pc = some (.ifCond .ne off, len, a, b)) (hj : xjmp pc off = some t) (hp : pc + len = pc') (k1 : x = 0 → yT L iv M F G pc' lv r h Q) (k2 : ¬ x = 0 → yT L iv M F G t lv r h Q) : yT L iv M F G pc lv (.int x :: r) h Q := yT.if1 (P := ¬ x = 0) hf hj hp ⟨!decide (x = 0), by rw [Bool.not_eq_true', decide_eq_false_iff_not], fun _ _ => rfl⟩ k2 (fun e => k1 (Decidable.not_not.mp e))
theorem yT.zlt2 {t : Nat} (hf : xfet (xMt M) pc = some (.if_icmp .lt off, len, a, b)) (hj : xjmp pc off = some t) (hp : pc + len = pc') (k1 : x.toInt < y.toInt → yT L iv M F G t lv r h Q) (k2 : ¬ x.toInt < y.toInt → yT L iv M F G pc' lv r h Q) : yT L iv M F G pc lv (.int y :: .int x :: r) h Q := yT.if2 hf hj hp (c2_lt rfl rfl) k1 k2
theorem yT.zge2 {t : Nat} (hf : xfet (xMt M) pc = some (.if_icmp .ge off, len, a, b)) (hj : xjmp pc off = some t) (hp : pc + len = pc') (k1 : x.toInt < y.toInt → yT L iv M F G pc' lv r h Q) (k2 : ¬ x.toInt < y.toInt → yT L iv M F G t lv r h Q) : yT L iv M F G pc lv (.int y :: .int x :: r) h Q := yT.if2 hf hj hp (c2_ge rfl rfl) (fun c => k2 (by omega)) (fun c => k1 (by omega))
theorem yT.zgt2 {t : Nat} (hf : xfet (xMt M) pc = some (.if_icmp .gt off, len, a, b)) (hj : xjmp pc off = some t) (hp : pc + len = pc') (k1 : y.toInt < x.toInt → yT L iv M F G t lv r h Q) (k2 : ¬ y.toInt < x.toInt → yT L iv M F G pc' lv r h Q) : yT L iv M F G pc lv (.int y :: .int x :: r) h Q := yT.if2 hf hj hp (c2_gt rfl rfl) k1 k2
theorem yT.zle2 {t : Nat} (hf : xfet (xMt M) pc = some (.if_icmp .le off, len, a, b)) (hj : xjmp pc off = some t) (hp : pc + len = pc') (k1 : y.toInt < x.toInt → yT L iv M F G pc' lv r h Q) (k2 : ¬ y.toInt < x.toInt → yT L iv M F G t lv r h Q) : yT L iv M F G pc lv (.int y :: .int x :: r) h Q := yT.if2 hf hj hp (c2_le rfl rfl) (fun c => k2 (by omega)) (fun c => k1 (by omega))
theorem yT.zeq2 {t : Nat} (hf : xfet (xMt M) pc = some (.if_icmp .eq off, len, a, b)) (hj : xjmp pc off = some t) (hp : pc + len = pc') (k1 : x = y → yT L iv M F G t lv r h Q) (k2 : ¬ x = y → yT L iv M F G pc' lv r h Q) : yT L iv M F G pc lv (.int y :: .int x :: r) h Q := yT.if2 hf hj hp ⟨decide (x = y), decide_eq_true_iff, fun _ _ => rfl⟩ k1 k2
theorem yT.zne2 {t : Nat} (hf : xfet (xMt M) pc = some (.if_icmp .ne off, len, a, b)) (hj : xjmp pc off = some t) (hp : pc + len = pc') (k1 : x = y → yT L iv M F G pc' lv r h Q) (k2 : ¬ x = y → yT L iv M F G t lv r h Q) : yT L iv M F G pc lv (.int y :: .int x :: r) h Q := yT.if2 (P := ¬ x = y) hf hj hp ⟨!decide (x = y), by rw [Bool.not_eq_true', decide_eq_false_iff_not], fun _ _ => rfl⟩ k2 (fun e => k1 (Decidable.not_not.mp e))
end TS
/-! fields -/
theorem gok_all {t a b c : Nat} (hg : gok t a b c = true) : Nat.ble 10 t = true ∧ t - 10 = a ∧ b < (gFs t).length ∧ (gK t b).1 = c := by
  unfold gok at hg
  rw [Bool.and_eq_true, Bool.and_eq_true, Bool.and_eq_true] at hg
  exact ⟨hg.1, Nat.eq_of_beq_eq_true hg.2.1, Nat.le_of_ble_eq_true hg.2.2.1, Nat.eq_of_beq_eq_true hg.2.2.2⟩
theorem yT.gX {i c : Nat} (hf : xfet (xMt M) pc = some (.getfield i, len, a, b)) (hp : pc + len = pc') (hT : TT ks h) (ho : xnth ks q = some t) (hg : gok t a b c = true) (k : gV ks (gK t b) ((mm h).vv q b) → yT L iv M F G pc' lv ((mm h).vv q b :: r) h Q) : yT L iv M F G pc lv (.ref (q + 1) :: r) h Q := by
  obtain ⟨g1, rfl, g3, g4⟩ := gok_all hg
  obtain ⟨fs, h1, h2, h3⟩ := hT.obj ho g1
  obtain ⟨v, e1, e2⟩ := h3 b g3
  have e : (mm h).vv q b = v := by
    show oV (xnth h q) b = v
    rw [h1]
    show fV (xnth fs b) = v
    rw [e1]
    rfl
  rw [e] at k
  exact yT.gf h1 e1 hf hp (k e2)
theorem yT.gI {i : Nat} (hf : xfet (xMt M) pc = some (.getfield i, len, a, b)) (hp : pc + len = pc') (hT : TT ks h) (ho : xnth ks q = some t) (hg : gok t a b 0 = true) (k : yT L iv M F G pc' lv (.int ((mm h).iv q b) :: r) h Q) : yT L iv M F G pc lv (.ref (q + 1) :: r) h Q :=
  yT.gX hf hp hT ho hg (fun hv => by
    unfold gV at hv
    rw [(gok_all hg).2.2.2] at hv
    obtain ⟨x, hx⟩ := hv
    have e : (mm h).iv q b = x := by show vI ((mm h).vv q b) = x; rw [hx]; rfl
    rw [hx]
    rw [e] at k
    exact k)
theorem yT.gZ {i : Nat} (hf : xfet (xMt M) pc = some (.getfield i, len, a, b)) (hp : pc + len = pc') (hT : TT ks h) (ho : xnth ks q = some t) (hg : gok t a b 1 = true) (k : ((mm h).iv q b = 0 ∨ (mm h).iv q b = 1) → yT L iv M F G pc' lv (.int ((mm h).iv q b) :: r) h Q) : yT L iv M F G pc lv (.ref (q + 1) :: r) h Q :=
  yT.gX hf hp hT ho hg (fun hv => by
    unfold gV at hv
    rw [(gok_all hg).2.2.2] at hv
    obtain ⟨x, hx, h01⟩ := hv
    have e : (mm h).iv q b = x := by show vI ((mm h).vv q b) = x; rw [hx]; rfl
    rw [hx]
    rw [e] at k
    exact k h01)
theorem yT.gL {i : Nat} (hf : xfet (xMt M) pc = some (.getfield i, len, a, b)) (hp : pc + len = pc') (hT : TT ks h) (ho : xnth ks q = some t) (hg : gok t a b 2 = true) (k : yT L iv M F G pc' lv (.long ((mm h).lg q b) :: r) h Q) : yT L iv M F G pc lv (.ref (q + 1) :: r) h Q :=
  yT.gX hf hp hT ho hg (fun hv => by
    unfold gV at hv
    rw [(gok_all hg).2.2.2] at hv
    obtain ⟨x, hx⟩ := hv
    have e : (mm h).lg q b = x := by show vL ((mm h).vv q b) = x; rw [hx]; rfl
    rw [hx]
    rw [e] at k
    exact k)
theorem yT.gN {i : Nat} (hf : xfet (xMt M) pc = some (.getfield i, len, a, b)) (hp : pc + len = pc') (hT : TT ks h) (ho : xnth ks q = some t) (hg : gok t a b 4 = true) (hk : (gK t b).2 = t0) (k0 : (mm h).rv q b = 0 → yT L iv M F G pc' lv (.null :: r) h Q) (k1 : ∀ p, (mm h).rv q b = p + 1 → xnth ks p = some t0 → yT L iv M F G pc' lv (.ref (p + 1) :: r) h Q) : yT L iv M F G pc lv (.ref (q + 1) :: r) h Q :=
  yT.gX hf hp hT ho hg (fun hv => by
    unfold gV at hv
    rw [(gok_all hg).2.2.2] at hv
    rcases hv with hx | ⟨p, hx, o⟩
    · rw [hx]
      exact k0 (by show vR ((mm h).vv q b) = 0; rw [hx]; rfl)
    · rw [hx]
      exact k1 p (by show vR ((mm h).vv q b) = p + 1; rw [hx]; rfl) (by rw [← hk]; exact o))
theorem yT.gR {i p : Nat} (hf : xfet (xMt M) pc = some (.getfield i, len, a, b)) (hp : pc + len = pc') (hT : TT ks h) (ho : xnth ks q = some t) (hg : gok t a b 4 = true) (hk : (gK t b).2 = t0) (w : (mm h).rv q b = p + 1) (k : xnth ks p = some t0 → yT L iv M F G pc' lv (.ref (p + 1) :: r) h Q) : yT L iv M F G pc lv (.ref (q + 1) :: r) h Q :=
  yT.gN hf hp hT ho hg hk (fun e => by rw [w] at e; cases e) (fun p' e o => by
    rw [w] at e
    obtain rfl : p = p' := by injection e
    exact k o)
theorem yT.sX {i c : Nat} {v : Value} (hf : xfet (xMt M) pc = some (.putfield i, len, a, b)) (hp : pc + len = pc') (hT : TT ks h) (ho : xnth ks q = some t) (hg : gok t a b c = true) (hv : gV ks (gK t b) v) (hx : xfit (xTy a b) v = true) (k : ∀ h', TT ks h' → mm h' = (mm h).st q b v → yT L iv M F G pc' lv r h' Q) : yT L iv M F G pc lv (v :: .ref (q + 1) :: r) h Q := by
  obtain ⟨g1, rfl, g3, g4⟩ := gok_all hg
  obtain ⟨fs, h1, h2, h3⟩ := hT.obj ho g1
  have hb : b < fs.length := by rw [h2]; exact g3
  refine yT.pf h1 (Nat.ble_eq_true_of_le hb) hx hf hp (k _ (hT.set ho ?_) (mx_set h1 ?_ ?_ rfl))
  · unfold gE
    rw [g1]
    refine ⟨fs.set b v, rfl, by rw [List.length_set]; exact h2, fun s hs => ?_⟩
    by_cases hbs : b = s
    · subst hbs
      exact ⟨v, xnth_set hb, hv⟩
    · rw [xnth_set_ne hbs]
      exact h3 s hs
  · show fV (xnth (fs.set b v) b) = v
    rw [xnth_set hb]
    rfl
  · intro c hc
    show fV (xnth (fs.set b v) c) = fV (xnth fs c)
    rw [xnth_set_ne (fun e => hc e.symm)]
theorem yT.sI {i : Nat} (hf : xfet (xMt M) pc = some (.putfield i, len, a, b)) (hp : pc + len = pc') (hT : TT ks h) (ho : xnth ks q = some t) (hg : gok t a b 0 = true) (ht : xTy a b = .int) (k : ∀ h', TT ks h' → mm h' = (mm h).st q b (.int x) → yT L iv M F G pc' lv r h' Q) : yT L iv M F G pc lv (.int x :: .ref (q + 1) :: r) h Q :=
  yT.sX hf hp hT ho hg (by unfold gV; rw [(gok_all hg).2.2.2]; exact ⟨_, rfl⟩) (by rw [ht]; rfl) k
theorem yT.sZ {i : Nat} (hf : xfet (xMt M) pc = some (.putfield i, len, a, b)) (hp : pc + len = pc') (hT : TT ks h) (ho : xnth ks q = some t) (hg : gok t a b 1 = true) (ht : xTy a b = .boolean) (hx : x = 0 ∨ x = 1) (k : ∀ h', TT ks h' → mm h' = (mm h).st q b (.int x) → yT L iv M F G pc' lv r h' Q) : yT L iv M F G pc lv (.int x :: .ref (q + 1) :: r) h Q :=
  yT.sX hf hp hT ho hg (by unfold gV; rw [(gok_all hg).2.2.2]; exact ⟨_, rfl, hx⟩) (by rw [ht]; rcases hx with rfl | rfl <;> rfl) k
theorem yT.sL {i : Nat} {z : Int64} (hf : xfet (xMt M) pc = some (.putfield i, len, a, b)) (hp : pc + len = pc') (hT : TT ks h) (ho : xnth ks q = some t) (hg : gok t a b 2 = true) (ht : xTy a b = .long) (k : ∀ h', TT ks h' → mm h' = (mm h).st q b (.long z) → yT L iv M F G pc' lv r h' Q) : yT L iv M F G pc lv (.long z :: .ref (q + 1) :: r) h Q :=
  yT.sX hf hp hT ho hg (by unfold gV; rw [(gok_all hg).2.2.2]; exact ⟨_, rfl⟩) (by rw [ht]; rfl) k
def isRt (f : FieldType) : Bool := match f with
  | .object _ => true
  | .array _ => true
  | _ => false
theorem yT.sR {i : Nat} {v : Value} (hf : xfet (xMt M) pc = some (.putfield i, len, a, b)) (hp : pc + len = pc') (hT : TT ks h) (ho : xnth ks q = some t) (hg : gok t a b 4 = true) (ht : isRt (xTy a b) = true) (hk : (gK t b).2 = t0) (hv : v = .null ∨ ∃ p, v = .ref (p + 1) ∧ xnth ks p = some t0) (k : ∀ h', TT ks h' → mm h' = (mm h).st q b v → yT L iv M F G pc' lv r h' Q) : yT L iv M F G pc lv (v :: .ref (q + 1) :: r) h Q :=
  yT.sX hf hp hT ho hg (by unfold gV; rw [(gok_all hg).2.2.2, hk]; exact hv) (by
    revert ht
    cases xTy a b <;> intro ht <;> first | (rcases hv with rfl | ⟨p, rfl, o⟩ <;> rfl) | cases ht) k
/-! arrays -/
theorem yT.iA (hf : xfet (xMt M) pc = some (.iaload, len, a, b)) (hp : pc + len = pc') (hT : TT ks h) (ho : xnth ks q = some 1) (hI : 0 ≤ x.toInt ∧ x.toInt < ((mm h).ln q : Int)) (k : yT L iv M F G pc' lv (.int ((mm h).iv q x.toInt.toNat) :: r) h Q) : yT L iv M F G pc lv (.int x :: .ref (q + 1) :: r) h Q := by
  obtain ⟨n, f, h1⟩ := hT.ia ho
  have e : (mm h).ln q = n := by show oN (xnth h q) = n; rw [h1]; rfl
  have e2 : (mm h).iv q x.toInt.toNat = f x.toInt.toNat := by show vI (oV (xnth h q) _) = _; rw [h1]; rfl
  rw [e] at hI
  rw [e2] at k
  exact yT.ia h1 rfl hI hf hp k
theorem yT.lA (hf : xfet (xMt M) pc = some (.laload, len, a, b)) (hp : pc + len = pc') (hT : TT ks h) (ho : xnth ks q = some 2) (hI : 0 ≤ x.toInt ∧ x.toInt < ((mm h).ln q : Int)) (k : yT L iv M F G pc' lv (.long ((mm h).lg q x.toInt.toNat) :: r) h Q) : yT L iv M F G pc lv (.int x :: .ref (q + 1) :: r) h Q := by
  obtain ⟨n, f, h1⟩ := hT.la ho
  have e : (mm h).ln q = n := by show oN (xnth h q) = n; rw [h1]; rfl
  have e2 : (mm h).lg q x.toInt.toNat = f x.toInt.toNat := by show vL (oV (xnth h q) _) = _; rw [h1]; rfl
  rw [e] at hI
  rw [e2] at k
  exact yT.la h1 rfl hI hf hp k
theorem yT.cA (hf : xfet (xMt M) pc = some (.aaload, len, a, b)) (hp : pc + len = pc') (hT : TT ks h) (ho : xnth ks q = some 3) (hI : 0 ≤ x.toInt ∧ x.toInt < ((mm h).ln q : Int)) (k0 : (mm h).rv q x.toInt.toNat = 0 → yT L iv M F G pc' lv (.null :: r) h Q) (k1 : ∀ p, (mm h).rv q x.toInt.toNat = p + 1 → xnth ks p = some 11 → yT L iv M F G pc' lv (.ref (p + 1) :: r) h Q) : yT L iv M F G pc lv (.int x :: .ref (q + 1) :: r) h Q := by
  obtain ⟨n, f, h1, h2⟩ := hT.ca ho
  have e : (mm h).ln q = n := by show oN (xnth h q) = n; rw [h1]; rfl
  have e2 : (mm h).rv q x.toInt.toNat = vR (va_rf (f x.toInt.toNat)) := by show vR (oV (xnth h q) _) = _; rw [h1]; rfl
  rw [e] at hI
  refine yT.aa h1 rfl rfl hI hf hp ?_
  rcases h2 x.toInt.toNat (by omega) with e3 | ⟨p, e3, o⟩
  · rw [e3]
    exact k0 (by rw [e2, e3]; rfl)
  · rw [e3]
    exact k1 p (by rw [e2, e3]; rfl) o
theorem yT.tI {i : Int32} (hf : xfet (xMt M) pc = some (.iastore, len, a, b)) (hp : pc + len = pc') (hT : TT ks h) (ho : xnth ks q = some 1) (hI : 0 ≤ i.toInt ∧ i.toInt < ((mm h).ln q : Int)) (k : ∀ h', TT ks h' → mm h' = (mm h).st q i.toInt.toNat (.int x) → yT L iv M F G pc' lv r h' Q) : yT L iv M F G pc lv (.int x :: .int i :: .ref (q + 1) :: r) h Q := by
  obtain ⟨n, f, h1⟩ := hT.ia ho
  have e : (mm h).ln q = n := by show oN (xnth h q) = n; rw [h1]; rfl
  rw [e] at hI
  refine yT.is h1 rfl hI hf hp (k _ (hT.set ho ⟨_, _, rfl⟩) (mx_set h1 ?_ ?_ rfl))
  · show Value.int (if i.toInt.toNat = i.toInt.toNat then x else _) = _
    rw [if_pos rfl]
  · intro c hc
    show Value.int (if c = i.toInt.toNat then x else f c) = .int (f c)
    rw [if_neg hc]
theorem yT.tL {i : Int32} {z : Int64} (hf : xfet (xMt M) pc = some (.lastore, len, a, b)) (hp : pc + len = pc') (hT : TT ks h) (ho : xnth ks q = some 2) (hI : 0 ≤ i.toInt ∧ i.toInt < ((mm h).ln q : Int)) (k : ∀ h', TT ks h' → mm h' = (mm h).st q i.toInt.toNat (.long z) → yT L iv M F G pc' lv r h' Q) : yT L iv M F G pc lv (.long z :: .int i :: .ref (q + 1) :: r) h Q := by
  obtain ⟨n, f, h1⟩ := hT.la ho
  have e : (mm h).ln q = n := by show oN (xnth h q) = n; rw [h1]; rfl
  rw [e] at hI
  refine yT.ls h1 rfl hI hf hp (k _ (hT.set ho ⟨_, _, rfl⟩) (mx_set h1 ?_ ?_ rfl))
  · show Value.long (if i.toInt.toNat = i.toInt.toNat then z else _) = _
    rw [if_pos rfl]
  · intro c hc
    show Value.long (if c = i.toInt.toNat then z else f c) = .long (f c)
    rw [if_neg hc]
theorem yT.tC {i : Int32} {p : Nat} (hf : xfet (xMt M) pc = some (.aastore, len, a, b)) (hp : pc + len = pc') (hT : TT ks h) (ho : xnth ks q = some 3) (hI : 0 ≤ i.toInt ∧ i.toInt < ((mm h).ln q : Int)) (hv : xnth ks p = some 11) (k : ∀ h', TT ks h' → mm h' = (mm h).st q i.toInt.toNat (.ref (p + 1)) → yT L iv M F G pc' lv r h' Q) : yT L iv M F G pc lv (.ref (p + 1) :: .int i :: .ref (q + 1) :: r) h Q := by
  obtain ⟨n, f, h1, h3⟩ := hT.ca ho
  obtain ⟨fs, e1, -, -⟩ := hT.obj hv rfl
  have e : (mm h).ln q = n := by show oN (xnth h q) = n; rw [h1]; rfl
  rw [e] at hI
  subst hp
  have hin := xin_of (n := n) rfl hI
  have hx : i.toNatClampNeg = i.toInt.toNat := rfl
  refine yT.p hf rfl (fun C cs sl fr => ?_) (k _ (hT.set ho ⟨_, va_up f i.toInt.toNat (some (p + 1)), rfl, fun j hj => ?_⟩) (mx_set h1 ?_ ?_ rfl))
  · show (match xnth h q with
      | some (.inl (t, n, .inr (.inr (.inr (.inr f))))) => (match xnth h p with
        | some (.inr (ci, _)) => bif xin i n && ((Nat.beq t 3 && Nat.beq ci 1) || (Nat.beq t 4 && Nat.beq ci 6)) then
          xset h q (.inl (t, n, .inr (.inr (.inr (.inr (va_up f i.toNatClampNeg (some (p + 1)))))))) (fun h' => some ((pc + len, lv, r, h', sl, fr), (([], cs) : xO))) else none
        | _ => none)
      | _ => none) = _
    rw [h1]
    show (match xnth h p with
        | some (.inr (ci, _)) => bif xin i n && ((Nat.beq 3 3 && Nat.beq ci 1) || (Nat.beq 3 4 && Nat.beq ci 6)) then
          xset h q (.inl (3, n, .inr (.inr (.inr (.inr (va_up f i.toNatClampNeg (some (p + 1)))))))) (fun h' => some ((pc + len, lv, r, h', sl, fr), (([], cs) : xO))) else none
        | _ => none) = _
    rw [e1]
    show (bif xin i n && true then
          xset h q (.inl (3, n, .inr (.inr (.inr (.inr (va_up f i.toNatClampNeg (some (p + 1)))))))) (fun h' => some ((pc + len, lv, r, h', sl, fr), (([], cs) : xO))) else none) = _
    rw [hin, xset_eq (xnth_lt h1), hx]
    rfl
  · by_cases hj2 : j = i.toInt.toNat
    · exact Or.inr ⟨p, by rw [hj2]; exact va_up_self _ _ _, hv⟩
    · rw [va_up_ne _ _ hj2]
      exact h3 j hj
  · show va_rf (va_up f i.toInt.toNat (some (p + 1)) i.toInt.toNat) = _
    rw [va_up_self]
    rfl
  · intro c hc
    show va_rf (va_up f i.toInt.toNat (some (p + 1)) c) = va_rf (f c)
    rw [va_up_ne _ _ hc]
theorem yT.aL (hf : xfet (xMt M) pc = some (.arraylength, len, a, b)) (hp : pc + len = pc') (hT : TT ks h) (ho : xnth ks q = some t) (ht : (Nat.beq t 1 || (Nat.beq t 2 || Nat.beq t 3)) = true) (k : yT L iv M F G pc' lv (.int (Int32.ofNat ((mm h).ln q)) :: r) h Q) : yT L iv M F G pc lv (.ref (q + 1) :: r) h Q := by
  rw [Bool.or_eq_true, Bool.or_eq_true] at ht
  rcases ht with ht | ht | ht
  · have ht := Nat.eq_of_beq_eq_true ht
    subst ht
    obtain ⟨n, f, h1⟩ := hT.ia ho
    have e : (mm h).ln q = n := by show oN (xnth h q) = n; rw [h1]; rfl
    rw [e] at k
    exact yT.al h1 rfl hf hp k
  · have ht := Nat.eq_of_beq_eq_true ht
    subst ht
    obtain ⟨n, f, h1⟩ := hT.la ho
    have e : (mm h).ln q = n := by show oN (xnth h q) = n; rw [h1]; rfl
    rw [e] at k
    exact yT.al h1 rfl hf hp k
  · have ht := Nat.eq_of_beq_eq_true ht
    subst ht
    obtain ⟨n, f, h1, -⟩ := hT.ca ho
    have e : (mm h).ln q = n := by show oN (xnth h q) = n; rw [h1]; rfl
    rw [e] at k
    exact yT.al h1 rfl hf hp k
/-! new objects and arrays -/
theorem xnth_end {α : Type} {a : List α} {t : α} : xnth (a ++ [t]) a.length = some t := by
  rw [xnth_eq, List.getElem?_append_right (Nat.le_refl _), Nat.sub_self]
  rfl
theorem yT.nO {i n G2 : Nat} {cq : vw_C} (hf : xfet (xMt M) pc = some (.new i, len, a, b)) (hp : pc + len = pc') (hq : xnth vwCl a = some cq) (hn : cq.2.2 = n) (hG : G2 + n ≤ G) (hT : TT ks h) (hd : gdf a n = true) (k : ∀ h' ks', KG ks ks' → TT ks' h' → xnth ks' (mm h).nx = some (a + 10) → mm h' = (mm h).nw (eV (.inr (a, xDf a n))) 0 → yT L iv M F G2 pc' lv (.ref ((mm h).nx + 1) :: st) h' Q) : yT L iv M F G pc lv st h Q := by
  subst hn
  exact yT.w (yT.nw hq hf hp (k _ (ks ++ [a + 10]) ⟨_, rfl⟩ (hT.app (gdf_ok hd)) (by show xnth (ks ++ [a + 10]) h.length = _; rw [hT.1]; exact xnth_end) (mx_app _ _))) (Nat.le_refl _) hG (fun _ _ h => h)
theorem yT.nI {ty : ArrayType} {S G2 : Nat} (hf : xfet (xMt M) pc = some (.newarray ty, len, 0, b)) (hp : pc + len = pc') (hS : G2 + S ≤ G ∧ S ≤ 60000) (hT : TT ks h) (hx : 0 ≤ x.toInt ∧ x.toInt ≤ (S : Int)) (k : ∀ h' ks', KG ks ks' → TT ks' h' → xnth ks' (mm h).nx = some 1 → mm h' = (mm h).nw (fun _ => .int 0) x.toInt.toNat → yT L iv M F G2 pc' lv (.ref ((mm h).nx + 1) :: r) h' Q) : yT L iv M F G pc lv (.int x :: r) h Q := by
  refine yT.w (yT.na (G := G2) (w := (x.toInt.toNat, .inl (fun _ => 0))) rfl (by omega) rfl rfl hf hp ?_) (Nat.le_refl _) (by omega) (fun _ _ h => h)
  exact k _ (ks ++ [1]) ⟨_, rfl⟩ (hT.app ⟨_, _, rfl⟩) (by show xnth (ks ++ [1]) h.length = _; rw [hT.1]; exact xnth_end) (mx_app _ _)
/-! calls -/
theorem yT.cw {M' : xM} {as rest : List Value} {F' G1 G2 : Nat} {Q' : yQ} (hf : xfet (xMt M) pc = some (ins, len, a, b)) (hI : (match ins with
      | .invokevirtual _ => true
      | .invokespecial _ => true
      | _ => false) = true) (hp' : pc + 3 = pc') (hT : TT ks h) (ho : xnth ks q = some t) (hM : xnth xMs a = some M') (hc : yM a F' G1 (.ref (q + 1) :: as) h Q') (hp : xpop (xMp M' + 1) [] st = some (.ref (q + 1) :: as, rest)) (hF : F' + 1 ≤ F) (hG : G1 + G2 ≤ G)
    (hg : (Nat.beq (b / 2) (xMk M') && (Nat.ble b 6 && (Nat.ble (xcat rest) 8 && (!(Nat.beq (xMk M') 1) && (Nat.ble 10 t && Nat.beq (t - 10) (xMo M')))))) = true) : yC L iv M F G pc lv st h Q Q' G2 pc' rest := by
  intro k
  subst hp'
  simp only [Bool.and_eq_true] at hg
  obtain ⟨g1, g2, g3, g4, g5, g6⟩ := hg
  obtain ⟨fs, h1, h2, h3⟩ := hT.obj ho g5
  exact yT.cv hM h1 hc hp hF hG (by rw [g1, g2, g3, g4, g6]; rfl) hf hI k
variable {Q' : yQ} {G2 : Nat} {rest : List Value}
theorem zV {K : Mm → Prop} (c : yC L iv M F G pc lv st h Q (PV ks K) G2 pc' rest) (k : ∀ h', TT ks h' → K (mm h') → yT L iv M F G2 pc' lv rest h' Q) : yT L iv M F G pc lv st h Q :=
  c (fun h' r kk => by
    obtain ⟨rfl, k1, k2⟩ := kk
    exact k h' k1 k2)
theorem zI {K : Mm → Int32 → Prop} (c : yC L iv M F G pc lv st h Q (PI ks K) G2 pc' rest) (k : ∀ h' x, TT ks h' → K (mm h') x → yT L iv M F G2 pc' lv (.int x :: rest) h' Q) : yT L iv M F G pc lv st h Q :=
  c (fun h' r kk => by
    obtain ⟨x, rfl, k1, k2⟩ := kk
    exact k h' x k1 k2)
theorem zZ {K : Mm → Int32 → Prop} (c : yC L iv M F G pc lv st h Q (PZ ks K) G2 pc' rest) (k : ∀ h' x, TT ks h' → (x = 0 ∨ x = 1) → K (mm h') x → yT L iv M F G2 pc' lv (.int x :: rest) h' Q) : yT L iv M F G pc lv st h Q :=
  c (fun h' r kk => by
    obtain ⟨x, rfl, k1, k0, k2⟩ := kk
    exact k h' x k1 k0 k2)
theorem zL {K : Mm → Int64 → Prop} (c : yC L iv M F G pc lv st h Q (PL ks K) G2 pc' rest) (k : ∀ h' x, TT ks h' → K (mm h') x → yT L iv M F G2 pc' lv (.long x :: rest) h' Q) : yT L iv M F G pc lv st h Q :=
  c (fun h' r kk => by
    obtain ⟨x, rfl, k1, k2⟩ := kk
    exact k h' x k1 k2)
theorem zR {K : Mm → Nat → Prop} (c : yC L iv M F G pc lv st h Q (PR ks t0 K) G2 pc' rest) (k0 : ∀ h', TT ks h' → K (mm h') 0 → yT L iv M F G2 pc' lv (.null :: rest) h' Q) (k1 : ∀ h' p, TT ks h' → xnth ks p = some t0 → K (mm h') (p + 1) → yT L iv M F G2 pc' lv (.ref (p + 1) :: rest) h' Q) : yT L iv M F G pc lv st h Q :=
  c (fun h' r kk => by
    obtain ⟨v, rfl, kt, kT, k2⟩ := kk
    rcases kt with rfl | ⟨p, rfl, o⟩
    · exact k0 h' kT k2
    · exact k1 h' p kT o k2)
theorem zVa {K : Mm → Prop} (c : yC L iv M F G pc lv st h Q (PVa ks K) G2 pc' rest) (k : ∀ h' ks', KG ks ks' → TT ks' h' → K (mm h') → yT L iv M F G2 pc' lv rest h' Q) : yT L iv M F G pc lv st h Q :=
  c (fun h' r kk => by
    obtain ⟨rfl, ks', kg, k1, k2⟩ := kk
    exact k h' ks' kg k1 k2)
theorem zIa {K : Mm → Int32 → Prop} (c : yC L iv M F G pc lv st h Q (PIa ks K) G2 pc' rest) (k : ∀ h' ks' (kg : KG ks ks') x, TT ks' h' → K (mm h') x → yT L iv M F G2 pc' lv (.int x :: rest) h' Q) : yT L iv M F G pc lv st h Q :=
  c (fun h' r kk => by
    obtain ⟨x, rfl, ks', kg, k1, k2⟩ := kk
    exact k h' ks' kg x k1 k2)
theorem zRa {K : Mm → Nat → Prop} (c : yC L iv M F G pc lv st h Q (PRa ks t0 K) G2 pc' rest) (k0 : ∀ h' ks', KG ks ks' → TT ks' h' → K (mm h') 0 → yT L iv M F G2 pc' lv (.null :: rest) h' Q) (k1 : ∀ h' ks' (kg : KG ks ks') p, TT ks' h' → xnth ks' p = some t0 → K (mm h') (p + 1) → yT L iv M F G2 pc' lv (.ref (p + 1) :: rest) h' Q) : yT L iv M F G pc lv st h Q :=
  c (fun h' r kk => by
    obtain ⟨v, rfl, ks', kg, kt, kT, k2⟩ := kk
    rcases kt with rfl | ⟨p, rfl, o⟩
    · exact k0 h' ks' kg kT k2
    · exact k1 h' ks' kg p kT o k2)
theorem zR1a {f : Mm → Nat → Prop} (c : yC L iv M F G pc lv st h Q (PRa ks t0 (nz f)) G2 pc' rest) (k : ∀ h' ks' (kg : KG ks ks') p, TT ks' h' → xnth ks' p = some t0 → f (mm h') p → yT L iv M F G2 pc' lv (.ref (p + 1) :: rest) h' Q) : yT L iv M F G pc lv st h Q :=
  zRa c (fun h' ks' kg hT j => by
    obtain ⟨p, e, -⟩ := j
    cases e) (fun h' ks' kg p hT o j => by
    obtain ⟨p', e, j⟩ := j
    obtain rfl : p = p' := by injection e
    exact k h' ks' kg p hT o j)
end YZ
