/-! what is made: more types at the end -/
def kOK (t : cT) : Bool := Nat.beq t.1 1 || (Nat.beq t.1 11 || (Nat.beq t.1 12 || Nat.beq t.1 14))
def KE (a b : List cT) (m : Nat) : Prop := ∃ l : List cT, b = a ++ l ∧ l.length ≤ m ∧ l.all kOK = true
theorem xnth_app {α : Type} {a l : List α} {q : Nat} {t : α} (h : xnth a q = some t) : xnth (a ++ l) q = some t := by
  rw [xnth_eq] at h ⊢
  rw [List.getElem?_append_left (List.getElem?_eq_some_iff.mp h).1]
  exact h
theorem xnth_at {α : Type} {a l : List α} {t : α} : xnth (a ++ t :: l) a.length = some t := by
  rw [xnth_eq, List.getElem?_append_right (Nat.le_refl _), Nat.sub_self]
  rfl
theorem xnth_at1 {α : Type} {a l : List α} {t u : α} : xnth (a ++ t :: u :: l) (a.length + 1) = some u := by
  rw [xnth_eq, List.getElem?_append_right (Nat.le_add_right _ _), Nat.add_sub_cancel_left]
  rfl
theorem xnth_at2 {α : Type} {a l : List α} {t u v : α} : xnth (a ++ t :: u :: v :: l) (a.length + 2) = some v := by
  rw [xnth_eq, List.getElem?_append_right (Nat.le_add_right _ _), Nat.add_sub_cancel_left]
  rfl
theorem set_at {α : Type} {a l : List α} {t u : α} : (a ++ t :: l).set a.length u = a ++ u :: l := by
  rw [List.set_append_right _ _ (Nat.le_refl _), Nat.sub_self]
  rfl
theorem xnth_dn {α : Type} {a l : List α} {q : Nat} {t : α} (h : xnth (a ++ l) q = some t) (hl : t ∉ l) : xnth a q = some t := by
  rw [xnth_eq] at h ⊢
  by_cases hq : q < a.length
  · rw [List.getElem?_append_left hq] at h
    exact h
  · rw [List.getElem?_append_right (by omega)] at h
    exact absurd (List.mem_of_getElem? h) hl
theorem kup {ks : List cT} {q : Nat} {t u : cT} (h : xnth ks q = some t) : xnth (ks ++ [u]) q = some t := xnth_app h
theorem kdn {ks : List cT} {q : Nat} {t : cT} (h : xnth (ks ++ [(0, 0)]) q = some t) (ht : Nat.beq t.1 0 = false) : xnth ks q = some t := xnth_dn h (fun hm => by
  rw [List.mem_singleton] at hm
  subst hm
  cases ht)
theorem KE.rf {a : List cT} : KE a a 0 := ⟨[], (List.append_nil a).symm, Nat.le_refl _, rfl⟩
theorem KE.tr {a b c : List cT} {m n : Nat} (h1 : KE a b m) (h2 : KE b c n) : KE a c (m + n) := by
  obtain ⟨l1, rfl, e1, f1⟩ := h1
  obtain ⟨l2, rfl, e2, f2⟩ := h2
  exact ⟨l1 ++ l2, List.append_assoc _ _ _, by rw [List.length_append]; omega, by rw [List.all_append, f1, f2]; rfl⟩
theorem KE.w {a b : List cT} {m n : Nat} (h1 : KE a b m) (h : m ≤ n) : KE a b n := by
  obtain ⟨l1, rfl, e1, f1⟩ := h1
  exact ⟨l1, rfl, Nat.le_trans e1 h, f1⟩
theorem KE.up {a b : List cT} {m q : Nat} {t : cT} (h1 : KE a b m) (h : xnth a q = some t) : xnth b q = some t := by
  obtain ⟨l1, rfl, e1, f1⟩ := h1
  exact xnth_app h
theorem KE.dn {a b : List cT} {m q : Nat} {t : cT} (h1 : KE a b m) (h : xnth b q = some t) (ht : kOK t = false) : xnth a q = some t := by
  obtain ⟨l1, rfl, e1, f1⟩ := h1
  refine xnth_dn h (fun hm => ?_)
  have h := List.all_eq_true.mp f1 t hm
  rw [ht] at h
  cases h
def CA (ks : List cT) (σ : Nat → Nat → Int32) (ρ : Nat → xE) (c : Nat × cT) (B : Nat) (E : yQ) : yQ := fun h' r => ∃ ks', KE ks ks' B ∧ HT ks' σ ρ h' ∧ rOK ks' c r ∧ E h' r
section HA
variable {ks ks' : List cT} {σ : Nat → Nat → Int32} {ρ ρ' : Nat → xE} {h h' : List xE} {q s : Nat} {t : cT} {e : xE} {v : Value} {c : Nat × cT}
theorem vOK.up (hk : ∀ p t, Nat.beq t.1 0 = false → xnth ks p = some t → xnth ks' p = some t) (hv : vOK ks σ q s c v) : vOK ks' σ q s c v := by
  obtain ⟨c1, c2⟩ := c
  match c1, hv with
  | 0, hv => exact hv
  | 1, hv => exact hv
  | 2, hv => exact hv
  | 3, hv =>
    obtain ⟨p, e, o, n⟩ := hv
    exact ⟨p, e, hk p _ n o, n⟩
  | 4, hv =>
    rcases hv with e | ⟨p, e, o, n⟩
    · exact Or.inl e
    · exact Or.inr ⟨p, e, hk p _ n o, n⟩
  | 5, hv =>
    obtain ⟨p, N, e, o, n⟩ := hv
    exact ⟨p, N, e, hk p _ rfl o, n⟩
  | 6, hv => exact hv
  | 7, hv => exact hv
  | 8, hv => exact hv
theorem eOK.up (hk : ∀ p t, Nat.beq t.1 0 = false → xnth ks p = some t → xnth ks' p = some t) (hr : Nat.beq t.1 0 = true → ρ q = ρ' q) (he : eOK ks σ ρ q t e) : eOK ks' σ ρ' q t e := by
  unfold eOK at he ⊢
  split at he
  · rename_i h9
    obtain ⟨fs, e1, e2, e3⟩ := he
    refine ⟨fs, e1, e2, fun s hs => ?_⟩
    obtain ⟨v, v1, v2⟩ := e3 s hs
    exact ⟨v, v1, v2.up hk⟩
  · split at he
    · rename_i h0
      rw [he]
      exact hr (by rw [h0]; rfl)
    · exact he
    · exact he
    · obtain ⟨f, e1, e2, e5⟩ := he
      refine ⟨f, e1, fun i hi => ?_, e5⟩
      rcases e2 i hi with e3 | ⟨p, e3, e4⟩
      · exact Or.inl e3
      · exact Or.inr ⟨p, e3, hk p _ rfl e4⟩
    · obtain ⟨f, e1, e2⟩ := he
      refine ⟨f, e1, fun i hi => ?_⟩
      obtain ⟨p, e3, e4⟩ := e2 i hi
      exact ⟨p, e3, hk p _ rfl e4⟩
    · exact he
    · exact he
/-- more at the end -/
theorem HT.app {l : List cT} {hl : List xE} (hT : HT ks σ ρ h) (hn : l.length = hl.length) (hr : ∀ q, q < ks.length → ρ q = ρ' q) (hl2 : ∀ i t, xnth l i = some t → ∃ e, xnth hl i = some e ∧ eOK (ks ++ l) σ ρ' (ks.length + i) t e) : HT (ks ++ l) σ ρ' (h ++ hl) := by
  refine ⟨by rw [List.length_append, List.length_append, hT.1, hn], fun q t hq => ?_⟩
  by_cases hk : q < ks.length
  · have ho : xnth ks q = some t := by
      rw [xnth_eq, List.getElem?_append_left hk] at hq
      rw [xnth_eq]
      exact hq
    obtain ⟨e, e1, e2⟩ := hT.2 q t ho
    exact ⟨e, xnth_app e1, e2.up (fun p t _ h => xnth_app h) (fun _ => hr q hk)⟩
  · have ho : xnth l (q - ks.length) = some t := by
      rw [xnth_eq, List.getElem?_append_right (by omega)] at hq
      rw [xnth_eq]
      exact hq
    obtain ⟨e, e1, e2⟩ := hl2 _ t ho
    rw [show ks.length + (q - ks.length) = q by omega] at e2
    refine ⟨e, ?_, e2⟩
    rw [xnth_eq, List.getElem?_append_right (by rw [hT.1]; omega), hT.1, ← xnth_eq]
    exact e1
theorem HT.raw (hT : HT ks σ ρ h) (e : xE) : HT (ks ++ [(0, 0)]) σ (fun q => if q = ks.length then e else ρ q) (h ++ [e]) :=
  hT.app rfl (fun q hq => (if_neg (by omega)).symm) (fun i t hi => by
    match i, hi with
    | 0, hi =>
      obtain rfl : ((0, 0) : cT) = t := by injection hi
      exact ⟨e, rfl, show e = (if ks.length + 0 = ks.length then e else ρ (ks.length + 0)) from (if_pos rfl).symm⟩)
theorem HT.rawset (hT : HT ks σ ρ h) (ho : xnth ks q = some (0, 0)) : HT ks σ (fun j => if j = q then e else ρ j) (h.set q e) := by
  refine ⟨by rw [List.length_set]; exact hT.1, fun q' t' h' => ?_⟩
  by_cases hq : q = q'
  · subst hq
    rw [ho] at h'
    obtain rfl : ((0, 0) : cT) = t' := by injection h'
    exact ⟨e, xnth_set (by rw [hT.1]; exact xnth_lt ho), show e = (if q = q then e else ρ q) from (if_pos rfl).symm⟩
  · obtain ⟨u, u1, u2⟩ := hT.2 q' t' h'
    exact ⟨u, by rw [xnth_set_ne hq]; exact u1, u2.up (fun _ _ _ h => h) (fun _ => (if_neg (fun e => hq e.symm)).symm)⟩
theorem HT.rawat (hT : HT ks σ ρ h) (ho : xnth ks q = some (0, 0)) : xnth h q = some (ρ q) := by
  obtain ⟨e, e1, e2⟩ := hT.2 q _ ho
  rw [e1]
  exact congrArg some (show e = ρ q from e2)
theorem HT.prom (hT : HT ks σ ρ h) (ho : xnth ks q = some (0, 0)) (he : eOK (ks.set q t) σ ρ' q t (ρ q)) (hr : ∀ j, j ≠ q → ρ j = ρ' j) : HT (ks.set q t) σ ρ' h := by
  refine ⟨by rw [List.length_set]; exact hT.1, fun q' t' h' => ?_⟩
  by_cases hq : q = q'
  · subst hq
    rw [xnth_set (xnth_lt ho)] at h'
    obtain rfl : t = t' := by injection h'
    exact ⟨_, hT.rawat ho, he⟩
  · rw [xnth_set_ne hq] at h'
    obtain ⟨u, u1, u2⟩ := hT.2 q' t' h'
    refine ⟨u, u1, u2.up (fun p t n h => ?_) (fun b => hr q' (fun e => hq e.symm))⟩
    by_cases hp : q = p
    · subst hp
      rw [ho] at h
      obtain rfl : ((0, 0) : cT) = t := by injection h
      cases n
    · rw [xnth_set_ne hp]
      exact h
/-- a raw cell gets its type and its content at once -/
theorem HT.fill (hT : HT ks σ ρ h) (ho : xnth ks q = some (0, 0)) (he : eOK (ks.set q t) σ ρ q t e) : HT (ks.set q t) σ ρ (h.set q e) := by
  refine ⟨by rw [List.length_set, List.length_set]; exact hT.1, fun q' t' h' => ?_⟩
  by_cases hq : q = q'
  · subst hq
    rw [xnth_set (xnth_lt ho)] at h'
    obtain rfl : t = t' := by injection h'
    exact ⟨_, xnth_set (by rw [hT.1]; exact xnth_lt ho), he⟩
  · rw [xnth_set_ne hq] at h'
    obtain ⟨u, u1, u2⟩ := hT.2 q' t' h'
    refine ⟨u, by rw [xnth_set_ne hq]; exact u1, u2.up (fun p t n h => ?_) (fun _ => rfl)⟩
    by_cases hp : q = p
    · subst hp
      rw [ho] at h
      obtain rfl : ((0, 0) : cT) = t := by injection h
      cases n
    · rw [xnth_set_ne hp]
      exact h
end HA
section YA
variable {L : Nat} {iv : List (Int × Int)} {M : xM} {F G pc pc' len a b : Nat} {ins : Instr} {lv lv' : xLv} {st st' : List Value} {h h' : List xE} {Q : yQ} {r : List Value} {x y : Int32} {X Y : Int} {ks ks' : List cT} {σ : Nat → Nat → Int32} {ρ : Nat → xE} {q : Nat} {t : cT} {Q' E : yQ} {G2 B : Nat} {rest : List Value} {t0 : cT}
theorem kAV (c : yC L iv M F G pc lv st h Q (CA ks σ ρ (9, t0) B E) G2 pc' rest) (k : ∀ h' ks', KE ks ks' B → HT ks' σ ρ h' → E h' none → yT L iv M F G2 pc' lv rest h' Q) : yT L iv M F G pc lv st h Q :=
  c (fun h' r kk => by
    obtain ⟨ks', k0, k1, k2, k3⟩ := kk
    have e : r = none := k2
    subst e
    exact k h' ks' k0 k1 k3)
theorem kAI (c : yC L iv M F G pc lv st h Q (CA ks σ ρ (0, t0) B E) G2 pc' rest) (k : ∀ h' ks' (x : Int32), KE ks ks' B → HT ks' σ ρ h' → E h' (some (.int x)) → yT L iv M F G2 pc' lv (.int x :: rest) h' Q) : yT L iv M F G pc lv st h Q :=
  c (fun h' r kk => by
    obtain ⟨ks', k0, k1, k2, k3⟩ := kk
    obtain ⟨v, rfl, x, rfl⟩ := k2
    exact k h' ks' x k0 k1 k3)
theorem kAN (c : yC L iv M F G pc lv st h Q (CA ks σ ρ (4, t0) B E) G2 pc' rest) (k0 : ∀ h' ks', KE ks ks' B → HT ks' σ ρ h' → E h' (some .null) → yT L iv M F G2 pc' lv (.null :: rest) h' Q) (k : ∀ h' ks' p, KE ks ks' B → HT ks' σ ρ h' → E h' (some (.ref (p + 1))) → xnth ks' p = some t0 → yT L iv M F G2 pc' lv (.ref (p + 1) :: rest) h' Q) : yT L iv M F G pc lv st h Q :=
  c (fun h' r kk => by
    obtain ⟨ks', j0, k1, k2, k3⟩ := kk
    obtain ⟨v, rfl, h⟩ := k2
    rcases h with rfl | ⟨p, rfl, o, n⟩
    · exact k0 h' ks' j0 k1 k3
    · exact k h' ks' p j0 k1 k3 o)
/-- a fresh Numbers, of a room of its own -/
def CN (ks : List cT) (σ : Nat → Nat → Int32) (ρ : Nat → xE) (E : Nat → yQ) : yQ := fun h' r => ∃ ks' q N, KE ks ks' 2 ∧ HT ks' σ ρ h' ∧ r = some (.ref (q + 1)) ∧ xnth ks' q = some (14, N) ∧ N ≤ 750 ∧ E q h' r
theorem kCN {E : Nat → yQ} (c : yC L iv M F G pc lv st h Q (CN ks σ ρ E) G2 pc' rest) (k : ∀ h' ks' q N, KE ks ks' 2 → HT ks' σ ρ h' → xnth ks' q = some (14, N) → N ≤ 750 → E q h' (some (.ref (q + 1))) → yT L iv M F G2 pc' lv (.ref (q + 1) :: rest) h' Q) : yT L iv M F G pc lv st h Q :=
  c (fun h' r kk => by
    obtain ⟨ks', q, N, k0, k1, rfl, k2, k3, k4⟩ := kk
    exact k h' ks' q N k0 k1 k2 k3 k4)
/-- behind a constructor -/
def CM (ks : List cT) (σ : Nat → Nat → Int32) (ρ : Nat → xE) (t : cT) (B : Nat) : yQ := fun h' r => r = none ∧ ∃ ks', KE ks ks' B ∧ HT ks' σ ρ h' ∧ xnth ks' ks.length = some t
theorem kM (c : yC L iv M F G pc lv st h Q (CM ks σ ρ t B) G2 pc' rest) (k : ∀ h' ks', KE ks ks' B → HT ks' σ ρ h' → xnth ks' ks.length = some t → yT L iv M F G2 pc' lv rest h' Q) : yT L iv M F G pc lv st h Q :=
  c (fun h' r kk => by
    obtain ⟨rfl, ks', k0, k1, k2⟩ := kk
    exact k h' ks' k0 k1 k2)
theorem qAI (ke : KE ks ks' B) (hT : HT ks' σ ρ h) (e : E h (some (.int x))) : CA ks σ ρ (0, t0) B E h (some (.int x)) := Exists.intro ks' (And.intro ke (And.intro hT (And.intro (show rOK ks' (0, t0) _ from (⟨_, rfl, _, rfl⟩ : ∃ v, some (Value.int x) = some v ∧ ∃ y : Int32, v = .int y)) e)))
theorem qAV (ke : KE ks ks' B) (hT : HT ks' σ ρ h) (e : E h none) : CA ks σ ρ (9, t0) B E h none := Exists.intro ks' (And.intro ke (And.intro hT (And.intro (show rOK ks' (9, t0) none from (rfl : (none : Option Value) = none)) e)))
theorem qAN0 (ke : KE ks ks' B) (hT : HT ks' σ ρ h) (e : E h (some .null)) : CA ks σ ρ (4, t0) B E h (some .null) := Exists.intro ks' (And.intro ke (And.intro hT (And.intro (show rOK ks' (4, t0) _ from (⟨_, rfl, Or.inl rfl⟩ : ∃ v, some Value.null = some v ∧ (v = .null ∨ ∃ p, v = .ref (p + 1) ∧ xnth ks' p = some t0 ∧ Nat.beq t0.1 0 = false))) e)))
theorem qAN {p : Nat} (ke : KE ks ks' B) (hT : HT ks' σ ρ h) (e : E h (some (.ref (p + 1)))) (o : xnth ks' p = some t0) (n : Nat.beq t0.1 0 = false) : CA ks σ ρ (4, t0) B E h (some (.ref (p + 1))) := Exists.intro ks' (And.intro ke (And.intro hT (And.intro (show rOK ks' (4, t0) _ from (⟨_, rfl, Or.inr ⟨_, rfl, o, n⟩⟩ : ∃ v, some (Value.ref (p + 1)) = some v ∧ (v = .null ∨ ∃ p, v = .ref (p + 1) ∧ xnth ks' p = some t0 ∧ Nat.beq t0.1 0 = false))) e)))
/-- a new object, an array of cells' store -/
theorem yT.nwc {i n : Nat} {cq : vw_C} (hf : xfet (xMt M) pc = some (.new i, len, a, b)) (hp : pc + len = pc') (hq : xnth vwCl a = some cq) (hn : cq.2.2 = n) (hG : G2 + n ≤ G) (k : yT L iv M F G2 pc' lv (.ref (h.length + 1) :: st) (h ++ [.inr (a, xDf a n)]) Q) : yT L iv M F G pc lv st h Q := by
  subst hn
  exact yT.w (yT.nw hq hf hp k) (Nat.le_refl _) hG (fun _ _ h => h)
theorem yT.cas {p : Nat} (hf : xfet (xMt M) pc = some (.aastore, len, a, b)) (hp : pc + len = pc') (hT : HT ks σ ρ h) (ho : xnth ks q = some (3, 0)) (px : x.toInt = X) (hI : 0 ≤ X ∧ X < 24) (hv : xnth ks p = some (11, 0)) (k : ∀ h', HT ks σ ρ h' → (∀ q' a' b' v', FV h q' a' b' v' → FV h' q' a' b' v') → yT L iv M F G pc' lv r h' Q) : yT L iv M F G pc lv (.ref (p + 1) :: .int x :: .ref (q + 1) :: r) h Q := by
  obtain ⟨f, h1, h2, h3⟩ := hT.ca ho
  obtain ⟨fs, e1, e2, e3⟩ := hT.obj hv rfl
  subst hp
  have hin := xin_of (n := 24) px hI
  have hx : x.toNatClampNeg = X.toNat := by rw [← px]; rfl
  refine yT.p hf rfl (fun C cs sl fr => ?_) (k _ (hT.set ho ⟨va_up f X.toNat (some (p + 1)), rfl, fun i hi24 => ?_, fun i hi => ?_⟩) (FV.arr h1))
  · show (match xnth h q with
      | some (.inl (t, n, .inr (.inr (.inr (.inr f))))) => (match xnth h p with
        | some (.inr (ci, _)) => bif xin x n && ((Nat.beq t 3 && Nat.beq ci 1) || (Nat.beq t 4 && Nat.beq ci 6)) then
          xset h q (.inl (t, n, .inr (.inr (.inr (.inr (va_up f x.toNatClampNeg (some (p + 1)))))))) (fun h' => some ((pc + len, lv, r, h', sl, fr), (([], cs) : xO))) else none
        | _ => none)
      | _ => none) = _
    rw [h1]
    show (match xnth h p with
        | some (.inr (ci, _)) => bif xin x 24 && ((Nat.beq 3 3 && Nat.beq ci 1) || (Nat.beq 3 4 && Nat.beq ci 6)) then
          xset h q (.inl (3, 24, .inr (.inr (.inr (.inr (va_up f x.toNatClampNeg (some (p + 1)))))))) (fun h' => some ((pc + len, lv, r, h', sl, fr), (([], cs) : xO))) else none
        | _ => none) = _
    rw [e1]
    show (bif xin x 24 && true then
          xset h q (.inl (3, 24, .inr (.inr (.inr (.inr (va_up f x.toNatClampNeg (some (p + 1)))))))) (fun h' => some ((pc + len, lv, r, h', sl, fr), (([], cs) : xO))) else none) = _
    rw [hin, xset_eq (xnth_lt h1), hx]
    rfl
  · by_cases hi : i = X.toNat
    · exact Or.inr ⟨p, by rw [hi]; exact va_up_self _ _ _, hv⟩
    · rw [va_up_ne _ _ hi]
      exact h2 i hi24
  · by_cases hi2 : i = X.toNat
    · rw [hi2, va_up_self]
      exact fun e => by cases e
    · rw [va_up_ne _ _ hi2]
      exact h3 i hi
end YA
/-- the types of what the two constructors make -/
def KS0 : List cT := [(18, 0), (17, 0), (3, 0), (1, 24), (14, 24), (1, 24), (14, 60), (1, 60), (2, 60), (14, 60), (1, 60), (17, 0), (3, 0), (1, 24), (14, 24), (1, 24), (14, 60), (1, 60), (2, 60), (14, 60), (1, 60), (15, 0), (10, 0), (2, 24), (1, 24), (13, 0), (14, 250), (1, 250), (14, 250), (1, 250), (14, 750), (1, 750), (14, 250), (1, 250), (14, 250), (1, 250), (14, 250), (1, 250), (14, 250), (1, 250), (9, 0), (1, 250), (4, 0), (1, 5), (16, 0), (2, 40), (16, 0), (2, 40), (16, 0), (2, 40), (16, 0), (2, 40), (16, 0), (2, 40), (16, 0), (2, 40), (16, 0), (2, 40), (16, 0), (2, 40), (19, 0), (5, 6918), (2, 24), (2, 60), (5, 6918), (2, 24), (2, 60), (6, 24), (1, 24), (1, 24), (1, 7), (5, 250), (1, 24), (5, 24), (2, 24), (1, 2000), (5, 8), (5, 8), (2, 320)]
/-- one number that is tracked is another -/
def us (σ : Nat → Nat → Int32) (q s : Nat) (v : Int32) : Nat → Nat → Int32 := fun p j => if p = q ∧ j = s then v else σ p j
theorem us_eq {σ : Nat → Nat → Int32} {q s : Nat} {v : Int32} : us σ q s v q s = v := if_pos ⟨rfl, rfl⟩
theorem us_ne {σ : Nat → Nat → Int32} {q s p j : Nat} {v : Int32} (h : ¬ (p = q ∧ j = s)) : us σ q s v p j = σ p j := if_neg h
theorem us_nq {σ : Nat → Nat → Int32} {q s p : Nat} {v : Int32} (h : p ≠ q) : us σ q s v p = σ p := funext (fun j => us_ne (fun e => h e.1))
theorem us_up {σ : Nat → Nat → Int32} {q s : Nat} {v : Int32} : us σ q s v q = upd (σ q) s v := funext (fun j => by
  unfold us upd
  by_cases h : j = s
  · simp [h]
  · simp [h])
section US
variable {ks : List cT} {σ σ' : Nat → Nat → Int32} {ρ : Nat → xE} {h : List xE} {q s : Nat} {t : cT} {e : xE} {v : Value} {c : Nat × cT} {x : Int32}
theorem vOK.sg (hs : σ q s = σ' q s) (hv : vOK ks σ q s c v) : vOK ks σ' q s c v := by
  obtain ⟨c1, c2⟩ := c
  match c1, hv with
  | 0, hv => exact hv
  | 1, hv => exact hv
  | 2, hv => exact hv
  | 3, hv => exact hv
  | 4, hv => exact hv
  | 5, hv => exact hv
  | 6, hv => exact hv
  | 7, hv =>
    obtain ⟨x, e, e2, e3⟩ := hv
    exact ⟨x, e, by rw [← hs]; exact e2, e3⟩
  | 8, hv => exact hv
theorem eOK.sg (hs : σ q = σ' q) (he : eOK ks σ ρ q t e) : eOK ks σ' ρ q t e := by
  unfold eOK at he ⊢
  split at he
  · obtain ⟨fs, e1, e2, e3⟩ := he
    refine ⟨fs, e1, e2, fun s hs' => ?_⟩
    obtain ⟨v, v1, v2⟩ := e3 s hs'
    exact ⟨v, v1, v2.sg (by rw [hs])⟩
  · split at he
    · exact he
    · exact he
    · exact he
    · rw [← hs]
      exact he
    · exact he
    · rw [← hs]
      exact he
    · rw [← hs]
      exact he
theorem HT.us (hT : HT ks σ ρ h) (ho : xnth ks q = some t) (he : eOK ks (us σ q s x) ρ q t e) : HT ks (us σ q s x) ρ (h.set q e) := by
  refine ⟨by rw [List.length_set]; exact hT.1, fun q' t' h' => ?_⟩
  by_cases hq : q = q'
  · subst hq
    rw [ho] at h'
    obtain rfl : t = t' := by injection h'
    exact ⟨e, xnth_set (by rw [hT.1]; exact xnth_lt ho), he⟩
  · obtain ⟨u, u1, u2⟩ := hT.2 q' t' h'
    exact ⟨u, by rw [xnth_set_ne hq]; exact u1, u2.sg (us_nq (fun e => hq e.symm)).symm⟩
end US
section YX
variable {L : Nat} {iv : List (Int × Int)} {M : xM} {F G pc pc' len a b : Nat} {ins : Instr} {lv lv' : xLv} {st st' : List Value} {h h' : List xE} {Q : yQ} {r : List Value} {x y : Int32} {X Y : Int} {ks : List cT} {σ : Nat → Nat → Int32} {ρ : Nat → xE} {q : Nat} {t : cT}
theorem yT.cg8 {i p n : Nat} (hf : xfet (xMt M) pc = some (.getfield i, len, a, b)) (hp : pc + len = pc') (hT : HT ks σ ρ h) (ho : xnth ks q = some t) (hg : (Nat.ble 9 t.1 && (Nat.beq (cCl t) a && Nat.blt b (cN t))) = true) (hk : fty t b = (8, p, n)) (k : FV h q a b (.ref (p + 1)) → yT L iv M F G pc' lv (.ref (p + 1) :: r) h Q) : yT L iv M F G pc lv (.ref (q + 1) :: r) h Q :=
  yT.cgf hf hp hT ho hg (fun v hv w => by
    rw [hk] at hv
    have hv : v = .ref (p + 1) := hv
    subst hv
    exact k w)
theorem yT.cpX {i m : Nat} {c : Int32} (hf : xfet (xMt M) pc = some (.putfield i, len, a, b)) (hp : pc + len = pc') (hT : HT ks σ ρ h) (ho : xnth ks q = some t) (hg : (Nat.ble 9 t.1 && (Nat.beq (cCl t) a && Nat.blt b (cN t))) = true) (hk : fty t b = (7, 0, m)) (hx : xfit (xTy a b) (.int x) = true) (px : x.toInt = X) (hX : 0 ≤ X ∧ X ≤ (m : Int)) (hc : x = c) (k : ∀ h', HT ks (us σ q b c) ρ h' → FV h' q a b (.int x) → (∀ q' a' b' v', Nat.beq b b' = false → FV h q' a' b' v' → FV h' q' a' b' v') → yT L iv M F G pc' lv r h' Q) : yT L iv M F G pc lv (.int x :: .ref (q + 1) :: r) h Q := by
  subst hc
  rw [Bool.and_eq_true, Bool.and_eq_true] at hg
  obtain ⟨h9, ha, hb⟩ := hg
  obtain ⟨fs, h1, h2, h3⟩ := hT.obj ho h9
  have ha' := Nat.eq_of_beq_eq_true ha
  have hb' : b < cN t := Nat.le_of_ble_eq_true hb
  have hq := xnth_lt h1
  rw [ha'] at h1
  have hbf : b < fs.length := by rw [h2]; exact hb'
  refine yT.pf h1 (Nat.ble_eq_true_of_le hbf) hx hf hp (k _ ?_ ?_ ?_)
  · refine hT.us ho ?_
    unfold eOK
    rw [h9]
    refine ⟨fs.set b (.int x), by rw [ha'], by rw [List.length_set]; exact h2, fun s hs => ?_⟩
    by_cases hbs : b = s
    · subst hbs
      refine ⟨_, xnth_set hbf, ?_⟩
      rw [hk]
      exact ⟨x, rfl, us_eq.symm, by rw [px]; exact hX.1, by rw [px]; exact hX.2⟩
    · rw [xnth_set_ne hbs]
      obtain ⟨v, v1, v2⟩ := h3 s hs
      exact ⟨v, v1, v2.sg (us_ne (fun e => hbs e.2.symm)).symm⟩
  · exact ⟨_, xnth_set hq, xnth_set hbf⟩
  · intro q' a' b' v' hn ⟨fs', e1, e2⟩
    by_cases hqq : q = q'
    · subst hqq
      rw [h1] at e1
      have e1 := Option.some.inj e1
      have e1 := Sum.inr.inj e1
      obtain ⟨rfl, rfl⟩ := Prod.mk.inj e1
      refine ⟨_, xnth_set hq, ?_⟩
      rw [xnth_set_ne (fun e => by subst e; rw [Nat.beq_refl] at hn; cases hn)]
      exact e2
    · exact ⟨fs', by rw [xnth_set_ne hqq]; exact e1, e2⟩
end YX
