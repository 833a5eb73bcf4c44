/-! the walk's heap as cells of the machine: number 0 is the script (at b), number k + 1 the cell at o + k -/
def xAd (b o : Nat) : Nat → Nat
  | 0 => b
  | k + 1 => o + k
def xSh (b o : Nat) (v : Value) : Value := match v with
  | .ref k => .ref (xAd b o k)
  | w => w
def xSl (b o : Nat) (q : Nat × Value) : Nat × Value := (q.1, xSh b o q.2)
def xVA (b o : Nat) (a : vp_A) : vp_A := match a with
  | (n, .inr (.inr (.inr (.inr f)))) => (n, .inr (.inr (.inr (.inr (fun j => (f j).map (xAd b o))))))
  | (n, .inl f) => (n, .inl f)
  | (n, .inr (.inl f)) => (n, .inr (.inl f))
  | (n, .inr (.inr (.inl f))) => (n, .inr (.inr (.inl f)))
  | (n, .inr (.inr (.inr (.inl f)))) => (n, .inr (.inr (.inr (.inl f))))
def xCv (b o : Nat) (ca : Nat → ClassId) (e : xE) : va_E := match e with
  | .inl (t, a) => .inl (ca t, xVA b o a)
  | .inr (ci, fs) => .inr (ci, fs.map (xSh b o))
def xWs (b o : Nat) (ca : Nat → ClassId) (h : List xE) : va_W := h.mapIdx (fun k e => (o + k, xCv b o ca e))
theorem xSh_cat (b o : Nat) (v : Value) : (xSh b o v).category = v.category := by cases v <;> rfl
theorem xSh_rf (b o : Nat) (r : Option Nat) : xSh b o (va_rf r) = va_rf (r.map (xAd b o)) := by cases r <;> rfl
theorem xWs_get {b o : Nat} {ca : Nat → ClassId} {h : List xE} {q : Nat} {e : xE} (hq : h[q]? = some e) : (xWs b o ca h)[q]? = some (o + q, xCv b o ca e) := by
  simp [xWs, List.getElem?_mapIdx, hq]
theorem xWs_len {b o : Nat} {ca : Nat → ClassId} {h : List xE} : (xWs b o ca h).length = h.length := by simp [xWs]
theorem xWs_at {b o : Nat} {ca : Nat → ClassId} {h : List xE} {k : Nat} {q : Nat × va_E} (hq : (xWs b o ca h)[k]? = some q) : ∃ e, h[k]? = some e ∧ q = (o + k, xCv b o ca e) := by
  simp only [xWs, List.getElem?_mapIdx] at hq
  cases he : h[k]? with
  | none => rw [he] at hq; cases hq
  | some e =>
    rw [he] at hq
    exact ⟨e, rfl, (Option.some.inj hq).symm⟩
theorem xWs_set {b o : Nat} {ca : Nat → ClassId} {h : List xE} {q : Nat} {e : xE} : (xWs b o ca h).set q (o + q, xCv b o ca e) = xWs b o ca (h.set q e) := by
  apply List.ext_getElem?
  intro i
  simp only [xWs, List.getElem?_mapIdx, List.getElem?_set, List.length_mapIdx]
  by_cases hi : q = i
  · subst hi
    by_cases hl : q < h.length
    · simp [hl]
    · simp [hl]
  · simp [hi]
theorem xWs_app {b o : Nat} {ca : Nat → ClassId} {h : List xE} {e : xE} : xWs b o ca h ++ [(o + h.length, xCv b o ca e)] = xWs b o ca (h ++ [e]) := by
  apply List.ext_getElem?
  intro i
  by_cases hi : i < h.length
  · rw [List.getElem?_append_left (by rw [xWs_len]; exact hi)]
    simp only [xWs, List.getElem?_mapIdx]
    rw [List.getElem?_append_left hi]
  · rw [List.getElem?_append_right (by rw [xWs_len]; omega), xWs_len]
    simp only [xWs, List.getElem?_mapIdx]
    rw [List.getElem?_append_right (by omega)]
    by_cases h0 : i = h.length
    · subst h0
      simp
    · have : ∃ k, i - h.length = k + 1 := ⟨i - h.length - 1, by omega⟩
      obtain ⟨k, hk⟩ := this
      rw [hk]
      simp
theorem xWs_D {b o : Nat} {ca : Nat → ClassId} {h : List xE} : va_D (fun q : Nat => o ≤ q) (xWs b o ca h) := by
  refine ⟨fun i j p q hi hj hpq => ?_, fun k q hk => ?_⟩
  · obtain ⟨e, -, rfl⟩ := xWs_at hi
    obtain ⟨f, -, rfl⟩ := xWs_at hj
    have : o + i = o + j := hpq
    omega
  · obtain ⟨e, -, rfl⟩ := xWs_at hk
    exact Nat.le_add_right o k
theorem xset_some {α β : Type} : ∀ {l : List α} {i : Nat} {a : α} {k : List α → Option β} {z : β}, xset l i a k = some z → i < l.length ∧ k (l.set i a) = some z
  | [], _, _, _, _, h => by simp [xset] at h
  | _ :: l, 0, a, k, z, h => ⟨by simp, h⟩
  | b :: l, i + 1, a, k, z, h => by
    obtain ⟨h1, h2⟩ := xset_some (l := l) (i := i) (a := a) (k := fun l' => k (b :: l')) h
    exact ⟨by simpa using h1, h2⟩
theorem xapp_eq {α β : Type} : ∀ (l : List α) (a : α) (k : List α → Option β), xapp l a k = k (l ++ [a])
  | [], _, _ => rfl
  | b :: l, a, k => xapp_eq l a (fun l' => k (b :: l'))
theorem xif_some {β : Type} {P : Prop} [Decidable P] {O : xO} {k : Bool → xO → Option β} {z : β} (h : xif P O k = some z) :
    ∃ (v : Bool) (O' : xO), k v O' = some z ∧ (∀ X ∈ O.2, X ∈ O'.2) ∧ ((∀ X ∈ O'.2, X) → (v = true ↔ P)) := by
  unfold xif at h
  split at h
  · exact ⟨_, _, h, fun X hX => hX, fun _ => decide_eq_true_iff⟩
  · rename_i v r cs
    cases v with
    | true => exact ⟨true, _, h, fun X hX => List.mem_cons_of_mem _ hX, fun hA => ⟨fun _ => hA P List.mem_cons_self, fun _ => rfl⟩⟩
    | false => exact ⟨false, _, h, fun X hX => List.mem_cons_of_mem _ hX, fun hA => ⟨fun q => (by cases q), fun hP => absurd hP (hA (¬ P) List.mem_cons_self)⟩⟩
  · exact ⟨_, _, h, fun X hX => hX, fun _ => decide_eq_true_iff⟩
theorem xi1_some {β : Type} {st : List Value} {k : Int32 → List Value → Option β} {z : β} (h : xi1 st k = some z) : ∃ x r, st = .int x :: r ∧ k x r = some z := by
  unfold xi1 at h
  split at h
  · exact ⟨_, _, rfl, h⟩
  · cases h
theorem xi2_some {β : Type} {st : List Value} {k : Int32 → Int32 → List Value → Option β} {z : β} (h : xi2 st k = some z) : ∃ x y r, st = .int y :: .int x :: r ∧ k x y r = some z := by
  unfold xi2 at h
  split at h
  · exact ⟨_, _, _, rfl, h⟩
  · cases h
theorem xl1_some {β : Type} {st : List Value} {k : Int64 → List Value → Option β} {z : β} (h : xl1 st k = some z) : ∃ x r, st = .long x :: r ∧ k x r = some z := by
  unfold xl1 at h
  split at h
  · exact ⟨_, _, rfl, h⟩
  · cases h
theorem xl2_some {β : Type} {st : List Value} {k : Int64 → Int64 → List Value → Option β} {z : β} (h : xl2 st k = some z) : ∃ x y r, st = .long y :: .long x :: r ∧ k x y r = some z := by
  unfold xl2 at h
  split at h
  · exact ⟨_, _, _, rfl, h⟩
  · cases h
theorem xil_some {β : Type} {st : List Value} {k : Int64 → Int32 → List Value → Option β} {z : β} (h : xil st k = some z) : ∃ x y r, st = .int y :: .long x :: r ∧ k x y r = some z := by
  unfold xil at h
  split at h
  · exact ⟨_, _, _, rfl, h⟩
  · cases h
theorem xbif {β : Type} {c : Bool} {x : Option β} {z : β} (h : (bif c then x else none) = some z) : c = true ∧ x = some z := by
  cases c with
  | true => exact ⟨rfl, h⟩
  | false => cases h
theorem xbifn {β : Type} {c : Bool} {x : Option β} {z : β} (h : (bif c then none else x) = some z) : c = false ∧ x = some z := by
  cases c with
  | true => cases h
  | false => exact ⟨rfl, h⟩
theorem xin_iff {i : Int32} {n : Nat} (h : xin i n = true) : vp_in i n := by
  unfold xin at h
  simp only [Bool.and_eq_true, Bool.not_eq_true', decide_eq_false_iff_not] at h
  rintro (q | q)
  · exact h.1 q
  · have := Nat.ble_eq_true_of_le q
    rw [this] at h
    exact absurd h.2 (by decide)
theorem xpop_some : ∀ {n : Nat} {acc st as r : List Value}, xpop n acc st = some (as, r) → ∃ vs, vs.length = n ∧ st = vs ++ r ∧ as = vs.reverse ++ acc
  | 0, acc, st, as, r, h => by
    cases h
    exact ⟨[], rfl, rfl, rfl⟩
  | n + 1, acc, [], as, r, h => by cases h
  | n + 1, acc, v :: st, as, r, h => by
    obtain ⟨vs, h1, h2, h3⟩ := xpop_some (n := n) (acc := v :: acc) (st := st) h
    exact ⟨v :: vs, by simp [h1], by simp [h2], by simp [h3]⟩
theorem xcat_map (b o : Nat) : ∀ r : List Value, ((r.map (xSh b o)).map fun v => v.category).sum = xcat r
  | [] => rfl
  | v :: r => by
    have := xcat_map b o r
    simp only [List.map_cons, List.sum_cons, xcat, xSh_cat, this]
theorem xget_mem {b o : Nat} {v : Value} : ∀ {lv : xLv} {i : Nat}, xget lv i = some v → (i, xSh b o v) ∈ lv.map (xSl b o)
  | [], _, h => by cases h
  | q :: l, i, h => by
    unfold xget at h
    cases hq : Nat.beq q.1 i with
    | true =>
      rw [hq] at h
      have e1 : q.1 = i := Nat.eq_of_beq_eq_true hq
      have e2 : q.2 = v := Option.some.inj h
      simp [xSl, e1, e2]
    | false =>
      rw [hq] at h
      exact List.mem_cons_of_mem _ (xget_mem h)
theorem xget_at {b o nL : Nat} {ls : Array Slot} {lv : xLv} {i : Nat} {v : Value} (hl : lv_has ls nL (lv.map (xSl b o))) (h : xget lv i = some v) : ls[i]? = some (.val (xSh b o v)) := hl.2.2 (i, xSh b o v) (xget_mem h)
theorem xget_k {b o : Nat} {lv : xLv} {i : Nat} {v : Value} (h : xget lv i = some v) : ∃ k : Nat, (lv.map (xSl b o))[k]? = some (i, xSh b o v) := List.getElem?_of_mem (xget_mem h)
theorem xst1_map (b o : Nat) (lv : xLv) (i : Nat) (v : Value) : (i, xSh b o v) :: (lv.map (xSl b o)).filter (fun q => !(q.1 == i) && !(q.1 + 1 == i && q.2.category == 2)) = (xst1 lv i v).map (xSl b o) := by
  simp only [xst1, List.map_cons, List.filter_map]
  congr 2
  apply List.filter_congr
  intro q _
  simp [xSl, xSh_cat]
theorem xst2_map (b o : Nat) (lv : xLv) (i : Nat) (v : Value) : (i, xSh b o v) :: (lv.map (xSl b o)).filter (fun q => !(q.1 == i) && (!(q.1 == i + 1) && !(q.1 + 1 == i && q.2.category == 2))) = (xst2 lv i v).map (xSl b o) := by
  simp only [xst2, List.map_cons, List.filter_map]
  congr 2
  apply List.filter_congr
  intro q _
  simp [xSl, xSh_cat]
theorem xjmp_some {pc t : Nat} {off : Int} (h : xjmp pc off = some t) : (pc : Int) + off = (t : Int) := by
  unfold xjmp at h
  split at h
  · rename_i u hu
    cases h
    exact hu
  · cases h
theorem xargs_map (b o : Nat) : ∀ (as : List Value) (i : Nat), (lv_args i as).map (xSl b o) = lv_args i (as.map (xSh b o))
  | [], _ => rfl
  | v :: as, i => by
    simp only [lv_args, List.map_cons, xSh_cat]
    rw [xargs_map b o as]
    rfl
theorem xsl_len (b o : Nat) : ∀ as : List Value, (lg_sl (as.map (xSh b o))).length = xcat as
  | [] => rfl
  | v :: as => by
    have := xsl_len b o as
    unfold lg_sl at this ⊢
    simp only [List.map_cons, List.flatMap_cons, List.length_append, xSh_cat, xcat, this]
    rcases lv_cat v with hv | hv <;> simp [hv]
theorem xfit_ok {ty : FieldType} {v : Value} (b o : Nat) (h : xfit ty v = true) : narrow ty (xSh b o v) = xSh b o v ∧ fits ty (xSh b o v) = true := by
  unfold xfit at h
  split at h
  · exact ⟨rfl, rfl⟩
  · exact ⟨rfl, rfl⟩
  · rename_i x
    simp only [Bool.or_eq_true, decide_eq_true_eq] at h
    rcases h with rfl | rfl
    · exact ⟨show narrow .boolean (.int 0) = .int 0 by decide, show fits .boolean (.int 0) = true by decide⟩
    · exact ⟨show narrow .boolean (.int 1) = .int 1 by decide, show fits .boolean (.int 1) = true by decide⟩
  · exact ⟨rfl, rfl⟩
  · exact ⟨rfl, rfl⟩
  · exact ⟨rfl, rfl⟩
  · exact ⟨rfl, rfl⟩
  · cases h
theorem xDf_ok (ci N : Nat) : ∀ j, j < N → defaultValue (xTy ci j) = vp_V ((xDf ci N).map (xSh 0 0)) j ∧ (xDf ci N)[j]? = some (defaultValue (xTy ci j)) := by
  intro j hj
  have h1 : (xDf ci N)[j]? = some (defaultValue (xTy ci j)) := by simp [xDf, hj]
  refine ⟨?_, h1⟩
  unfold vp_V
  rw [List.getD_eq_getElem?_getD, List.getElem?_map, h1]
  cases xTy ci j <;> rfl
theorem xDf_map (b o ci N : Nat) : (xDf ci N).map (xSh b o) = xDf ci N := by
  unfold xDf
  rw [List.map_map]
  apply List.map_congr_left
  intro j _
  show xSh b o (defaultValue (xTy ci j)) = _
  cases xTy ci j <;> rfl
