/-! the words that a walk stands on -/
def xBig : List Cond := lw_tbl.filter goodWord
theorem xBig_wd {w : Cond} (h1 : w ∈ tables_1) (h2 : goodWord w = true) : w ∈ xBig := List.mem_filter.mpr ⟨List.mem_append_right _ h1, h2⟩
theorem xBig_of {p : Nat} {w : Cond} (h : xWd p w = true) : w ∈ xBig := by
  simp only [xWd, Bool.and_eq_true, decide_eq_true_eq] at h
  exact xBig_wd (List.mem_of_getElem? h.1) h.2
theorem xBig_good {ws : List Cond} (h : ∀ w ∈ ws, w ∈ xBig) : GoodIn xBig ws := fun w hw => ⟨h w hw, good_of_word (List.mem_filter.mp (h w hw)).2⟩
theorem xOI_in : Cond.instanceMethod Lib.objectInit ∈ xBig ∧ Cond.code Lib.objectInit ⟨#[0xb1]⟩ 1 none ∈ xBig := by
  have h := xOI_ok
  simp only [xOIok, Bool.and_eq_true, List.any_eq_true, decide_eq_true_eq] at h
  obtain ⟨⟨w, h1, rfl, h2⟩, ⟨u, h3, rfl, h4⟩⟩ := h
  exact ⟨xBig_wd h1 h2, xBig_wd h3 h4⟩
def xIsN (w : Cond) : Bool := match w with
  | .fieldLinkNest _ _ _ _ _ _ => true
  | .methodLinkNest _ _ _ _ => true
  | .arrayOver (.object _) => true
  | _ => false
def xNW (U : State) : Prop := ∀ w ∈ tables_1, xIsN w = true → w.before #[] U = true
theorem xNW.warm {s U : State} (hW : s.WarmedH U.vm) (h : xNW s) : xNW U := by
  intro w hw hn
  have h1 := h w hw hn
  unfold xIsN at hn
  split at hn
  · exact va_Nw.warmF hW h1
  · exact va_Nw.warmM hW h1
  · exact va_AO.moved hW.alike h1
  · cases hn
theorem xNW.same {s U : State} (hv : U.vm = s.vm) (h : xNW s) : xNW U := h.warm (by rw [hv]; exact State.WarmedH.refl s)
/-- what was true of the law's start, and stays so of what lies below o -/
def xOld (o : Nat) (U : State) : Prop := ∃ (U0 : State) (a : Array Value), (Jvm.Cond.and given_1 narrow_1).before a U0 = true ∧ (∀ w ∈ lw_tbl, w.before a U0 = true) ∧ U0.heap.size = o ∧ U0.WarmedH U.vm ∧ ∀ q : Nat, q < o → U.heap[q]? = U0.heap[q]?
def xNX (o : Nat) (U : State) : Prop := xNW U ∧ xOld o U
theorem xNX.go {o : Nat} {s U : State} (hW : s.WarmedH U.vm) (hh : ∀ q : Nat, q < o → U.heap[q]? = s.heap[q]?) (h : xNX o s) : xNX o U := by
  obtain ⟨h1, U0, a, h2, h3, h4, h5, h6⟩ := h
  exact ⟨h1.warm hW, U0, a, h2, h3, h4, State.WarmedH.trans h5 hW, fun q hq => (hh q hq).trans (h6 q hq)⟩
theorem xAA_in : Cond.arrayClass .int ∈ xBig ∧ Cond.arrayClass .long ∈ xBig ∧ Cond.arrayClass .byte ∈ xBig ∧ Cond.arrayOver (.object "PulledSignals$Cell") ∈ tables_1 ∧ Cond.arrayOver (.object "PulledSignals$Shelf") ∈ tables_1 := by
  have h := xAA_ok
  simp only [xAAok, Bool.and_eq_true, List.any_eq_true, decide_eq_true_eq] at h
  obtain ⟨⟨w1, h1, rfl⟩, ⟨w2, h2, rfl⟩, ⟨w3, h3, rfl⟩, ⟨w4, h4, rfl⟩, ⟨w5, h5, rfl⟩⟩ := h
  exact ⟨xBig_wd h1 rfl, xBig_wd h2 rfl, xBig_wd h3 rfl, h4, h5⟩
theorem xLok_at : ∀ (cl : List vw_C) (k : Nat), xLok k [] cl = true → ∀ (j : Nat) (q : vw_C), cl[j]? = some q → (∀ w ∈ u_ws q.1 q.2.1 q.2.2, w ∈ xBig) ∧ Cond.instantiable q.1 q.2.2 ∈ xBig ∧ Cond.initialized q.1 ∈ xBig
  | [], _, _, j, q, hj => by cases hj
  | q0 :: cl, k, h, j, q, hj => by
    unfold xLok at h
    simp only [Bool.and_eq_true] at h
    obtain ⟨h1, h2, h3, h4, h5⟩ := h
    cases j with
    | succ j => exact xLok_at cl (k + 1) h5 j q hj
    | zero =>
      cases hj
      refine ⟨fun w hw => ?_, xBig_of h3, xBig_of h4⟩
      have hlen : ((xLy[k]?).getD []).length = q0.2.2 := Nat.eq_of_beq_eq_true h2
      obtain ⟨i, hi, hiw⟩ := List.getElem_of_mem hw
      have hi2 : i < ((xLy[k]?).getD []).length := by
        rw [hlen]
        simpa [u_ws] using hi
      have hz : (w, ((xLy[k]?).getD [])[i]) ∈ (u_ws q0.1 q0.2.1 q0.2.2).zip ((xLy[k]?).getD []) := by
        rw [← hiw]
        exact List.mem_iff_getElem.mpr ⟨i, by simp only [List.length_zip]; omega, by simp⟩
      exact xBig_of (List.all_eq_true.mp h1 _ hz)
theorem xLy_at {ci : Nat} {q : vw_C} (h : vwCl[ci]? = some q) : (∀ w ∈ u_ws q.1 q.2.1 q.2.2, w ∈ xBig) ∧ Cond.instantiable q.1 q.2.2 ∈ xBig ∧ Cond.initialized q.1 ∈ xBig := xLok_at vwCl 0 xLy_ok ci q h
theorem xTy_at {ci : Nat} {q : vw_C} (h : vwCl[ci]? = some q) : (∀ k, k < q.2.2 → parseFieldDescriptor (q.2.1 k).2.2.1 = some (xTy ci k)) ∧ ∀ a, a < q.2.2 → ∀ b, b < q.2.2 → a ≠ b → (q.2.1 a).2.1 ≠ (q.2.1 b).2.1 := by
  match ci, h with
  | 0, h => cases h; exact ⟨tyX0_ok, nmX0⟩
  | 1, h => cases h; exact ⟨tyX1_ok, nmX1⟩
  | 2, h => cases h; exact ⟨tyX2_ok, nmX2⟩
  | 3, h => cases h; exact ⟨tyX3_ok, nmX3⟩
  | 4, h => cases h; exact ⟨tyX4_ok, nmX4⟩
  | 5, h => cases h; exact ⟨tyX5_ok, nmX5⟩
  | 6, h => cases h; exact ⟨tyX6_ok, nmX6⟩
  | 7, h => cases h; exact ⟨tyX7_ok, nmX7⟩
  | 8, h => cases h; exact ⟨tyX8_ok, nmX8⟩
  | 9, h => cases h; exact ⟨tyJ0_ok, nmJ0⟩
  | 10, h => cases h; exact ⟨tyJ4_ok, nmJ4⟩
  | n + 11, h => simp [vwCl] at h
def xTys (ca : Nat → ClassId) : List (ClassId × FieldType) := [(ca 0, .int), (ca 1, .long), (ca 2, .byte), (ca 3, .object "PulledSignals$Cell"), (ca 4, .object "PulledSignals$Shelf")]
theorem xTys_at (ca : Nat → ClassId) {t : Nat} (h : t < 5) : (xTys ca)[t]? = some (ca t, xEt t) := by
  match t, h with
  | 0, _ => rfl
  | 1, _ => rfl
  | 2, _ => rfl
  | 3, _ => rfl
  | 4, _ => rfl
/-- a method's start: the machine, its code, its tables' words, the script -/
def xCtx (p : Program) (s : State) (m : MethodId) (args : Array Value) (meth : Method) (c : Code) (D : va_G) (ca : Nat → ClassId) (b : Nat) (o : Nat → Nat) (ρ : Nat → Int32 × Int64) (L : Nat) (xs : Nat → Int32) (M : xM) (n0 : Nat) : Prop :=
  p.tables.exec = Jvm.exec ∧ c.code = xMc M ∧ c.maxLocals = xMn M ∧ s.vm.findClass (xRC (xMo M)) = some m.cls ∧ (∀ w ∈ xBig, w.before args s = true) ∧ xNX (o 0) s ∧ va_K D vwCl (xTys ca) s ∧ (L ≠ 0 → va_X b (L - 1) xs s s.heap) ∧ (b < o 0 ∧ xUp o) ∧ (∀ i, o (n0 + i) = s.heap.size + i) ∧ (xMk M = 2 → meth.name = "<init>")
def xAt (p : Program) (l : Launch) (e : Env) (R : Room) (s : State) (m : MethodId) (args : Array Value) (below : List Frame) (meth : Method) (c : Code) (Q : State → Prop) (D : va_G) (ca : Nat → ClassId) (b : Nat) (o : Nat → Nat) (ρ : Nat → Int32 × Int64) (M : xM) (n0 : Nat) (S : xS) : Prop :=
  ∀ (H : Heap) (locs : List Loc) (ls : Array Slot), va_P D vwCl (xWs b o ρ ca S.2.2.2.1) H → va_S (xA o) s.heap H locs → n0 ≤ S.2.2.2.1.length → lv_has ls (xMn M) (S.2.1.map (xSl b o ρ)) →
    W p l e R s m args below meth c H locs (S.2.2.2.1.length - n0) S.2.2.2.2.1 Q (F0 m S.1 ls (S.2.2.1.map (xSh b o ρ)))
def xFits (R : Room) (n0 : Nat) (S : xS) : Prop := S.2.2.2.1.length - n0 ≤ R.cells ∧ S.2.2.2.2.1 ≤ R.slots ∧ S.2.2.2.2.2 ≤ R.frames ∧ 41 * S.2.2.2.2.2 ≤ R.locals
def xMono (h : List xE) (sl fr : Nat) (O : xO) (S : xS) (O' : xO) : Prop := h.length ≤ S.2.2.2.1.length ∧ sl ≤ S.2.2.2.2.1 ∧ fr ≤ S.2.2.2.2.2 ∧ ∀ X ∈ O.2, X ∈ O'.2
theorem xMono.rf {h : List xE} {sl fr pc : Nat} {lv : xLv} {st : List Value} {O : xO} : xMono h sl fr O (pc, lv, st, h, sl, fr) O := ⟨Nat.le_refl _, Nat.le_refl _, Nat.le_refl _, fun _ h => h⟩
/-- a method's contract at these arguments and this heap -/
def xPc (D : va_G) (ca : Nat → ClassId) (b : Nat) (o : Nat → Nat) (ρ : Nat → Int32 × Int64) (as : List Value) (h : List xE) : Array Value → State → Prop := fun v U =>
  v = (as.map (xSh b o ρ)).toArray ∧ va_P D vwCl (xWs b o ρ ca h) U.heap ∧ (∀ i, o (h.length + i) = U.heap.size + i) ∧ va_K D vwCl (xTys ca) U ∧ (b < o 0 ∧ xUp o) ∧ xNX (o 0) U
def xQc (D : va_G) (ca : Nat → ClassId) (b : Nat) (o : Nat → Nat) (ρ : Nat → Int32 × Int64) (h' : List xE) (ret : Option Value) : Array Value → State → Outcome → State → Prop := fun _ st oc t =>
  oc = .returned (ret.map (xSh b o ρ)) ∧ va_P D vwCl (xWs b o ρ ca h') t.heap ∧ va_F (xA o) st t
def xws (M : xM) : List Cond := Cond.code (xMy M) (xMc M) (xMn M) (xMr M) :: xBig
def xMet (D : va_G) (ca : Nat → ClassId) (b : Nat) (o : Nat → Nat) (ρ : Nat → Int32 × Int64) (M : xM) (as : List Value) (h : List xE) (r : xR) : Prop :=
  ∀ l : Launch, Met l (xMy M) (xws M) { frames := r.2.2.2, cells := r.1.length - h.length, slots := r.2.2.1, locals := 41 * r.2.2.2 } (xPc D ca b o ρ as h) (xQc D ca b o ρ r.1 r.2.1) (r.1.length - h.length) r.2.2.1 (xA o)
def xCsnd (D : va_G) (ca : Nat → ClassId) (b : Nat) (o : Nat → Nat) (ρ : Nat → Int32 × Int64) (Ms : List xM) (C : xCT) : Prop :=
  ∀ (a : Nat) (M : xM) (as : List Value) (h : List xE) (O : xO) (r : xR) (O' : xO), Ms[a]? = some M → C a as h O = some (r, O') → (∀ X ∈ O.2, X ∈ O'.2) ∧ h.length ≤ r.1.length ∧ xMok M = true ∧ ((∀ X ∈ O'.2, X) → xMet D ca b o ρ M as h r)
theorem xPc.blind {D : va_G} {ca : Nat → ClassId} {b : Nat} {o : Nat → Nat} {ρ : Nat → Int32 × Int64} {as : List Value} {h : List xE} : FrameBlind (xPc D ca b o ρ as h) := by
  intro a U g mk ⟨q1, q2, q3, q4, q6, q7⟩
  exact ⟨q1, q2, q3, va_K.moved (u := U) (U := U.calling g mk a) (Vm.Alike.refl U.vm) q4, q6, ⟨xNW.same (s := U) (U := U.calling g mk a) rfl q7.1, q7.2⟩⟩
theorem xSize {D : va_G} {ca : Nat → ClassId} {b n0 : Nat} {o : Nat → Nat} {ρ : Nat → Int32 × Int64} {h : List xE} {s : State} {H : Heap} {locs : List Loc} (hP : va_P D vwCl (xWs b o ρ ca h) H) (hS : va_S (xA o) s.heap H locs) (hs : ∀ i, o (n0 + i) = s.heap.size + i) (hn : n0 ≤ h.length) (hu : H.size ≤ s.heap.size + (h.length - n0)) : ∀ i, o (h.length + i) = H.size + i := by
  have h1 : s.heap.size + (h.length - n0) ≤ H.size := by
    by_cases h0 : h.length = n0
    · have := hS.1
      omega
    · have hl : h.length - 1 < h.length := by omega
      obtain ⟨e, he⟩ : ∃ e, h[h.length - 1]? = some e := ⟨h[h.length - 1], List.getElem?_eq_getElem hl⟩
      have := (hP _ _ (xWs_get (b := b) (o := o) (ρ := ρ) (ca := ca) he)).lt
      have h2 : o (h.length - 1) < H.size := this
      have h3 := hs (h.length - 1 - n0)
      rw [show n0 + (h.length - 1 - n0) = h.length - 1 by omega] at h3
      omega
  intro i
  have h3 := hs (h.length - n0 + i)
  rw [show n0 + (h.length - n0 + i) = h.length + i by omega] at h3
  omega
theorem xA.of {o : Nat → Nat} {n0 q : Nat} {s : State} (hs : ∀ i, o (n0 + i) = s.heap.size + i) (h : s.heap.size ≤ q) : xA o q := ⟨n0 + (q - s.heap.size), by rw [hs]; omega⟩
theorem xBelow {o : Nat → Nat} {n0 a : Nat} {s : State} (hu : xUp o) (hs : ∀ i, o (n0 + i) = s.heap.size + i) (h : a < o 0) : a < s.heap.size ∧ ¬ xA o a := by
  have h1 := hs 0
  have h2 := hu.ge (n0 + 0)
  refine ⟨by omega, fun ⟨j, e⟩ => ?_⟩
  have := hu.ge j
  omega
section XC
variable {p : Program} {l : Launch} {e : Env} {R : Room} {s : State} {m : MethodId} {args : Array Value} {below : List Frame} {meth : Method} {c : Code} {Q : State → Prop} {D : va_G} {ca : Nat → ClassId} {b n0 : Nat} {o : Nat → Nat} {ρ : Nat → Int32 × Int64}
theorem xcalled {h' : List xE} {ret : Option Value} {H : Heap} {locs : List Loc} {cells slots mc ms : Nat} {pc : Nat} {ls : Array Slot} {st0 rest : List Value} {a : Array Value}
    (hr : va_Run p l e R s m args below meth c H locs cells slots mc ms (F0 m pc ls st0) rest (xQc D ca b o ρ h' ret a) (xA o)) (hS : va_S (xA o) s.heap H locs)
    (kk : ∀ (H1 : Heap) (locs1 : List Loc), va_P D vwCl (xWs b o ρ ca h') H1 → va_S (xA o) s.heap H1 locs1 → W p l e R s m args below meth c H1 locs1 (cells + mc) (slots + ms) Q (F0 m (pc + 3) ls ((ret.map (xSh b o ρ)).toList ++ rest))) :
    W p l e R s m args below meth c H locs cells slots Q (F0 m pc ls st0) := by
  intro T hT X
  obtain ⟨v, st0', t, T', L', h0, X', hL, e1, e2, ⟨hv, hp, hz, hk⟩, st⟩ := hr T hT X
  cases hv
  rw [h0] at hz hk
  obtain ⟨t2, a1, b1⟩ := kk T'.heap (locs ++ L') (by rw [e1]; exact hp) ⟨Nat.le_trans hS.1 (by rw [e1]; exact hz), fun q h1 h2 => by rw [e1, hk q (Nat.lt_of_lt_of_le h1 hS.1) h2]; exact hS.2.1 q h1 h2, fun q hq => by
    rcases List.mem_append.mp hq with h | h
    · exact hS.2.2 q h
    · exact hL q h⟩ T' rfl X'
  exact ⟨t2, st t2 a1, b1⟩
end XC
