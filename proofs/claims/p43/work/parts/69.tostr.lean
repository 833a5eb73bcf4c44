/-! bundles of words, out of the tables; a builder as the library has it; toString -/
section TW
variable {o : Nat} {s : State} {args : Array Value}
def inT (w : Cond) : Bool := tables_1.any (fun v => decide (v = w) && goodWord v)
def codeIn (y : MethodName) : Bool := tables_1.any (fun v => match v with
  | .code y' _ _ _ => decide (y' = y) && goodWord v
  | _ => false)
def instIn (C : String) : Bool := tables_1.any (fun v => match v with
  | .instantiable C' _ => decide (C' = C) && goodWord v
  | _ => false)
def leafOk (w : Cond) : Bool := match w with
  | .declares y => codeIn y && inT (.instanceMethod y)
  | .sameMethod a b n d => (decide (a = b) && (codeIn ⟨a, n, d⟩ && (instIn a && (!decide (a = "java/lang/invoke/MethodHandle") && !decide (a = "java/lang/invoke/VarHandle"))))) || inT (.sameMethod a b n d)
  | .tt => true
  | w => inT w
theorem inT_ok {w : Cond} (h : inT w = true) (hts : ∀ w ∈ xBig, w.before args s = true) : w.before args s = true := hts _ (wIn h)
theorem codeIn_ok {y : MethodName} (h : codeIn y = true) : ∃ b n r, Cond.code y b n r ∈ xBig := by
  unfold codeIn at h
  rw [List.any_eq_true] at h
  obtain ⟨v, hv, h⟩ := h
  split at h
  · rename_i y' b n r
    rw [Bool.and_eq_true, decide_eq_true_eq] at h
    obtain ⟨rfl, h2⟩ := h
    exact ⟨b, n, r, xBig_wd hv h2⟩
  · cases h
theorem instIn_ok {C : String} (h : instIn C = true) : ∃ n, Cond.instantiable C n ∈ xBig := by
  unfold instIn at h
  rw [List.any_eq_true] at h
  obtain ⟨v, hv, h⟩ := h
  split at h
  · rename_i C' n
    rw [Bool.and_eq_true, decide_eq_true_eq] at h
    obtain ⟨rfl, h2⟩ := h
    exact ⟨n, xBig_wd hv h2⟩
  · cases h
theorem leaf_ok {w : Cond} (h : leafOk w = true) (hts : ∀ w ∈ xBig, w.before args s = true) : w.before args s = true := by
  unfold leafOk at h
  split at h
  · rename_i y
    rw [Bool.and_eq_true] at h
    obtain ⟨b, n, r, hc⟩ := codeIn_ok h.1
    exact wDecls (hts _ hc) (inT_ok h.2 hts)
  · rename_i a b n d
    rw [Bool.or_eq_true] at h
    rcases h with h | h
    · simp only [Bool.and_eq_true, decide_eq_true_eq, Bool.not_eq_true', decide_eq_false_iff_not] at h
      obtain ⟨rfl, h1, h2, h3, h4⟩ := h
      obtain ⟨by1, k, r, hc⟩ := codeIn_ok h1
      obtain ⟨N, hi⟩ := instIn_ok h2
      exact wSame (y := ⟨a, n, d⟩) (hts _ hc) (hts _ hi) ⟨h3, h4⟩
    · exact inT_ok h hts
  · rfl
  · exact inT_ok h hts
theorem tab_of (hts : ∀ w ∈ xBig, w.before args s = true) (T : Jvm.Cond) : (flatC T).all leafOk = true → T.before args s = true := by
  induction T with
  | and a b iha ihb =>
    intro h
    simp only [flatC, List.all_append, Bool.and_eq_true] at h
    rw [Cond.before_and, Bool.and_eq_true]
    exact ⟨iha h.1, ihb h.2⟩
  | _ =>
    intro h
    simp only [flatC, List.all_cons, List.all_nil, Bool.and_true] at h
    exact leaf_ok h hts
theorem tsR_ok : (flatC Jvm.Free.SB.SBToString.tab).all leafOk = true := by decide +kernel
theorem tsF_ok : (flatC Jvm.Free.SB.SBToStringF.tab).all leafOk = true := by decide +kernel
theorem strLays_ok (hN : xNX o s) (hts : ∀ w ∈ xBig, w.before args s = true) : ∀ w ∈ Jvm.Free.SBG.strLays, w.before args s = true := by
  intro w hw
  simp only [Jvm.Free.SBG.strLays, List.mem_cons, List.not_mem_nil, or_false] at hw
  rcases hw with rfl | rfl | rfl | rfl | rfl
  · exact hts _ (wIn (by decide +kernel))
  · exact hts _ (wIn (by decide +kernel))
  · have h5 : (Cond.instantiable "java/lang/String" 4).before args s = true := hts _ (wIn (by decide +kernel))
    obtain ⟨c, k, h1, -⟩ := Cond.instantiable_spec h5
    have h1 : s.vm.findClass Jvm.Free.SB.STR = some c := h1
    simp [Cond.before, Cond.holds, Cond.value, h1, va_asg]
  · exact jW hN (by decide +kernel) (by decide +kernel)
  · exact hts _ (wIn (by decide +kernel))
end TW
section BO
variable {D : va_G} {ca : Nat → ClassId} {o b da n st : Nat} {ml : Int32} {f : Nat → Int32} {s : State} {args : Array Value} {H : Heap}
/-- a builder of ours as the library has it -/
theorem bdOf (hts : ∀ w ∈ xBig, w.before args s = true) (hK : va_K D vwCl (xTys ca) s) (hP : va_P D vwCl (wB ca b da ml n f) H) (hf : ∀ j, fits .byte (.int (f j)) = true) (hn : n ≤ 16) (hne : b ≠ da) (hst : Jvm.Free.SB.CompactAt s st 1) (hH : ∀ c, s.heap[st]? = some c → H[st]? = some c) (hbst : b ≠ st) (hdst : da ≠ st) :
    ∃ (x : Jvm.Free.SBG.Fix) (bC Ar : Cell), x.b = b ∧ (∀ i, i < 16 → Ar.slots[i]? = some (.int (f i))) ∧ Ar.slots.size = 16 ∧ ∀ U : State, s.vm.Alike U.vm → U.heap = H → Jvm.Free.SBG.Bd x bC da Ar n U := by
  have wV : (Cond.lays "java/lang/StringBuilder" "java/lang/AbstractStringBuilder" "value" "[B").before args s = true := hts _ (wIn (by decide +kernel))
  have wC : (Cond.lays "java/lang/StringBuilder" "java/lang/AbstractStringBuilder" "coder" "B").before args s = true := hts _ (wIn (by decide +kernel))
  have wN : (Cond.lays "java/lang/StringBuilder" "java/lang/AbstractStringBuilder" "count" "I").before args s = true := hts _ (wIn (by decide +kernel))
  obtain ⟨hSl, hfc, kC, hkC, hkind⟩ := hK.1 10 (RJ4, TJ4, 4) rfl
  have hfc : s.vm.findClass "java/lang/StringBuilder" = some (D.1 10) := hfc
  obtain ⟨c1, k1, cV, kV, iV, fV, r1, r2, hiV, hstV, -, hcastV, -⟩ := Cond.lays_spec wV
  cases hfc.symm.trans r1
  obtain ⟨c2, k2, cO, kO, iO, fC, r3, r4, hiC, hstC, -, hcastC, -⟩ := Cond.lays_spec wC
  cases hfc.symm.trans r3
  obtain ⟨c3, k3, cN, kN, iN, fN, r5, r6, hiN, hstN, -, hcastN, -⟩ := Cond.lays_spec wN
  cases hfc.symm.trans r5
  obtain ⟨r, h1, bC, q1, q2, q3, q4⟩ := hP 0 _ rfl
  obtain rfl : r = (RJ4, TJ4, 4) := Option.some.inj (h1.symm.trans cl10)
  obtain ⟨_, _, _, _, s0, e0⟩ := hSl 0 (by decide)
  obtain ⟨_, _, _, _, s1, e1⟩ := hSl 1 (by decide)
  obtain ⟨_, _, _, _, s3, e3⟩ := hSl 3 (by decide)
  have s0 : s.fieldFound? "java/lang/AbstractStringBuilder" "value" "[B" = _ := s0
  have s1 : s.fieldFound? "java/lang/AbstractStringBuilder" "coder" "B" = _ := s1
  have s3 : s.fieldFound? "java/lang/AbstractStringBuilder" "count" "I" = _ := s3
  cases hiV.symm.trans s0
  cases hiC.symm.trans s1
  cases hiN.symm.trans s3
  have g0 : bC.slots[fV.slot]? = some (.ref da) := by
    rw [e0]
    exact q4 0 (Nat.le_of_ble_eq_true rfl)
  have g1 : bC.slots[fC.slot]? = some (.int 0) := by
    rw [e1]
    exact q4 1 (Nat.le_of_ble_eq_true rfl)
  have g3 : bC.slots[fN.slot]? = some (.int (Int32.ofNat n)) := by
    rw [e3]
    exact q4 3 (Nat.le_of_ble_eq_true rfl)
  have hA : H[da]? = some (arrV (ca 2) 16 (fun j => .int (f j))) := hP 1 _ rfl
  have hArr : s.isArrayOf (arrV (ca 2) 16 (fun j => .int (f j))) .byte := (hK.2 2 _ rfl).1 16 (fun j => .int (f j))
  have hBn : s.vm.findClass "[B" = some (ca 2) := (hK.2 2 _ rfl).2
  have hsz : (arrV (ca 2) 16 (fun j => .int (f j))).slots.size = 16 := arrV_size _ _ _
  have hrd : ∀ i, i < 16 → (arrV (ca 2) 16 (fun j => .int (f j))).slots[i]? = some (.int (f i)) := fun i hi => arrV_read _ _ hi
  have dB : parseFieldDescriptor "[B" = some (.array .byte) := tyJ4_ok 0 (by decide)
  have dI : parseFieldDescriptor "I" = some .int := tyJ4_ok 3 (by decide)
  refine ⟨⟨b, fV, fC, fN, ca 2, D.1 10, st, 1⟩, bC, arrV (ca 2) 16 (fun j => .int (f j)), rfl, hrd, hsz, fun U hal hU => ?_⟩
  obtain ⟨kU, hkU, -⟩ := hal.2.2 _ _ hkC
  have nmV : fV.name = "value" := (State.fieldFound?_type hiV dB).1
  have nmN : fN.name = "count" := (State.fieldFound?_type hiN dI).1
  have nmC : fC.name = "coder" := (State.fieldFound?_type hiC (tyJ4_ok 1 (by decide))).1
  refine ⟨⟨by rw [hU]; exact q1, (fun h => by rw [q3] at h; cases h), by rw [q3]; rfl, Jvm.Free.SBG.found_only hal ⟨_, _, _, hiV⟩, Jvm.Free.SBG.found_only hal ⟨_, _, _, hiC⟩, Jvm.Free.SBG.found_only hal ⟨_, _, _, hiN⟩, hstV, hstC, hstN, g0, g1, g3, by rw [hU]; exact hA, State.isArrayOf_alike hal hArr, (fun h => by cases h), by rw [hal.findClass]; exact hBn, by rw [hsz]; exact hn, by rw [hsz]; decide, hne⟩,
    by rw [hal.findClass]; exact hfc, q2, ⟨kU, hkU⟩, Jvm.Free.SBG.compact_carry hal (fun c hc => by rw [hU]; exact hH c hc) hst, (show (1 : Int32) ≠ 0 by decide), hbst, hdst, Jvm.Free.SBG.found_asg hal ⟨_, _, _, hiV, by rw [q2]; exact hcastV⟩, Jvm.Free.SBG.found_asg hal ⟨_, _, _, hiC, by rw [q2]; exact hcastC⟩,
    (Array.getElem?_eq_some_iff.mp g3).1, fun w => ?_, (Array.getElem?_eq_some_iff.mp g0).1, fun r => ?_, ?_, ?_, ?_, fun i hi => ?_, by rw [hsz]; decide⟩
  · rw [q2, q3, Jvm.Free.SBG.fits_alike hal]
    exact (u_fits hfc hkC hkind (Or.inl wN) hiN dI rfl rfl).2
  · rw [q2, q3, Jvm.Free.SBG.fits_alike hal]
    exact (u_fits hfc hkC hkind (Or.inl wV) hiV dB rfl rfl).2
  · exact u_apart (Or.inl wV) (Or.inl wN) hiV hiN (by rw [nmV, nmN]; decide)
  · exact u_apart (Or.inl wV) (Or.inl wC) hiV hiC (by rw [nmV, nmC]; decide)
  · exact u_apart (Or.inl wC) (Or.inl wN) hiC hiN (by rw [nmC, nmN]; decide)
  · rw [hsz] at hi
    rw [Jvm.Free.SBG.getD_of (hrd i hi)]
    exact hf i
end BO
