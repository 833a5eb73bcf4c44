/-! what xBt answers -/
section XBS
variable {D : va_G} {ca : Nat → ClassId} {b o : Nat} {ρ : Nat → Int32 × Int64}
theorem xMet_0 {M : xM} {as : List Value} {h : List xE} {r : xR} (hok : xMok M = true) (hcat : xcat as ≤ xMn M)
    (k : ∀ (p : Program) (l : Launch) (e : Env) (s : State) (m : MethodId) (args : Array Value) (below : List Frame) (meth : Method) (c : Code) (ls : Array Slot) (X : xCtx p s m args meth c D ca b o ρ 0 (fun _ => 0) M h.length) (hret : meth.sig.returnType = xMr M) (hlk : meth.locks = false)
      (hP : va_P D vwCl (xWs b o ρ ca h) s.heap) (hls : lv_has ls (xMn M) ((lv_args 0 as).map (xSl b o ρ))),
      W p l e { frames := r.2.2.2, cells := r.1.length - h.length, slots := r.2.2.1, locals := 41 * r.2.2.2 } s m args below meth c s.heap [] 0 0 (MQ below (xQc D ca b o ρ r.1 r.2.1) args s (r.1.length - h.length) r.2.2.1 (fun q => o ≤ q)) (F0 m 0 ls [])) : xMet D ca b o ρ M as h r := by
  intro l
  obtain ⟨-, g2, g3, g4, g5, g6, g7⟩ := xMok_all hok
  refine Met.ofW (cc := xMc M) (maxL := xMn M) (ret := xMr M) g5 rfl ?_
  intro p e s m args below meth c s₁ B hml hv
  obtain ⟨q1, q2, q3, q4, q6, q7⟩ := hv
  have hts : ∀ w ∈ xws M, w.before args s = true := atoms_spec (ws := xws M) B.pre
  have X : xCtx p s m args meth c D ca b o ρ 0 (fun _ => 0) M h.length := by
    refine ⟨B.exec, B.bytes, hml, ?_, fun w hw => hts w (List.mem_cons_of_mem _ hw), q7, q4, fun q => absurd rfl q, q6, q3, fun hk => ?_⟩
    · rw [g7]
      exact findClass_of_methodNamed B.named
    · exact (name_of_methodNamed B.named B.method).1.trans (xMok_I hok hk).2.1
  have h2 := k p l e s m args below meth c ((lg_sl (as.map (xSh b o ρ)) ++ List.replicate (xMn M - (lg_sl (as.map (xSh b o ρ))).length) Slot.unset).toArray) X B.returns B.notSynchronized q2 (by
    have := lv_entry (as.map (xSh b o ρ)) (n := xMn M) (by rw [xsl_len]; exact hcat)
    rw [← xargs_map] at this
    exact this)
  rw [q1, lg_entry_eq]
  rw [q1] at h2
  exact h2
theorem xeqI {args : Array Value} {s : State} {t : Term} {n : Int32} (h : (Cond.eq t (.int n)).before args s = true) : t.eval args s none [] s = some (.int n) := by
  simp only [Cond.before, Cond.holds, Cond.value] at h
  cases ht : t.eval args s none [] s with
  | none => simp [ht] at h
  | some v => cases v <;> simp [ht, Term.eval] at h ⊢ <;> exact h
theorem xSig {args : Array Value} {s : State} {y : MethodName} {bytes : ByteArray} {n : Nat} {ret : Option FieldType} (h : (Cond.code y bytes n ret).before args s = true) : Cold.Sig s y := by
  obtain ⟨mk, hn⟩ := Cond.code_named h
  obtain ⟨meth, c, h1, -, -, -, -, -, -, hs⟩ := Cond.code_spec hn h
  exact ⟨mk, meth, hn, h1, hs⟩
theorem xDecls {args args' : Array Value} {s : State} {y : MethodName} {bytes : ByteArray} {n : Nat} {ret : Option FieldType} (h : (Cond.code y bytes n ret).before args s = true) (hi : (Cond.instanceMethod y).before args s = true) : (Cond.declares y).before args' s = true := by
  obtain ⟨mk, hn⟩ := Cond.code_named h
  obtain ⟨meth, c, h1, -, -, -, -, -, -, hs⟩ := Cond.code_spec hn h
  obtain ⟨mk', meth', q1, q2, q3, -⟩ := Cond.instanceMethod_spec hi
  cases hn.symm.trans q1
  cases h1.symm.trans q2
  simp [Cond.before, Cond.holds, Cond.value, hn, h1, hs, q3]
theorem xStat {s : State} {C n d : String} {v : Value} (h : va_Z C n d v (fun _ => False) s s.heap) : Cold.StaticIs s C n d v := by
  obtain ⟨cf, kf, fi, f, a, cell, h1, h2, h3, h4, h5, h6, h7, -⟩ := h
  exact ⟨cf, fi, kf, f, a, cell, h1, h2, h3, h4, h5, (fun q => by rw [q] at h6; cases h6), h7⟩
theorem xfieldOf {U V : State} (hv : U.vm = V.vm) {a : Addr} {C n d : String} (hh : U.heap[a]? = V.heap[a]?) : U.fieldOf? a C n d = V.fieldOf? a C n d := by
  have h1 : (U.setVm V.vm).fieldOf? a C n d = U.fieldOf? a C n d := State.fieldOf?_setVm (by rw [hv]; exact Vm.Alike.refl _) a C n d
  rw [← h1]
  simp only [State.fieldOf?, State.heap_setVm, State.vm_setVm, hh]
  rfl
def xbt (i : Nat) : Int32 := [(43 : Int32), 45, 42, 47, 37, 60, 61, 62].getD i 0
theorem xbt_c : ∀ i : Nat, i < 8 → (xbt i &&& 255).toUInt32.toUInt16.toUInt32.toInt32 = xbt i := by decide +kernel
theorem xbt_at : ∀ (i : Nat) (c : Int32), xnth [(43 : Int32), 45, 42, 47, 37, 60, 61, 62] i = some c → i < 8 ∧ c = xbt i := by
  intro i c h
  rw [xnth_eq] at h
  have hi : i < 8 := (List.getElem?_eq_some_iff.mp h).1
  refine ⟨hi, ?_⟩
  unfold xbt
  rw [List.getD_eq_getElem?_getD, h]
  rfl
theorem xheap0 {p : Program} {l : Launch} {e : Env} {R : Room} {s : State} {m : MethodId} {args : Array Value} {below : List Frame} {meth : Method} {c : Code} {T : State} (X : Stand p l e R s m args below meth c T [] 0 0) : T.heap = s.heap := by
  apply Array.ext_getElem?
  intro i
  by_cases hi : i < s.heap.size
  · rw [Array.getElem?_eq_getElem hi]
    exact X.keeps0 _ _ (Array.getElem?_eq_getElem hi)
  · have := X.heapSize
    rw [Array.getElem?_eq_none (by omega), Array.getElem?_eq_none (by omega)]
theorem xq1460 : xWd 1460 (.code Str.charAt.name Str.charAt.code 2 (some .char)) = true := by decide +kernel
theorem xq1461 : xWd 1461 (.methodLink str 492 Str.isLatin1.name) = true := by decide +kernel
theorem xq1462 : xWd 1462 (.instanceMethod Str.isLatin1.name) = true := by decide +kernel
theorem xq1463 : xWd 1463 (.selects str Str.isLatin1.name Str.isLatin1.name) = true := by decide +kernel
theorem xq1464 : xWd 1464 (.code Str.isLatin1.name Lib.String.isLatin1.code 1 (some .boolean)) = true := by decide +kernel
theorem xq1465 : xWd 1465 (.fieldLink str 38 str "COMPACT_STRINGS" "Z") = true := by decide +kernel
theorem xq1467 : xWd 1467 (.methodLink str 495 SL1.charAt.name) = true := by decide +kernel
theorem xq1468 : xWd 1468 (.static SL1.charAt.name) = true := by decide +kernel
theorem xq1469 : xWd 1469 (.code SL1.charAt.name SL1.charAt.code 2 (some .char)) = true := by decide +kernel
theorem xq1470 : xWd 1470 (.methodLink sl1 9 Str.checkIndex.name) = true := by decide +kernel
theorem xq1471 : xWd 1471 (.static Str.checkIndex.name) = true := by decide +kernel
theorem xq1472 : xWd 1472 (.code Str.checkIndex.name Str.checkIndex.code 2 none) = true := by decide +kernel
theorem xq1473 : xWd 1473 (.fieldLink str 1053 pre_ "SIOOBE_FORMATTER" "Ljava/util/function/BiFunction;") = true := by decide +kernel
theorem xq1475 : xWd 1475 (.methodLink str 1059 Preconditions.checkIndex.name) = true := by decide +kernel
theorem xq1476 : xWd 1476 (.static Preconditions.checkIndex.name) = true := by decide +kernel
theorem xq1477 : xWd 1477 (.code Preconditions.checkIndex.name Preconditions.checkIndex.code Preconditions.checkIndex.maxLocals (some .int)) = true := by decide +kernel
theorem xq1569 : xWd 1569 (.fieldLink str 15 str "coder" "B") = true := by decide +kernel
theorem xq1570 : xWd 1570 (.fieldLink str 9 str "value" "[B") = true := by decide +kernel
theorem xq13 : xWd 13 (.initialized str) = true := by decide +kernel
theorem xq14 : xWd 14 (.initialized sl1) = true := by decide +kernel
theorem xq15 : xWd 15 (.initialized pre_) = true := by decide +kernel
theorem xq1457 : xWd 1457 (.methodLink "PulledSignalsModel" 343 Str.charAt.name) = true := by decide +kernel
theorem xq1458 : xWd 1458 (.instanceMethod Str.charAt.name) = true := by decide +kernel
theorem xq1459 : xWd 1459 (.selects str Str.charAt.name Str.charAt.name) = true := by decide +kernel
theorem xw_in {s : State} {args : Array Value} (hbig : ∀ w ∈ xBig, w.before args s = true) {p : Nat} {w : Cond} (h1 : xWd p w = true) (A : Array Value) (h2 : w.onTables = true := by rfl) : w.before A s = true := va_tabs h2 rfl (hbig w (xBig_of h1))
theorem xExact {U V : State} (hv : U.vm = V.vm) {A B : Array Value} {t u : Term} {a : Addr} {C : String} (hu : u.eval B V none [] V = some (.ref a)) (ht : t.eval A U none [] U = some (.ref a)) (hh : V.heap[a]? = U.heap[a]?) (h : (Cond.exactly t C).before A U = true) : (Cond.exactly u C).before B V = true := by
  simp only [Cond.before, Cond.holds, Cond.value] at h ⊢
  rw [ht] at h
  rw [hu, ← hv]
  cases hf : U.vm.findClass C with
  | none =>
    rw [hf] at h
    exact h
  | some c =>
    rw [hf] at h
    dsimp only at h ⊢
    rw [hh]
    exact h
def xstW : Term := .string "PulledSignalsModel" 341
def xvalW : Term := .field xstW "java/lang/String" "value" "[B"
/-- the String of the eight signs, as signOf finds it -/
theorem xstr {s : State} {args : Array Value} (hN : xNX o s) (hbig : ∀ w ∈ xBig, w.before args s = true) : ∃ (sa va : Addr) (arr : Cell) (fmt : Value),
    (Cond.stringRef "PulledSignalsModel" 341 "+-*/%<=>").before args s = true ∧ xstW.eval args s none [] s = some (.ref sa) ∧ (Cond.exactly xstW "java/lang/String").before args s = true ∧
    ∀ i, i < 8 → Cold.charAt.spec.pre.before #[.ref sa, .int (Int32.ofNat i)] s = true ∧ Cold.charAt.P sa va (Int32.ofNat i) (xbt i) 1 fmt arr #[.ref sa, .int (Int32.ofNat i)] s := by
  obtain ⟨-, U0, a0, hgv, htb, hs0, hW, hh⟩ := hN
  have fl0 := flat_of_before _ hgv
  have fl : ∀ w : Cond, w ∈ flatC (Jvm.Cond.and given_1 narrow_1) → w.warmB w.codeNames = true → w.before a0 (U0.setVm s.vm) = true := fun w h1 h2 => Cond.pre_warmed hW h2 (fl0 w h1)
  have hlt : ∀ q : Addr, q < U0.heap.size → q < o := fun q hq => by rw [← hs0]; exact hq
  have hkeep : ∀ (q : Addr) (cell : Cell), U0.heap[q]? = some cell → s.heap[q]? = some cell := fun q cell h => by
    rw [hh q (hlt q (Array.getElem?_eq_some_iff.mp h).1)]
    exact h
  have hSR00 : (Cond.stringRef "PulledSignalsModel" 341 "+-*/%<=>").before a0 U0 = true := htb _ (List.mem_append_right _ (List.mem_of_getElem? (i := 1456) (by decide +kernel)))
  have hSR0 : (Cond.stringRef "PulledSignalsModel" 341 "+-*/%<=>").before a0 (U0.setVm s.vm) = true := Cond.stringRef_warmed hW hSR00
  have hSR : (Cond.stringRef "PulledSignalsModel" 341 "+-*/%<=>").before args s = true := hSR0
  have f1 : (Cond.eq (.static str "COMPACT_STRINGS" "Z") (.int 1)).before a0 (U0.setVm s.vm) = true := fl _ (by decide +kernel) (by decide +kernel)
  have f2 : (Cond.isRef (.static pre_ "SIOOBE_FORMATTER" "Ljava/util/function/BiFunction;")).before a0 (U0.setVm s.vm) = true := fl _ (by decide +kernel) (by decide +kernel)
  have f3 : (Cond.exactly xstW "java/lang/String").before a0 U0 = true := fl0 _ (by decide +kernel)
  have f4 : (Cond.eq (.field xstW "java/lang/String" "coder" "B") (.int 0)).before a0 U0 = true := fl0 _ (by decide +kernel)
  have f5 : (Cond.arrayOf xvalW .byte).before a0 U0 = true := fl0 _ (by decide +kernel)
  have f6 : (Cond.eq (.length xvalW) (.int 8)).before a0 U0 = true := fl0 _ (by decide +kernel)
  have f7 : ∀ i, i < 8 → (Cond.eq (.elem xvalW (.int (Int32.ofNat i))) (.int (xbt i))).before a0 U0 = true := by
    intro i hi
    rcases (show i = 0 ∨ i = 1 ∨ i = 2 ∨ i = 3 ∨ i = 4 ∨ i = 5 ∨ i = 6 ∨ i = 7 by omega) with rfl | rfl | rfl | rfl | rfl | rfl | rfl | rfl <;> exact fl0 _ (by decide +kernel)
  obtain ⟨sa, cS, cell, kS, e1, e2, e3, e4, e5, e6, e7⟩ := Cond.exactly_spec f3
  have e1V : xstW.eval a0 (U0.setVm s.vm) none [] (U0.setVm s.vm) = some (.ref sa) := by
    cases hc : U0.vm.findClass "PulledSignalsModel" with
    | none => simp [Cond.before, Cond.holds, Cond.value, hc] at hSR00
    | some cur => exact Term.string_eval_warmed hW hc hSR00 e1
  have hstr : xstW.eval args s none [] s = some (.ref sa) := (Term.string_eval_of_vm (U := U0.setVm s.vm) (V := s) rfl).trans e1V
  have hcell : s.heap[sa]? = some cell := hkeep _ _ e3
  obtain ⟨va, arr, l1, l2, l3⟩ := Term.length_spec (xeqI f6)
  obtain ⟨hva, hkn, -, -⟩ := State.arrayAt?_spec l2
  have hva' : s.heap[va]? = some arr := hkeep _ _ hva
  have hof := (Cond.arrayOf_spec f5 l1 hva).1
  have hal : (U0.setVm s.vm).vm.Alike s.vm := Vm.Alike.refl _
  have hof' : s.isArrayOf arr .byte := State.isArrayOf_alike hW.alike hof
  have hval : U0.fieldOf? sa "java/lang/String" "value" "[B" = some (.ref va) := by
    have h := l1
    simp only [xvalW, Term.eval] at h
    rw [show xstW.eval a0 U0 none [] U0 = some (.ref sa) from e1] at h
    exact h
  have hcod : U0.fieldOf? sa "java/lang/String" "coder" "B" = some (.int 0) := by
    have h := xeqI f4
    simp only [Term.eval] at h
    rw [show xstW.eval a0 U0 none [] U0 = some (.ref sa) from e1] at h
    exact h
  have hhs : s.heap[sa]? = (U0.setVm s.vm).heap[sa]? := hcell.trans e3.symm
  have hval' : s.fieldOf? sa "java/lang/String" "value" "[B" = some (.ref va) := (xfieldOf (U := s) (V := U0.setVm s.vm) rfl hhs).trans ((State.fieldOf?_setVm hW.alike _ _ _ _).trans hval)
  have hcod' : s.fieldOf? sa "java/lang/String" "coder" "B" = some (.int 0) := (xfieldOf (U := s) (V := U0.setVm s.vm) rfl hhs).trans ((State.fieldOf?_setVm hW.alike _ _ _ _).trans hcod)
  have f3V : (Cond.exactly xstW "java/lang/String").before a0 (U0.setVm s.vm) = true := by
    rw [exactly_setVm_of hW.alike e1 e1V]
    exact f3
  have hEx : (Cond.exactly xstW "java/lang/String").before args s = true := xExact (U := U0.setVm s.vm) (V := s) rfl hstr e1V hhs f3V
  have hzk : ∀ a : Nat, a < (U0.setVm s.vm).heap.size → ¬ False → s.heap[a]? = (U0.setVm s.vm).heap[a]? := fun a ha _ => hh a (hlt a ha)
  have hz1 : Cold.StaticIs s str "COMPACT_STRINGS" "Z" (.int 1) := by
    have hl : (Cond.laysStatic str "COMPACT_STRINGS" "Z").before a0 (U0.setVm s.vm) = true := Cond.pre_warmed hW (by decide +kernel) (htb _ (List.mem_append_right _ (List.mem_of_getElem? (i := 1466) (by decide +kernel))))
    have hz : va_Z str "COMPACT_STRINGS" "Z" (.int 1) (fun _ => False) (U0.setVm s.vm) (U0.setVm s.vm).heap := va_Zof hl (va_tabs (A := args) (u := s) (U := U0.setVm s.vm) rfl rfl (xw_in hbig xq13 args)) (xeqI f1) (fun _ _ => id)
    exact xStat ((hz.moved hal).kept hzk)
  obtain ⟨fmt, hfm, hz2⟩ : ∃ fmt : Value, fmt.isRef = true ∧ Cold.StaticIs s pre_ "SIOOBE_FORMATTER" "Ljava/util/function/BiFunction;" fmt := by
    obtain ⟨f, hf, hfr⟩ : ∃ f, (Term.static pre_ "SIOOBE_FORMATTER" "Ljava/util/function/BiFunction;").eval a0 (U0.setVm s.vm) none [] (U0.setVm s.vm) = some f ∧ f.isRef = true := by
      have hrF := f2
      simp only [Cond.before, Cond.holds, Cond.value] at hrF
      cases hh : (Term.static pre_ "SIOOBE_FORMATTER" "Ljava/util/function/BiFunction;").eval a0 (U0.setVm s.vm) none [] (U0.setVm s.vm) with
      | none => simp [hh] at hrF
      | some u => cases u <;> simp [hh] at hrF <;> exact ⟨_, rfl, rfl⟩
    have hl : (Cond.laysStatic pre_ "SIOOBE_FORMATTER" "Ljava/util/function/BiFunction;").before a0 (U0.setVm s.vm) = true := Cond.pre_warmed hW (by decide +kernel) (htb _ (List.mem_append_right _ (List.mem_of_getElem? (i := 1474) (by decide +kernel))))
    have hi : (Cond.initialized pre_).before a0 (U0.setVm s.vm) = true := va_tabs (A := args) (u := s) (U := U0.setVm s.vm) rfl rfl (xw_in hbig xq15 args)
    exact ⟨f, hfr, xStat (((va_Zof hl hi hf (fun _ _ => id)).moved hal).kept hzk)⟩
  have hn8 : arr.slots.size.toInt32 = 8 := by
    injection l3 with h
    exact h.symm
  refine ⟨sa, va, arr, fmt, hSR, hstr, hEx, fun i hi => ?_⟩
  have hA : ∀ B : Array Value, B[0]? = some (.ref sa) → (Cond.exactly (.arg 0) str).before B s = true := fun B hB => xExact (U := s) (V := s) rfl hB hstr rfl hEx
  obtain ⟨a', j', cell', m1, m2, m3, m4, m5⟩ := Term.elem_spec (xeqI (f7 i hi))
  cases l1.symm.trans m1
  cases l2.symm.trans m3
  cases (show some (Value.int (Int32.ofNat i)) = some (Value.int j') from m2)
  have hle : (Cond.le (.int 0) (.arg 0)).before #[.int (Int32.ofNat i), .int 8, fmt] s = true ∧ (Cond.lt (.arg 0) (.arg 1)).before #[.int (Int32.ofNat i), .int 8, fmt] s = true := by
    rcases (show i = 0 ∨ i = 1 ∨ i = 2 ∨ i = 3 ∨ i = 4 ∨ i = 5 ∨ i = 6 ∨ i = 7 by omega) with rfl | rfl | rfl | rfl | rfl | rfl | rfl | rfl <;> exact ⟨rfl, rfl⟩
  have hcI : Cold.checkIndex.spec.pre.before #[.int (Int32.ofNat i), .int arr.slots.size.toInt32] s = true := by
    simp only [Cold.checkIndex.spec, Cond.before_and, Bool.and_eq_true]
    exact ⟨xw_in hbig xq1472 _, rfl, xw_in hbig xq1473 _, xw_in hbig xq1475 _, xw_in hbig xq1476 _, xw_in hbig xq15 _⟩
  have hcP : Cold.checkIndex.P (Int32.ofNat i) arr.slots.size.toInt32 fmt #[.int (Int32.ofNat i), .int arr.slots.size.toInt32] s := by
    refine ⟨rfl, hz2, xSig (xw_in hbig xq1477 args), ?_⟩
    rw [hn8]
    simp only [Preconditions.checkIndex.spec, Cond.before_and, Bool.and_eq_true]
    exact ⟨xw_in hbig xq1477 _, rfl, rfl, rfl, by cases fmt <;> first | rfl | simp [Value.isRef] at hfm, hle.1, hle.2⟩
  refine ⟨?_, rfl, ?_, xSig (xw_in hbig xq1469 args), ?_, ⟨rfl, hz1, by decide, ?_⟩, ?_, rfl, hva', hof', hkn, m4, m5, xSig (xw_in hbig xq1472 args), hcI, hcP⟩
  · simp only [Cold.charAt.spec, Cond.before_and, Bool.and_eq_true]
    exact ⟨xw_in hbig xq1460 _, rfl, hA _ rfl, xw_in hbig xq1461 _, xDecls (xw_in hbig xq1464 args) (xw_in hbig xq1462 args), xw_in hbig xq1463 _, xw_in hbig xq1462 _, xw_in hbig xq1570 _, xw_in hbig xq1467 _, xw_in hbig xq1468 _, xw_in hbig xq14 _, xw_in hbig xq13 _⟩
  · simp only [Cold.charAt.valueOf, Term.eval]
    exact hval'
  · simp only [Cold.isLatin1.spec, Cond.before_and, Bool.and_eq_true]
    exact ⟨xw_in hbig xq1464 _, rfl, xw_in hbig xq1465 _, xw_in hbig xq1569 _⟩
  · simp only [Cold.isLatin1.coderOf, Term.eval]
    exact hcod'
  · simp only [Cold.latin1.spec, Cond.before_and, Bool.and_eq_true]
    exact ⟨xw_in hbig xq1469 _, rfl, xw_in hbig xq1470 _, xw_in hbig xq1471 _, xw_in hbig xq13 _⟩
theorem dsg_0 : decode (xMc rX9_signOf) 0 = .ok (.ldc_w 341, 3) := by decide +kernel
theorem dsg_3 : decode (xMc rX9_signOf) 3 = .ok (.iload_n 0, 1) := by decide +kernel
theorem dsg_4 : decode (xMc rX9_signOf) 4 = .ok (.invokevirtual 343, 3) := by decide +kernel
theorem dsg_7 : decode (xMc rX9_signOf) 7 = .ok (.ireturn, 1) := by decide +kernel
theorem xldcSW {p : Program} {l : Launch} {e : Env} {R : Room} {s : State} {m : MethodId} {args : Array Value} {below : List Frame} {meth : Method} {c : Code} {T : State} {locs : List Loc} {cells slots : Nat}
    (X : Stand p l e R s m args below meth c T locs cells slots) (hexec : p.tables.exec = Jvm.exec) {own text : String} {index : Nat} {a : Addr} (hown : s.vm.findClass own = some m.cls)
    (hconst : (Cond.stringRef own index text).before args s = true) (hev : (Term.string own index).eval args s none [] s = some (.ref a)) {g : JFrame} (hg : g.method = m) (hdg : decode c.code g.pc = .ok (.ldc_w index, 3)) :
    ∀ target, Steps p.tables e below (T.setTop { g with pc := g.pc + 3, stack := .ref a :: g.stack }) target → Steps p.tables e below (T.setTop g) target := by
  obtain ⟨k, cf, i, a', hk, hcf, hcp, -, hr, hev'⟩ := Cond.stringRef_spec hown hconst
  cases hev.symm.trans hev'
  obtain ⟨k', hk', he⟩ := X.warmed.alike.2.2 _ _ hk
  have hr' : k'.resolved[index]? = some (some (.string a)) := by
    rcases X.warmed.entry hk hk' index with h | ⟨h, -⟩
    · rw [h]; exact hr
    · rw [hr] at h; cases h
  intro target hrest
  subst hg
  jvm_step X.here [hexec, hdg, ldc_w.wp_string (e := e) (s := T) (f := g) X.here.top hk' (by rw [he]; exact hcf) hcp hr']
  exact hrest
theorem xsg_met {k : Int32} {c : Int32} {h : List xE} (hk : 0 ≤ k) (hc : xnth [(43 : Int32), 45, 42, 47, 37, 60, 61, 62] k.toNatClampNeg = some c) : xMet D ca b o ρ rX9_signOf [.int k] h (h, some (.int c), 0, 8) := by
  obtain ⟨hi8, hcc⟩ := xbt_at _ _ hc
  have hk' : Int32.ofNat k.toNatClampNeg = k := ofNat_toNatClampNeg32 k (fun q => by
    have h1 := Int32.lt_iff_toInt_lt.mp q
    have h2 := Int32.le_iff_toInt_le.mp hk
    omega)
  refine xMet_0 ok_rX9_signOf (Nat.le_of_ble_eq_true rfl) ?_
  intro p l e s m args below meth cc ls X hret hlk hP hls
  obtain ⟨hx, hb, hml, hown, hbig, hN, hK, -, hbo, hsz, -⟩ := id X
  obtain ⟨sa, va, arr, fmt, hSR, hev, hEx, hAll⟩ := xstr hN hbig
  have hls2 : lv_has ls 1 [(0, .int k)] := hls
  show W p l e { frames := 8, cells := h.length - h.length, slots := 0, locals := 41 * 8 } s m args below meth cc s.heap [] 0 0 (MQ below (xQc D ca b o ρ h (some (.int c))) args s (h.length - h.length) 0 (fun q => o ≤ q)) (F0 m 0 ls [])
  rw [Nat.sub_self]
  have w7 : W p l e { frames := 8, cells := 0, slots := 0, locals := 41 * 8 } s m args below meth cc s.heap [] 0 0 (MQ below (xQc D ca b o ρ h (some (.int c))) args s 0 0 (fun q => o ≤ q)) (F0 m 7 ls [.int c]) :=
    W.iret hx hb hret (fun t ht _ => ⟨rfl, by rw [ht]; exact hP, va_S.F va_S.rf ht⟩) (fun q hq => by cases hq) dsg_7 hlk
  have w4 : W p l e { frames := 8, cells := 0, slots := 0, locals := 41 * 8 } s m args below meth cc s.heap [] 0 0 (MQ below (xQc D ca b o ρ h (some (.int c))) args s 0 0 (fun q => o ≤ q)) (F0 m 4 ls [.int k, .ref sa]) := by
    intro T hT XT
    have hKp := Cold.charAt.pays (l := l) (R := { frames := 8, cells := 0, slots := 0, locals := 41 * 8 }) (p := p) (e := e) (below := below) (s := s) (sargs := args) (len := 3) (W := 8) hAll (by decide) (by decide)
    obtain ⟨v, T1, T', X1, X', hrel, hcm⟩ := XT.virtualBackP hx (own := xRC (xMo rX9_signOf)) (C := "java/lang/String") (index := 343) (y := Str.charAt.name) (z := Str.charAt.name) hown (xw_in hbig xq1457 args) (xDecls (xw_in hbig xq1460 args) (xw_in hbig xq1458 args)) (notFace_of_selects (xw_in hbig xq1459 args)) (xw_in hbig xq1459 args) (xw_in hbig xq1458 args) (by decide) hKp (t0 := xstW) (b := sa) hEx hev
      (g := F0 m 4 ls [.int k, .ref sa]) rfl (by rw [hml]; exact hls2.1) (Steps.refl _) (argsL := [.int k]) (rest := [])
      (fun sig h => by rw [show parseMethodDescriptor Str.charAt.name.desc = some ⟨[.int], some .char⟩ from by decide +kernel] at h; cases h; rfl) rfl (by show 2 * 0 + 0 ≤ 8; decide) (by rw [hb]; exact dsg_4) (fun vm1 h1 => ⟨k.toNatClampNeg, hi8, by rw [hk']⟩)
    have hv := hrel k.toNatClampNeg hi8 (by rw [hk'])
    rw [xbt_c _ hi8, ← hcc] at hv
    subst hv
    obtain ⟨t, a1, b1⟩ := w7 T' (xheap0 X') X'
    exact ⟨t, hcm.trans a1, b1⟩
  have w3 : W p l e { frames := 8, cells := 0, slots := 0, locals := 41 * 8 } s m args below meth cc s.heap [] 0 0 (MQ below (xQc D ca b o ρ h (some (.int c))) args s 0 0 (fun q => o ≤ q)) (F0 m 3 ls [.ref sa]) := lv_iload_n hx hb dsg_3 rfl (lv_at hls2 0 rfl) w4
  intro T hT XT
  obtain ⟨t, a1, b1⟩ := w3 T hT XT
  exact ⟨t, xldcSW XT hx (own := xRC (xMo rX9_signOf)) (g := F0 m 0 ls []) hown hSR hev rfl (by rw [hb]; exact dsg_0) t a1, b1⟩
theorem xcopies_met (hρ : xIv ρ []) {N p q : Nat} {f g : Nat → Int32} {h : List xE} (hN : N ≤ 60000) (hpq : p ≠ q) (hp : xnth h p = some (.inl (0, N, .inl f))) (hq : xnth h q = some (.inl (0, N, .inl g))) :
    xMet D ca b o ρ rX9_copies [.ref (p + 1), .ref (q + 1)] h (h.set q (.inl (0, N, .inl (fun j => bif Nat.blt j N then f j else g j))), none, 0, 0) := by
  have hs := xcp_exe (iv := []) (Ms := xMs) (C := fun _ _ _ _ => none) (cs := []) hN hpq hp hq
  exact (xexe_ok (D := D) (ca := ca) (b := b) (o := o) hρ xCs_ok (fun a M as h O r O' hM h1 => by cases h1) ok_rX9_copies hs).2.2 (fun X hX => by cases hX)
theorem xBt_ok (hρ : xIv ρ []) : xCsnd D ca b o ρ xMs xBt := by
  intro a M as h O r O' hM h1
  unfold xBt at h1
  rcases xbc h1 with ⟨ha, g1⟩ | ⟨-, g1⟩
  · have ha := Nat.eq_of_beq_eq_true ha
    subst ha
    have hM2 : M = rX9_signOf := Option.some.inj (hM.symm.trans (show xMs[254]? = some rX9_signOf from rfl))
    subst hM2
    split at g1
    · rename_i k
      obtain ⟨hk, g2⟩ := xbif g1
      split at g2
      · rename_i c hc
        cases g2
        exact ⟨fun _ h => h, Nat.le_refl _, ok_rX9_signOf, fun _ => xsg_met (of_decide_eq_true hk) hc⟩
      · cases g2
    · cases g1
  · rcases xbc g1 with ⟨ha, g2⟩ | ⟨-, g2⟩
    · have ha := Nat.eq_of_beq_eq_true ha
      subst ha
      have hM2 : M = rX9_copies := Option.some.inj (hM.symm.trans (show xMs[264]? = some rX9_copies from rfl))
      subst hM2
      split at g2
      · rename_i p q
        split at g2
        · rename_i N f hp
          split at g2
          · rename_i N' g hq
            obtain ⟨hb, g3⟩ := xbif g2
            simp only [Bool.and_eq_true, Bool.not_eq_true'] at hb
            obtain ⟨hN, hpq, hN6, -⟩ := hb
            obtain rfl : N = N' := Nat.eq_of_beq_eq_true hN
            have hpq : p ≠ q := fun e => by
              subst e
              rw [Nat.beq_refl] at hpq
              cases hpq
            obtain ⟨hlt, g4⟩ := xset_some g3
            cases g4
            exact ⟨fun _ h => h, by rw [List.length_set]; exact Nat.le_refl _, ok_rX9_copies, fun _ => xcopies_met hρ (Nat.le_of_ble_eq_true hN6) hpq hp hq⟩
          · cases g2
        · cases g2
      · cases g2
    · cases g2
end XBS
