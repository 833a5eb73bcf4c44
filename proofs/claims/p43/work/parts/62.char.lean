/-! a letter of a made String -/
section WH
variable {V : State} {args : Array Value} {q : Jvm.Free.SB.SQ} {cS : ClassId} {fmt : Value} {i : Nat} {bv : Int32}
theorem wSig {s : State} {y : MethodName} {bytes : ByteArray} {n : Nat} {ret : Option FieldType} (h : (Cond.code y bytes n ret).before args s = true) : Cold.Sig s y := by
  obtain ⟨mk, hn⟩ := Cond.code_named h
  obtain ⟨meth, c, h1, -, -, -, -, -, -, hs⟩ := Cond.code_spec hn h
  exact ⟨mk, meth, hn, h1, hs⟩
theorem wExa (h : Jvm.Free.SBG.Sl q cS V) {kS : Class} (hk : V.vm.classes[cS]? = some kS) (ho : kS.kind = .ordinary) (hn : q.sC.slots.size = kS.instanceTypes.size) {B : Array Value} (hB : B[0]? = some (.ref q.sa)) : (Cond.exactly (.arg 0) "java/lang/String").before B V = true := by
  obtain ⟨h1, h2, h3⟩ := h
  have h2 : V.vm.findClass "java/lang/String" = some cS := h2
  simp [Cond.before, Cond.holds, Cond.value, Term.eval, hB, h1.1, h2, h3, h1.2.2.1, hk, ho, hn]
theorem wFld (h : Jvm.Free.SBG.Sl q cS V) : V.fieldOf? q.sa "java/lang/String" "value" "[B" = some (.ref q.sd) ∧ V.fieldOf? q.sa "java/lang/String" "coder" "B" = some (.int 0) := by
  obtain ⟨⟨h1, h2, h3, ⟨c1, k1, i1, f1, a1⟩, ⟨c2, k2, i2, f2, a2⟩, s1, s2, v1, v2, -⟩, -, -⟩ := h
  have f1 : V.fieldFound? "java/lang/String" "value" "[B" = some (c1, k1, i1, q.fSV) := f1
  have f2 : V.fieldFound? "java/lang/String" "coder" "B" = some (c2, k2, i2, q.fSC) := f2
  refine ⟨?_, ?_⟩
  · simp [State.fieldOf?, State.fieldNamed?, h1, h2, f1, a1, s1, v1, h3]
  · simp [State.fieldOf?, State.fieldNamed?, h1, h2, f2, a2, s2, v2, h3]
/-- the words that a later state keeps -/
theorem wKeep {s : State} {args : Array Value} (hb : ∀ w ∈ xBig, w.before args s = true) (hW : s.WarmedH V.vm) : ∀ w : Cond, w ∈ xBig → w.warmB w.codeNames = true → w.onTables = true → ∀ A : Array Value, w.before A V = true := fun w hw hk ht A =>
  va_tabs (u := s.setVm V.vm) ht rfl (Cond.pre_warmed hW hk (hb w hw))
theorem chP (hb : ∀ w : Cond, w ∈ xBig → w.warmB w.codeNames = true → w.onTables = true → ∀ A : Array Value, w.before A V = true) (z1 : Cold.StaticIs V "java/lang/String" "COMPACT_STRINGS" "Z" (.int 1)) (z2 : Cold.StaticIs V "jdk/internal/util/Preconditions" "SIOOBE_FORMATTER" "Ljava/util/function/BiFunction;" fmt) (hfm : fmt.isRef = true) (h : Jvm.Free.SBG.Sl q cS V) {kS : Class} (hk : V.vm.classes[cS]? = some kS) (ho : kS.kind = .ordinary) (hn : q.sC.slots.size = kS.instanceTypes.size) (hi : i < q.len) (hbv : q.SA.slots[i]? = some (.int bv)) :
    Cold.charAt.spec.pre.before #[.ref q.sa, .int (Int32.ofNat i)] V = true ∧ Cold.charAt.P q.sa q.sd (Int32.ofNat i) bv 1 fmt q.SA #[.ref q.sa, .int (Int32.ofNat i)] V := by
  have T : ∀ (w : Cond) (A : Array Value), tables_1.any (fun v => decide (v = w) && goodWord v) = true → (w.onTables && w.warmB w.codeNames) = true → w.before A V = true := fun w A hw ht => by
    rw [Bool.and_eq_true] at ht
    exact hb w (wIn hw) ht.2 ht.1 A
  have hex := fun (B : Array Value) (hB : B[0]? = some (.ref q.sa)) => wExa h hk ho hn hB
  obtain ⟨f1, f2⟩ := wFld h
  obtain ⟨⟨h1, h2, h3, -, -, -, -, -, -, g1, g2, g3, g4, g5, g6, g7⟩, -, -⟩ := h
  have e1 : (Int32.ofNat i).toInt = (i : Int) := nI_toInt (by omega)
  have e2 : q.SA.slots.size.toInt32.toInt = (q.len : Int) := by rw [g4]; exact nI_toInt (by omega)
  have hcI : Cold.checkIndex.spec.pre.before #[.int (Int32.ofNat i), .int q.SA.slots.size.toInt32] V = true := by
    simp only [Cold.checkIndex.spec, Cond.before_and, Bool.and_eq_true]
    exact ⟨T _ _ (by decide +kernel) (by decide +kernel), rfl, T _ _ (by decide +kernel) (by decide +kernel), T _ _ (by decide +kernel) (by decide +kernel), T _ _ (by decide +kernel) (by decide +kernel), T _ _ (by decide +kernel) (by decide +kernel)⟩
  have hle : (Cond.le (.int 0) (.arg 0)).before #[.int (Int32.ofNat i), .int q.SA.slots.size.toInt32, fmt] V = true ∧ (Cond.lt (.arg 0) (.arg 1)).before #[.int (Int32.ofNat i), .int q.SA.slots.size.toInt32, fmt] V = true := by
    refine ⟨?_, ?_⟩
    · simp [Cond.before, Cond.holds, Cond.value, Term.eval, Int32.le_iff_toInt_le, e1]
    · simp [Cond.before, Cond.holds, Cond.value, Term.eval, Int32.lt_iff_toInt_lt, e1, e2, hi]
  have hcP : Cold.checkIndex.P (Int32.ofNat i) q.SA.slots.size.toInt32 fmt #[.int (Int32.ofNat i), .int q.SA.slots.size.toInt32] V := by
    refine ⟨rfl, z2, wSig (T (.code Preconditions.checkIndex.name Preconditions.checkIndex.code Preconditions.checkIndex.maxLocals (some .int)) #[] (by decide +kernel) (by decide +kernel)), ?_⟩
    simp only [Preconditions.checkIndex.spec, Cond.before_and, Bool.and_eq_true]
    exact ⟨T _ _ (by decide +kernel) (by decide +kernel), rfl, rfl, rfl, by cases fmt <;> first | rfl | simp [Value.isRef] at hfm, hle.1, hle.2⟩
  have ec : (Int32.ofNat i).toNatClampNeg = i := nI_clamp (by omega)
  refine ⟨?_, rfl, ?_, wSig (T (.code SL1.charAt.name SL1.charAt.code 2 (some .char)) #[] (by decide +kernel) (by decide +kernel)), ?_, ⟨rfl, z1, by decide, ?_⟩, ?_, rfl, g1, g2, g3, ?_, by rw [ec]; exact hbv, wSig (T (.code Str.checkIndex.name Str.checkIndex.code 2 none) #[] (by decide +kernel) (by decide +kernel)), hcI, hcP⟩
  · simp only [Cold.charAt.spec, Cond.before_and, Bool.and_eq_true]
    exact ⟨T _ _ (by decide +kernel) (by decide +kernel), rfl, hex _ rfl, T _ _ (by decide +kernel) (by decide +kernel), wDecls (T (.code Str.isLatin1.name Lib.String.isLatin1.code 1 (some .boolean)) #[] (by decide +kernel) (by decide +kernel)) (T (.instanceMethod Str.isLatin1.name) #[] (by decide +kernel) (by decide +kernel)), T _ _ (by decide +kernel) (by decide +kernel), T _ _ (by decide +kernel) (by decide +kernel), T _ _ (by decide +kernel) (by decide +kernel), T _ _ (by decide +kernel) (by decide +kernel), T _ _ (by decide +kernel) (by decide +kernel), T _ _ (by decide +kernel) (by decide +kernel), T _ _ (by decide +kernel) (by decide +kernel)⟩
  · simp only [Cold.charAt.valueOf, Term.eval]
    exact f1
  · simp only [Cold.isLatin1.spec, Cond.before_and, Bool.and_eq_true]
    exact ⟨T _ _ (by decide +kernel) (by decide +kernel), rfl, T _ _ (by decide +kernel) (by decide +kernel), T _ _ (by decide +kernel) (by decide +kernel)⟩
  · simp only [Cold.isLatin1.coderOf, Term.eval]
    exact f2
  · simp only [Cold.latin1.spec, Cond.before_and, Bool.and_eq_true]
    exact ⟨T _ _ (by decide +kernel) (by decide +kernel), rfl, T _ _ (by decide +kernel) (by decide +kernel), T _ _ (by decide +kernel) (by decide +kernel), T _ _ (by decide +kernel) (by decide +kernel)⟩
  · rw [ec, Int32.lt_iff_toInt_lt, e1]
    show ¬ ((i : Int) < 0 ∨ q.SA.slots.size ≤ i)
    omega
end WH
