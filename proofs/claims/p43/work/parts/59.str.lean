/-! Strings that the law made: how long, and each letter (the library's own steps, at W) -/
theorem wIn {w : Cond} (h : tables_1.any (fun v => decide (v = w) && goodWord v) = true) : w ∈ xBig := by
  simp only [List.any_eq_true, Bool.and_eq_true, decide_eq_true_eq] at h
  obtain ⟨v, h1, rfl, h2⟩ := h
  exact xBig_wd h1 h2
theorem wDecls {args args' : Array Value} {s : State} {y : MethodName} {bytes : ByteArray} {n : Nat} {ret : Option FieldType} (h : (Cond.code y bytes n ret).before args s = true) (hi : (Cond.instanceMethod y).before args s = true) : (Cond.declares y).before args' s = true := by
  obtain ⟨mk, hn⟩ := Cond.code_named h
  obtain ⟨meth, c, h1, -, -, -, -, -, -, hs⟩ := Cond.code_spec hn h
  obtain ⟨mk', meth', q1, q2, q3, -⟩ := Cond.instanceMethod_spec hi
  cases hn.symm.trans q1
  cases h1.symm.trans q2
  simp [Cond.before, Cond.holds, Cond.value, hn, h1, hs, q3]
theorem wSame {args args' : Array Value} {s : State} {y : MethodName} {bytes : ByteArray} {n N : Nat} {ret : Option FieldType} (h : (Cond.code y bytes n ret).before args s = true) (hi : (Cond.instantiable y.cls N).before args s = true) (hy : y.cls ≠ "java/lang/invoke/MethodHandle" ∧ y.cls ≠ "java/lang/invoke/VarHandle") : (Cond.sameMethod y.cls y.cls y.name y.desc).before args' s = true := by
  obtain ⟨mk, hn⟩ := Cond.code_named h
  have hf := State.methodFound?_of_named hn hy
  obtain ⟨c, k, h1, h2, -, h4, -⟩ := Cond.instantiable_spec hi
  have h5 : k.isInterface = false := by
    rw [Bool.or_eq_false_iff] at h4
    exact h4.1
  simp [Cond.before, Cond.holds, Cond.value, hn, hf, h1, h2, h5]
/-- a String that the law made: in every state with that heap -/
def SlH (q : Jvm.Free.SB.SQ) (cS : ClassId) (st : Addr) (z : Int32) (s : State) (H : Heap) : Prop := (z ≠ 0 ∧ q.sa ≠ st) ∧ ∀ U : State, s.vm.Alike U.vm → U.heap = H → Jvm.Free.SBG.Sl q cS U ∧ Jvm.Free.SB.CompactAt U st z
section WL
variable {p : Program} {l : Launch} {e : Env} {R : Room} {s : State} {m : MethodId} {args : Array Value} {below : List Frame} {meth : Method} {c : Code} {Q : State → Prop} {H : Heap} {locs : List Loc} {cells slots idx pc nL : Nat} {cc : ByteArray} {own : String} {ls : Array Slot} {rest : List Value} {cS : ClassId} {st : Addr} {z : Int32}
theorem wLen {q : Jvm.Free.SB.SQ} (S : CallFix p m c cc nL s args xBig own) (h : SlH q cS st z s H) (hl : Cond.methodLink own idx Jvm.Free.SB.strLenN ∈ xBig) (hcS : s.vm.findClass Jvm.Free.SB.STR = some cS) (hd : decode cc pc = .ok (.invokevirtual idx, 3)) (hc8 : (rest.map fun v => v.category).sum ≤ 8) (rF : 4 ≤ R.frames ∧ 80 ≤ R.locals) (rC : cells ≤ R.cells ∧ slots ≤ R.slots) (hz : ls.size = nL)
    (k : W p l e R s m args below meth c H locs cells slots Q (F0 m (pc + 3) ls (.int (Int32.ofNat q.len) :: rest))) : W p l e R s m args below meth c H locs cells slots Q (F0 m pc ls (.ref q.sa :: rest)) := by
  obtain ⟨hx, hb, hml, hown, hts⟩ := S
  obtain ⟨⟨hz0, hst⟩, hS⟩ := h
  have w1 : Cond.code Jvm.Free.SB.strLenN Jvm.Free.SB.strLenB 1 (some .int) ∈ xBig := wIn (by decide +kernel)
  have w2 : Cond.instanceMethod Jvm.Free.SB.strLenN ∈ xBig := wIn (by decide +kernel)
  have w3 : Cond.code Jvm.Free.SB.strCoderN Jvm.Free.SB.strCoderB 1 (some .byte) ∈ xBig := wIn (by decide +kernel)
  have w4 : Cond.instanceMethod Jvm.Free.SB.strCoderN ∈ xBig := wIn (by decide +kernel)
  have w5 : Cond.instantiable Jvm.Free.SB.STR 4 ∈ xBig := wIn (by decide +kernel)
  have w6 : Cond.selects Jvm.Free.SB.STR Jvm.Free.SB.strLenN Jvm.Free.SB.strLenN ∈ xBig := wIn (by decide +kernel)
  have w7 : Cond.initialized Jvm.Free.SB.STR ∈ xBig := wIn (by decide +kernel)
  have htab : Jvm.Free.SB.StrLen.tab.before args s = true := by
    simp only [Jvm.Free.SB.StrLen.tab, Jvm.Free.SB.StrCoder.tab, Cond.before_and, Bool.and_eq_true]
    exact ⟨hts _ w1, hts _ (wIn (by decide +kernel)), hts _ (wIn (by decide +kernel)), wSame (hts _ w3) (hts _ w5) (by decide), wDecls (hts _ w3) (hts _ w4), hts _ (wIn (by decide +kernel)), hts _ w4, ⟨hts _ w3, hts _ (wIn (by decide +kernel)), hts _ (wIn (by decide +kernel))⟩, hts _ w7⟩
  intro T hT X
  have halT : s.vm.Alike T.vm := X.warmed.alike
  have hS0 := (hS T halT hT).1
  obtain ⟨v, vm₁, ⟨T', L, c', n'⟩, hW₁, X', ⟨⟨e1, e2, e3, e4⟩, hv⟩, come⟩ := X.virtualBack hx (own := own) (C := Jvm.Free.SB.STR) (index := idx) (y := Jvm.Free.SB.strLenN) (z := Jvm.Free.SB.strLenN) hown (hts _ hl) (wDecls (hts _ w1) (hts _ w2)) (notFace_of_selects (hts _ w6)) (hts _ w6) (hts _ w2) (by decide)
    (Jvm.Free.SB.StrLen.pays (W := 8) (by omega) (by omega) htab (hts _ w7)) hcS ⟨q.sC, hS0.1.1, hS0.2.2, hS0.1.2.2.1⟩ (g := F0 m pc ls (.ref q.sa :: rest)) rfl (by rw [hml]; exact hz) (Steps.refl _) (argsL := []) (rest := rest)
    (fun sig h => by rw [show parseMethodDescriptor Jvm.Free.SB.strLenN.desc = some ⟨[], some .int⟩ from by decide +kernel] at h; cases h; rfl) rfl (lv_room hc8) (by rw [hb]; exact hd)
    (fun vmx hWx => by
      have h1 := hS (T.setVm vmx) hWx.alike hT
      exact ⟨rC.1, rC.2, (q, cS, st, z), ⟨rfl, h1.1.1, h1.2, hz0, hst⟩, h1.1.2.1, h1.1.2.2⟩)
  have hv1 := hv (q, cS, st, z) (by
    have h1 := hS (T.setVm vm₁) hW₁.alike hT
    exact ⟨⟨rfl, h1.1.1, h1.2, hz0, hst⟩, h1.1.2.1, h1.1.2.2⟩)
  subst hv1
  dsimp only [Pt.U, Pt.locs, Pt.cells, Pt.slots] at X' e1 e2 e3 e4 come
  subst e2 e3 e4
  obtain ⟨t, a1, b1⟩ := k T' (e1.trans hT) X'
  exact ⟨t, come.trans a1, b1⟩
end WL
