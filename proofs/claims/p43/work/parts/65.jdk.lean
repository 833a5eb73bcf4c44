/-! the JDK's own methods on a StringBuilder: how their contracts are said, and called -/
section JD
/-- any word of the tables, at any state behind the law's start -/
theorem jW {o : Nat} {s : State} {args : Array Value} {w : Cond} (hN : xNX o s) (h : tables_1.any (fun v => decide (v = w)) = true) (hk : (w.warmB w.codeNames && w.onTables) = true) : w.before args s = true := by
  obtain ⟨-, U0, a0, -, htb, -, hW, -⟩ := hN
  rw [Bool.and_eq_true] at hk
  exact va_tabs (u := U0.setVm s.vm) hk.2 rfl (Cond.pre_warmed hW hk.1 (htb _ (List.mem_append_right _ (tIn h))))
def jK (ks : List (Nat × String × Nat)) (U : State) : Prop := ∀ t, t ∈ ks → vk_R "PulledSignalsLaw" t.1 t.2.1 t.2.2 U
def jPc (D : va_G) (ca : Nat → ClassId) (o N0 : Nat) (as : List Value) (ws : va_W) (ks : List (Nat × String × Nat)) : Array Value → State → Prop := fun v U =>
  v = as.toArray ∧ va_P D vwCl ws U.heap ∧ va_K D vwCl (xTys ca) U ∧ xNX o U ∧ U.heap.size = N0 ∧ jK ks U
def jQc (F : Nat → Prop) (Qy : Option Value → Heap → Prop) : Array Value → State → Outcome → State → Prop := fun _ st oc t => ∃ ret, oc = .returned ret ∧ Qy ret t.heap ∧ va_F F st t
def jws (y : MethodName) (cc : ByteArray) (n : Nat) (ret : Option FieldType) : List Cond := Cond.code y cc n ret :: xBig
def jMet (D : va_G) (ca : Nat → ClassId) (o N0 : Nat) (y : MethodName) (cc : ByteArray) (n : Nat) (ret : Option FieldType) (f mc ms : Nat) (as : List Value) (ws : va_W) (ks : List (Nat × String × Nat)) (F : Nat → Prop) (Qy : Option Value → Heap → Prop) : Prop :=
  ∀ l : Launch, Met l y (jws y cc n ret) { frames := f, cells := mc, slots := ms, locals := 41 * f } (jPc D ca o N0 as ws ks) (jQc F Qy) mc ms (fun a => F a ∨ N0 ≤ a)
theorem jPc.blind {D : va_G} {ca : Nat → ClassId} {o N0 : Nat} {as : List Value} {ws : va_W} {ks : List (Nat × String × Nat)} : FrameBlind (jPc D ca o N0 as ws ks) := by
  intro a U g mk ⟨q1, q2, q3, q4, q5, q6⟩
  exact ⟨q1, q2, va_K.moved (u := U) (U := U.calling g mk a) (Vm.Alike.refl U.vm) q3, ⟨xNW.same (s := U) (U := U.calling g mk a) rfl q4.1, q4.2⟩, q5, fun t ht => vk_R.same (u := U) rfl (q6 t ht)⟩
theorem jws_good {y : MethodName} {cc : ByteArray} {n : Nat} {ret : Option FieldType} (h : Cond.code y cc n ret ∈ xBig) : GoodIn xBig (jws y cc n ret) := xBig_good (fun w hw => by
  rcases List.mem_cons.mp hw with rfl | hw
  · exact h
  · exact hw)
/-- a method's body -/
theorem jMet_of {D : va_G} {ca : Nat → ClassId} {o N0 : Nat} {y : MethodName} {cc : ByteArray} {n : Nat} {ret : Option FieldType} {f mc ms : Nat} {as : List Value} {ws : va_W} {ks : List (Nat × String × Nat)} {F : Nat → Prop} {Qy : Option Value → Heap → Prop} (hy : plainName y.cls = true) (hcat : (lg_sl as).length ≤ n)
    (k : ∀ (p : Program) (l : Launch) (e : Env) (s : State) (m : MethodId) (args : Array Value) (below : List Frame) (meth : Method) (c : Code) (S : CallFix p m c cc n s args xBig y.cls) (hN : xNX o s) (hK : va_K D vwCl (xTys ca) s) (hP : va_P D vwCl ws s.heap) (hN0 : s.heap.size = N0) (hks : jK ks s) (hret : meth.sig.returnType = ret) (hlk : meth.locks = false) (hnm : meth.name = y.name) (ls : Array Slot) (hl : lv_has ls n (lv_args 0 as)),
      W p l e { frames := f, cells := mc, slots := ms, locals := 41 * f } s m args below meth c s.heap [] 0 0 (MQ below (jQc F Qy) args s mc ms (fun a => F a ∨ N0 ≤ a)) (F0 m 0 ls [])) : jMet D ca o N0 y cc n ret f mc ms as ws ks F Qy := by
  intro l
  refine Met.ofW (cc := cc) (maxL := n) (ret := ret) hy rfl ?_
  intro p e s m args below meth c s₁ B hml hv
  obtain ⟨q1, q2, q3, q4, q5, q6⟩ := hv
  have hts : ∀ w ∈ jws y cc n ret, w.before args s = true := atoms_spec (ws := jws y cc n ret) B.pre
  have hl := lv_entry as (n := n) hcat
  have h1 := k p l e s m args below meth c ⟨B.exec, B.bytes, hml, findClass_of_methodNamed B.named, fun w hw => hts w (List.mem_cons_of_mem _ hw)⟩ q4 q3 q2 q5 q6 B.returns B.notSynchronized (name_of_methodNamed B.named B.method).1 _ hl
  rw [q1, lg_entry_eq]
  rw [q1] at h1
  exact h1
section JC
variable {p : Program} {l : Launch} {e : Env} {R : Room} {s : State} {m : MethodId} {args : Array Value} {below : List Frame} {meth : Method} {c : Code} {Q : State → Prop} {D : va_G} {ca : Nat → ClassId} {o : Nat} {A F : Nat → Prop} {H : Heap} {locs : List Loc} {cells slots mc ms f idx pc nL n : Nat} {cc by1 : ByteArray} {own : String} {ls : Array Slot} {as rest : List Value} {ws : va_W} {ks : List (Nat × String × Nat)} {Qy : Option Value → Heap → Prop} {y : MethodName} {ret : Option FieldType}
theorem jcalled {st0 : List Value} {a : Array Value} (hr : va_Run p l e R s m args below meth c H locs cells slots mc ms (F0 m pc ls st0) rest (jQc F Qy a) (fun q => F q ∨ H.size ≤ q)) (hS : va_S A s.heap H locs) (hA : ∀ q, F q → A q) (hA2 : ∀ q, H.size ≤ q → A q)
    (kk : ∀ (H1 : Heap) (locs1 : List Loc) (r : Option Value), Qy r H1 → va_S A s.heap H1 locs1 → H.size ≤ H1.size → (∀ q, q < H.size → ¬ F q → H1[q]? = H[q]?) → W p l e R s m args below meth c H1 locs1 (cells + mc) (slots + ms) Q (F0 m (pc + 3) ls (r.toList ++ rest))) :
    W p l e R s m args below meth c H locs cells slots Q (F0 m pc ls st0) := by
  intro T hT X
  obtain ⟨v, st0', t, T', L', h0, X', hL, e1, e2, ⟨r, hv, hq, hz, hk⟩, st⟩ := hr T hT X
  cases hv
  rw [h0] at hz hk
  obtain ⟨t2, a1, b1⟩ := kk T'.heap (locs ++ L') v (by rw [e1]; exact hq) ⟨Nat.le_trans hS.1 (by rw [e1]; exact hz), fun q h1 h2 => by rw [e1, hk q (Nat.lt_of_lt_of_le h1 hS.1) (fun z => h2 (hA q z))]; exact hS.2.1 q h1 h2, fun q hq => by
    rcases List.mem_append.mp hq with h | h
    · exact hS.2.2 q h
    · rcases hL q h with h | h
      · exact hA _ h
      · exact hA2 _ h⟩ (by rw [e1]; exact hz) (fun q h1 h2 => by rw [e1]; exact hk q h1 h2) T' rfl X'
  exact ⟨t2, st t2 a1, b1⟩
theorem jpre (hN : xNX o s) (hK : va_K D vwCl (xTys ca) s) (hP : va_P D vwCl ws H) (hks : jK ks s) (ho : o ≤ s.heap.size) (hA0 : ∀ a, a < o → ¬ A a) (hS : va_S A s.heap H locs) : ∀ U : State, U.heap = H → s.WarmedH U.vm → jPc D ca o H.size as ws ks as.toArray U := fun U hU hW =>
  ⟨rfl, by rw [hU]; exact hP, va_K.moved hW.alike hK, hN.go hW (fun q hq => by rw [hU]; exact hS.2.1 q (Nat.lt_of_lt_of_le hq ho) (hA0 q hq)), by rw [hU], fun t ht => (hks t ht).warm hW⟩
/-- invokestatic -/
theorem jcS (S : CallFix p m c cc nL s args xBig own) (hm : jMet D ca o H.size y by1 n ret f mc ms as ws ks F Qy) (hcode : Cond.code y by1 n ret ∈ xBig) (hl : Cond.methodLink own idx y ∈ xBig) (hst : Cond.static y ∈ xBig) (hini : Cond.initialized y.cls ∈ xBig) (hd8 : y.cls ≠ "java/lang/invoke/MethodHandle" ∧ y.cls ≠ "java/lang/invoke/VarHandle" ∧ (parseMethodDescriptor y.desc).map (fun d => d.parameters.length) = some as.length)
    (hN : xNX o s) (hK : va_K D vwCl (xTys ca) s) (hP : va_P D vwCl ws H) (hks : jK ks s) (ho : o ≤ s.heap.size) (hA0 : ∀ a, a < o → ¬ A a) (hS : va_S A s.heap H locs) (hA : ∀ q, F q → A q) (hA2 : ∀ q, H.size ≤ q → A q) (hd : decode cc pc = .ok (.invokestatic idx, 3)) (hc8 : (rest.map fun v => v.category).sum ≤ 8) (rF : f + 1 ≤ R.frames ∧ 8 + (n + 11) + 41 * f ≤ R.locals) (rC : cells + mc ≤ R.cells ∧ slots + ms ≤ R.slots) (hz : ls.size = nL)
    (kk : ∀ (H1 : Heap) (locs1 : List Loc) (r : Option Value), Qy r H1 → va_S A s.heap H1 locs1 → H.size ≤ H1.size → (∀ q, q < H.size → ¬ F q → H1[q]? = H[q]?) → W p l e R s m args below meth c H1 locs1 (cells + mc) (slots + ms) Q (F0 m (pc + 3) ls (r.toList ++ rest))) :
    W p l e R s m args below meth c H locs cells slots Q (F0 m pc ls (as.reverse ++ rest)) := by
  have hG := jws_good hcode
  refine jcalled (va_runS (Ts := xBig) (own := own) (rest := rest) (As := as) S (hm l) ⟨callB_of as.length S.2.2.2.2 hG rfl rfl rfl (S.2.2.2.2 _ hini) (S.2.2.2.2 _ hl) hd8 rF, S.2.2.2.2 _ hst⟩ ⟨jPc.blind, jpre hN hK hP hks ho hA0 hS⟩ rfl rfl hz rfl (lv_room hc8) hd rC) hS hA hA2 kk
/-- a class of ours as the tables have it -/
theorem asbCls {args : Array Value} (hN : xNX o s) : ∃ (c : ClassId) (k : Class), s.vm.findClass "java/lang/AbstractStringBuilder" = some c ∧ s.vm.classes[c]? = some k ∧ k.isInterface = false := by
  have h : (Cond.selects "java/lang/StringBuilder" ⟨"java/lang/AbstractStringBuilder", "isLatin1", "()Z"⟩ ⟨"java/lang/AbstractStringBuilder", "isLatin1", "()Z"⟩).before args s = true := jW hN (by decide +kernel) (by decide +kernel)
  obtain ⟨c, r, m, -, -, h3, -, k, h5, h6⟩ := Cond.selects_spec h
  exact ⟨m.cls, k, findClass_of_methodNamed h3, h5, h6⟩
theorem jSame {args : Array Value} (hN : xNX o s) (hcode : (Cond.code y by1 n ret).before args s = true) (hy : y.cls = "java/lang/AbstractStringBuilder") : (Cond.sameMethod y.cls y.cls y.name y.desc).before args s = true := by
  obtain ⟨mk, hn⟩ := Cond.code_named hcode
  have hf := State.methodFound?_of_named hn (by rw [hy]; decide)
  obtain ⟨c, k, h1, h2, h3⟩ := asbCls (args := args) hN
  rw [← hy] at h1
  simp [Cond.before, Cond.holds, Cond.value, hn, hf, h1, h2, h3]
/-- what an invocation by a builder's class selects: a private method -/
theorem jSelP0 {U : State} {a0 : Array Value} (h0 : (Cond.selects "java/lang/StringBuilder" ⟨"java/lang/AbstractStringBuilder", "isLatin1", "()Z"⟩ ⟨"java/lang/AbstractStringBuilder", "isLatin1", "()Z"⟩).before a0 U = true) (hcode : (Cond.code y by1 n ret).before a0 U = true) (hy : y.cls = "java/lang/AbstractStringBuilder") (hpr : (Cond.privateMethod y).before a0 U = true) : (Cond.selects "java/lang/StringBuilder" y y).before a0 U = true := by
  obtain ⟨mk, hn⟩ := Cond.code_named hcode
  obtain ⟨meth, cd, h1, -⟩ := Cond.code_spec hn hcode
  have hf := State.methodFound?_of_named hn (by rw [hy]; decide)
  obtain ⟨cS, r, m, hc, -, h3, -, k, g2, g3⟩ := Cond.selects_spec h0
  have g1 := findClass_of_methodNamed h3
  have hcl : mk.cls = m.cls := Option.some.inj ((findClass_of_methodNamed hn).symm.trans (by rw [hy]; exact g1))
  have hp : meth.isPrivate = true := Cond.privateMethod_at hpr mk meth hn h1
  have hsel : selectMethod {} U.vm cS mk = .method mk := selectMethod_private h1 hp
  simp only [Cond.before, Cond.holds, Cond.value, hc, hf, hn, hsel, hcl, g2]
  simp
  exact g3
theorem jSelP {args : Array Value} (hN : xNX o s) (hcode : tables_1.any (fun v => decide (v = .code y by1 n ret)) = true) (hy : y.cls = "java/lang/AbstractStringBuilder") (hpr : tables_1.any (fun v => decide (v = .privateMethod y)) = true) (hk : ((Cond.selects "java/lang/StringBuilder" y y).warmB (Cond.selects "java/lang/StringBuilder" y y).codeNames && (Cond.selects "java/lang/StringBuilder" y y).onTables) = true) : (Cond.selects "java/lang/StringBuilder" y y).before args s = true := by
  obtain ⟨-, U0, a0, -, htb, -, hW, -⟩ := hN
  have T : ∀ w : Cond, tables_1.any (fun v => decide (v = w)) = true → w.before a0 U0 = true := fun w h => htb _ (List.mem_append_right _ (tIn h))
  rw [Bool.and_eq_true] at hk
  exact va_tabs (u := U0.setVm s.vm) hk.2 rfl (Cond.pre_warmed hW hk.1 (jSelP0 (T _ (by decide +kernel)) (T _ hcode) hy (T _ hpr)))
end JC
end JD
