/-! the law's formula: the letters of frm (printed by formula.py) -/
theorem dfo_0 : decode method_11_code 0 = .ok (.aload_n 0, 1) := by decide +kernel
theorem dfo_1 : decode method_11_code 1 = .ok (.iload_n 1, 1) := by decide +kernel
theorem dfo_2 : decode method_11_code 2 = .ok (.iconst 0, 1) := by decide +kernel
theorem dfo_3 : decode method_11_code 3 = .ok (.invokestatic 20, 3) := by decide +kernel
theorem dfo_6 : decode method_11_code 6 = .ok (.invokestatic 24, 3) := by decide +kernel
theorem dfo_9 : decode method_11_code 9 = .ok (.istore_n 2, 1) := by decide +kernel
theorem dfo_10 : decode method_11_code 10 = .ok (.aload_n 0, 1) := by decide +kernel
theorem dfo_11 : decode method_11_code 11 = .ok (.iload_n 1, 1) := by decide +kernel
theorem dfo_12 : decode method_11_code 12 = .ok (.iconst 1, 1) := by decide +kernel
theorem dfo_13 : decode method_11_code 13 = .ok (.invokestatic 20, 3) := by decide +kernel
theorem dfo_16 : decode method_11_code 16 = .ok (.invokestatic 24, 3) := by decide +kernel
theorem dfo_19 : decode method_11_code 19 = .ok (.istore_n 3, 1) := by decide +kernel
theorem dfo_20 : decode method_11_code 20 = .ok (.aload_n 0, 1) := by decide +kernel
theorem dfo_21 : decode method_11_code 21 = .ok (.iload_n 1, 1) := by decide +kernel
theorem dfo_22 : decode method_11_code 22 = .ok (.iconst 2, 1) := by decide +kernel
theorem dfo_23 : decode method_11_code 23 = .ok (.invokestatic 20, 3) := by decide +kernel
theorem dfo_26 : decode method_11_code 26 = .ok (.invokestatic 24, 3) := by decide +kernel
theorem dfo_29 : decode method_11_code 29 = .ok (.istore 4, 2) := by decide +kernel
theorem dfo_31 : decode method_11_code 31 = .ok (.aload_n 0, 1) := by decide +kernel
theorem dfo_32 : decode method_11_code 32 = .ok (.iload_n 1, 1) := by decide +kernel
theorem dfo_33 : decode method_11_code 33 = .ok (.invokestatic 28, 3) := by decide +kernel
theorem dfo_36 : decode method_11_code 36 = .ok (.istore 5, 2) := by decide +kernel
theorem dfo_38 : decode method_11_code 38 = .ok (.aload_n 0, 1) := by decide +kernel
theorem dfo_39 : decode method_11_code 39 = .ok (.iload_n 1, 1) := by decide +kernel
theorem dfo_40 : decode method_11_code 40 = .ok (.invokestatic 31, 3) := by decide +kernel
theorem dfo_43 : decode method_11_code 43 = .ok (.istore 6, 2) := by decide +kernel
theorem dfo_45 : decode method_11_code 45 = .ok (.iload 6, 2) := by decide +kernel
theorem dfo_47 : decode method_11_code 47 = .ok (.ifCond .ne 29, 3) := by decide +kernel
theorem dfo_50 : decode method_11_code 50 = .ok (.new 34, 3) := by decide +kernel
theorem dfo_53 : decode method_11_code 53 = .ok (.dup, 1) := by decide +kernel
theorem dfo_54 : decode method_11_code 54 = .ok (.invokespecial 36, 3) := by decide +kernel
theorem dfo_57 : decode method_11_code 57 = .ok (.iload_n 2, 1) := by decide +kernel
theorem dfo_58 : decode method_11_code 58 = .ok (.invokevirtual 37, 3) := by decide +kernel
theorem dfo_61 : decode method_11_code 61 = .ok (.ldc 41, 2) := by decide +kernel
theorem dfo_63 : decode method_11_code 63 = .ok (.invokevirtual 43, 3) := by decide +kernel
theorem dfo_66 : decode method_11_code 66 = .ok (.iload_n 3, 1) := by decide +kernel
theorem dfo_67 : decode method_11_code 67 = .ok (.invokevirtual 37, 3) := by decide +kernel
theorem dfo_70 : decode method_11_code 70 = .ok (.invokevirtual 46, 3) := by decide +kernel
theorem dfo_73 : decode method_11_code 73 = .ok (.goto 224, 3) := by decide +kernel
theorem dfo_76 : decode method_11_code 76 = .ok (.iload 6, 2) := by decide +kernel
theorem dfo_78 : decode method_11_code 78 = .ok (.iconst 1, 1) := by decide +kernel
theorem dfo_79 : decode method_11_code 79 = .ok (.if_icmp .ne 39, 3) := by decide +kernel
theorem dfo_82 : decode method_11_code 82 = .ok (.new 34, 3) := by decide +kernel
theorem dfo_85 : decode method_11_code 85 = .ok (.dup, 1) := by decide +kernel
theorem dfo_86 : decode method_11_code 86 = .ok (.invokespecial 36, 3) := by decide +kernel
theorem dfo_89 : decode method_11_code 89 = .ok (.iload_n 2, 1) := by decide +kernel
theorem dfo_90 : decode method_11_code 90 = .ok (.invokevirtual 37, 3) := by decide +kernel
theorem dfo_93 : decode method_11_code 93 = .ok (.ldc 50, 2) := by decide +kernel
theorem dfo_95 : decode method_11_code 95 = .ok (.invokevirtual 43, 3) := by decide +kernel
theorem dfo_98 : decode method_11_code 98 = .ok (.iload_n 3, 1) := by decide +kernel
theorem dfo_99 : decode method_11_code 99 = .ok (.invokevirtual 37, 3) := by decide +kernel
theorem dfo_102 : decode method_11_code 102 = .ok (.ldc 52, 2) := by decide +kernel
theorem dfo_104 : decode method_11_code 104 = .ok (.invokevirtual 43, 3) := by decide +kernel
theorem dfo_107 : decode method_11_code 107 = .ok (.iload 5, 2) := by decide +kernel
theorem dfo_109 : decode method_11_code 109 = .ok (.invokevirtual 54, 3) := by decide +kernel
theorem dfo_112 : decode method_11_code 112 = .ok (.invokevirtual 46, 3) := by decide +kernel
theorem dfo_115 : decode method_11_code 115 = .ok (.goto 182, 3) := by decide +kernel
theorem dfo_118 : decode method_11_code 118 = .ok (.iload 6, 2) := by decide +kernel
theorem dfo_120 : decode method_11_code 120 = .ok (.iconst 2, 1) := by decide +kernel
theorem dfo_121 : decode method_11_code 121 = .ok (.if_icmp .ne 59, 3) := by decide +kernel
theorem dfo_124 : decode method_11_code 124 = .ok (.new 34, 3) := by decide +kernel
theorem dfo_127 : decode method_11_code 127 = .ok (.dup, 1) := by decide +kernel
theorem dfo_128 : decode method_11_code 128 = .ok (.invokespecial 36, 3) := by decide +kernel
theorem dfo_131 : decode method_11_code 131 = .ok (.ldc 57, 2) := by decide +kernel
theorem dfo_133 : decode method_11_code 133 = .ok (.invokevirtual 43, 3) := by decide +kernel
theorem dfo_136 : decode method_11_code 136 = .ok (.iload_n 2, 1) := by decide +kernel
theorem dfo_137 : decode method_11_code 137 = .ok (.invokevirtual 37, 3) := by decide +kernel
theorem dfo_140 : decode method_11_code 140 = .ok (.ldc 59, 2) := by decide +kernel
theorem dfo_142 : decode method_11_code 142 = .ok (.invokevirtual 43, 3) := by decide +kernel
theorem dfo_145 : decode method_11_code 145 = .ok (.iload 5, 2) := by decide +kernel
theorem dfo_147 : decode method_11_code 147 = .ok (.invokevirtual 54, 3) := by decide +kernel
theorem dfo_150 : decode method_11_code 150 = .ok (.ldc 61, 2) := by decide +kernel
theorem dfo_152 : decode method_11_code 152 = .ok (.invokevirtual 43, 3) := by decide +kernel
theorem dfo_155 : decode method_11_code 155 = .ok (.iload_n 3, 1) := by decide +kernel
theorem dfo_156 : decode method_11_code 156 = .ok (.invokevirtual 37, 3) := by decide +kernel
theorem dfo_159 : decode method_11_code 159 = .ok (.ldc 63, 2) := by decide +kernel
theorem dfo_161 : decode method_11_code 161 = .ok (.invokevirtual 43, 3) := by decide +kernel
theorem dfo_164 : decode method_11_code 164 = .ok (.iload 4, 2) := by decide +kernel
theorem dfo_166 : decode method_11_code 166 = .ok (.invokevirtual 37, 3) := by decide +kernel
theorem dfo_169 : decode method_11_code 169 = .ok (.ldc 65, 2) := by decide +kernel
theorem dfo_171 : decode method_11_code 171 = .ok (.invokevirtual 43, 3) := by decide +kernel
theorem dfo_174 : decode method_11_code 174 = .ok (.invokevirtual 46, 3) := by decide +kernel
theorem dfo_177 : decode method_11_code 177 = .ok (.goto 120, 3) := by decide +kernel
theorem dfo_180 : decode method_11_code 180 = .ok (.iload 6, 2) := by decide +kernel
theorem dfo_182 : decode method_11_code 182 = .ok (.iconst 3, 1) := by decide +kernel
theorem dfo_183 : decode method_11_code 183 = .ok (.if_icmp .ne 29, 3) := by decide +kernel
theorem dfo_186 : decode method_11_code 186 = .ok (.new 34, 3) := by decide +kernel
theorem dfo_189 : decode method_11_code 189 = .ok (.dup, 1) := by decide +kernel
theorem dfo_190 : decode method_11_code 190 = .ok (.invokespecial 36, 3) := by decide +kernel
theorem dfo_193 : decode method_11_code 193 = .ok (.iload_n 2, 1) := by decide +kernel
theorem dfo_194 : decode method_11_code 194 = .ok (.invokevirtual 37, 3) := by decide +kernel
theorem dfo_197 : decode method_11_code 197 = .ok (.ldc 67, 2) := by decide +kernel
theorem dfo_199 : decode method_11_code 199 = .ok (.invokevirtual 43, 3) := by decide +kernel
theorem dfo_202 : decode method_11_code 202 = .ok (.iload_n 3, 1) := by decide +kernel
theorem dfo_203 : decode method_11_code 203 = .ok (.invokevirtual 37, 3) := by decide +kernel
theorem dfo_206 : decode method_11_code 206 = .ok (.invokevirtual 46, 3) := by decide +kernel
theorem dfo_209 : decode method_11_code 209 = .ok (.goto 88, 3) := by decide +kernel
theorem dfo_212 : decode method_11_code 212 = .ok (.iload 6, 2) := by decide +kernel
theorem dfo_214 : decode method_11_code 214 = .ok (.iconst 4, 1) := by decide +kernel
theorem dfo_215 : decode method_11_code 215 = .ok (.if_icmp .ne 39, 3) := by decide +kernel
theorem dfo_218 : decode method_11_code 218 = .ok (.new 34, 3) := by decide +kernel
theorem dfo_221 : decode method_11_code 221 = .ok (.dup, 1) := by decide +kernel
theorem dfo_222 : decode method_11_code 222 = .ok (.invokespecial 36, 3) := by decide +kernel
theorem dfo_225 : decode method_11_code 225 = .ok (.ldc 69, 2) := by decide +kernel
theorem dfo_227 : decode method_11_code 227 = .ok (.invokevirtual 43, 3) := by decide +kernel
theorem dfo_230 : decode method_11_code 230 = .ok (.iload_n 2, 1) := by decide +kernel
theorem dfo_231 : decode method_11_code 231 = .ok (.invokevirtual 37, 3) := by decide +kernel
theorem dfo_234 : decode method_11_code 234 = .ok (.ldc 52, 2) := by decide +kernel
theorem dfo_236 : decode method_11_code 236 = .ok (.invokevirtual 43, 3) := by decide +kernel
theorem dfo_239 : decode method_11_code 239 = .ok (.iload_n 3, 1) := by decide +kernel
theorem dfo_240 : decode method_11_code 240 = .ok (.invokevirtual 37, 3) := by decide +kernel
theorem dfo_243 : decode method_11_code 243 = .ok (.ldc 71, 2) := by decide +kernel
theorem dfo_245 : decode method_11_code 245 = .ok (.invokevirtual 43, 3) := by decide +kernel
theorem dfo_248 : decode method_11_code 248 = .ok (.invokevirtual 46, 3) := by decide +kernel
theorem dfo_251 : decode method_11_code 251 = .ok (.goto 46, 3) := by decide +kernel
theorem dfo_254 : decode method_11_code 254 = .ok (.new 34, 3) := by decide +kernel
theorem dfo_257 : decode method_11_code 257 = .ok (.dup, 1) := by decide +kernel
theorem dfo_258 : decode method_11_code 258 = .ok (.invokespecial 36, 3) := by decide +kernel
theorem dfo_261 : decode method_11_code 261 = .ok (.ldc 73, 2) := by decide +kernel
theorem dfo_263 : decode method_11_code 263 = .ok (.invokevirtual 43, 3) := by decide +kernel
theorem dfo_266 : decode method_11_code 266 = .ok (.iload_n 2, 1) := by decide +kernel
theorem dfo_267 : decode method_11_code 267 = .ok (.invokevirtual 37, 3) := by decide +kernel
theorem dfo_270 : decode method_11_code 270 = .ok (.ldc 75, 2) := by decide +kernel
theorem dfo_272 : decode method_11_code 272 = .ok (.invokevirtual 43, 3) := by decide +kernel
theorem dfo_275 : decode method_11_code 275 = .ok (.iload_n 3, 1) := by decide +kernel
theorem dfo_276 : decode method_11_code 276 = .ok (.invokevirtual 37, 3) := by decide +kernel
theorem dfo_279 : decode method_11_code 279 = .ok (.ldc 77, 2) := by decide +kernel
theorem dfo_281 : decode method_11_code 281 = .ok (.invokevirtual 43, 3) := by decide +kernel
theorem dfo_284 : decode method_11_code 284 = .ok (.iload 5, 2) := by decide +kernel
theorem dfo_286 : decode method_11_code 286 = .ok (.invokevirtual 54, 3) := by decide +kernel
theorem dfo_289 : decode method_11_code 289 = .ok (.ldc 79, 2) := by decide +kernel
theorem dfo_291 : decode method_11_code 291 = .ok (.invokevirtual 43, 3) := by decide +kernel
theorem dfo_294 : decode method_11_code 294 = .ok (.invokevirtual 46, 3) := by decide +kernel
theorem dfo_297 : decode method_11_code 297 = .ok (.areturn, 1) := by decide +kernel
theorem zo41 : zOk 41 "+" [43] = true := by decide +kernel
theorem zo50 : zOk 50 "*" [42] = true := by decide +kernel
theorem zo52 : zOk 52 "-" [45] = true := by decide +kernel
theorem zo57 : zOk 57 "[" [91] = true := by decide +kernel
theorem zo59 : zOk 59 "<" [60] = true := by decide +kernel
theorem zo61 : zOk 61 "?" [63] = true := by decide +kernel
theorem zo63 : zOk 63 ":" [58] = true := by decide +kernel
theorem zo65 : zOk 65 "]" [93] = true := by decide +kernel
theorem zo67 : zOk 67 "/" [47] = true := by decide +kernel
theorem zo69 : zOk 69 "(" [40] = true := by decide +kernel
theorem zo71 : zOk 71 ")*2" [41, 42, 50] = true := by decide +kernel
theorem zo73 : zOk 73 "^(-" [94, 40, 45] = true := by decide +kernel
theorem zo75 : zOk 75 "," [44] = true := by decide +kernel
theorem zo77 : zOk 77 "%" [37] = true := by decide +kernel
theorem zo79 : zOk 79 ")" [41] = true := by decide +kernel
section GM
/-- a contract of the law's own static methods -/
def gMet (y : MethodName) (cc : ByteArray) (n : Nat) (ret : Option FieldType) (f mc ms : Nat) (as : List Value) (PP : State → Prop) (QQ : Option Value → State → State → Prop) (free : Addr → Prop) : Prop :=
  ∀ l : Launch, Met l y (jws y cc n ret) { frames := f, cells := mc, slots := ms, locals := 41 * f } (fun v U => v = as.toArray ∧ PP U) (fun _ st oc t => ∃ r, oc = .returned r ∧ QQ r st t) mc ms free
theorem gMet_of {y : MethodName} {cc : ByteArray} {n : Nat} {ret : Option FieldType} {f mc ms : Nat} {as : List Value} {PP : State → Prop} {QQ : Option Value → State → State → Prop} {free : Addr → Prop} (hy : y.cls = "PulledSignalsLaw") (hcat : (lg_sl as).length ≤ n)
    (k : ∀ (p : Program) (l : Launch) (e : Env) (s : State) (m : MethodId) (args : Array Value) (below : List Frame) (meth : Method) (c : Code) (S : CallFix p m c cc n s args xBig "PulledSignalsLaw") (hP : PP s) (hret : meth.sig.returnType = ret) (hlk : meth.locks = false) (ls : Array Slot) (hl : lv_has ls n (lv_args 0 as)),
      W p l e { frames := f, cells := mc, slots := ms, locals := 41 * f } s m args below meth c s.heap [] 0 0 (MQ below (fun _ st oc t => ∃ r, oc = .returned r ∧ QQ r st t) args s mc ms free) (F0 m 0 ls [])) : gMet y cc n ret f mc ms as PP QQ free := by
  intro l
  refine Met.ofW (cc := cc) (maxL := n) (ret := ret) (by rw [hy]; decide) rfl ?_
  intro p e s m args below meth c s₁ B hml hv
  obtain ⟨q1, q2⟩ := hv
  have hts : ∀ w ∈ jws y cc n ret, w.before args s = true := atoms_spec (ws := jws y cc n ret) B.pre
  have hl := lv_entry as (n := n) hcat
  have hown : s.vm.findClass "PulledSignalsLaw" = some m.cls := by
    rw [← hy]
    exact findClass_of_methodNamed B.named
  have h1 := k p l e s m args below meth c ⟨B.exec, B.bytes, hml, hown, fun w hw => hts w (List.mem_cons_of_mem _ hw)⟩ q2 B.returns B.notSynchronized _ hl
  rw [q1, lg_entry_eq]
  rw [q1] at h1
  exact h1
section GC
variable {p : Program} {l : Launch} {e : Env} {R : Room} {s : State} {m : MethodId} {args : Array Value} {below : List Frame} {meth : Method} {c : Code} {Q : State → Prop} {A F free : Nat → Prop} {H : Heap} {locs : List Loc} {cells slots mc ms f idx pc nL n : Nat} {cc by1 : ByteArray} {ls : Array Slot} {as rest : List Value} {y : MethodName} {ret : Option FieldType} {PP : State → Prop} {QQ : Option Value → State → State → Prop}
/-- a call of one -/
theorem gCall (S : CallFix p m c cc nL s args xBig "PulledSignalsLaw") (hm : gMet y by1 n ret f mc ms as PP QQ free) (hcode : Cond.code y by1 n ret ∈ xBig) (hl : Cond.methodLink "PulledSignalsLaw" idx y ∈ xBig) (hst : Cond.static y ∈ xBig) (hini : Cond.initialized y.cls ∈ xBig) (hd8 : y.cls ≠ "java/lang/invoke/MethodHandle" ∧ y.cls ≠ "java/lang/invoke/VarHandle" ∧ (parseMethodDescriptor y.desc).map (fun d => d.parameters.length) = some as.length)
    (hbl : ∀ (a : Array Value) (U : State) (g : JFrame) (mk : MethodId), PP U → PP (U.calling g mk a)) (hPP : ∀ U : State, U.heap = H → s.WarmedH U.vm → PP U) (hS : va_S A s.heap H locs) (hA : ∀ q, free q → A q) (hq : ∀ r (st t : State), st.heap = H → QQ r st t → va_F free st t) (hd : decode cc pc = .ok (.invokestatic idx, 3)) (hc8 : (rest.map fun v => v.category).sum ≤ 8) (rF : f + 1 ≤ R.frames ∧ 8 + (n + 11) + 41 * f ≤ R.locals) (rC : cells + mc ≤ R.cells ∧ slots + ms ≤ R.slots) (hz : ls.size = nL)
    (kk : ∀ (st t T' : State) (locs1 : List Loc) (r : Option Value), st.heap = H → T'.heap = t.heap → T'.vm = t.vm → s.vm.Alike T'.vm → QQ r st t → va_S A s.heap T'.heap locs1 → H.size ≤ T'.heap.size → (∀ q, q < H.size → ¬ free q → T'.heap[q]? = H[q]?) → W p l e R s m args below meth c T'.heap locs1 (cells + mc) (slots + ms) Q (F0 m (pc + 3) ls (r.toList ++ rest))) :
    W p l e R s m args below meth c H locs cells slots Q (F0 m pc ls (as.reverse ++ rest)) := by
  have hG := jws_good hcode
  have hr : va_Run p l e R s m args below meth c H locs cells slots mc ms (F0 m pc ls (as.reverse ++ rest)) rest (fun st oc t => ∃ r, oc = .returned r ∧ QQ r st t) free := va_runS (Ts := xBig) (own := "PulledSignalsLaw") (rest := rest) (As := as) (g := F0 m pc ls (as.reverse ++ rest)) S (hm l) ⟨callB_of as.length S.2.2.2.2 hG rfl rfl rfl (S.2.2.2.2 _ hini) (S.2.2.2.2 _ hl) hd8 rF, S.2.2.2.2 _ hst⟩ ⟨fun a U g mk h => ⟨h.1, hbl a U g mk h.2⟩, fun U h1 h2 => ⟨rfl, hPP U h1 h2⟩⟩ rfl rfl hz rfl (lv_room hc8) hd rC
  intro T hT X
  obtain ⟨v, st0', t, T', L', h0, X', hL, e1, e2, ⟨r, hv, hQ⟩, st⟩ := hr T hT X
  cases hv
  obtain ⟨hz1, hk1⟩ := hq v st0' t h0 hQ
  rw [h0] at hz1 hk1
  obtain ⟨t2, a1, b1⟩ := kk st0' t T' (locs ++ L') v h0 e1 e2 X'.warmed.alike hQ ⟨Nat.le_trans hS.1 (by rw [e1]; exact hz1), fun q h1 h2 => by rw [e1, hk1 q (Nat.lt_of_lt_of_le h1 hS.1) (fun z => h2 (hA q z))]; exact hS.2.1 q h1 h2, fun q hq => by
    rcases List.mem_append.mp hq with h | h
    · exact hS.2.2 q h
    · exact hA _ (hL q h)⟩ (by rw [e1]; exact hz1) (fun q h1 h2 => by rw [e1]; exact hk1 q h1 h2) T' rfl X'
  exact ⟨t2, st t2 a1, b1⟩
end GC
end GM
section FO
abbrev nFo : MethodName := ⟨"PulledSignalsLaw", "formula", "([II)Ljava/lang/String;"⟩
theorem nFo_c : Cond.code nFo method_11_code 7 (some (.object "java/lang/String")) ∈ xBig := wIn (by decide +kernel)
theorem nFo_s : Cond.static nFo ∈ xBig := wIn (by decide +kernel)
theorem iLAW : Cond.initialized "PulledSignalsLaw" ∈ xBig := wIn (by decide +kernel)
theorem lkOp : Cond.methodLink "PulledSignalsLaw" 20 (xMy rL_operand) ∈ xBig := wIn (by decide +kernel)
theorem lkLe : Cond.methodLink "PulledSignalsLaw" 24 (xMy rL_letter) ∈ xBig := wIn (by decide +kernel)
theorem lkNu : Cond.methodLink "PulledSignalsLaw" 28 (xMy rL_number) ∈ xBig := wIn (by decide +kernel)
theorem lkFo : Cond.methodLink "PulledSignalsLaw" 31 (xMy rL_form) ∈ xBig := wIn (by decide +kernel)
def fPP (b N : Nat) (xs : Nat → Int32) (D : va_G) (ca : Nat → ClassId) (o N0 : Nat) (U : State) : Prop := va_X b N xs U U.heap ∧ va_K D vwCl (xTys ca) U ∧ xNX o U ∧ U.heap.size = N0
def fQQ (N0 : Nat) (ts : List Int32) (r : Option Value) (st t : State) : Prop := ∃ (q : Jvm.Free.SB.SQ) (cS : ClassId), r = some (.ref q.sa) ∧ N0 ≤ q.sa ∧ N0 ≤ q.sd ∧ ST q cS ts t t.heap ∧ va_F (fun a => N0 ≤ a) st t
theorem ST.to {q : Jvm.Free.SB.SQ} {cS : ClassId} {ts : List Int32} {s t : State} {H : Heap} (h : ST q cS ts s H) (hal : s.vm.Alike t.vm) : ST q cS ts t H := by
  obtain ⟨h1, h2, ⟨kS, k1, k2, k3⟩, h4⟩ := h
  obtain ⟨k', e1, e2⟩ := hal.2.2 _ _ k1
  exact ⟨h1, h2, ⟨k', e1, by rw [e2]; exact k2, by rw [e2]; exact k3⟩, fun U hU hH => h4 U (hal.trans hU) hH⟩
theorem fPP.blind {b N : Nat} {xs : Nat → Int32} {D : va_G} {ca : Nat → ClassId} {o N0 : Nat} (a : Array Value) (U : State) (g : JFrame) (mk : MethodId) (h : fPP b N xs D ca o N0 U) : fPP b N xs D ca o N0 (U.calling g mk a) := by
  obtain ⟨h1, h2, h3, h4⟩ := h
  exact ⟨va_X.moved (u := U) (U := U) (Vm.Alike.refl U.vm) h1, va_K.moved (u := U) (U := U.calling g mk a) (Vm.Alike.refl U.vm) h2, ⟨xNW.same (s := U) (U := U.calling g mk a) rfl h3.1, h3.2⟩, h4⟩
variable {p : Program} {l : Launch} {e : Env} {s : State} {m : MethodId} {args : Array Value} {below : List Frame} {meth : Method} {c : Code} {D : va_G} {ca : Nat → ClassId} {o N0 N b : Nat} {xs : Nat → Int32} {H : Heap} {locs : List Loc} {ls : Array Slot} {x y z n : Nat} {cv : Int32}
abbrev rFo : Room := { frames := 12, cells := 4, slots := 40, locals := 41 * 12 }
theorem w_fo0 (S : CallFix p m c method_11_code 7 s args xBig "PulledSignalsLaw") (hN : xNX o s) (hK : va_K D vwCl (xTys ca) s) (hN0 : s.heap.size = N0) (ho : o ≤ N0) (hx9 : x < 23) (hy9 : y < 23) (hz9 : z < 23) (hn9 : n < 10) (hret : meth.sig.returnType = some (.object "java/lang/String")) (hlk : meth.locks = false) (hS : va_S (fun a => N0 ≤ a) s.heap H locs)
    (hl : lv_has ls 7 [(6, .int (nI 0)), (5, .int (nI n)), (4, .int (nI (97 + z))), (3, .int (nI (97 + y))), (2, .int (nI (97 + x))), (0, .ref b), (1, .int cv)]) : W p l e rFo s m args below meth c H locs 0 0 (MQ below (fun _ st oc t => ∃ r, oc = .returned r ∧ fQQ N0 (frm 0 x y z n) r st t) args s 4 40 (fun a => N0 ≤ a)) (F0 m 45 ls []) := by
  obtain ⟨hx, hb, hml, hown, hts⟩ := id S
  have hA0 : ∀ a, a < o → ¬ N0 ≤ a := fun a h1 h2 => by omega
  have hA2 : ∀ q, s.heap.size ≤ q → N0 ≤ q := fun q h => by omega
  have hos : o ≤ s.heap.size := by omega
  have hz : ls.size = 7 := hl.1
  refine lv_iload hx hb dfo_45 (lv_at hl 0 rfl) ?_
  refine lv_if_ne (tgt := 76) hx hb dfo_47 (by decide) (fun hc => absurd rfl hc) (fun _ => ?_)
  have h0 := hS.1
  refine wNew (o := o) (ca := ca) (D := D) (A := fun a => N0 ≤ a) S hN hK hos hA0 hA2 hS hz rfl ⟨by decide, by decide⟩ ⟨Nat.le_of_ble_eq_true rfl, Nat.le_of_ble_eq_true rfl⟩ dfo_50 dfo_53 dfo_54 (fun H1 locs1 hB hS1 hz1 hk1 => ?_)
  replace hS := hS1
  have hb0 : s.heap.size ≤ H.size := h0
  have hd0 : s.heap.size ≤ H.size + 1 := by omega
  have hne : H.size ≠ H.size + 1 := by omega
  refine lv_iload_n hx hb dfo_57 rfl (lv_at hl 4 rfl) ?_
  refine wApC (o := o) (ca := ca) (D := D) (ch := 97 + x) S hN hK hos hA0 hA2 hS hz rfl ⟨by decide, by decide⟩ ⟨Nat.le_of_ble_eq_true rfl, Nat.le_of_ble_eq_true rfl⟩ hB hb0 hd0 hne (Nat.le_of_ble_eq_true rfl) (by omega) dfo_58 (fun H2 locs2 hB hS1 hz1 hk1 => ?_)
  replace hS := hS1
  refine wApS (o := o) (ca := ca) (D := D) S hN hK hos hA0 hA2 hS hz rfl ⟨by decide, by decide⟩ ⟨Nat.le_of_ble_eq_true rfl, Nat.le_of_ble_eq_true rfl⟩ hB hb0 hd0 hne zo41 (Nat.le_of_ble_eq_true rfl) dfo_61 dfo_63 (fun H3 locs3 hB hS1 hz1 hk1 => ?_)
  replace hS := hS1
  refine lv_iload_n hx hb dfo_66 rfl (lv_at hl 3 rfl) ?_
  refine wApC (o := o) (ca := ca) (D := D) (ch := 97 + y) S hN hK hos hA0 hA2 hS hz rfl ⟨by decide, by decide⟩ ⟨Nat.le_of_ble_eq_true rfl, Nat.le_of_ble_eq_true rfl⟩ hB hb0 hd0 hne (Nat.le_of_ble_eq_true rfl) (by omega) dfo_67 (fun H4 locs4 hB hS1 hz1 hk1 => ?_)
  replace hS := hS1
  refine wToS (o := o) (ca := ca) (D := D) S hN hK hos hA0 hA2 hS hz rfl ⟨by decide, by decide⟩ ⟨Nat.le_of_ble_eq_true rfl, Nat.le_of_ble_eq_true rfl⟩ hB hb0 hd0 hne (Nat.le_of_ble_eq_true rfl) dfo_70 (fun H5 q cS hq1 hq2 hT hS1 hz1 hk1 => ?_)
  replace hS := hS1
  refine lv_goto (tgt := 297) hx hb dfo_73 (by decide) ?_
  have h1 := hS.1
  exact W.aret hx hb hret (Or.inl ⟨_, rfl⟩) (Or.inr ⟨_, rfl⟩) (fun t ht hW => ⟨_, rfl, q, cS, rfl, Nat.le_trans (show N0 ≤ H4.size by omega) (Nat.le_of_eq hq1.symm), Nat.le_trans (show N0 ≤ H4.size by omega) (Nat.le_of_lt hq2), by rw [ht]; exact ST.to hT hW.alike, va_S.F hS ht⟩) hS.2.2 dfo_297 hlk
theorem w_fo1 (S : CallFix p m c method_11_code 7 s args xBig "PulledSignalsLaw") (hN : xNX o s) (hK : va_K D vwCl (xTys ca) s) (hN0 : s.heap.size = N0) (ho : o ≤ N0) (hx9 : x < 23) (hy9 : y < 23) (hz9 : z < 23) (hn9 : n < 10) (hret : meth.sig.returnType = some (.object "java/lang/String")) (hlk : meth.locks = false) (hS : va_S (fun a => N0 ≤ a) s.heap H locs)
    (hl : lv_has ls 7 [(6, .int (nI 1)), (5, .int (nI n)), (4, .int (nI (97 + z))), (3, .int (nI (97 + y))), (2, .int (nI (97 + x))), (0, .ref b), (1, .int cv)]) : W p l e rFo s m args below meth c H locs 0 0 (MQ below (fun _ st oc t => ∃ r, oc = .returned r ∧ fQQ N0 (frm 1 x y z n) r st t) args s 4 40 (fun a => N0 ≤ a)) (F0 m 45 ls []) := by
  obtain ⟨hx, hb, hml, hown, hts⟩ := id S
  have hA0 : ∀ a, a < o → ¬ N0 ≤ a := fun a h1 h2 => by omega
  have hA2 : ∀ q, s.heap.size ≤ q → N0 ≤ q := fun q h => by omega
  have hos : o ≤ s.heap.size := by omega
  have hz : ls.size = 7 := hl.1
  refine lv_iload hx hb dfo_45 (lv_at hl 0 rfl) ?_
  refine lv_if_ne (tgt := 76) hx hb dfo_47 (by decide) (fun _ => ?_) (fun hc => absurd hc (show nI 1 ≠ 0 by decide))
  refine lv_iload hx hb dfo_76 (lv_at hl 0 rfl) ?_
  refine lv_iconst (v := 1) hx hb dfo_78 (by decide) ?_
  refine lv_icmp_ne (tgt := 118) hx hb dfo_79 (by decide) (fun hc => absurd (show nI 1 = 1 by decide) hc) (fun _ => ?_)
  have h0 := hS.1
  refine wNew (o := o) (ca := ca) (D := D) (A := fun a => N0 ≤ a) S hN hK hos hA0 hA2 hS hz rfl ⟨by decide, by decide⟩ ⟨Nat.le_of_ble_eq_true rfl, Nat.le_of_ble_eq_true rfl⟩ dfo_82 dfo_85 dfo_86 (fun H1 locs1 hB hS1 hz1 hk1 => ?_)
  replace hS := hS1
  have hb0 : s.heap.size ≤ H.size := h0
  have hd0 : s.heap.size ≤ H.size + 1 := by omega
  have hne : H.size ≠ H.size + 1 := by omega
  refine lv_iload_n hx hb dfo_89 rfl (lv_at hl 4 rfl) ?_
  refine wApC (o := o) (ca := ca) (D := D) (ch := 97 + x) S hN hK hos hA0 hA2 hS hz rfl ⟨by decide, by decide⟩ ⟨Nat.le_of_ble_eq_true rfl, Nat.le_of_ble_eq_true rfl⟩ hB hb0 hd0 hne (Nat.le_of_ble_eq_true rfl) (by omega) dfo_90 (fun H2 locs2 hB hS1 hz1 hk1 => ?_)
  replace hS := hS1
  refine wApS (o := o) (ca := ca) (D := D) S hN hK hos hA0 hA2 hS hz rfl ⟨by decide, by decide⟩ ⟨Nat.le_of_ble_eq_true rfl, Nat.le_of_ble_eq_true rfl⟩ hB hb0 hd0 hne zo50 (Nat.le_of_ble_eq_true rfl) dfo_93 dfo_95 (fun H3 locs3 hB hS1 hz1 hk1 => ?_)
  replace hS := hS1
  refine lv_iload_n hx hb dfo_98 rfl (lv_at hl 3 rfl) ?_
  refine wApC (o := o) (ca := ca) (D := D) (ch := 97 + y) S hN hK hos hA0 hA2 hS hz rfl ⟨by decide, by decide⟩ ⟨Nat.le_of_ble_eq_true rfl, Nat.le_of_ble_eq_true rfl⟩ hB hb0 hd0 hne (Nat.le_of_ble_eq_true rfl) (by omega) dfo_99 (fun H4 locs4 hB hS1 hz1 hk1 => ?_)
  replace hS := hS1
  refine wApS (o := o) (ca := ca) (D := D) S hN hK hos hA0 hA2 hS hz rfl ⟨by decide, by decide⟩ ⟨Nat.le_of_ble_eq_true rfl, Nat.le_of_ble_eq_true rfl⟩ hB hb0 hd0 hne zo52 (Nat.le_of_ble_eq_true rfl) dfo_102 dfo_104 (fun H5 locs5 hB hS1 hz1 hk1 => ?_)
  replace hS := hS1
  refine lv_iload hx hb dfo_107 (lv_at hl 1 rfl) ?_
  refine wApI (o := o) (ca := ca) (D := D) (v := n) S hN hK hos hA0 hA2 hS hz rfl ⟨by decide, by decide⟩ ⟨Nat.le_of_ble_eq_true rfl, Nat.le_of_ble_eq_true rfl⟩ hB hb0 hd0 hne (Nat.le_of_ble_eq_true rfl) hn9 dfo_109 (fun H6 locs6 hB hS1 hz1 hk1 => ?_)
  replace hS := hS1
  refine wToS (o := o) (ca := ca) (D := D) S hN hK hos hA0 hA2 hS hz rfl ⟨by decide, by decide⟩ ⟨Nat.le_of_ble_eq_true rfl, Nat.le_of_ble_eq_true rfl⟩ hB hb0 hd0 hne (Nat.le_of_ble_eq_true rfl) dfo_112 (fun H7 q cS hq1 hq2 hT hS1 hz1 hk1 => ?_)
  replace hS := hS1
  refine lv_goto (tgt := 297) hx hb dfo_115 (by decide) ?_
  have h1 := hS.1
  exact W.aret hx hb hret (Or.inl ⟨_, rfl⟩) (Or.inr ⟨_, rfl⟩) (fun t ht hW => ⟨_, rfl, q, cS, rfl, Nat.le_trans (show N0 ≤ H6.size by omega) (Nat.le_of_eq hq1.symm), Nat.le_trans (show N0 ≤ H6.size by omega) (Nat.le_of_lt hq2), by rw [ht]; exact ST.to hT hW.alike, va_S.F hS ht⟩) hS.2.2 dfo_297 hlk
theorem w_fo2 (S : CallFix p m c method_11_code 7 s args xBig "PulledSignalsLaw") (hN : xNX o s) (hK : va_K D vwCl (xTys ca) s) (hN0 : s.heap.size = N0) (ho : o ≤ N0) (hx9 : x < 23) (hy9 : y < 23) (hz9 : z < 23) (hn9 : n < 10) (hret : meth.sig.returnType = some (.object "java/lang/String")) (hlk : meth.locks = false) (hS : va_S (fun a => N0 ≤ a) s.heap H locs)
    (hl : lv_has ls 7 [(6, .int (nI 2)), (5, .int (nI n)), (4, .int (nI (97 + z))), (3, .int (nI (97 + y))), (2, .int (nI (97 + x))), (0, .ref b), (1, .int cv)]) : W p l e rFo s m args below meth c H locs 0 0 (MQ below (fun _ st oc t => ∃ r, oc = .returned r ∧ fQQ N0 (frm 2 x y z n) r st t) args s 4 40 (fun a => N0 ≤ a)) (F0 m 45 ls []) := by
  obtain ⟨hx, hb, hml, hown, hts⟩ := id S
  have hA0 : ∀ a, a < o → ¬ N0 ≤ a := fun a h1 h2 => by omega
  have hA2 : ∀ q, s.heap.size ≤ q → N0 ≤ q := fun q h => by omega
  have hos : o ≤ s.heap.size := by omega
  have hz : ls.size = 7 := hl.1
  refine lv_iload hx hb dfo_45 (lv_at hl 0 rfl) ?_
  refine lv_if_ne (tgt := 76) hx hb dfo_47 (by decide) (fun _ => ?_) (fun hc => absurd hc (show nI 2 ≠ 0 by decide))
  refine lv_iload hx hb dfo_76 (lv_at hl 0 rfl) ?_
  refine lv_iconst (v := 1) hx hb dfo_78 (by decide) ?_
  refine lv_icmp_ne (tgt := 118) hx hb dfo_79 (by decide) (fun _ => ?_) (fun hc => absurd hc (show nI 2 ≠ 1 by decide))
  refine lv_iload hx hb dfo_118 (lv_at hl 0 rfl) ?_
  refine lv_iconst (v := 2) hx hb dfo_120 (by decide) ?_
  refine lv_icmp_ne (tgt := 180) hx hb dfo_121 (by decide) (fun hc => absurd (show nI 2 = 2 by decide) hc) (fun _ => ?_)
  have h0 := hS.1
  refine wNew (o := o) (ca := ca) (D := D) (A := fun a => N0 ≤ a) S hN hK hos hA0 hA2 hS hz rfl ⟨by decide, by decide⟩ ⟨Nat.le_of_ble_eq_true rfl, Nat.le_of_ble_eq_true rfl⟩ dfo_124 dfo_127 dfo_128 (fun H1 locs1 hB hS1 hz1 hk1 => ?_)
  replace hS := hS1
  have hb0 : s.heap.size ≤ H.size := h0
  have hd0 : s.heap.size ≤ H.size + 1 := by omega
  have hne : H.size ≠ H.size + 1 := by omega
  refine wApS (o := o) (ca := ca) (D := D) S hN hK hos hA0 hA2 hS hz rfl ⟨by decide, by decide⟩ ⟨Nat.le_of_ble_eq_true rfl, Nat.le_of_ble_eq_true rfl⟩ hB hb0 hd0 hne zo57 (Nat.le_of_ble_eq_true rfl) dfo_131 dfo_133 (fun H2 locs2 hB hS1 hz1 hk1 => ?_)
  replace hS := hS1
  refine lv_iload_n hx hb dfo_136 rfl (lv_at hl 4 rfl) ?_
  refine wApC (o := o) (ca := ca) (D := D) (ch := 97 + x) S hN hK hos hA0 hA2 hS hz rfl ⟨by decide, by decide⟩ ⟨Nat.le_of_ble_eq_true rfl, Nat.le_of_ble_eq_true rfl⟩ hB hb0 hd0 hne (Nat.le_of_ble_eq_true rfl) (by omega) dfo_137 (fun H3 locs3 hB hS1 hz1 hk1 => ?_)
  replace hS := hS1
  refine wApS (o := o) (ca := ca) (D := D) S hN hK hos hA0 hA2 hS hz rfl ⟨by decide, by decide⟩ ⟨Nat.le_of_ble_eq_true rfl, Nat.le_of_ble_eq_true rfl⟩ hB hb0 hd0 hne zo59 (Nat.le_of_ble_eq_true rfl) dfo_140 dfo_142 (fun H4 locs4 hB hS1 hz1 hk1 => ?_)
  replace hS := hS1
  refine lv_iload hx hb dfo_145 (lv_at hl 1 rfl) ?_
  refine wApI (o := o) (ca := ca) (D := D) (v := n) S hN hK hos hA0 hA2 hS hz rfl ⟨by decide, by decide⟩ ⟨Nat.le_of_ble_eq_true rfl, Nat.le_of_ble_eq_true rfl⟩ hB hb0 hd0 hne (Nat.le_of_ble_eq_true rfl) hn9 dfo_147 (fun H5 locs5 hB hS1 hz1 hk1 => ?_)
  replace hS := hS1
  refine wApS (o := o) (ca := ca) (D := D) S hN hK hos hA0 hA2 hS hz rfl ⟨by decide, by decide⟩ ⟨Nat.le_of_ble_eq_true rfl, Nat.le_of_ble_eq_true rfl⟩ hB hb0 hd0 hne zo61 (Nat.le_of_ble_eq_true rfl) dfo_150 dfo_152 (fun H6 locs6 hB hS1 hz1 hk1 => ?_)
  replace hS := hS1
  refine lv_iload_n hx hb dfo_155 rfl (lv_at hl 3 rfl) ?_
  refine wApC (o := o) (ca := ca) (D := D) (ch := 97 + y) S hN hK hos hA0 hA2 hS hz rfl ⟨by decide, by decide⟩ ⟨Nat.le_of_ble_eq_true rfl, Nat.le_of_ble_eq_true rfl⟩ hB hb0 hd0 hne (Nat.le_of_ble_eq_true rfl) (by omega) dfo_156 (fun H7 locs7 hB hS1 hz1 hk1 => ?_)
  replace hS := hS1
  refine wApS (o := o) (ca := ca) (D := D) S hN hK hos hA0 hA2 hS hz rfl ⟨by decide, by decide⟩ ⟨Nat.le_of_ble_eq_true rfl, Nat.le_of_ble_eq_true rfl⟩ hB hb0 hd0 hne zo63 (Nat.le_of_ble_eq_true rfl) dfo_159 dfo_161 (fun H8 locs8 hB hS1 hz1 hk1 => ?_)
  replace hS := hS1
  refine lv_iload hx hb dfo_164 (lv_at hl 2 rfl) ?_
  refine wApC (o := o) (ca := ca) (D := D) (ch := 97 + z) S hN hK hos hA0 hA2 hS hz rfl ⟨by decide, by decide⟩ ⟨Nat.le_of_ble_eq_true rfl, Nat.le_of_ble_eq_true rfl⟩ hB hb0 hd0 hne (Nat.le_of_ble_eq_true rfl) (by omega) dfo_166 (fun H9 locs9 hB hS1 hz1 hk1 => ?_)
  replace hS := hS1
  refine wApS (o := o) (ca := ca) (D := D) S hN hK hos hA0 hA2 hS hz rfl ⟨by decide, by decide⟩ ⟨Nat.le_of_ble_eq_true rfl, Nat.le_of_ble_eq_true rfl⟩ hB hb0 hd0 hne zo65 (Nat.le_of_ble_eq_true rfl) dfo_169 dfo_171 (fun H10 locs10 hB hS1 hz1 hk1 => ?_)
  replace hS := hS1
  refine wToS (o := o) (ca := ca) (D := D) S hN hK hos hA0 hA2 hS hz rfl ⟨by decide, by decide⟩ ⟨Nat.le_of_ble_eq_true rfl, Nat.le_of_ble_eq_true rfl⟩ hB hb0 hd0 hne (Nat.le_of_ble_eq_true rfl) dfo_174 (fun H11 q cS hq1 hq2 hT hS1 hz1 hk1 => ?_)
  replace hS := hS1
  refine lv_goto (tgt := 297) hx hb dfo_177 (by decide) ?_
  have h1 := hS.1
  exact W.aret hx hb hret (Or.inl ⟨_, rfl⟩) (Or.inr ⟨_, rfl⟩) (fun t ht hW => ⟨_, rfl, q, cS, rfl, Nat.le_trans (show N0 ≤ H10.size by omega) (Nat.le_of_eq hq1.symm), Nat.le_trans (show N0 ≤ H10.size by omega) (Nat.le_of_lt hq2), by rw [ht]; exact ST.to hT hW.alike, va_S.F hS ht⟩) hS.2.2 dfo_297 hlk
theorem w_fo3 (S : CallFix p m c method_11_code 7 s args xBig "PulledSignalsLaw") (hN : xNX o s) (hK : va_K D vwCl (xTys ca) s) (hN0 : s.heap.size = N0) (ho : o ≤ N0) (hx9 : x < 23) (hy9 : y < 23) (hz9 : z < 23) (hn9 : n < 10) (hret : meth.sig.returnType = some (.object "java/lang/String")) (hlk : meth.locks = false) (hS : va_S (fun a => N0 ≤ a) s.heap H locs)
    (hl : lv_has ls 7 [(6, .int (nI 3)), (5, .int (nI n)), (4, .int (nI (97 + z))), (3, .int (nI (97 + y))), (2, .int (nI (97 + x))), (0, .ref b), (1, .int cv)]) : W p l e rFo s m args below meth c H locs 0 0 (MQ below (fun _ st oc t => ∃ r, oc = .returned r ∧ fQQ N0 (frm 3 x y z n) r st t) args s 4 40 (fun a => N0 ≤ a)) (F0 m 45 ls []) := by
  obtain ⟨hx, hb, hml, hown, hts⟩ := id S
  have hA0 : ∀ a, a < o → ¬ N0 ≤ a := fun a h1 h2 => by omega
  have hA2 : ∀ q, s.heap.size ≤ q → N0 ≤ q := fun q h => by omega
  have hos : o ≤ s.heap.size := by omega
  have hz : ls.size = 7 := hl.1
  refine lv_iload hx hb dfo_45 (lv_at hl 0 rfl) ?_
  refine lv_if_ne (tgt := 76) hx hb dfo_47 (by decide) (fun _ => ?_) (fun hc => absurd hc (show nI 3 ≠ 0 by decide))
  refine lv_iload hx hb dfo_76 (lv_at hl 0 rfl) ?_
  refine lv_iconst (v := 1) hx hb dfo_78 (by decide) ?_
  refine lv_icmp_ne (tgt := 118) hx hb dfo_79 (by decide) (fun _ => ?_) (fun hc => absurd hc (show nI 3 ≠ 1 by decide))
  refine lv_iload hx hb dfo_118 (lv_at hl 0 rfl) ?_
  refine lv_iconst (v := 2) hx hb dfo_120 (by decide) ?_
  refine lv_icmp_ne (tgt := 180) hx hb dfo_121 (by decide) (fun _ => ?_) (fun hc => absurd hc (show nI 3 ≠ 2 by decide))
  refine lv_iload hx hb dfo_180 (lv_at hl 0 rfl) ?_
  refine lv_iconst (v := 3) hx hb dfo_182 (by decide) ?_
  refine lv_icmp_ne (tgt := 212) hx hb dfo_183 (by decide) (fun hc => absurd (show nI 3 = 3 by decide) hc) (fun _ => ?_)
  have h0 := hS.1
  refine wNew (o := o) (ca := ca) (D := D) (A := fun a => N0 ≤ a) S hN hK hos hA0 hA2 hS hz rfl ⟨by decide, by decide⟩ ⟨Nat.le_of_ble_eq_true rfl, Nat.le_of_ble_eq_true rfl⟩ dfo_186 dfo_189 dfo_190 (fun H1 locs1 hB hS1 hz1 hk1 => ?_)
  replace hS := hS1
  have hb0 : s.heap.size ≤ H.size := h0
  have hd0 : s.heap.size ≤ H.size + 1 := by omega
  have hne : H.size ≠ H.size + 1 := by omega
  refine lv_iload_n hx hb dfo_193 rfl (lv_at hl 4 rfl) ?_
  refine wApC (o := o) (ca := ca) (D := D) (ch := 97 + x) S hN hK hos hA0 hA2 hS hz rfl ⟨by decide, by decide⟩ ⟨Nat.le_of_ble_eq_true rfl, Nat.le_of_ble_eq_true rfl⟩ hB hb0 hd0 hne (Nat.le_of_ble_eq_true rfl) (by omega) dfo_194 (fun H2 locs2 hB hS1 hz1 hk1 => ?_)
  replace hS := hS1
  refine wApS (o := o) (ca := ca) (D := D) S hN hK hos hA0 hA2 hS hz rfl ⟨by decide, by decide⟩ ⟨Nat.le_of_ble_eq_true rfl, Nat.le_of_ble_eq_true rfl⟩ hB hb0 hd0 hne zo67 (Nat.le_of_ble_eq_true rfl) dfo_197 dfo_199 (fun H3 locs3 hB hS1 hz1 hk1 => ?_)
  replace hS := hS1
  refine lv_iload_n hx hb dfo_202 rfl (lv_at hl 3 rfl) ?_
  refine wApC (o := o) (ca := ca) (D := D) (ch := 97 + y) S hN hK hos hA0 hA2 hS hz rfl ⟨by decide, by decide⟩ ⟨Nat.le_of_ble_eq_true rfl, Nat.le_of_ble_eq_true rfl⟩ hB hb0 hd0 hne (Nat.le_of_ble_eq_true rfl) (by omega) dfo_203 (fun H4 locs4 hB hS1 hz1 hk1 => ?_)
  replace hS := hS1
  refine wToS (o := o) (ca := ca) (D := D) S hN hK hos hA0 hA2 hS hz rfl ⟨by decide, by decide⟩ ⟨Nat.le_of_ble_eq_true rfl, Nat.le_of_ble_eq_true rfl⟩ hB hb0 hd0 hne (Nat.le_of_ble_eq_true rfl) dfo_206 (fun H5 q cS hq1 hq2 hT hS1 hz1 hk1 => ?_)
  replace hS := hS1
  refine lv_goto (tgt := 297) hx hb dfo_209 (by decide) ?_
  have h1 := hS.1
  exact W.aret hx hb hret (Or.inl ⟨_, rfl⟩) (Or.inr ⟨_, rfl⟩) (fun t ht hW => ⟨_, rfl, q, cS, rfl, Nat.le_trans (show N0 ≤ H4.size by omega) (Nat.le_of_eq hq1.symm), Nat.le_trans (show N0 ≤ H4.size by omega) (Nat.le_of_lt hq2), by rw [ht]; exact ST.to hT hW.alike, va_S.F hS ht⟩) hS.2.2 dfo_297 hlk
theorem w_fo4 (S : CallFix p m c method_11_code 7 s args xBig "PulledSignalsLaw") (hN : xNX o s) (hK : va_K D vwCl (xTys ca) s) (hN0 : s.heap.size = N0) (ho : o ≤ N0) (hx9 : x < 23) (hy9 : y < 23) (hz9 : z < 23) (hn9 : n < 10) (hret : meth.sig.returnType = some (.object "java/lang/String")) (hlk : meth.locks = false) (hS : va_S (fun a => N0 ≤ a) s.heap H locs)
    (hl : lv_has ls 7 [(6, .int (nI 4)), (5, .int (nI n)), (4, .int (nI (97 + z))), (3, .int (nI (97 + y))), (2, .int (nI (97 + x))), (0, .ref b), (1, .int cv)]) : W p l e rFo s m args below meth c H locs 0 0 (MQ below (fun _ st oc t => ∃ r, oc = .returned r ∧ fQQ N0 (frm 4 x y z n) r st t) args s 4 40 (fun a => N0 ≤ a)) (F0 m 45 ls []) := by
  obtain ⟨hx, hb, hml, hown, hts⟩ := id S
  have hA0 : ∀ a, a < o → ¬ N0 ≤ a := fun a h1 h2 => by omega
  have hA2 : ∀ q, s.heap.size ≤ q → N0 ≤ q := fun q h => by omega
  have hos : o ≤ s.heap.size := by omega
  have hz : ls.size = 7 := hl.1
  refine lv_iload hx hb dfo_45 (lv_at hl 0 rfl) ?_
  refine lv_if_ne (tgt := 76) hx hb dfo_47 (by decide) (fun _ => ?_) (fun hc => absurd hc (show nI 4 ≠ 0 by decide))
  refine lv_iload hx hb dfo_76 (lv_at hl 0 rfl) ?_
  refine lv_iconst (v := 1) hx hb dfo_78 (by decide) ?_
  refine lv_icmp_ne (tgt := 118) hx hb dfo_79 (by decide) (fun _ => ?_) (fun hc => absurd hc (show nI 4 ≠ 1 by decide))
  refine lv_iload hx hb dfo_118 (lv_at hl 0 rfl) ?_
  refine lv_iconst (v := 2) hx hb dfo_120 (by decide) ?_
  refine lv_icmp_ne (tgt := 180) hx hb dfo_121 (by decide) (fun _ => ?_) (fun hc => absurd hc (show nI 4 ≠ 2 by decide))
  refine lv_iload hx hb dfo_180 (lv_at hl 0 rfl) ?_
  refine lv_iconst (v := 3) hx hb dfo_182 (by decide) ?_
  refine lv_icmp_ne (tgt := 212) hx hb dfo_183 (by decide) (fun _ => ?_) (fun hc => absurd hc (show nI 4 ≠ 3 by decide))
  refine lv_iload hx hb dfo_212 (lv_at hl 0 rfl) ?_
  refine lv_iconst (v := 4) hx hb dfo_214 (by decide) ?_
  refine lv_icmp_ne (tgt := 254) hx hb dfo_215 (by decide) (fun hc => absurd (show nI 4 = 4 by decide) hc) (fun _ => ?_)
  have h0 := hS.1
  refine wNew (o := o) (ca := ca) (D := D) (A := fun a => N0 ≤ a) S hN hK hos hA0 hA2 hS hz rfl ⟨by decide, by decide⟩ ⟨Nat.le_of_ble_eq_true rfl, Nat.le_of_ble_eq_true rfl⟩ dfo_218 dfo_221 dfo_222 (fun H1 locs1 hB hS1 hz1 hk1 => ?_)
  replace hS := hS1
  have hb0 : s.heap.size ≤ H.size := h0
  have hd0 : s.heap.size ≤ H.size + 1 := by omega
  have hne : H.size ≠ H.size + 1 := by omega
  refine wApS (o := o) (ca := ca) (D := D) S hN hK hos hA0 hA2 hS hz rfl ⟨by decide, by decide⟩ ⟨Nat.le_of_ble_eq_true rfl, Nat.le_of_ble_eq_true rfl⟩ hB hb0 hd0 hne zo69 (Nat.le_of_ble_eq_true rfl) dfo_225 dfo_227 (fun H2 locs2 hB hS1 hz1 hk1 => ?_)
  replace hS := hS1
  refine lv_iload_n hx hb dfo_230 rfl (lv_at hl 4 rfl) ?_
  refine wApC (o := o) (ca := ca) (D := D) (ch := 97 + x) S hN hK hos hA0 hA2 hS hz rfl ⟨by decide, by decide⟩ ⟨Nat.le_of_ble_eq_true rfl, Nat.le_of_ble_eq_true rfl⟩ hB hb0 hd0 hne (Nat.le_of_ble_eq_true rfl) (by omega) dfo_231 (fun H3 locs3 hB hS1 hz1 hk1 => ?_)
  replace hS := hS1
  refine wApS (o := o) (ca := ca) (D := D) S hN hK hos hA0 hA2 hS hz rfl ⟨by decide, by decide⟩ ⟨Nat.le_of_ble_eq_true rfl, Nat.le_of_ble_eq_true rfl⟩ hB hb0 hd0 hne zo52 (Nat.le_of_ble_eq_true rfl) dfo_234 dfo_236 (fun H4 locs4 hB hS1 hz1 hk1 => ?_)
  replace hS := hS1
  refine lv_iload_n hx hb dfo_239 rfl (lv_at hl 3 rfl) ?_
  refine wApC (o := o) (ca := ca) (D := D) (ch := 97 + y) S hN hK hos hA0 hA2 hS hz rfl ⟨by decide, by decide⟩ ⟨Nat.le_of_ble_eq_true rfl, Nat.le_of_ble_eq_true rfl⟩ hB hb0 hd0 hne (Nat.le_of_ble_eq_true rfl) (by omega) dfo_240 (fun H5 locs5 hB hS1 hz1 hk1 => ?_)
  replace hS := hS1
  refine wApS (o := o) (ca := ca) (D := D) S hN hK hos hA0 hA2 hS hz rfl ⟨by decide, by decide⟩ ⟨Nat.le_of_ble_eq_true rfl, Nat.le_of_ble_eq_true rfl⟩ hB hb0 hd0 hne zo71 (Nat.le_of_ble_eq_true rfl) dfo_243 dfo_245 (fun H6 locs6 hB hS1 hz1 hk1 => ?_)
  replace hS := hS1
  refine wToS (o := o) (ca := ca) (D := D) S hN hK hos hA0 hA2 hS hz rfl ⟨by decide, by decide⟩ ⟨Nat.le_of_ble_eq_true rfl, Nat.le_of_ble_eq_true rfl⟩ hB hb0 hd0 hne (Nat.le_of_ble_eq_true rfl) dfo_248 (fun H7 q cS hq1 hq2 hT hS1 hz1 hk1 => ?_)
  replace hS := hS1
  refine lv_goto (tgt := 297) hx hb dfo_251 (by decide) ?_
  have h1 := hS.1
  exact W.aret hx hb hret (Or.inl ⟨_, rfl⟩) (Or.inr ⟨_, rfl⟩) (fun t ht hW => ⟨_, rfl, q, cS, rfl, Nat.le_trans (show N0 ≤ H6.size by omega) (Nat.le_of_eq hq1.symm), Nat.le_trans (show N0 ≤ H6.size by omega) (Nat.le_of_lt hq2), by rw [ht]; exact ST.to hT hW.alike, va_S.F hS ht⟩) hS.2.2 dfo_297 hlk
theorem w_fo5 (S : CallFix p m c method_11_code 7 s args xBig "PulledSignalsLaw") (hN : xNX o s) (hK : va_K D vwCl (xTys ca) s) (hN0 : s.heap.size = N0) (ho : o ≤ N0) (hx9 : x < 23) (hy9 : y < 23) (hz9 : z < 23) (hn9 : n < 10) (hret : meth.sig.returnType = some (.object "java/lang/String")) (hlk : meth.locks = false) (hS : va_S (fun a => N0 ≤ a) s.heap H locs)
    (hl : lv_has ls 7 [(6, .int (nI 5)), (5, .int (nI n)), (4, .int (nI (97 + z))), (3, .int (nI (97 + y))), (2, .int (nI (97 + x))), (0, .ref b), (1, .int cv)]) : W p l e rFo s m args below meth c H locs 0 0 (MQ below (fun _ st oc t => ∃ r, oc = .returned r ∧ fQQ N0 (frm 5 x y z n) r st t) args s 4 40 (fun a => N0 ≤ a)) (F0 m 45 ls []) := by
  obtain ⟨hx, hb, hml, hown, hts⟩ := id S
  have hA0 : ∀ a, a < o → ¬ N0 ≤ a := fun a h1 h2 => by omega
  have hA2 : ∀ q, s.heap.size ≤ q → N0 ≤ q := fun q h => by omega
  have hos : o ≤ s.heap.size := by omega
  have hz : ls.size = 7 := hl.1
  refine lv_iload hx hb dfo_45 (lv_at hl 0 rfl) ?_
  refine lv_if_ne (tgt := 76) hx hb dfo_47 (by decide) (fun _ => ?_) (fun hc => absurd hc (show nI 5 ≠ 0 by decide))
  refine lv_iload hx hb dfo_76 (lv_at hl 0 rfl) ?_
  refine lv_iconst (v := 1) hx hb dfo_78 (by decide) ?_
  refine lv_icmp_ne (tgt := 118) hx hb dfo_79 (by decide) (fun _ => ?_) (fun hc => absurd hc (show nI 5 ≠ 1 by decide))
  refine lv_iload hx hb dfo_118 (lv_at hl 0 rfl) ?_
  refine lv_iconst (v := 2) hx hb dfo_120 (by decide) ?_
  refine lv_icmp_ne (tgt := 180) hx hb dfo_121 (by decide) (fun _ => ?_) (fun hc => absurd hc (show nI 5 ≠ 2 by decide))
  refine lv_iload hx hb dfo_180 (lv_at hl 0 rfl) ?_
  refine lv_iconst (v := 3) hx hb dfo_182 (by decide) ?_
  refine lv_icmp_ne (tgt := 212) hx hb dfo_183 (by decide) (fun _ => ?_) (fun hc => absurd hc (show nI 5 ≠ 3 by decide))
  refine lv_iload hx hb dfo_212 (lv_at hl 0 rfl) ?_
  refine lv_iconst (v := 4) hx hb dfo_214 (by decide) ?_
  refine lv_icmp_ne (tgt := 254) hx hb dfo_215 (by decide) (fun _ => ?_) (fun hc => absurd hc (show nI 5 ≠ 4 by decide))
  have h0 := hS.1
  refine wNew (o := o) (ca := ca) (D := D) (A := fun a => N0 ≤ a) S hN hK hos hA0 hA2 hS hz rfl ⟨by decide, by decide⟩ ⟨Nat.le_of_ble_eq_true rfl, Nat.le_of_ble_eq_true rfl⟩ dfo_254 dfo_257 dfo_258 (fun H1 locs1 hB hS1 hz1 hk1 => ?_)
  replace hS := hS1
  have hb0 : s.heap.size ≤ H.size := h0
  have hd0 : s.heap.size ≤ H.size + 1 := by omega
  have hne : H.size ≠ H.size + 1 := by omega
  refine wApS (o := o) (ca := ca) (D := D) S hN hK hos hA0 hA2 hS hz rfl ⟨by decide, by decide⟩ ⟨Nat.le_of_ble_eq_true rfl, Nat.le_of_ble_eq_true rfl⟩ hB hb0 hd0 hne zo73 (Nat.le_of_ble_eq_true rfl) dfo_261 dfo_263 (fun H2 locs2 hB hS1 hz1 hk1 => ?_)
  replace hS := hS1
  refine lv_iload_n hx hb dfo_266 rfl (lv_at hl 4 rfl) ?_
  refine wApC (o := o) (ca := ca) (D := D) (ch := 97 + x) S hN hK hos hA0 hA2 hS hz rfl ⟨by decide, by decide⟩ ⟨Nat.le_of_ble_eq_true rfl, Nat.le_of_ble_eq_true rfl⟩ hB hb0 hd0 hne (Nat.le_of_ble_eq_true rfl) (by omega) dfo_267 (fun H3 locs3 hB hS1 hz1 hk1 => ?_)
  replace hS := hS1
  refine wApS (o := o) (ca := ca) (D := D) S hN hK hos hA0 hA2 hS hz rfl ⟨by decide, by decide⟩ ⟨Nat.le_of_ble_eq_true rfl, Nat.le_of_ble_eq_true rfl⟩ hB hb0 hd0 hne zo75 (Nat.le_of_ble_eq_true rfl) dfo_270 dfo_272 (fun H4 locs4 hB hS1 hz1 hk1 => ?_)
  replace hS := hS1
  refine lv_iload_n hx hb dfo_275 rfl (lv_at hl 3 rfl) ?_
  refine wApC (o := o) (ca := ca) (D := D) (ch := 97 + y) S hN hK hos hA0 hA2 hS hz rfl ⟨by decide, by decide⟩ ⟨Nat.le_of_ble_eq_true rfl, Nat.le_of_ble_eq_true rfl⟩ hB hb0 hd0 hne (Nat.le_of_ble_eq_true rfl) (by omega) dfo_276 (fun H5 locs5 hB hS1 hz1 hk1 => ?_)
  replace hS := hS1
  refine wApS (o := o) (ca := ca) (D := D) S hN hK hos hA0 hA2 hS hz rfl ⟨by decide, by decide⟩ ⟨Nat.le_of_ble_eq_true rfl, Nat.le_of_ble_eq_true rfl⟩ hB hb0 hd0 hne zo77 (Nat.le_of_ble_eq_true rfl) dfo_279 dfo_281 (fun H6 locs6 hB hS1 hz1 hk1 => ?_)
  replace hS := hS1
  refine lv_iload hx hb dfo_284 (lv_at hl 1 rfl) ?_
  refine wApI (o := o) (ca := ca) (D := D) (v := n) S hN hK hos hA0 hA2 hS hz rfl ⟨by decide, by decide⟩ ⟨Nat.le_of_ble_eq_true rfl, Nat.le_of_ble_eq_true rfl⟩ hB hb0 hd0 hne (Nat.le_of_ble_eq_true rfl) hn9 dfo_286 (fun H7 locs7 hB hS1 hz1 hk1 => ?_)
  replace hS := hS1
  refine wApS (o := o) (ca := ca) (D := D) S hN hK hos hA0 hA2 hS hz rfl ⟨by decide, by decide⟩ ⟨Nat.le_of_ble_eq_true rfl, Nat.le_of_ble_eq_true rfl⟩ hB hb0 hd0 hne zo79 (Nat.le_of_ble_eq_true rfl) dfo_289 dfo_291 (fun H8 locs8 hB hS1 hz1 hk1 => ?_)
  replace hS := hS1
  refine wToS (o := o) (ca := ca) (D := D) S hN hK hos hA0 hA2 hS hz rfl ⟨by decide, by decide⟩ ⟨Nat.le_of_ble_eq_true rfl, Nat.le_of_ble_eq_true rfl⟩ hB hb0 hd0 hne (Nat.le_of_ble_eq_true rfl) dfo_294 (fun H9 q cS hq1 hq2 hT hS1 hz1 hk1 => ?_)
  replace hS := hS1
  have h1 := hS.1
  exact W.aret hx hb hret (Or.inl ⟨_, rfl⟩) (Or.inr ⟨_, rfl⟩) (fun t ht hW => ⟨_, rfl, q, cS, rfl, Nat.le_trans (show N0 ≤ H8.size by omega) (Nat.le_of_eq hq1.symm), Nat.le_trans (show N0 ≤ H8.size by omega) (Nat.le_of_lt hq2), by rw [ht]; exact ST.to hT hW.alike, va_S.F hS ht⟩) hS.2.2 dfo_297 hlk
end FO
