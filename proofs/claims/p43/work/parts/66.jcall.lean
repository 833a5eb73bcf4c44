/-! calls on a builder, on a constant's String; the statics -/
section JE
variable {p : Program} {l : Launch} {e : Env} {R : Room} {s : State} {m : MethodId} {args : Array Value} {below : List Frame} {meth : Method} {c : Code} {Q : State → Prop} {D : va_G} {ca : Nat → ClassId} {o : Nat} {A F : Nat → Prop} {H : Heap} {locs : List Loc} {cells slots mc ms f idx pc nL n q0 b sa : Nat} {cc by1 : ByteArray} {own : String} {ls : Array Slot} {as rest fs : List Value} {ws wsC : va_W} {ks : List (Nat × String × Nat)} {Qy : Option Value → Heap → Prop} {y : MethodName} {ret : Option FieldType}
theorem jF {N0 : Nat} {t : State} (hS : va_S (fun a => F a ∨ N0 ≤ a) s.heap H locs) (hN0 : s.heap.size = N0) (ht : t.heap = H) : va_F F s t :=
  ⟨by rw [ht]; exact hS.1, fun q h1 h2 => by rw [ht]; exact hS.2.1 q h1 (fun z => by rcases z with z | z; exact h2 z; omega)⟩
theorem jBC (hK : va_K D vwCl (xTys ca) s) : s.vm.findClass "java/lang/StringBuilder" = some (D.1 10) ∧ ClassAt s "java/lang/StringBuilder" (D.1 10) := by
  have h := (hK.1 10 (RJ4, TJ4, 4) rfl).2
  exact ⟨h.1, h⟩
/-- invokevirtual on a builder -/
theorem jcU (S : CallFix p m c cc nL s args xBig own) (hm : jMet D ca o H.size y by1 n ret f mc ms (.ref b :: as) wsC ks F Qy) (hcode : Cond.code y by1 n ret ∈ xBig) (hl : Cond.methodLink own idx y ∈ xBig) (hin : Cond.instanceMethod y ∈ xBig) (hini : Cond.initialized y.cls ∈ xBig) (hy : y.cls = "java/lang/AbstractStringBuilder") (hd8 : (parseMethodDescriptor y.desc).map (fun d => d.parameters.length) = some as.length)
    (hsel : (Cond.selects "java/lang/StringBuilder" y y).before args s = true) (hN : xNX o s) (hK : va_K D vwCl (xTys ca) s) (hP : va_P D vwCl ws H) (he : ws[q0]? = some (b, .inr (10, fs))) (hPC : va_P D vwCl wsC H) (hks : jK ks s) (ho : o ≤ s.heap.size) (hA0 : ∀ a, a < o → ¬ A a) (hS : va_S A s.heap H locs) (hA : ∀ q, F q → A q) (hA2 : ∀ q, H.size ≤ q → A q) (hd : decode cc pc = .ok (.invokevirtual idx, 3)) (hc8 : (rest.map fun v => v.category).sum ≤ 8) (rF : f + 1 ≤ R.frames ∧ 8 + (n + 11) + 41 * f ≤ R.locals) (rC : cells + mc ≤ R.cells ∧ slots + ms ≤ R.slots) (hz : ls.size = nL)
    (kk : ∀ (H1 : Heap) (locs1 : List Loc) (r : Option Value), Qy r H1 → va_S A s.heap H1 locs1 → H.size ≤ H1.size → (∀ q, q < H.size → ¬ F q → H1[q]? = H[q]?) → W p l e R s m args below meth c H1 locs1 (cells + mc) (slots + ms) Q (F0 m (pc + 3) ls (r.toList ++ rest))) :
    W p l e R s m args below meth c H locs cells slots Q (F0 m pc ls (as.reverse ++ .ref b :: rest)) := by
  have hG := jws_good hcode
  have hcodeB := S.2.2.2.2 _ hcode
  have hrecv := va_recv hK hP (show vwCl[10]? = some (RJ4, TJ4, 4) from rfl) he
  have cw : va_CU R s args own "java/lang/StringBuilder" y.cls idx y y by1 n ret (jws y by1 n ret) { frames := f, cells := mc, slots := ms, locals := 41 * f } mc ms as.length := by
    refine ⟨⟨rfl, rfl, rF.1, rF.2, pay_in S.2.2.2.2 hG, List.mem_cons_self⟩, hcodeB, S.2.2.2.2 _ hini, by rw [hy]; decide, fun sig h => ?_, S.2.2.2.2 _ hl, jSame hN hcodeB hy, va_Decl.of (S.2.2.2.2 _ hin) hcodeB, hsel, S.2.2.2.2 _ hin⟩
    rw [h] at hd8
    exact (Option.some.inj hd8).symm
  exact jcalled (va_runU (Ts := xBig) (own := own) (rest := rest) (As := as) S (hm l) cw ⟨jPc.blind, hrecv, jpre hN hK hPC hks ho hA0 hS⟩ rfl rfl hz rfl (lv_room hc8) hd rC) hS hA hA2 kk
/-- a call of the superclass's own method -/
theorem jcSU (S : CallFix p m c cc nL s args xBig own) (hm : jMet D ca o H.size y by1 n ret f mc ms (.ref b :: as) wsC ks F Qy) (hcode : Cond.code y by1 n ret ∈ xBig) (hl : Cond.methodLink own idx y ∈ xBig) (hin : Cond.instanceMethod y ∈ xBig) (hini : Cond.initialized y.cls ∈ xBig) (hy : y.cls = "java/lang/AbstractStringBuilder") (hown : own = "java/lang/StringBuilder") (hno : y.name ≠ "<init>") (hd8 : (parseMethodDescriptor y.desc).map (fun d => d.parameters.length) = some as.length)
    (hN : xNX o s) (hK : va_K D vwCl (xTys ca) s) (hP : va_P D vwCl ws H) (he : ws[q0]? = some (b, .inr (10, fs))) (hPC : va_P D vwCl wsC H) (hks : jK ks s) (ho : o ≤ s.heap.size) (hA0 : ∀ a, a < o → ¬ A a) (hS : va_S A s.heap H locs) (hA : ∀ q, F q → A q) (hA2 : ∀ q, H.size ≤ q → A q) (hd : decode cc pc = .ok (.invokespecial idx, 3)) (hc8 : (rest.map fun v => v.category).sum ≤ 8) (rF : f + 1 ≤ R.frames ∧ 8 + (n + 11) + 41 * f ≤ R.locals) (rC : cells + mc ≤ R.cells ∧ slots + ms ≤ R.slots) (hz : ls.size = nL)
    (kk : ∀ (H1 : Heap) (locs1 : List Loc) (r : Option Value), Qy r H1 → va_S A s.heap H1 locs1 → H.size ≤ H1.size → (∀ q, q < H.size → ¬ F q → H1[q]? = H[q]?) → W p l e R s m args below meth c H1 locs1 (cells + mc) (slots + ms) Q (F0 m (pc + 3) ls (r.toList ++ rest))) :
    W p l e R s m args below meth c H locs cells slots Q (F0 m pc ls (as.reverse ++ .ref b :: rest)) := by
  have hG := jws_good hcode
  have hcodeB := S.2.2.2.2 _ hcode
  have hrecv := va_recv hK hP (show vwCl[10]? = some (RJ4, TJ4, 4) from rfl) he
  have hsup : (Cond.superclass own y.cls).before args s = true := by
    rw [hown, hy]
    exact jW hN (by decide +kernel) (by decide +kernel)
  have cw : va_CS R s args own idx y by1 n ret (jws y by1 n ret) { frames := f, cells := mc, slots := ms, locals := 41 * f } mc ms as.length := by
    refine ⟨⟨rfl, rfl, rF.1, rF.2, pay_in S.2.2.2.2 hG, List.mem_cons_self⟩, S.2.2.2.2 _ hl, jSame hN hcodeB hy, hsup, S.2.2.2.2 _ hin, S.2.2.2.2 _ hini, hcodeB, hno, fun sig h => ?_⟩
    rw [h] at hd8
    exact (Option.some.inj hd8).symm
  exact jcalled (va_runSU (C := "java/lang/StringBuilder") (Ts := xBig) (own := own) (rest := rest) (As := as) (jBC hK).2 S (hm l) cw ⟨jPc.blind, hrecv, jpre hN hK hPC hks ho hA0 hS⟩ rfl rfl hz rfl (lv_room hc8) hd rC) hS hA hA2 kk
/-- a constructor -/
theorem jcI (S : CallFix p m c cc nL s args xBig own) (hm : jMet D ca o H.size y by1 n none f mc ms (.ref b :: as) wsC ks F Qy) (hcode : Cond.code y by1 n none ∈ xBig) (hl : Cond.methodLink own idx y ∈ xBig) (hin : Cond.instanceMethod y ∈ xBig) (hini : Cond.initialized y.cls ∈ xBig) (hnm : y.name = "<init>") (hd8 : y.cls ≠ "java/lang/invoke/MethodHandle" ∧ y.cls ≠ "java/lang/invoke/VarHandle" ∧ (parseMethodDescriptor y.desc).map (fun d => d.parameters.length) = some as.length)
    (hN : xNX o s) (hK : va_K D vwCl (xTys ca) s) (hPC : va_P D vwCl wsC H) (hks : jK ks s) (ho : o ≤ s.heap.size) (hA0 : ∀ a, a < o → ¬ A a) (hS : va_S A s.heap H locs) (hA : ∀ q, F q → A q) (hA2 : ∀ q, H.size ≤ q → A q) (hd : decode cc pc = .ok (.invokespecial idx, 3)) (hc8 : (rest.map fun v => v.category).sum ≤ 8) (rF : f + 1 ≤ R.frames ∧ 8 + (n + 11) + 41 * f ≤ R.locals) (rC : cells + mc ≤ R.cells ∧ slots + ms ≤ R.slots) (hz : ls.size = nL)
    (kk : ∀ (H1 : Heap) (locs1 : List Loc) (r : Option Value), Qy r H1 → va_S A s.heap H1 locs1 → H.size ≤ H1.size → (∀ q, q < H.size → ¬ F q → H1[q]? = H[q]?) → W p l e R s m args below meth c H1 locs1 (cells + mc) (slots + ms) Q (F0 m (pc + 3) ls (r.toList ++ rest))) :
    W p l e R s m args below meth c H locs cells slots Q (F0 m pc ls (as.reverse ++ .ref b :: rest)) := by
  have hG := jws_good hcode
  exact jcalled (va_runI (Ts := xBig) (own := own) (rest := rest) (As := as) S (hm l) (cwI as.length S.2.2.2.2 hG rfl rfl rfl (S.2.2.2.2 _ hini) (S.2.2.2.2 _ hl) (S.2.2.2.2 _ hin) hnm hd8 rF) ⟨jPc.blind, jpre hN hK hPC hks ho hA0 hS⟩ rfl rfl hz rfl (lv_room hc8) hd rC) hS hA hA2 kk
/-- a constant's String, as a method finds it -/
def jStr (o : Nat) (s : State) (sa : Nat) (cs : List Int32) : Prop := ∃ va : Nat, sa < o ∧ va < o ∧ va_O "java/lang/String" sa (fun a => o ≤ a) s s.heap ∧ va_OF "java/lang/String" "coder" "B" (.int 0) sa (fun a => o ≤ a) s s.heap ∧ va_OF "java/lang/String" "value" "[B" (.ref va) sa (fun a => o ≤ a) s s.heap ∧ va_T .byte va cs.length (fun j => .int (cs.getD j 0)) (fun a => o ≤ a) s s.heap ∧ (∀ j, j < cs.length → fits .byte (.int (cs.getD j 0)) = true) ∧ cs.length < 1000
theorem jStr_of {tx : String} {cs : List Int32} (hN : xNX o s) (hok : zOk idx tx cs = true) (h : vk_R "PulledSignalsLaw" idx tx sa s) : jStr o s sa cs := by
  obtain ⟨q, cS, -, h2, h3, h4, h5, h6, h7⟩ := zConst (args := #[]) hN hok
  have e : Value.ref sa = Value.ref q.sa := Option.some.inj (h.2.symm.trans h2)
  obtain rfl : sa = q.sa := by injection e
  obtain ⟨⟨g1, g2, g3, ⟨c1, k1, i1, g4, -⟩, ⟨c2, k2, i2, g5, -⟩, g6, g7, g8, g9, g10, g11, g12, g13, g14, g15, g16⟩, g17, g18⟩ := h7
  have hlen : cs.length < 1000 := by
    unfold zOk at hok
    simp only [Bool.and_eq_true] at hok
    simpa using hok.2.2.2.2.2.2
  have hg : ∀ j, j < cs.length → q.SA.slots[j]? = some (.int (cs.getD j 0)) := fun j hj => by
    have hc : cs[j]? = some (cs[j]'hj) := List.getElem?_eq_getElem _
    rw [h6 _ _ hc, List.getD_eq_getElem?_getD, hc]
    rfl
  have hsz : q.SA.slots.size = cs.length := g13.trans h5
  refine ⟨q.sd, h3, h4, ⟨q.sC, g1, g3, by rw [g18]; exact g17, Nat.not_le.mpr h3⟩, ⟨c2, k2, i2, q.fSC, q.sC, g5, g7, g1, g2, g9, Nat.not_le.mpr h3⟩, ⟨c1, k1, i1, q.fSV, q.sC, g4, g6, g1, g2, g8, Nat.not_le.mpr h3⟩, ⟨q.SA, g10, g11, g12, Nat.le_of_eq hsz.symm, by rw [hsz], hg, Nat.not_le.mpr h4⟩, fun j hj => ?_, hlen⟩
  have h9 := g16 j (by omega)
  rw [Jvm.Free.SBG.getD_of (hg j hj)] at h9
  exact h9
/-- invokevirtual on a constant's String -/
theorem jcT {cs : List Int32} (S : CallFix p m c cc nL s args xBig own) (hm : jMet D ca o H.size y by1 n ret f mc ms (.ref sa :: as) wsC ks F Qy) (hcode : Cond.code y by1 n ret ∈ xBig) (hl : Cond.methodLink own idx y ∈ xBig) (hin : Cond.instanceMethod y ∈ xBig) (hse : Cond.selects "java/lang/String" y y ∈ xBig) (hini : Cond.initialized y.cls ∈ xBig) (hd8 : y.cls ≠ "java/lang/invoke/MethodHandle" ∧ y.cls ≠ "java/lang/invoke/VarHandle" ∧ (parseMethodDescriptor y.desc).map (fun d => d.parameters.length) = some as.length)
    (hN : xNX o s) (hK : va_K D vwCl (xTys ca) s) (hT : jStr o s sa cs) (hPC : va_P D vwCl wsC H) (hks : jK ks s) (ho : o ≤ s.heap.size) (hA0 : ∀ a, a < o → ¬ A a) (hS : va_S A s.heap H locs) (hA : ∀ q, F q → A q) (hA2 : ∀ q, H.size ≤ q → A q) (hd : decode cc pc = .ok (.invokevirtual idx, 3)) (hc8 : (rest.map fun v => v.category).sum ≤ 8) (rF : f + 1 ≤ R.frames ∧ 8 + (n + 11) + 41 * f ≤ R.locals) (rC : cells + mc ≤ R.cells ∧ slots + ms ≤ R.slots) (hz : ls.size = nL)
    (kk : ∀ (H1 : Heap) (locs1 : List Loc) (r : Option Value), Qy r H1 → va_S A s.heap H1 locs1 → H.size ≤ H1.size → (∀ q, q < H.size → ¬ F q → H1[q]? = H[q]?) → W p l e R s m args below meth c H1 locs1 (cells + mc) (slots + ms) Q (F0 m (pc + 3) ls (r.toList ++ rest))) :
    W p l e R s m args below meth c H locs cells slots Q (F0 m pc ls (as.reverse ++ .ref sa :: rest)) := by
  have hG := jws_good hcode
  obtain ⟨va, h1, h2, ⟨cell, g1, g2, g3, -⟩, -⟩ := hT
  have hrecv : ∃ cellB : Cell, H[sa]? = some cellB ∧ cellB.vm.isStatics = false ∧ s.vm.findClass "java/lang/String" = some cellB.cls := ⟨cell, (hS.2.1 sa (by omega) (hA0 sa h1)).trans g1, g2, g3⟩
  exact jcalled (va_runV (Ts := xBig) (own := own) (rest := rest) (As := as) S (hm l) ⟨callB_of as.length S.2.2.2.2 hG rfl rfl rfl (S.2.2.2.2 _ hini) (S.2.2.2.2 _ hl) hd8 rF, S.2.2.2.2 _ hin, S.2.2.2.2 _ hse⟩ ⟨jPc.blind, hrecv, jpre hN hK hPC hks ho hA0 hS⟩ rfl rfl hz rfl (lv_room hc8) hd rC) hS hA hA2 kk
theorem zCs (hN : xNX o s) (hbig : ∀ w ∈ xBig, w.before args s = true) : va_Z "java/lang/String" "COMPACT_STRINGS" "Z" (.int 1) (fun a => o ≤ a) s s.heap := by
  obtain ⟨-, U0, a0, hgv, htb, hs0, hW, hh⟩ := hN
  have f1 : (Cond.eq (.static "java/lang/String" "COMPACT_STRINGS" "Z") (.int 1)).before a0 (U0.setVm s.vm) = true := Cond.pre_warmed hW (by decide +kernel) (flat_of_before _ hgv _ (by decide +kernel))
  have hl : (Cond.laysStatic "java/lang/String" "COMPACT_STRINGS" "Z").before a0 (U0.setVm s.vm) = true := Cond.pre_warmed hW (by decide +kernel) (htb _ (List.mem_append_right _ (tIn (by decide +kernel))))
  have hz : va_Z "java/lang/String" "COMPACT_STRINGS" "Z" (.int 1) (fun a => o ≤ a) (U0.setVm s.vm) (U0.setVm s.vm).heap := va_Zof hl (va_tabs (A := args) (u := s) (U := U0.setVm s.vm) rfl rfl (hbig _ (wIn (by decide +kernel)))) (wEqI f1) (fun a ha => by
    have ha : a < U0.heap.size := ha
    omega)
  exact (hz.moved (Vm.Alike.refl _)).kept (fun a ha _ => hh a (by rw [← hs0]; exact ha))
/-- Integer's digits, as a method finds them -/
theorem zDg (hN : xNX o s) (hbig : ∀ w ∈ xBig, w.before args s = true) : ∃ d1 : Nat, va_Z "java/lang/Integer" "DigitOnes" "[B" (.ref d1) (fun a => o ≤ a) s s.heap ∧ va_T .byte d1 100 (fun j => .int (nI (48 + j % 10))) (fun a => o ≤ a) s s.heap := by
  obtain ⟨ist, d, Dc, h1, h2, ⟨cf, i, k, f, cellS, t1, t2, t3, t4, t5, t6, t7, t8, t9, t10, t11, -⟩, h4⟩ := zOnes hN hbig
  refine ⟨d, ?_, ⟨Dc, t8, t9, t10, by omega, by rw [t11], h4, by omega⟩⟩
  obtain ⟨-, U0, a0, hgv, htb, hs0, hW, hh⟩ := hN
  have hl : (Cond.laysStatic "java/lang/Integer" "DigitOnes" "[B").before a0 (U0.setVm s.vm) = true := Cond.pre_warmed hW (by decide +kernel) (htb _ (List.mem_append_right _ (tIn (by decide +kernel))))
  obtain ⟨c, k', i', f', a, cell, hc, hi, hst, ha, hcell, hs, -⟩ := Cond.laysStatic_spec hl
  have hi : s.fieldFound? "java/lang/Integer" "DigitOnes" "[B" = some (c, k', i', f') := hi
  cases t1.symm.trans hi
  cases t4.symm.trans ha
  have hcell : U0.heap[ist]? = some cell := hcell
  have e : s.heap[ist]? = some cell := (hh ist h1).trans hcell
  cases t5.symm.trans e
  exact ⟨_, _, _, _, _, _, t1, t2, t3, t4, t5, hs, t7, by omega⟩
end JE
