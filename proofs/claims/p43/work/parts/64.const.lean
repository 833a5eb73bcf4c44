/-! the law's constants: their Strings, and how they are pushed -/
section CS
variable {o : Nat} {s : State} {args : Array Value}
theorem foSpec {U : State} {a : Addr} {C n d : String} {v : Value} (h : U.fieldOf? a C n d = some v) : ∃ (cell : Cell) (c : ClassId) (k : Class) (i : Nat) (f : Field), U.heap[a]? = some cell ∧ U.fieldFound? C n d = some (c, k, i, f) ∧ f.isStatic = false ∧ cell.vm ≠ .unknown ∧ cell.vm.isStatics = false ∧ U.vm.assignable cell.cls c = true ∧ cell.slots[f.slot]? = some v := by
  simp only [State.fieldOf?, State.fieldNamed?, Option.bind_eq_bind, Option.bind_eq_some_iff] at h
  obtain ⟨cell, hc, ⟨c, k, sl⟩, ⟨⟨c', k', i, f⟩, hf, h1⟩, h2⟩ := h
  dsimp only at h1
  by_cases hs : f.isStatic == false
  · rw [if_pos hs] at h1
    cases h1
    dsimp only at h2
    by_cases hb : cell.vm = .unknown ∨ cell.vm.isStatics = true ∨ U.vm.assignable cell.cls c = false
    · rw [if_pos hb] at h2
      cases h2
    · rw [if_neg hb] at h2
      refine ⟨cell, c, k, i, f, hc, hf, by simpa using hs, fun e => hb (Or.inl e), ?_, ?_, h2⟩
      · cases he : cell.vm.isStatics with
        | false => rfl
        | true => exact absurd (Or.inr (Or.inl he)) hb
      · cases he : U.vm.assignable cell.cls c with
        | true => rfl
        | false => exact absurd (Or.inr (Or.inr he)) hb
  · rw [if_neg hs] at h1
    cases h1
theorem zFld {U V : State} (hv : U.vm = V.vm) {a : Addr} {C n d : String} (hh : U.heap[a]? = V.heap[a]?) : U.fieldOf? a C n d = V.fieldOf? a C n d := by
  have h1 : (U.setVm V.vm).fieldOf? a C n d = U.fieldOf? a C n d := State.fieldOf?_setVm (by rw [hv]; exact Vm.Alike.refl _) a C n d
  rw [← h1]
  simp only [State.fieldOf?, State.heap_setVm, State.vm_setVm, hh]
  rfl
theorem fldEv {U : State} {a0 : Array Value} {t : Term} {C n d : String} {a : Addr} (h1 : t.eval a0 U none [] U = some (.ref a)) : (Term.field t C n d).eval a0 U none [] U = U.fieldOf? a C n d := by
  simp only [Term.eval, h1]
  rfl
abbrev zTm (idx : Nat) : Term := .string "PulledSignalsLaw" idx
abbrev zVl (idx : Nat) : Term := .field (zTm idx) "java/lang/String" "value" "[B"
/-- the String of a constant: which, where, how long, its letters -/
def zStr (o : Nat) (s : State) (args : Array Value) (idx : Nat) (text : String) (cs : List Int32) : Prop := ∃ (q : Jvm.Free.SB.SQ) (cS : ClassId), (Cond.stringRef "PulledSignalsLaw" idx text).before args s = true ∧ (zTm idx).eval args s none [] s = some (.ref q.sa) ∧ q.sa < o ∧ q.sd < o ∧ q.len = cs.length ∧ (∀ (i : Nat) (c : Int32), cs[i]? = some c → q.SA.slots[i]? = some (.int c)) ∧ Jvm.Free.SBG.Sl q cS s
/-- the words of a constant, found in the Statement -/
def zOk (idx : Nat) (text : String) (cs : List Int32) : Bool :=
  tables_1.any (fun v => decide (v = .stringRef "PulledSignalsLaw" idx text)) && ((flatC (Jvm.Cond.and given_1 narrow_1)).any (fun v => decide (v = .exactly (zTm idx) "java/lang/String")) && ((flatC (Jvm.Cond.and given_1 narrow_1)).any (fun v => decide (v = .eq (.field (zTm idx) "java/lang/String" "coder" "B") (.int 0))) && ((flatC (Jvm.Cond.and given_1 narrow_1)).any (fun v => decide (v = .arrayOf (zVl idx) .byte)) && ((flatC (Jvm.Cond.and given_1 narrow_1)).any (fun v => decide (v = .eq (.length (zVl idx)) (.int (Int32.ofNat cs.length)))) && ((List.range cs.length).all (fun i => match cs[i]? with
    | some c => (flatC (Jvm.Cond.and given_1 narrow_1)).any (fun v => decide (v = .eq (.elem (zVl idx) (.int (Int32.ofNat i))) (.int c))) && fits .byte (.int c)
    | none => false) && Nat.blt cs.length 1000)))))
theorem fIn {w : Cond} (h : (flatC (Jvm.Cond.and given_1 narrow_1)).any (fun v => decide (v = w)) = true) : w ∈ flatC (Jvm.Cond.and given_1 narrow_1) := by
  simp only [List.any_eq_true, decide_eq_true_eq] at h
  obtain ⟨v, h1, rfl⟩ := h
  exact h1
theorem zConst {idx : Nat} {text : String} {cs : List Int32} (hN : xNX o s) (hok : zOk idx text cs = true) : zStr o s args idx text cs := by
  obtain ⟨-, U0, a0, hgv, htb, hs0, hW, hh⟩ := hN
  have fl0 := flat_of_before _ hgv
  unfold zOk at hok
  simp only [Bool.and_eq_true] at hok
  obtain ⟨k1, k2, k3, k4, k5, k6, k7⟩ := hok
  have hlen : cs.length < 1000 := by simpa using k7
  have hlt : ∀ q : Addr, q < U0.heap.size → q < o := fun q hq => by rw [← hs0]; exact hq
  have hkeep : ∀ (q : Addr) (cell : Cell), U0.heap[q]? = some cell → s.heap[q]? = some cell := fun q cell h => by
    rw [hh q (hlt q (Array.getElem?_eq_some_iff.mp h).1)]
    exact h
  have hSR00 : (Cond.stringRef "PulledSignalsLaw" idx text).before a0 U0 = true := htb _ (List.mem_append_right _ (tIn k1))
  have hSR : (Cond.stringRef "PulledSignalsLaw" idx text).before args s = true := Cond.stringRef_warmed hW hSR00
  have f3 : (Cond.exactly (zTm idx) "java/lang/String").before a0 U0 = true := fl0 _ (fIn k2)
  have f4 : (Cond.eq (.field (zTm idx) "java/lang/String" "coder" "B") (.int 0)).before a0 U0 = true := fl0 _ (fIn k3)
  have f5 : (Cond.arrayOf (zVl idx) .byte).before a0 U0 = true := fl0 _ (fIn k4)
  have f6 : (Cond.eq (.length (zVl idx)) (.int (Int32.ofNat cs.length))).before a0 U0 = true := fl0 _ (fIn k5)
  have f7 : ∀ (i : Nat) (c : Int32), cs[i]? = some c → (Cond.eq (.elem (zVl idx) (.int (Int32.ofNat i))) (.int c)).before a0 U0 = true ∧ fits .byte (.int c) = true := fun i c hc => by
    have hi := (List.getElem?_eq_some_iff.mp hc).1
    have h1 := List.all_eq_true.mp k6 i (List.mem_range.mpr hi)
    rw [hc] at h1
    simp only [Bool.and_eq_true] at h1
    exact ⟨fl0 _ (fIn h1.1), h1.2⟩
  obtain ⟨sa, cS, cell, kS, e1, e2, e3, e4, e5, e6, e7⟩ := Cond.exactly_spec f3
  have e1V : (zTm idx).eval a0 (U0.setVm s.vm) none [] (U0.setVm s.vm) = some (.ref sa) := by
    cases hc : U0.vm.findClass "PulledSignalsLaw" with
    | none => simp [Cond.before, Cond.holds, Cond.value, hc] at hSR00
    | some cur => exact Term.string_eval_warmed hW hc hSR00 e1
  have hstr : (zTm idx).eval args s none [] s = some (.ref sa) := (Term.string_eval_of_vm (U := U0.setVm s.vm) (V := s) rfl).trans e1V
  have hcell : s.heap[sa]? = some cell := hkeep _ _ e3
  obtain ⟨va, arr, l1, l2, l3⟩ := zLen (by omega) f6
  obtain ⟨hva, hkn, -, -⟩ := State.arrayAt?_spec l2
  have hva' : s.heap[va]? = some arr := hkeep _ _ hva
  have hof := (Cond.arrayOf_spec f5 l1 hva).1
  have hof' : s.isArrayOf arr .byte := State.isArrayOf_alike hW.alike hof
  have hval : U0.fieldOf? sa "java/lang/String" "value" "[B" = some (.ref va) := (fldEv e1).symm.trans l1
  have hcod : U0.fieldOf? sa "java/lang/String" "coder" "B" = some (.int 0) := (fldEv e1).symm.trans (wEqI f4)
  have hhs : s.heap[sa]? = (U0.setVm s.vm).heap[sa]? := hcell.trans e3.symm
  have hval' : s.fieldOf? sa "java/lang/String" "value" "[B" = some (.ref va) := (zFld (U := s) (V := U0.setVm s.vm) rfl hhs).trans ((State.fieldOf?_setVm hW.alike _ _ _ _).trans hval)
  have hcod' : s.fieldOf? sa "java/lang/String" "coder" "B" = some (.int 0) := (zFld (U := s) (V := U0.setVm s.vm) rfl hhs).trans ((State.fieldOf?_setVm hW.alike _ _ _ _).trans hcod)
  obtain ⟨c1, cV, kV, iV, fV, g1, g2, g3, g4, g5, g6, g7⟩ := foSpec hval'
  cases hcell.symm.trans g1
  obtain ⟨c2, cC, kC, iC, fC, p1, p2, p3, p4, p5, p6, p7⟩ := foSpec hcod'
  cases hcell.symm.trans p1
  have hel : ∀ (i : Nat) (c : Int32), cs[i]? = some c → arr.slots[i]? = some (.int c) := fun i c hc => zEl (by have := (List.getElem?_eq_some_iff.mp hc).1; omega) l1 l2 (f7 i c hc).1
  have hsz : arr.slots.size = cs.length := l3
  refine ⟨(sa, cell, fV, fC, va, arr, arr.slots.size), cS, hSR, hstr, hlt _ (Array.getElem?_eq_some_iff.mp e3).1, hlt _ (Array.getElem?_eq_some_iff.mp hva).1, hsz, hel, ⟨hcell, g4, g5, ⟨cV, kV, iV, g2, g6⟩, ⟨cC, kC, iC, p2, p6⟩, g3, p3, g7, p7, hva', hof', hkn, rfl, by show arr.slots.size < 2 ^ 31; omega, ?_, ?_⟩, ?_, e6⟩
  · intro e
    have e : sa = va := e
    subst e
    cases hcell.symm.trans hva'
    have hs := (Array.getElem?_eq_some_iff.mp g7).1
    have hc : cs[fV.slot]? = some (cs[fV.slot]'(by omega)) := List.getElem?_eq_getElem _
    rw [hel _ _ hc] at g7
    cases g7
  · intro i hi
    have hi : i < arr.slots.size := hi
    have hc : cs[i]? = some (cs[i]'(by omega)) := List.getElem?_eq_getElem _
    show fits .byte (arr.slots.getD i .null) = true
    rw [Jvm.Free.SBG.getD_of (hel _ _ hc)]
    exact (f7 _ _ hc).2
  · show s.vm.findClass "java/lang/String" = some cS
    rw [hW.alike.findClass]
    exact e2
theorem zc41 (hN : xNX o s) : zStr o s args 41 "+" [43] := zConst hN (by decide +kernel)
theorem zc50 (hN : xNX o s) : zStr o s args 50 "*" [42] := zConst hN (by decide +kernel)
theorem zc52 (hN : xNX o s) : zStr o s args 52 "-" [45] := zConst hN (by decide +kernel)
theorem zc57 (hN : xNX o s) : zStr o s args 57 "[" [91] := zConst hN (by decide +kernel)
theorem zc59 (hN : xNX o s) : zStr o s args 59 "<" [60] := zConst hN (by decide +kernel)
theorem zc61 (hN : xNX o s) : zStr o s args 61 "?" [63] := zConst hN (by decide +kernel)
theorem zc63 (hN : xNX o s) : zStr o s args 63 ":" [58] := zConst hN (by decide +kernel)
theorem zc65 (hN : xNX o s) : zStr o s args 65 "]" [93] := zConst hN (by decide +kernel)
theorem zc67 (hN : xNX o s) : zStr o s args 67 "/" [47] := zConst hN (by decide +kernel)
theorem zc69 (hN : xNX o s) : zStr o s args 69 "(" [40] := zConst hN (by decide +kernel)
theorem zc71 (hN : xNX o s) : zStr o s args 71 ")*2" [41, 42, 50] := zConst hN (by decide +kernel)
theorem zc73 (hN : xNX o s) : zStr o s args 73 "^(-" [94, 40, 45] := zConst hN (by decide +kernel)
theorem zc75 (hN : xNX o s) : zStr o s args 75 "," [44] := zConst hN (by decide +kernel)
theorem zc77 (hN : xNX o s) : zStr o s args 77 "%" [37] := zConst hN (by decide +kernel)
theorem zc79 (hN : xNX o s) : zStr o s args 79 ")" [41] := zConst hN (by decide +kernel)
/-- 'ldc': the constant's String is pushed -/
theorem wLdc {p : Program} {l : Launch} {e : Env} {R : Room} {s : State} {m : MethodId} {args : Array Value} {below : List Frame} {meth : Method} {c : Code} {Q : State → Prop} {H : Heap} {locs : List Loc} {cells slots idx pc nL : Nat} {cc : ByteArray} {own text : String} {ls : Array Slot} {st : List Value} {a : Addr} (S : CallFix p m c cc nL s args xBig own)
    (hconst : (Cond.stringRef own idx text).before args s = true) (hev : (Term.string own idx).eval args s none [] s = some (.ref a)) (hd : decode cc pc = .ok (.ldc idx, 2))
    (k : W p l e R s m args below meth c H locs cells slots Q (F0 m (pc + 2) ls (.ref a :: st))) : W p l e R s m args below meth c H locs cells slots Q (F0 m pc ls st) := by
  obtain ⟨hx, hb, hml, hown, hts⟩ := S
  intro T hT X
  obtain ⟨t, b1, b2⟩ := k T hT X
  refine ⟨t, ?_, b2⟩
  obtain ⟨kk, cf, i, a', hk, hcf, hcp, -, hr, hev'⟩ := Cond.stringRef_spec hown hconst
  cases hev.symm.trans hev'
  obtain ⟨k', hk', he⟩ := X.warmed.alike.2.2 _ _ hk
  have hr' : k'.resolved[idx]? = some (some (.string a)) := by
    rcases X.warmed.entry hk hk' idx with h | ⟨h, -⟩
    · rw [h]
      exact hr
    · rw [hr] at h
      cases h
  have hcf' : k'.cf = some cf := by rw [he]; exact hcf
  jvm_step X.here [hx, hb, hd, ldc.wp_string (e := e) (s := T) (f := F0 m pc ls st) X.here.top hk' hcf' hcp hr']
  exact b1
end CS
