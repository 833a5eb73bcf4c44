/-! a made String's letters, as the law takes them; formula as a contract -/
section CA
theorem sbNew {s s' : State} (h : s.sameBut s' []) : s.sameButNew s' [] 0 0 ∧ s'.heap = s.heap := by
  have e := State.sameBut_nil.mp h
  have e2 : s.setFrames s'.frames = s' := e.symm
  have hh : s'.heap = s.heap := by
    rw [e]
    rfl
  have hu : s'.slotsUsed = s.slotsUsed := by
    rw [e]
    rfl
  have hd : s'.heap.toList.drop s.heap.size = [] := by
    rw [hh]
    simp
  refine ⟨⟨?_, by rw [hh]; exact Nat.le_refl _, by rw [hh]; exact Nat.le_refl _, by rw [hd, hu]; rfl, by rw [hd]; exact Nat.le_refl _, h.2.2⟩, hh⟩
  rw [e2]
variable {p : Program} {l : Launch} {e : Env} {R : Room} {s : State} {m : MethodId} {args : Array Value} {below : List Frame} {meth : Method} {c : Code} {Q : State → Prop} {D : va_G} {ca : Nat → ClassId} {o : Nat} {A F : Nat → Prop} {H : Heap} {locs : List Loc} {cells slots idx pc nL n i v : Nat} {cc : ByteArray} {ls : Array Slot} {rest : List Value} {ts : List Int32} {q : Jvm.Free.SB.SQ} {cS : ClassId}
theorem zFm (hN : xNX o s) (hbig : ∀ w ∈ xBig, w.before args s = true) : ∃ fmt : Value, fmt.isRef = true ∧ va_Z "jdk/internal/util/Preconditions" "SIOOBE_FORMATTER" "Ljava/util/function/BiFunction;" fmt (fun a => o ≤ a) s s.heap := by
  obtain ⟨-, U0, a0, hgv, htb, hs0, hW, hh⟩ := hN
  have hrF : (Cond.isRef (.static "jdk/internal/util/Preconditions" "SIOOBE_FORMATTER" "Ljava/util/function/BiFunction;")).before a0 (U0.setVm s.vm) = true := Cond.pre_warmed hW (by decide +kernel) (flat_of_before _ hgv _ (by decide +kernel))
  obtain ⟨f, hf, hfr⟩ : ∃ f, (Term.static "jdk/internal/util/Preconditions" "SIOOBE_FORMATTER" "Ljava/util/function/BiFunction;").eval a0 (U0.setVm s.vm) none [] (U0.setVm s.vm) = some f ∧ f.isRef = true := by
    simp only [Cond.before, Cond.holds, Cond.value] at hrF
    cases hh : (Term.static "jdk/internal/util/Preconditions" "SIOOBE_FORMATTER" "Ljava/util/function/BiFunction;").eval a0 (U0.setVm s.vm) none [] (U0.setVm s.vm) with
    | none => simp [hh] at hrF
    | some u => cases u <;> simp [hh] at hrF <;> exact ⟨_, rfl, rfl⟩
  have hl : (Cond.laysStatic "jdk/internal/util/Preconditions" "SIOOBE_FORMATTER" "Ljava/util/function/BiFunction;").before a0 (U0.setVm s.vm) = true := Cond.pre_warmed hW (by decide +kernel) (htb _ (List.mem_append_right _ (tIn (by decide +kernel))))
  have hi : (Cond.initialized "jdk/internal/util/Preconditions").before a0 (U0.setVm s.vm) = true := va_tabs (A := args) (u := s) (U := U0.setVm s.vm) rfl rfl (hbig _ (wIn (by decide +kernel)))
  have hz : va_Z "jdk/internal/util/Preconditions" "SIOOBE_FORMATTER" "Ljava/util/function/BiFunction;" f (fun a => o ≤ a) (U0.setVm s.vm) (U0.setVm s.vm).heap := va_Zof hl hi hf (fun a ha => by
    have ha : a < U0.heap.size := ha
    omega)
  exact ⟨f, hfr, (hz.moved (Vm.Alike.refl _)).kept (fun a ha _ => hh a (by rw [← hs0]; exact ha))⟩
theorem c8_ok : ∀ v, v < 128 → ((nI v) &&& 255).toUInt32.toUInt16.toUInt32.toInt32 = nI v := by decide +kernel
theorem lChA : Cond.methodLink "PulledSignalsLaw" 87 Cold.charAt.x ∈ xBig := wIn (by decide +kernel)
theorem lLen : Cond.methodLink "PulledSignalsLaw" 81 Jvm.Free.SB.strLenN ∈ xBig := wIn (by decide +kernel)
/-- charAt(i) -/
theorem wChA (S : CallFix p m c cc nL s args xBig "PulledSignalsLaw") (hN : xNX o s) (ho : o ≤ s.heap.size) (hA0 : ∀ a, a < o → ¬ A a) (hS : va_S A s.heap H locs) (hz : ls.size = nL) (hc8 : Nat.ble ((rest.map fun v => v.category).sum) 7 = true) (rF : 4 ≤ R.frames ∧ 100 ≤ R.locals) (rC : cells ≤ R.cells ∧ slots ≤ R.slots)
    (h : ST q cS ts s H) (hi : ts[i]? = some (nI v)) (hv : v < 128) (hd : decode cc pc = .ok (.invokevirtual 87, 3))
    (kk : W p l e R s m args below meth c H locs cells slots Q (F0 m (pc + 3) ls (.int (nI v) :: rest))) :
    W p l e R s m args below meth c H locs cells slots Q (F0 m pc ls (.int (nI i) :: .ref q.sa :: rest)) := by
  obtain ⟨hx, hb, hml, hown, hts⟩ := id S
  obtain ⟨h1, h2, ⟨kS, k1, k2, k3⟩, h4⟩ := h
  have hcat : (rest.map fun v => v.category).sum ≤ 7 := Nat.le_of_ble_eq_true hc8
  have hil : i < q.len := by
    rw [h1]
    exact (List.getElem?_eq_some_iff.mp hi).1
  have hZ := zCs hN hts
  obtain ⟨fmt, hfr, hZ2⟩ := zFm hN hts
  have hkeep : ∀ (V : State), V.heap = H → ∀ a : Nat, a < s.heap.size → ¬ o ≤ a → V.heap[a]? = s.heap[a]? := fun V hV a h5 h6 => by
    rw [hV]
    exact hS.2.1 a h5 (hA0 a (by omega))
  have key : ∀ V : State, s.WarmedH V.vm → V.heap = H → Cold.charAt.spec.pre.before #[.ref q.sa, .int (Int32.ofNat i)] V = true ∧ Cold.charAt.P q.sa q.sd (Int32.ofNat i) (nI v) 1 fmt q.SA #[.ref q.sa, .int (Int32.ofNat i)] V := by
    intro V hW hV
    have e1 : va_Z "java/lang/String" "COMPACT_STRINGS" "Z" (.int 1) (fun a => o ≤ a) V V.heap := (hZ.moved hW.alike).kept (hkeep V hV)
    have e2 : va_Z "jdk/internal/util/Preconditions" "SIOOBE_FORMATTER" "Ljava/util/function/BiFunction;" fmt (fun a => o ≤ a) V V.heap := (hZ2.moved hW.alike).kept (hkeep V hV)
    obtain ⟨k', g1, g2⟩ := hW.alike.2.2 _ _ k1
    exact chP (wKeep hts hW) (wStatZ (e1.narrow (fun _ z => absurd z id))) (wStatZ (e2.narrow (fun _ z => absurd z id))) hfr (h4 V hW.alike hV) g1 (by rw [g2]; exact k2) (by rw [g2]; exact k3) hil (h2 i _ hi)
  intro T hT X
  have hSl := h4 T X.warmed.alike hT
  have w1 : Cond.code Cold.charAt.x Str.charAt.code 2 (some .char) ∈ xBig := wIn (by decide +kernel)
  have w2 : Cond.instanceMethod Cold.charAt.x ∈ xBig := wIn (by decide +kernel)
  have w3 : Cond.selects "java/lang/String" Cold.charAt.x Cold.charAt.x ∈ xBig := wIn (by decide +kernel)
  have hK : Back l R p e below s args Cold.charAt.x 3 8 (fun A a => a = #[.ref q.sa, .int (Int32.ofNat i)] ∧ A.cells ≤ R.cells ∧ A.slots ≤ R.slots ∧ A.U.heap = H) (fun A a v' B => v' = some (.int (((nI v) &&& 255).toUInt32.toUInt16.toUInt32.toInt32)) ∧ B.U.heap = A.U.heap ∧ B.locs = A.locs ∧ B.cells = A.cells ∧ B.slots = A.slots) := by
    refine Back.of_free (S := Cold.charAt.spec) (P := Cold.charAt.P q.sa q.sd (Int32.ofNat i) (nI v) 1 fmt q.SA) (K := fun _ _ _ _ _ => True) (Q := Cold.charAt.Q (nI v)) (bytes := Str.charAt.code) (maxL := 2) (ret := some .char)
      (E := fun a first o t L k n => L = [] ∧ k = 0 ∧ n = 0 ∧ t.heap = first.heap) (Cold.charAt.met l q.sa q.sd (Int32.ofNat i) (nI v) 1 fmt q.SA) rF.1 (by show 8 + (2 + 11) + 72 ≤ R.locals; omega) ?_ ?_ (fun _ _ _ _ _ _ _ _ _ => trivial) ?_ ?_
    · rintro m' meth' c' A a XA ⟨rfl, hc, hs, hh⟩
      obtain ⟨p1, p2⟩ := key A.U XA.warmed hh
      have p1' := p1
      simp only [Cold.charAt.spec, Cond.before_and, Bool.and_eq_true] at p1'
      exact ⟨p1, p1'.1, p1'.2.2.2.2.2.2.2.2.2.2.2, hc, hs⟩
    · rintro m' meth' c' A a g mk XA ⟨rfl, hc, hs, hh⟩
      exact (key (A.U.calling g mk _) XA.warmed hh).2
    · rintro a first o t ⟨⟨hr, hW, hsame⟩, -⟩
      obtain ⟨g1, g2⟩ := sbNew hsame
      exact ⟨[], 0, 0, ⟨hr, hW, g1⟩, rfl, rfl, rfl, g2⟩
    · rintro m' meth' c' A a g mk v' t L k n' XA ⟨rfl, hc, hs, hh⟩ ⟨-, hret⟩ - ⟨rfl, rfl, rfl, hheap⟩
      exact ⟨Outcome.returned.inj hret, hheap, List.append_nil _, rfl, rfl⟩
  obtain ⟨v', vm₁, ⟨T', L, c', n'⟩, hW₁, X', ⟨hv', e1, e2, e3, e4⟩, come⟩ := X.virtualBack hx (own := "PulledSignalsLaw") (C := "java/lang/String") (index := 87) (y := Cold.charAt.x) (z := Cold.charAt.x) hown (hts _ lChA) (wDecls (hts _ w1) (hts _ w2)) (notFace_of_selects (hts _ w3)) (hts _ w3) (hts _ w2) (by decide)
    hK (cB := cS) (by rw [← X.warmed.alike.findClass]; exact hSl.2.1) ⟨q.sC, hSl.1.1, hSl.2.2, hSl.1.2.2.1⟩ (g := F0 m pc ls (.int (nI i) :: .ref q.sa :: rest)) rfl (by rw [hml]; exact hz) (Steps.refl _) (argsL := [.int (nI i)]) (rest := rest)
    (fun sig h => by rw [show parseMethodDescriptor Cold.charAt.x.desc = some ⟨[.int], some .char⟩ from by decide +kernel] at h; cases h; rfl) rfl (by show 2 * 0 + _ ≤ 8; omega) (by rw [hb]; exact hd)
    (fun vmx hWx => ⟨rfl, rC.1, rC.2, hT⟩)
  dsimp only [Pt.U, Pt.locs, Pt.cells, Pt.slots] at X' e1 e2 e3 e4 come
  subst hv' e2 e3 e4
  rw [c8_ok v hv] at come
  obtain ⟨t, a1, b1⟩ := kk T' (e1.trans hT) X'
  exact ⟨t, come.trans a1, b1⟩
/-- length() -/
theorem wLn (S : CallFix p m c cc nL s args xBig "PulledSignalsLaw") (hN : xNX o s) (ho : o ≤ s.heap.size) (hA0 : ∀ a, a < o → ¬ A a) (hS : va_S A s.heap H locs) (hz : ls.size = nL) (hc8 : Nat.ble ((rest.map fun v => v.category).sum) 7 = true) (rF : 4 ≤ R.frames ∧ 80 ≤ R.locals) (rC : cells ≤ R.cells ∧ slots ≤ R.slots)
    (h : ST q cS ts s H) (hq : o ≤ q.sa) (hd : decode cc pc = .ok (.invokevirtual 81, 3))
    (kk : W p l e R s m args below meth c H locs cells slots Q (F0 m (pc + 3) ls (.int (nI ts.length) :: rest))) :
    W p l e R s m args below meth c H locs cells slots Q (F0 m pc ls (.ref q.sa :: rest)) := by
  obtain ⟨hx, hb, hml, hown, hts⟩ := id S
  obtain ⟨h1, h2, ⟨kS, k1, k2, k3⟩, h4⟩ := h
  have hcat : (rest.map fun v => v.category).sum ≤ 7 := Nat.le_of_ble_eq_true hc8
  obtain ⟨st, hst, hcmp⟩ := zCompact hN hts
  have hne : q.sa ≠ st := fun z => by
    rw [z] at hq
    omega
  have hcS : s.vm.findClass Jvm.Free.SB.STR = some cS := by
    have hU : Jvm.Free.SBG.Sl q cS { s with heap := H } := h4 { s with heap := H } (Vm.Alike.refl _) rfl
    exact hU.2.1
  refine wLen (st := st) (z := 1) S ⟨⟨by decide, hne⟩, fun U hU hH => ⟨h4 U hU hH, Jvm.Free.SBG.compact_carry hU (fun c hc => ?_) hcmp⟩⟩ lLen hcS hd (by omega) rF rC hz ?_
  · rw [hH]
    exact (hS.2.1 st (by omega) (hA0 st hst)).trans hc
  · rw [h1]
    exact kk
end CA
