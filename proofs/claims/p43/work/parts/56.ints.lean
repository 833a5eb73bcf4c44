/-! the law's own methods over the script: pure ones -/
section HI
variable {b N : Nat} {xs : Nat → Int32}
abbrev oZ : Nat → Nat := fun _ => 0
def hPc (b N : Nat) (xs : Nat → Int32) (as : List Value) : Array Value → State → Prop := fun v U => v = (as.map (xSh b oZ R0)).toArray ∧ va_X b N xs U U.heap ∧ b < U.heap.size
def hQc (z : Value) : Array Value → State → Outcome → State → Prop := fun _ st oc t => oc = .returned (some z) ∧ va_F (fun _ : Nat => False) st t
def hMet (b N : Nat) (xs : Nat → Int32) (M : xM) (f : Nat) (as : List Value) (z : Value) : Prop := ∀ l : Launch, Met l (xMy M) (xws M) { frames := f, cells := 0, slots := 0, locals := 41 * f } (hPc b N xs as) (hQc z) 0 0 (fun _ => False)
theorem hPc.blind {as : List Value} : FrameBlind (hPc b N xs as) := by
  intro a U g mk ⟨q1, q2, q3⟩
  exact ⟨q1, va_X.moved (u := U) (U := U.calling g mk a) (Vm.Alike.refl U.vm) q2, q3⟩
theorem hMet_of {M : xM} {f : Nat} {as : List Value} {z : Value} (hok : xMok M = true) (hcat : xcat as ≤ xMn M)
    (k : ∀ (p : Program) (l : Launch) (e : Env) (s : State) (m : MethodId) (args : Array Value) (below : List Frame) (meth : Method) (c : Code) (S : CallFix p m c (xMc M) (xMn M) s args xBig (xRC (xMo M))) (hX : va_X b N xs s s.heap) (hbl : b < s.heap.size) (hret : meth.sig.returnType = xMr M) (hlk : meth.locks = false) (ls : Array Slot) (hl : lv_has ls (xMn M) ((lv_args 0 as).map (xSl b oZ R0))),
      W p l e { frames := f, cells := 0, slots := 0, locals := 41 * f } s m args below meth c s.heap [] 0 0 (MQ below (hQc z) args s 0 0 (fun _ => False)) (F0 m 0 ls [])) : hMet b N xs M f as z := by
  intro l
  obtain ⟨-, g2, g3, g4, g5, g6, g7⟩ := xMok_all hok
  refine Met.ofW (cc := xMc M) (maxL := xMn M) (ret := xMr M) g5 rfl ?_
  intro p e s m args below meth c s₁ B hml hv
  obtain ⟨q1, q2, q3⟩ := hv
  have hts : ∀ w ∈ xws M, w.before args s = true := atoms_spec (ws := xws M) B.pre
  have hown : s.vm.findClass (xRC (xMo M)) = some m.cls := by
    rw [g7]
    exact findClass_of_methodNamed B.named
  have hl := lv_entry (as.map (xSh b oZ R0)) (n := xMn M) (by rw [xsl_len]; exact hcat)
  rw [← xargs_map] at hl
  have h1 := k p l e s m args below meth c ⟨B.exec, B.bytes, hml, hown, fun w hw => hts w (List.mem_cons_of_mem _ hw)⟩ q2 q3 B.returns B.notSynchronized _ hl
  rw [q1, lg_entry_eq]
  rw [q1] at h1
  exact h1
theorem dR {M : xM} (hok : xMok M = true) {pc len a b : Nat} {ins : Instr} (h : xfet (xMt M) pc = some (ins, len, a, b)) : decode (xMc M) pc = .ok (ins, len) := (xfet_ok (xMok_all hok).1 h).1
/-- number k of the script, 0 behind its end -/
def sAt (N : Nat) (xs : Nat → Int32) (k : Nat) : Int32 := if k < N then xs k else 0
theorem h_at {k : Int32} {i : Nat} (hN : N < 2147483648) (hk : k.toInt = (i : Int)) : hMet b N xs rL_at 0 [.ref 0, .int k] (.int (sAt N xs i)) := by
  refine hMet_of ok_rL_at (Nat.le_of_ble_eq_true rfl) (fun p l e s m args below meth c S hX hbl hret hlk ls hl => ?_)
  obtain ⟨hx, hb, hml, hown, hts⟩ := S
  have hl : lv_has ls 2 [(0, .ref b), (1, .int k)] := hl
  have hS : va_S (fun _ : Nat => False) s.heap s.heap [] := va_S.rf
  have eN : (Int32.ofNat N).toInt = (N : Int) := nI_toInt hN
  have ek : k.toNatClampNeg = i := by show k.toInt.toNat = i; omega
  refine lv_iload_n hx hb (dR ok_rL_at rfl) rfl (lv_at hl 1 rfl) ?_
  refine lv_aload_n hx hb (dR ok_rL_at rfl) rfl (lv_at hl 0 rfl) ?_
  refine va_slen hx hb hX hbl id hS (dR ok_rL_at rfl) ?_
  refine lv_icmp_ge (tgt := 12) hx hb (dR ok_rL_at rfl) (by decide) (fun c1 => ?_) (fun c1 => ?_)
  · refine lv_iconst (v := 0) hx hb (dR ok_rL_at rfl) (by decide) ?_
    have e : sAt N xs i = 0 := if_neg (by rw [Int32.le_iff_toInt_le] at c1; omega)
    rw [e]
    exact W.iret hx hb hret (fun t ht _ => ⟨rfl, va_S.F hS ht⟩) hS.2.2 (dR ok_rL_at rfl) hlk
  · rw [Int32.le_iff_toInt_le] at c1
    refine lv_aload_n hx hb (dR ok_rL_at rfl) rfl (lv_at hl 0 rfl) ?_
    refine lv_iload_n hx hb (dR ok_rL_at rfl) rfl (lv_at hl 1 rfl) ?_
    refine va_sld hx hb hX hbl id hS (vp_in_iff.mpr ⟨by omega, by omega⟩) (dR ok_rL_at rfl) ?_
    refine lv_goto (tgt := 13) hx hb (dR ok_rL_at rfl) (by decide) ?_
    have e : sAt N xs i = xs k.toNatClampNeg := by
      rw [ek]
      exact if_pos (by omega)
    rw [e]
    exact W.iret hx hb hret (fun t ht _ => ⟨rfl, va_S.F hS ht⟩) hS.2.2 (dR ok_rL_at rfl) hlk
/-- a call of one of them, whatever has been made since -/
theorem hcall {p : Program} {l : Launch} {e : Env} {R : Room} {s : State} {m : MethodId} {args : Array Value} {below : List Frame} {meth : Method} {c : Code} {Q : State → Prop} {cc : ByteArray} {nL f idx pc cells slots : Nat} {own : String} {H : Heap} {locs : List Loc} {A : Nat → Prop} {M' : xM} {as rest : List Value} {z : Value} {ls : Array Slot}
    (S : CallFix p m c cc nL s args xBig own) (hm : hMet b N xs M' f as z) (hok : xMok M' = true) (hk : xMk M' = 1) (hl : Cond.methodLink own idx (xMy M') ∈ xBig) (hX : va_X b N xs s s.heap) (hbl : b < s.heap.size) (hbA : ¬ A b) (hS : va_S A s.heap H locs) (hn : as.length = xMp M') (hd : decode cc pc = .ok (.invokestatic idx, 3)) (hc8 : (rest.map fun v => v.category).sum ≤ 8) (rF : f + 1 ≤ R.frames ∧ 41 + 41 * f ≤ R.locals) (rC : cells ≤ R.cells ∧ slots ≤ R.slots) (hz : ls.size = nL)
    (k : ∀ (H1 : Heap) (locs1 : List Loc), va_S A s.heap H1 locs1 → H.size ≤ H1.size → (∀ q, q < H.size → H1[q]? = H[q]?) → W p l e R s m args below meth c H1 locs1 cells slots Q (F0 m (pc + 3) ls (z :: rest))) :
    W p l e R s m args below meth c H locs cells slots Q (F0 m pc ls ((as.map (xSh b oZ R0)).reverse ++ rest)) := by
  obtain ⟨-, g2, g3, g4, g5, g6, g7⟩ := xMok_all hok
  have v1 := xMok_S hok hk
  have hG2 : GoodIn xBig (xws M') := xBig_good (fun w hw => by
    rcases List.mem_cons.mp hw with rfl | hw
    · exact g2
    · exact hw)
  have hpv : PreS s H (hPc b N xs as) (as.map (xSh b oZ R0)) := ⟨hPc.blind, fun U hU hW => ⟨rfl, by rw [hU]; exact (hX.kept (hS.2.1 b hbl hbA)).moved hW.alike, by rw [hU]; exact Nat.lt_of_lt_of_le hbl hS.1⟩⟩
  have r1 : f + 1 ≤ R.frames ∧ 8 + (xMn M' + 11) + 41 * f ≤ R.locals := ⟨by omega, by omega⟩
  have hr : va_Run p l e R s m args below meth c H locs cells slots 0 0 (F0 m pc ls ((as.map (xSh b oZ R0)).reverse ++ rest)) rest (hQc z (as.map (xSh b oZ R0)).toArray) (fun _ : Nat => False) := va_runS (Ts := xBig) (own := own) (rest := rest) (As := as.map (xSh b oZ R0)) S (hm l) ⟨callB_of (xMp M') S.2.2.2.2 hG2 rfl rfl rfl (S.2.2.2.2 _ g3) (S.2.2.2.2 _ hl) g6 r1, S.2.2.2.2 _ v1⟩ hpv rfl (by rw [List.length_map]; exact hn) hz rfl (lv_room hc8) hd ⟨by omega, by omega⟩
  intro T hT X
  obtain ⟨v, st0', t, T', L', h0, X', hL, e1, e2, ⟨hv, hz', hk'⟩, st⟩ := hr T hT X
  cases hv
  rw [h0] at hz' hk'
  obtain ⟨t2, a1, b1⟩ := k T'.heap (locs ++ L') ⟨Nat.le_trans hS.1 (by rw [e1]; exact hz'), fun q h1 h2 => by rw [e1, hk' q (Nat.lt_of_lt_of_le h1 hS.1) id]; exact hS.2.1 q h1 h2, fun q hq => by
    rcases List.mem_append.mp hq with h | h
    · exact hS.2.2 q h
    · exact absurd (hL q h) id⟩ (by rw [e1]; exact hz') (fun q h1 => by rw [e1]; exact hk' q h1 id) T' rfl X'
  exact ⟨t2, st t2 a1, b1⟩
end HI
