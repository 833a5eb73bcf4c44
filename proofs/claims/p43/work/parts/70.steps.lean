/-! a builder's steps, as the law takes them -/
section BT
/-- a builder at b with bytes at da, whose text is ts -/
def BT (D : va_G) (ca : Nat → ClassId) (b da : Nat) (ts : List Int32) (H : Heap) : Prop := ∃ f : Nat → Int32, va_P D vwCl (wB ca b da 0 ts.length f) H ∧ (∀ (j : Nat) (c : Int32), ts[j]? = some c → f j = c) ∧ ∀ j, fits .byte (.int (f j)) = true
/-- a String that the law made, in every state with that heap -/
def ST (q : Jvm.Free.SB.SQ) (cS : ClassId) (ts : List Int32) (s : State) (H : Heap) : Prop := q.len = ts.length ∧ (∀ (i : Nat) (c : Int32), ts[i]? = some c → q.SA.slots[i]? = some (.int c)) ∧ (∃ kS : Class, s.vm.classes[cS]? = some kS ∧ kS.kind = .ordinary ∧ q.sC.slots.size = kS.instanceTypes.size) ∧ ∀ U : State, s.vm.Alike U.vm → U.heap = H → Jvm.Free.SBG.Sl q cS U
theorem lSbC : Cond.methodLink "PulledSignalsLaw" 37 nSbC ∈ xBig := wIn (by decide +kernel)
theorem lSbS : Cond.methodLink "PulledSignalsLaw" 43 nSbS ∈ xBig := wIn (by decide +kernel)
theorem lSbI : Cond.methodLink "PulledSignalsLaw" 54 nSbI ∈ xBig := wIn (by decide +kernel)
theorem lSbi : Cond.methodLink "PulledSignalsLaw" 36 nSbi ∈ xBig := wIn (by decide +kernel)
theorem lToS : Cond.methodLink "PulledSignalsLaw" 46 Jvm.Free.SB.sbToStringN ∈ xBig := wIn (by decide +kernel)
theorem lNew : Cond.classLink "PulledSignalsLaw" 34 "java/lang/StringBuilder" ∈ xBig := wIn (by decide +kernel)
theorem sSbC : Cond.selects "java/lang/StringBuilder" nSbC nSbC ∈ xBig := wIn (by decide +kernel)
theorem sSbS : Cond.selects "java/lang/StringBuilder" nSbS nSbS ∈ xBig := wIn (by decide +kernel)
theorem sSbI : Cond.selects "java/lang/StringBuilder" nSbI nSbI ∈ xBig := wIn (by decide +kernel)
theorem iSBC : Cond.initialized "java/lang/StringBuilder" ∈ xBig := wIn (by decide +kernel)
theorem fBy : ∀ c, c < 128 → fits .byte (.int (nI c)) = true := by decide +kernel
variable {p : Program} {l : Launch} {e : Env} {R : Room} {s : State} {m : MethodId} {args : Array Value} {below : List Frame} {meth : Method} {c : Code} {Q : State → Prop} {D : va_G} {ca : Nat → ClassId} {o : Nat} {A F : Nat → Prop} {H : Heap} {locs : List Loc} {cells slots mc ms f idx pc nL n q0 b da sa v ch st : Nat} {cc by1 : ByteArray} {ls : Array Slot} {as rest fs : List Value} {ws wsC : va_W} {ks : List (Nat × String × Nat)} {Qy : Option Value → Heap → Prop} {y : MethodName} {ret : Option FieldType} {ts cs : List Int32} {tx : String}
/-- invokevirtual on a builder, of her own class's method -/
theorem jcB (S : CallFix p m c cc nL s args xBig "PulledSignalsLaw") (hm : jMet D ca o H.size y by1 n ret f mc ms (.ref b :: as) wsC ks F Qy) (hcode : Cond.code y by1 n ret ∈ xBig) (hl : Cond.methodLink "PulledSignalsLaw" idx y ∈ xBig) (hin : Cond.instanceMethod y ∈ xBig) (hse : Cond.selects "java/lang/StringBuilder" y y ∈ xBig) (hini : Cond.initialized y.cls ∈ xBig) (hd8 : y.cls ≠ "java/lang/invoke/MethodHandle" ∧ y.cls ≠ "java/lang/invoke/VarHandle" ∧ (parseMethodDescriptor y.desc).map (fun d => d.parameters.length) = some as.length)
    (hN : xNX o s) (hK : va_K D vwCl (xTys ca) s) (hP : va_P D vwCl ws H) (he : ws[q0]? = some (b, .inr (10, fs))) (hPC : va_P D vwCl wsC H) (hks : jK ks s) (ho : o ≤ s.heap.size) (hA0 : ∀ a, a < o → ¬ A a) (hS : va_S A s.heap H locs) (hA : ∀ q, F q → A q) (hA2 : ∀ q, H.size ≤ q → A q) (hd : decode cc pc = .ok (.invokevirtual idx, 3)) (hc8 : (rest.map fun v => v.category).sum ≤ 8) (rF : f + 1 ≤ R.frames ∧ 8 + (n + 11) + 41 * f ≤ R.locals) (rC : cells + mc ≤ R.cells ∧ slots + ms ≤ R.slots) (hz : ls.size = nL)
    (kk : ∀ (H1 : Heap) (locs1 : List Loc) (r : Option Value), Qy r H1 → va_S A s.heap H1 locs1 → H.size ≤ H1.size → (∀ q, q < H.size → ¬ F q → H1[q]? = H[q]?) → W p l e R s m args below meth c H1 locs1 (cells + mc) (slots + ms) Q (F0 m (pc + 3) ls (r.toList ++ rest))) :
    W p l e R s m args below meth c H locs cells slots Q (F0 m pc ls (as.reverse ++ .ref b :: rest)) := by
  have hG := jws_good hcode
  have hrecv := va_recv hK hP cl10 he
  exact jcalled (va_runV (C := "java/lang/StringBuilder") (Ts := xBig) (own := "PulledSignalsLaw") (rest := rest) (As := as) S (hm l) ⟨callB_of as.length S.2.2.2.2 hG rfl rfl rfl (S.2.2.2.2 _ hini) (S.2.2.2.2 _ hl) hd8 rF, S.2.2.2.2 _ hin, S.2.2.2.2 _ hse⟩ ⟨jPc.blind, hrecv, jpre hN hK hPC hks ho hA0 hS⟩ rfl rfl hz rfl (lv_room hc8) hd rC) hS hA hA2 kk
theorem getE {α : Type} {l1 l2 : List α} {j : Nat} {c : α} (h : (l1 ++ l2)[j]? = some c) : (j < l1.length ∧ l1[j]? = some c) ∨ (l1.length ≤ j ∧ l2[j - l1.length]? = some c) := by
  by_cases hj : j < l1.length
  · rw [List.getElem?_append_left hj] at h
    exact Or.inl ⟨hj, h⟩
  · rw [List.getElem?_append_right (by omega)] at h
    exact Or.inr ⟨by omega, h⟩
/-- 'new StringBuilder()' -/
theorem wNew (S : CallFix p m c cc nL s args xBig "PulledSignalsLaw") (hN : xNX o s) (hK : va_K D vwCl (xTys ca) s) (ho : o ≤ s.heap.size) (hA0 : ∀ a, a < o → ¬ A a) (hA2 : ∀ q, s.heap.size ≤ q → A q) (hS : va_S A s.heap H locs) (hz : ls.size = nL) (hc8 : Nat.ble ((rest.map fun v => v.category).sum) 7 = true) (rF : 7 ≤ R.frames ∧ 400 ≤ R.locals)
    (rC : cells + 2 ≤ R.cells ∧ slots + 20 ≤ R.slots) (d0 : decode cc pc = .ok (.new 34, 3)) (d1 : decode cc (pc + 3) = .ok (.dup, 1)) (d2 : decode cc (pc + 3 + 1) = .ok (.invokespecial 36, 3))
    (kk : ∀ (H1 : Heap) (locs1 : List Loc), BT D ca H.size (H.size + 1) [] H1 → va_S A s.heap H1 locs1 → H.size ≤ H1.size → (∀ q, q < H.size → H1[q]? = H[q]?) → W p l e R s m args below meth c H1 locs1 (cells + 2) (slots + 20) Q (F0 m (pc + 3 + 1 + 3) ls (.ref H.size :: rest))) :
    W p l e R s m args below meth c H locs cells slots Q (F0 m pc ls rest) := by
  obtain ⟨hx, hb, hml, hown, hts⟩ := id S
  have hKn := hK.1 10 (RJ4, TJ4, 4) rfl
  have hcat : (rest.map fun v => v.category).sum ≤ 7 := Nat.le_of_ble_eq_true hc8
  refine W.newcK hx hb hown (hts _ lNew) (hts _ (wIn (by decide +kernel)) : (Cond.instantiable "java/lang/StringBuilder" 4).before args s = true) (hts _ iSBC) rfl d0 (by omega) (by omega) hKn.2.1 rfl (fun H1 kC hkC e1 z1 o1 => ?_)
  have hP : va_P D vwCl [(H.size, .inr (10, [.null, .int 0, .int 0, .int 0]))] H1 := fun k q hq => by
    match k, hq with
    | 0, hq =>
      cases hq
      exact ⟨_, cl10, (u_born tyJ4 hts (xLy_at (ci := 10) rfl).1 hKn hkC e1 tyJ4_ok).to (fun j hj => by
        match j, hj with
        | 0, _ => rfl
        | 1, _ => rfl
        | 2, _ => rfl
        | 3, _ => rfl
        | j + 4, hj => exact absurd (show j + 4 < 4 from hj) (by omega))⟩
    | k + 1, hq => cases hq
  have hS1 : va_S A s.heap H1 locs := ⟨Nat.le_trans hS.1 (by omega), fun q h1 h2 => (o1 q (Nat.lt_of_lt_of_le h1 hS.1)).trans (hS.2.1 q h1 h2), hS.2.2⟩
  have hsz := hS.1
  refine lv_dup hx hb d1 rfl ?_
  refine jcI (as := []) (rest := .ref H.size :: rest) (F := fun a => a = H.size) (ks := []) S (j_sbi (ks := []) (by omega) (by omega)) nSbi_c lSbi nSbi_i iSBC rfl ⟨by decide, by decide, by decide +kernel⟩ hN hK hP (fun t ht => by cases ht) ho hA0 hS1 (fun q hq => by
    have hq : q = H.size := hq
    exact hA2 q (by omega)) (fun q hq => hA2 q (by omega)) d2 (by rw [List.map_cons, List.sum_cons]; show 1 + _ ≤ 8; omega) ⟨by omega, by omega⟩ ⟨by omega, by omega⟩ hz (fun H2 locs2 r hr hS2 hz2 hk2 => ?_)
  obtain ⟨hr, hP2⟩ : r = none ∧ va_P D vwCl (wB ca H.size H1.size 0 0 (fun _ => 0)) H2 := hr
  subst hr
  rw [z1] at hP2
  exact kk H2 locs2 ⟨fun _ => 0, hP2, (fun j c h => by simp at h), fun _ => rfl⟩ hS2 (by omega) (fun q hq => (hk2 q (by omega) (fun z => by
    have z : q = H.size := z
    omega)).trans (o1 q hq))
/-- append(char) -/
theorem wApC (S : CallFix p m c cc nL s args xBig "PulledSignalsLaw") (hN : xNX o s) (hK : va_K D vwCl (xTys ca) s) (ho : o ≤ s.heap.size) (hA0 : ∀ a, a < o → ¬ A a) (hA2 : ∀ q, s.heap.size ≤ q → A q) (hS : va_S A s.heap H locs) (hz : ls.size = nL) (hc8 : Nat.ble ((rest.map fun v => v.category).sum) 7 = true) (rF : 7 ≤ R.frames ∧ 400 ≤ R.locals)
    (rC : cells ≤ R.cells ∧ slots ≤ R.slots) (hB : BT D ca b da ts H) (hb0 : s.heap.size ≤ b) (hd0 : s.heap.size ≤ da) (hne : b ≠ da) (hn : ts.length < 16) (hch : ch < 128) (d0 : decode cc pc = .ok (.invokevirtual 37, 3))
    (kk : ∀ (H1 : Heap) (locs1 : List Loc), BT D ca b da (ts ++ [nI ch]) H1 → va_S A s.heap H1 locs1 → H.size ≤ H1.size → (∀ q, q < H.size → q ≠ b → q ≠ da → H1[q]? = H[q]?) → W p l e R s m args below meth c H1 locs1 cells slots Q (F0 m (pc + 3) ls (.ref b :: rest))) :
    W p l e R s m args below meth c H locs cells slots Q (F0 m pc ls (.int (nI ch) :: .ref b :: rest)) := by
  obtain ⟨f, hP, hf1, hf2⟩ := hB
  have hcat : (rest.map fun v => v.category).sum ≤ 7 := Nat.le_of_ble_eq_true hc8
  have hsz := hS.1
  refine jcB (as := [.int (nI ch)]) (rest := rest) (ks := []) S (j_sbC (ks := []) (by omega) (by omega) (by omega) hne hn hch) nSbC_c lSbC nSbC_i sSbC iSBC ⟨by decide, by decide, (show (parseMethodDescriptor nSbC.desc).map (fun d => d.parameters.length) = some 1 from by decide +kernel)⟩ hN hK hP (q0 := 0) rfl hP (fun t ht => by cases ht) ho hA0 hS (fun q hq => by
    rcases hq with hq | hq
    · exact hA2 q (by omega)
    · exact hA2 q (by omega)) (fun q hq => hA2 q (by omega)) d0 (by omega) ⟨by omega, by omega⟩ ⟨by omega, by omega⟩ hz (fun H1 locs1 r hr hS1 hz1 hk1 => ?_)
  obtain ⟨hr, hP1⟩ : r = some (.ref b) ∧ va_P D vwCl (wB ca b da 0 (ts.length + 1) (upd f ts.length (nI ch))) H1 := hr
  subst hr
  refine kk H1 locs1 ⟨upd f ts.length (nI ch), by rw [List.length_append]; exact hP1, fun j c h => ?_, fun j => ?_⟩ hS1 hz1 (fun q hq h1 h2 => hk1 q hq (fun z => by rcases z with z | z; exact h1 z; exact h2 z))
  · rcases getE h with ⟨h1, h2⟩ | ⟨h1, h2⟩
    · unfold upd
      rw [if_neg (by omega)]
      exact hf1 j c h2
    · have hj : j - ts.length = 0 := by
        have := (List.getElem?_eq_some_iff.mp h2).1
        simp at this
        omega
      rw [hj] at h2
      cases h2
      unfold upd
      rw [if_pos (by omega)]
  · unfold upd
    split
    · exact fBy ch hch
    · exact hf2 j
/-- append(int), a digit -/
theorem wApI (S : CallFix p m c cc nL s args xBig "PulledSignalsLaw") (hN : xNX o s) (hK : va_K D vwCl (xTys ca) s) (ho : o ≤ s.heap.size) (hA0 : ∀ a, a < o → ¬ A a) (hA2 : ∀ q, s.heap.size ≤ q → A q) (hS : va_S A s.heap H locs) (hz : ls.size = nL) (hc8 : Nat.ble ((rest.map fun v => v.category).sum) 7 = true) (rF : 7 ≤ R.frames ∧ 400 ≤ R.locals)
    (rC : cells ≤ R.cells ∧ slots ≤ R.slots) (hB : BT D ca b da ts H) (hb0 : s.heap.size ≤ b) (hd0 : s.heap.size ≤ da) (hne : b ≠ da) (hn : ts.length < 16) (hv : v < 10) (d0 : decode cc pc = .ok (.invokevirtual 54, 3))
    (kk : ∀ (H1 : Heap) (locs1 : List Loc), BT D ca b da (ts ++ [nI (48 + v)]) H1 → va_S A s.heap H1 locs1 → H.size ≤ H1.size → (∀ q, q < H.size → q ≠ b → q ≠ da → H1[q]? = H[q]?) → W p l e R s m args below meth c H1 locs1 cells slots Q (F0 m (pc + 3) ls (.ref b :: rest))) :
    W p l e R s m args below meth c H locs cells slots Q (F0 m pc ls (.int (nI v) :: .ref b :: rest)) := by
  obtain ⟨f, hP, hf1, hf2⟩ := hB
  have hcat : (rest.map fun v => v.category).sum ≤ 7 := Nat.le_of_ble_eq_true hc8
  have hsz := hS.1
  refine jcB (as := [.int (nI v)]) (rest := rest) (ks := []) S (j_sbI (ks := []) (by omega) (by omega) (by omega) hne hn hv) nSbI_c lSbI nSbI_i sSbI iSBC ⟨by decide, by decide, (show (parseMethodDescriptor nSbI.desc).map (fun d => d.parameters.length) = some 1 from by decide +kernel)⟩ hN hK hP (q0 := 0) rfl hP (fun t ht => by cases ht) ho hA0 hS (fun q hq => by
    rcases hq with hq | hq
    · exact hA2 q (by omega)
    · exact hA2 q (by omega)) (fun q hq => hA2 q (by omega)) d0 (by omega) ⟨by omega, by omega⟩ ⟨by omega, by omega⟩ hz (fun H1 locs1 r hr hS1 hz1 hk1 => ?_)
  obtain ⟨hr, hP1⟩ : r = some (.ref b) ∧ va_P D vwCl (wB ca b da 0 (ts.length + 1) (upd f ts.length (nI (48 + v)))) H1 := hr
  subst hr
  refine kk H1 locs1 ⟨upd f ts.length (nI (48 + v)), by rw [List.length_append]; exact hP1, fun j c h => ?_, fun j => ?_⟩ hS1 hz1 (fun q hq h1 h2 => hk1 q hq (fun z => by rcases z with z | z; exact h1 z; exact h2 z))
  · rcases getE h with ⟨h1, h2⟩ | ⟨h1, h2⟩
    · unfold upd
      rw [if_neg (by omega)]
      exact hf1 j c h2
    · have hj : j - ts.length = 0 := by
        have := (List.getElem?_eq_some_iff.mp h2).1
        simp at this
        omega
      rw [hj] at h2
      cases h2
      unfold upd
      rw [if_pos (by omega)]
  · unfold upd
    split
    · exact fBy (48 + v) (by omega)
    · exact hf2 j
/-- a constant pushed and appended -/
theorem wApS (S : CallFix p m c cc nL s args xBig "PulledSignalsLaw") (hN : xNX o s) (hK : va_K D vwCl (xTys ca) s) (ho : o ≤ s.heap.size) (hA0 : ∀ a, a < o → ¬ A a) (hA2 : ∀ q, s.heap.size ≤ q → A q) (hS : va_S A s.heap H locs) (hz : ls.size = nL) (hc8 : Nat.ble ((rest.map fun v => v.category).sum) 7 = true) (rF : 7 ≤ R.frames ∧ 400 ≤ R.locals)
    (rC : cells ≤ R.cells ∧ slots ≤ R.slots) (hB : BT D ca b da ts H) (hb0 : s.heap.size ≤ b) (hd0 : s.heap.size ≤ da) (hne : b ≠ da) (hok : zOk idx tx cs = true) (hn : ts.length + cs.length ≤ 16) (d0 : decode cc pc = .ok (.ldc idx, 2)) (d1 : decode cc (pc + 2) = .ok (.invokevirtual 43, 3))
    (kk : ∀ (H1 : Heap) (locs1 : List Loc), BT D ca b da (ts ++ cs) H1 → va_S A s.heap H1 locs1 → H.size ≤ H1.size → (∀ q, q < H.size → q ≠ b → q ≠ da → H1[q]? = H[q]?) → W p l e R s m args below meth c H1 locs1 cells slots Q (F0 m (pc + 2 + 3) ls (.ref b :: rest))) :
    W p l e R s m args below meth c H locs cells slots Q (F0 m pc ls (.ref b :: rest)) := by
  obtain ⟨hx, hb, hml, hown, hts⟩ := id S
  obtain ⟨f, hP, hf1, hf2⟩ := hB
  have hcat : (rest.map fun v => v.category).sum ≤ 7 := Nat.le_of_ble_eq_true hc8
  have hsz := hS.1
  obtain ⟨q, cS, g1, g2, -⟩ := zConst (args := args) hN hok
  have hR : vk_R "PulledSignalsLaw" idx tx q.sa s := vk_R.of g1 g2
  obtain ⟨va, -, -, -, -, -, -, hfit, -⟩ := jStr_of hN hok hR
  refine va_ldcS hx hb hown hR d0 ?_
  refine jcB (as := [.ref q.sa]) (rest := rest) (ks := [(idx, tx, q.sa)]) S (j_sbS (by omega) (by omega) (by omega) hne hok hn) nSbS_c lSbS nSbS_i sSbS iSBC ⟨by decide, by decide, (show (parseMethodDescriptor nSbS.desc).map (fun d => d.parameters.length) = some 1 from by decide +kernel)⟩ hN hK hP (q0 := 0) rfl hP (fun t ht => by
    rcases List.mem_singleton.mp ht with rfl
    exact hR) ho hA0 hS (fun q hq => by
    rcases hq with hq | hq
    · exact hA2 q (by omega)
    · exact hA2 q (by omega)) (fun q hq => hA2 q (by omega)) d1 (by omega) ⟨by omega, by omega⟩ ⟨by omega, by omega⟩ hz (fun H1 locs1 r hr hS1 hz1 hk1 => ?_)
  obtain ⟨hr, f', h1, h2, h3, hP1⟩ : r = some (.ref b) ∧ SX D ca b da 0 ts.length f cs H1 := hr
  subst hr
  refine kk H1 locs1 ⟨f', by rw [List.length_append]; exact hP1, fun j c h => ?_, fun j => ?_⟩ hS1 hz1 (fun q hq h1 h2 => hk1 q hq (fun z => by rcases z with z | z; exact h1 z; exact h2 z))
  · rcases getE h with ⟨k1, k2⟩ | ⟨k1, k2⟩
    · rw [h1 j k1]
      exact hf1 j c k2
    · have hl := (List.getElem?_eq_some_iff.mp k2).1
      have e := h2 (j - ts.length) hl
      rw [show ts.length + (j - ts.length) = j by omega] at e
      rw [e, List.getD_eq_getElem?_getD, k2]
      rfl
  · by_cases k1 : j < ts.length
    · rw [h1 j k1]
      exact hf2 j
    · by_cases k2 : j < ts.length + cs.length
      · have e := h2 (j - ts.length) (by omega)
        rw [show ts.length + (j - ts.length) = j by omega] at e
        rw [e]
        exact hfit _ (by omega)
      · rw [h3 j (by omega)]
        exact hf2 j
/-- toString() -/
theorem wToS (S : CallFix p m c cc nL s args xBig "PulledSignalsLaw") (hN : xNX o s) (hK : va_K D vwCl (xTys ca) s) (ho : o ≤ s.heap.size) (hA0 : ∀ a, a < o → ¬ A a) (hA2 : ∀ q, s.heap.size ≤ q → A q) (hS : va_S A s.heap H locs) (hz : ls.size = nL) (hc8 : Nat.ble ((rest.map fun v => v.category).sum) 7 = true) (rF : 11 ≤ R.frames ∧ 400 ≤ R.locals)
    (rC : cells + 2 ≤ R.cells ∧ slots + 20 ≤ R.slots) (hB : BT D ca b da ts H) (hb0 : s.heap.size ≤ b) (hd0 : s.heap.size ≤ da) (hne : b ≠ da) (hn : ts.length ≤ 16) (d0 : decode cc pc = .ok (.invokevirtual 46, 3))
    (kk : ∀ (H1 : Heap) (q : Jvm.Free.SB.SQ) (cS : ClassId), q.sa = H.size → H.size < q.sd → ST q cS ts s H1 → va_S A s.heap H1 locs → H.size ≤ H1.size → (∀ q, q < H.size → H1[q]? = H[q]?) → W p l e R s m args below meth c H1 locs (cells + 2) (slots + 20) Q (F0 m (pc + 3) ls (.ref q.sa :: rest))) :
    W p l e R s m args below meth c H locs cells slots Q (F0 m pc ls (.ref b :: rest)) := by
  obtain ⟨hx, hb, hml, hown, hts⟩ := id S
  obtain ⟨f, hP, hf1, hf2⟩ := hB
  have hcat : (rest.map fun v => v.category).sum ≤ 7 := Nat.le_of_ble_eq_true hc8
  obtain ⟨st, hst, hcmp⟩ := zCompact hN hts
  obtain ⟨x, bC, Ar, hxb, hAr, hAz, hBd⟩ := bdOf hts hK hP hf2 hn hne hcmp (fun c h => (hS.2.1 st (by omega) (hA0 st hst)).trans h) (by omega) (by omega)
  intro T hT X
  have w2 : Cond.instanceMethod Jvm.Free.SB.sbToStringN ∈ xBig := wIn (by decide +kernel)
  have w1 : Cond.code Jvm.Free.SB.sbToStringN Jvm.Free.SB.sbToStringB 1 (some (.object "java/lang/String")) ∈ xBig := wIn (by decide +kernel)
  have hB := hBd T X.warmed.alike hT
  obtain ⟨T', q, cS, X', hqa, hqd, hql, hS5, hex, hba, hbytes, keep, come⟩ := X.sbToStringG hx (own := "PulledSignalsLaw") hown (hts _ lToS) (wDecls (hts _ w1) (hts _ w2)) (hts _ (wIn (by decide +kernel))) (hts _ w2) (hts _ iSBC) (tab_of hts _ tsR_ok) (tab_of hts _ tsF_ok) (strLays_ok hN hts) hB
    (W := 8) (g := F0 m pc ls (.ref b :: rest)) rfl (by rw [hml]; exact hz) (Steps.refl _) (rest := rest) (by rw [hxb]) (by show 2 * 0 + _ ≤ 8; omega) (by rw [hb]; exact d0) rF.1 (by omega) (by omega) (by omega)
  rw [hT] at hqa hqd
  have hk : ∀ a, a < H.size → T'.heap[a]? = H[a]? := fun a ha => by
    have e : H[a]? = some H[a] := Array.getElem?_eq_getElem ha
    rw [e]
    exact keep a _ (by rw [hT]; exact e)
  have h0 : q.sa < T'.heap.size := (Array.getElem?_eq_some_iff.mp hS5.1.1).1
  have hsz : H.size ≤ T'.heap.size := by
    rw [hqa] at h0
    exact Nat.le_of_lt h0
  obtain ⟨kS, k1, k2, k3⟩ := hex
  have hAl := X'.warmed.alike
  have hcl : ∃ kS : Class, s.vm.classes[cS]? = some kS ∧ kS.kind = .ordinary ∧ q.sC.slots.size = kS.instanceTypes.size := by
    obtain ⟨k', h1, h2⟩ := hAl.symm.2.2 _ _ k1
    exact ⟨k', h1, by rw [h2]; exact k2, by rw [h2]; exact k3⟩
  have hST : ST q cS ts s T'.heap := by
    refine ⟨hql, fun i c h => ?_, hcl, fun U hU hH => ?_⟩
    · have hi := (List.getElem?_eq_some_iff.mp h).1
      rw [hbytes i hi, hAr i (by omega), hf1 i c h]
    · exact hS5.carry (hAl.symm.trans hU) (by rw [hH]; exact hS5.1.1) (by rw [hH]; exact hS5.1.2.2.2.2.2.2.2.2.2.1)
  obtain ⟨t, a1, b1⟩ := kk T'.heap q cS hqa hqd hST ⟨Nat.le_trans hS.1 hsz, fun q h1 h2 => (hk q (Nat.lt_of_lt_of_le h1 hS.1)).trans (hS.2.1 q h1 h2), hS.2.2⟩ hsz hk T' rfl (X'.more (Nat.le_refl _) (by omega))
  refine ⟨t, come.trans ?_, b1⟩
  rw [hqa] at a1
  rw [hT]
  exact a1
end BT
