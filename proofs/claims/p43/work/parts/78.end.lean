/-! THE CLAIM OUT OF ONE WALK OF THE LAW'S BODY. Your part is whole_start (and what it stands on); all else here is the same for every law, but numbers. -/
def R_law : String := "PulledSignalsLaw"
def lw_P (b : Addr) (xs : List Int32) (args : Array Value) (s : State) : Prop := args = #[.ref b] ∧ s.IntsAt b xs ∧ xs.length ≤ 260 ∧ (Jvm.Cond.and given_1 narrow_1).before args s = true
def lw_Q (_ : Array Value) (s : State) (o : Outcome) (t : State) : Prop := o = .returned (some (.int 1)) ∧ Framed s o t [] 641172 7178731
def lw_Z (below : List Frame) (a : Array Value) (s : State) : State → Prop := fun t => ∃ o, t.status = .running ∧ Ended t below o ∧ lw_Q a s o t
/-- the law's own end, with 1 on the stack, nothing written that was there before, its room as the claim has it -/
theorem lw_ret {p : Program} {l : Launch} {e : Env} {s : State} {m : MethodId} {below : List Frame} {meth : Method} {c : Code} {b : Nat} (hx : p.tables.exec = Jvm.exec) (hb : c.code = code) (hr : meth.sig.returnType = ret) (hlocks : meth.locks = false) {pc : Nat} {H : Heap} {ls : Array Slot} (hdg : decode code pc = .ok (.ireturn, 1)) : W p l e room_1 s m #[Value.ref b] below meth c H [] 641172 7178731 (lw_Z below #[Value.ref b] s) (F0 m pc ls [.int 1]) := by
  intro T hT X
  obtain ⟨fs, hret, hrun, hended, hW, hframe⟩ := X.leave (v := some (.int 1)) (hlocks := hlocks) (fun h => by rw [hr] at h; cases h)
  have hmeth' : T.vm.method? m = some meth := X.method'
  refine ⟨T.setFrames fs, ?_, .returned (some (.int 1)), hrun, hended, rfl, ⟨_, rfl⟩, hW, hframe⟩
  jvm_step X.here [X.here.top, hx, hb, hdg, hmeth', hr, ret, narrow_b1]
  (try refine ⟨rfl, ?_⟩); (try refine ⟨rfl, ?_⟩)
  first | (intro acts; rw [hret _ acts rfl rfl rfl]) | rw [hret _ _ rfl rfl rfl]
  exact Steps.refl _
/-- what holds at the law's entry: the machine, the code, the tables' words (any of lw_tbl by 'hts w (by decide +kernel)'), the script of L ints xs at the cell b, what the Statement gives of the start (any of its parts by flat_of_before) -/
def lw_At (p : Program) (s : State) (m : MethodId) (meth : Method) (c : Code) (b L : Nat) (xs : Nat → Int32) : Prop :=
  p.tables.exec = Jvm.exec ∧ c.code = code ∧ meth.sig.returnType = ret ∧ c.maxLocals = 9 ∧ s.vm.findClass R_law = some m.cls ∧ (∀ w ∈ lw_tbl, w.before #[Value.ref b] s = true) ∧ va_X b L xs s s.heap ∧ b < s.heap.size ∧ meth.locks = false ∧ (Jvm.Cond.and given_1 narrow_1).before #[Value.ref b] s = true
/-- the classes of the launch, as they stand at the law's start -/
theorem xDca {s : State} {args : Array Value} (hts : ∀ w ∈ lw_tbl, w.before args s = true) : ∃ (D : va_G) (ca : Nat → ClassId), va_K D vwCl (xTys ca) s := by
  have hbig : ∀ w ∈ xBig, w.before args s = true := fun w hw => hts w (List.mem_filter.mp hw).1
  have hc : ∀ k : Nat, ∃ (cC : ClassId) (iS : Nat → Nat), ∀ q : vw_C, vwCl[k]? = some q → u_Kn s q.1 q.2.1 q.2.2 cC iS := by
    intro k
    cases hk : vwCl[k]? with
    | none => exact ⟨0, fun _ => 0, fun q h => by cases h⟩
    | some q =>
      obtain ⟨h1, h2, -⟩ := xLy_at hk
      obtain ⟨cC, iS, h⟩ := u_known (ws := xBig) hbig h1 (hbig _ h2)
      exact ⟨cC, iS, fun q' h' => by cases h'; exact h⟩
  have hp : ∀ ty : FieldType, (Cond.arrayClass ty).before args s = true → (∀ C, ty ≠ .object C) → ∃ c : ClassId, ArrOfT s c ty ∧ va_RA s c ty := by
    intro ty h hn
    obtain ⟨c, k, comp, h1, h2, h3⟩ := Cond.arrayClass_spec h
    refine ⟨c, fun n z => ⟨fun k h => (by cases h), k, h2, comp, h3⟩, ?_⟩
    unfold va_RA
    split
    · exact absurd rfl (hn _)
    · exact h1
  have ho : ∀ C : String, (Cond.arrayOver (.object C)).before args s = true → ∃ c : ClassId, ArrOfT s c (.object C) ∧ va_RA s c (.object C) := by
    intro C h
    obtain ⟨comp, c, k, h1, h2, h3, h4, h5⟩ := Cond.arrayOver_spec h
    exact ⟨c, fun n z => ⟨fun k h => (by cases h), k, h3, comp, h4⟩, k, comp, h3, h4, h1, h5⟩
  obtain ⟨a1, a2, a3, a4, a5⟩ := xAA_in
  obtain ⟨c0, r0⟩ := hp .int (hbig _ a1) (fun C h => by cases h)
  obtain ⟨c1, r1⟩ := hp .long (hbig _ a2) (fun C h => by cases h)
  obtain ⟨c2, r2⟩ := hp .byte (hbig _ a3) (fun C h => by cases h)
  obtain ⟨c3, r3⟩ := ho "PulledSignals$Cell" (hts _ (List.mem_append_right _ a4))
  obtain ⟨c4, r4⟩ := ho "PulledSignals$Shelf" (hts _ (List.mem_append_right _ a5))
  refine ⟨(fun k => Classical.choose (hc k), fun k => Classical.choose (Classical.choose_spec (hc k))), fun t => match t with
    | 0 => c0
    | 1 => c1
    | 2 => c2
    | 3 => c3
    | _ => c4, fun k q hq => Classical.choose_spec (Classical.choose_spec (hc k)) q hq, fun k q hq => ?_⟩
  match k, hq with
  | 0, hq => cases hq; exact r0
  | 1, hq => cases hq; exact r1
  | 2, hq => cases hq; exact r2
  | 3, hq => cases hq; exact r3
  | 4, hq => cases hq; exact r4
  | n + 5, hq => simp [xTys] at hq
theorem xNX_of {s : State} {args : Array Value} (hts : ∀ w ∈ lw_tbl, w.before args s = true) (hgv : (Jvm.Cond.and given_1 narrow_1).before args s = true) : xNX s.heap.size s := by
  refine ⟨fun w hw hn => ?_, s, args, hgv, hts, rfl, State.WarmedH.refl s, fun _ _ => rfl⟩
  have h := hts w (List.mem_append_right _ hw)
  cases w <;> first | exact h | cases hn
theorem BT.keep {D : va_G} {ca : Nat → ClassId} {b da : Nat} {ts : List Int32} {H H1 : Heap} (h : BT D ca b da ts H) (hk : ∀ q, q < H.size → H1[q]? = H[q]?) : BT D ca b da ts H1 := by
  obtain ⟨f, hP, r⟩ := h
  exact ⟨f, fun k q hq => va_at.kept (hP k q hq) (hk q.1 (hP k q hq).lt), r⟩
set_option maxHeartbeats 4000000 in
theorem whole_start {p : Program} {e : Env} {s : State} {m : MethodId} {below : List Frame} {meth : Method} {c : Code} (l : Launch) (hflags : l.flags = flags0) {b L : Nat} {xs : Nat → Int32} (hL : L ≤ 260) (C0 : lw_At p s m meth c b L xs) : W p l e room_1 s m #[Value.ref b] below meth c s.heap [] 0 0 (lw_Z below #[Value.ref b] s) (entryFrame m ([Value.ref b] : List Value).toArray 9) := by
  obtain ⟨hx, hb, hr, hml, hown, hts, hX, hbl, hlocks, hgv⟩ := id C0
  obtain ⟨D, ca, hK⟩ := xDca hts
  have hbig : ∀ w ∈ xBig, w.before #[Value.ref b] s = true := fun w hw => hts w (List.mem_filter.mp hw).1
  have hN := xNX_of hts hgv
  have S : CallFix p m c code 9 s #[Value.ref b] xBig "PulledSignalsLaw" := ⟨hx, hb, hml, hown, hbig⟩
  have le : ∀ {a b : Nat}, Nat.ble a b = true → a ≤ b := fun h => Nat.le_of_ble_eq_true h
  have hN3 : L < 2147483648 := by omega
  obtain ⟨ns, hns, es⟩ := xSources_n (N := L) (xs := xs)
  obtain ⟨nm, hnm, em⟩ := xMemos_n (N := L) (xs := xs)
  have hle := lv_entry ([.ref b]) (n := 9) (Nat.le_of_ble_eq_true rfl)
  rw [lg_entry_eq]
  generalize (lg_sl ([.ref b]) ++ List.replicate (9 - (lg_sl ([.ref b])).length) Slot.unset).toArray = ls at hle ⊢
  have hl : lv_has ls 9 [(0, .ref b)] := hle
  obtain ⟨o, ho⟩ : ∃ o, s.heap.size = o := ⟨_, rfl⟩
  rw [ho] at hN
  have hbo : b < o := by omega
  have hbA : ¬ o ≤ b := by omega
  have hA0 : ∀ a, a < o → ¬ o ≤ a := fun a h1 h2 => by omega
  have hA2 : ∀ q, s.heap.size ≤ q → o ≤ q := fun q h => by omega
  have hos : o ≤ s.heap.size := by omega
  have hS : va_S (fun a => o ≤ a) s.heap s.heap [] := va_S.rf
  refine lv_aload_n hx hb dlw_0 rfl (lv_at hl 0 rfl) ?_
  refine lv_iconst (v := -1) hx hb dlw_1 (by decide) ?_
  have PP : ∀ U : State, U.heap = s.heap → s.WarmedH U.vm → bPP b L xs D ca o U := fun U hU hWm =>
    ⟨by rw [hU]; exact hX.moved hWm.alike, va_K.moved hWm.alike hK, hN.go hWm (fun q hq => by rw [hU]), by rw [hU]; exact ho⟩
  refine gCall (as := [.ref b, .int (-1)]) (rest := []) S (g_build D ca hN3 hbo es hns em hnm) nBu_c lk138 nBu_s iLAW ⟨by decide, by decide, (show (parseMethodDescriptor nBu.desc).map (fun d => d.parameters.length) = some 2 from by decide +kernel)⟩ bPP.blind PP hS (fun q hq => hq) (fun r st t _ hq => hq.2.2) dlw_2 (le rfl) ⟨le rfl, le rfl⟩ ⟨le rfl, le rfl⟩ hl.1 (fun st t T1 locs1 r hst e1 e2 hal hQ hS hz1 hk1 => ?_)
  obtain ⟨rfl, hW, -⟩ := hQ
  rw [← e1] at hW
  generalize T1.heap = H1 at hW hS hz1 hk1 ⊢
  refine lv_astore_n hx hb dlw_5 rfl hl (by decide) rfl (fun ls hl => ?_)
  refine lv_aload_n hx hb dlw_6 rfl (lv_at hl 1 rfl) ?_
  refine hcall (as := [.ref 0]) (rest := []) S (h_many hN3) ok_rL_many rfl lb104 hX hbl hbA hS rfl dlw_7 (le rfl) ⟨le rfl, le rfl⟩ ⟨le rfl, le rfl⟩ hl.1 (fun H2 locs2 hS _ hk2 => ?_)
  rw [xMany_n es em]
  replace hW := hW.keep hk2
  refine lv_istore_n hx hb dlw_10 rfl hl (by decide) rfl (fun ls hl => ?_)
  have hl : lv_has ls 9 [(2, .int (nI (ns + nm))), (1, .ref o), (0, .ref b)] := hl
  have hz : ls.size = 9 := hl.1
  refine lv_aload_n hx hb dlw_11 rfl (lv_at hl 1 rfl) ?_
  have h0 := hS.1
  refine wNew (o := o) (ca := ca) (D := D) (A := fun a => o ≤ a) (rest := [.ref o]) S hN hK hos hA0 hA2 hS hz rfl ⟨by decide, by decide⟩ ⟨le rfl, le rfl⟩ dlw_12 dlw_15 dlw_16 (fun H3 locs3 hB hS hz3 hk3 => ?_)
  have hb0 : s.heap.size ≤ H2.size := h0
  have hd0 : s.heap.size ≤ H2.size + 1 := by omega
  have hne : H2.size ≠ H2.size + 1 := by omega
  refine lv_iload_n hx hb dlw_19 rfl (lv_at hl 0 rfl) ?_
  refine lv_iconst (v := 1) hx hb dlw_20 (by decide) ?_
  refine lv_isub hx hb dlw_21 ?_
  have e3 : nI (ns + nm) - 1 = nI (ns + nm - 1) := pk_sub (b := 1) (by omega)
  rw [e3]
  refine hcall (as := [.int (nI (ns + nm - 1))]) (rest := [.ref H2.size, .ref o]) S (h_letter rfl (by omega)) ok_rL_letter rfl lkLe hX hbl hbA hS rfl dlw_22 (le rfl) ⟨le rfl, le rfl⟩ ⟨le rfl, le rfl⟩ hl.1 (fun H4 locs4 hS hz4 hk4 => ?_)
  replace hB := hB.keep hk4
  refine wApC (o := o) (ca := ca) (D := D) (ch := 97 + (ns + nm - 1)) (rest := [.ref o]) S hN hK hos hA0 hA2 hS hz rfl ⟨by decide, by decide⟩ ⟨le rfl, le rfl⟩ hB hb0 hd0 hne (le rfl) (by omega) dlw_25 (fun H5 locs5 hB hS hz5 hk5 => ?_)
  refine wApS (o := o) (ca := ca) (D := D) (rest := [.ref o]) S hN hK hos hA0 hA2 hS hz rfl ⟨by decide, by decide⟩ ⟨le rfl, le rfl⟩ hB hb0 hd0 hne zo41 (le rfl) dlw_28 dlw_30 (fun H6 locs6 hB hS hz6 hk6 => ?_)
  refine lv_iconst (v := 0) hx hb dlw_33 (by decide) ?_
  refine hcall (as := [.int 0]) (rest := [.ref H2.size, .ref o]) S (h_letter (j := 0) (by decide) (by omega)) ok_rL_letter rfl lkLe hX hbl hbA hS rfl dlw_34 (le rfl) ⟨le rfl, le rfl⟩ ⟨le rfl, le rfl⟩ hl.1 (fun H7 locs7 hS hz7 hk7 => ?_)
  replace hB := hB.keep hk7
  refine wApC (o := o) (ca := ca) (D := D) (ch := 97 + 0) (rest := [.ref o]) S hN hK hos hA0 hA2 hS hz rfl ⟨by decide, by decide⟩ ⟨le rfl, le rfl⟩ hB hb0 hd0 hne (le rfl) (by omega) dlw_37 (fun H8 locs8 hB hS hz8 hk8 => ?_)
  refine wToS (o := o) (ca := ca) (D := D) (rest := [.ref o]) S hN hK hos hA0 hA2 hS hz rfl ⟨by decide, by decide⟩ ⟨le rfl, le rfl⟩ hB hb0 hd0 hne (le rfl) dlw_40 (fun H9 q cS hq1 hq2 hST hS hz9 hk9 => ?_)
  have hST : ST q cS (frm 0 (ns + nm - 1) 0 0 0) s H9 := hST
  have hqa : H8.size ≤ q.sa := Nat.le_of_eq hq1.symm
  have hkk : ∀ q, q < H2.size → H9[q]? = H2[q]? := fun q hq => by
    rw [hk9 q (by omega), hk8 q (by omega) (by omega) (by omega), hk7 q (by omega), hk6 q (by omega) (by omega) (by omega), hk5 q (by omega) (by omega) (by omega), hk4 q (by omega), hk3 q hq]
  obtain ⟨om, h, T, w, n, w1, w2, w3, w4, w5, w6⟩ := hW
  have hnl := w5.len
  have wlt : ∀ jj, jj < n → om jj < H2.size := fun jj hjj => by
    obtain ⟨e, he⟩ : ∃ e, h[jj]? = some e := ⟨h[jj], List.getElem?_eq_getElem (by omega)⟩
    exact (w6 _ _ (xWs_get he)).lt
  have w7 : va_P D vwCl (xWs b om R0 ca h) H9 := fun k q hq => va_at.kept (w6 k q hq) (hkk q.1 (w6 k q hq).lt)
  have hsz9 := hS.1
  subst w1
  have PP2 : ∀ U : State, U.heap = H9 → s.WarmedH U.vm → ePP D ca b om h q cS (frm 0 (ns + nm - 1) 0 0 0) H9.size U := fun U hU hWm =>
    ⟨by rw [hU]; exact w7, va_K.moved hWm.alike hK, hN.go hWm (fun q hq => by rw [hU]; exact hS.2.1 q (by omega) (hA0 q hq)), by rw [hU], by rw [hU]; exact hST.to hWm.alike⟩
  have fin := frm_in (f := 0) (x := ns + nm - 1) (y := 0) (z := 0) (n := 0) (by omega) (by omega) (by omega) (by omega) (by omega)
  refine gCall (as := [.ref (om 0), .ref q.sa]) (rest := []) S (g_feeds (N0 := H9.size) D ca cS hbo w2 (by omega) w5 (fun i x hi => fin x (List.mem_of_getElem? hi)) (le rfl) (by omega) (fun j hj => by
    have := wlt j hj
    omega) (fun j hj => by
    have := wlt j hj
    omega)) nFe_c lb111 nFe_s iLAW ⟨by decide, by decide, (show (parseMethodDescriptor nFe.desc).map (fun d => d.parameters.length) = some 2 from by decide +kernel)⟩ ePP.blind PP2 hS (fun q hq => by
    rcases hq with ⟨j, _, hq⟩ | hq
    · have := w2.ge j
      show om 0 ≤ q
      omega
    · show om 0 ≤ q
      omega) (fun r st t _ hq => ⟨hq.2.2.1, fun q h1 h2 => hq.2.2.2 q h1 (fun z => h2 (Or.inl z))⟩) dlw_43 (le rfl) ⟨le rfl, le rfl⟩ ⟨le rfl, le rfl⟩ hl.1 (fun st3 t3 T3 locs3 r3 hst3 e31 e32 hal3 hQ3 hS3 hz3 hk3 => ?_)
  obtain ⟨⟨z3, rfl⟩, ⟨h3, B3, hP3⟩, -⟩ := hQ3
  rw [← e31] at hP3
  refine lv_pop hx hb dlw_46 rfl ?_
  refine lv_aload_n hx hb dlw_47 rfl (lv_at hl 1 rfl) ?_
  refine lv_iconst (v := -1) hx hb dlw_48 (by decide) ?_
  have wo : LWo D ca b om (fun a => om 0 ≤ a) s h3 T3.heap := ⟨hP3, w2, hbo, hos, (fun z => by have := B3.at0.1; have := B3.len; omega), hK, hN, hA0⟩
  have hnl3 := B3.len
  obtain ⟨hn0, fs, hfs⟩ := B3.at0
  obtain ⟨ks, hTT3, -⟩ := id B3
  have hok : FmOk T.n ([] ++ frm 0 (ns + nm - 1) 0 0 0) := by
    rw [w3, List.nil_append]
    exact fm_all (f := 0) (x := ns + nm - 1) (y := 0) (z := 0) (n := 0) (by omega) (by omega) (by omega) (by omega) (by omega) (by omega)
  refine wCallV (as0 := [.int (-1)]) (rest := []) (q := 0) (cA := 12) S wo hTT3 hS3 (xA_o w2 (by omega) wo.up) (show xMs[90]? = some rX8_effect from rfl) rfl lk142 (c_effect B3 (by omega) (by omega) hok) (fun h' r hq => by
    obtain ⟨_, _, _, _, _, _, hq⟩ := hq
    have := hq.len
    omega) rfl hfs rfl dlw_49 (le rfl) ⟨le rfl, le rfl⟩ ⟨le rfl, le rfl⟩ hl.1 (fun H4 locs4 h4 r4 hQ4 hl4 hP4 hS4 hz4 hk4 => ?_)
  obtain ⟨⟨z4, rfl⟩, T4, w4', t1, t2, hEf, B4⟩ := hQ4
  have hWL : WL D ca b (om 0) T4 w4' 0 (n + 12) H4 := ⟨_, h4, wo.o0, wo.up, B4, hP4⟩
  refine lv_pop hx hb dlw_52 rfl ?_
  refine lv_iconst (v := 0) hx hb dlw_53 (by decide) ?_
  refine lv_istore_n hx hb dlw_54 rfl hl (by decide) rfl (fun ls hl => ?_)
  have hl : lv_has ls 9 [(3, .int (nI 0)), (2, .int (nI (ns + nm))), (1, .ref (om 0)), (0, .ref b)] := hl
  have E : LE p m c s #[Value.ref b] D ca b L xs (om 0) ns nm T4 := ⟨S, hN3, hX, hK, hN, ho, hbo, es, hns, em, hnm, hEf, by omega, by omega⟩
  refine w_acts E ⟨le rfl, le rfl, le rfl, le rfl⟩ (fun ls H locs hS => ?_) 12 0 (by omega) ls H4 locs4 w4' 0 (lv_sub hl [3, 2, 1, 0] rfl) (by omega) hWL hS4
  refine lv_iconst (v := 1) hx hb dlw_341 (by decide) ?_
  exact W.widen (k := 641172) (n := 7178731) (le rfl) (le rfl) (va_forget (fun q hq => by rw [ho]; exact hS.2.2 q hq) (lw_ret hx hb hr hlocks dlw_342))
set_option maxHeartbeats 4000000 in
theorem lw_walk (l : Launch) (hflags : l.flags = flags0) (b : Addr) (xs : List Int32) : MetFree l x (headSpec (Jvm.Cond.code x code maxLocals ret :: tables_1) room_1) (lw_P b xs) (fun _ _ _ _ _ => True) lw_Q := by
  refine MetFree.of_bodyS (code := code) (maxLocals := maxLocals) (ret := ret) (by decide) ?_ ?_
  · intro args s m h hn
    obtain ⟨meth, c, h1, h2, h3, h4, h5, h6, -, -⟩ := Cond.code_spec hn (atoms_spec (ws := Jvm.Cond.code x code maxLocals ret :: tables_1) h _ List.mem_cons_self)
    exact ⟨meth, c, h1, h2, h3, h4, h5, h6⟩
  · intro p e s m args below meth c s₁ B hml0 hP _
    obtain ⟨rfl, hx, hbd, hgv⟩ := hP
    obtain ⟨scr, harrAt, hlist, hof, hsmall⟩ := hx
    obtain ⟨hcb, hkn, -, -⟩ := State.arrayAt?_spec harrAt
    have hown : s.vm.findClass R_law = some m.cls := findClass_of_methodNamed B.named
    have hts0 : ∀ c ∈ (Jvm.Cond.code x code maxLocals ret :: tables_1), c.before #[Value.ref b] s = true := atoms_spec (ws := Jvm.Cond.code x code maxLocals ret :: tables_1) B.pre
    have hts : ∀ w ∈ lw_tbl, w.before #[Value.ref b] s = true := k2_hts_sels lw_privs (fun w hw => hts0 w (List.mem_cons_of_mem _ hw)) lw_privs_ok
    have hml : c.maxLocals = 9 := B.maxLocals_eq (hts0 _ List.mem_cons_self)
    have X₀ : Stand p l e room_1 s m #[Value.ref b] below meth c s₁ [] 0 0 := Stand.of_body B
    have hh0 : s₁.heap = s.heap := by rw [B.state]; rfl
    have hsz : scr.slots.size = xs.length := by rw [← Array.length_toList, hlist, List.length_map]
    have hval : ∀ j : Nat, j < xs.length → scr.slots[j]? = some (.int (xs.getD j 0)) := fun j hj => by
      rw [← Array.getElem?_toList, hlist]
      simp [hj]
    have hbl : b < s.heap.size := (Array.getElem?_eq_some_iff.mp hcb).1
    have hX : va_X b xs.length (fun j => xs.getD j 0) s s.heap := ⟨scr, hcb, hof, hkn, hsz, hval⟩
    have K : W p l e room_1 s m #[Value.ref b] below meth c s₁.heap [] 0 0 (lw_Z below #[Value.ref b] s) (entryFrame m ([Value.ref b] : List Value).toArray 9) := by
      rw [hh0]
      exact whole_start l hflags hbd ⟨B.exec, B.bytes, B.returns, hml, hown, hts, hX, hbl, B.notSynchronized, hgv⟩
    obtain ⟨t, a1, o, b1, b2, b3⟩ := K s₁ rfl X₀
    exact ⟨t, o, a1, b1, b2, b3⟩
theorem lw_pre_spec {args : Array Value} {s : State} (h : (Jvm.Cond.and given_1 narrow_1).before args s = true) (hr : rest_1_c.before args s = true) : ∃ (b : Addr) (xs : List Int32), lw_P b xs args s := by
  have hs := flat_of_before _ h
  have hq := flat_of_before _ hr
  have hc : (Cond.count 1).before args s = true := hs _ (by decide +kernel)
  have harr : (Cond.arrayOf (.arg 0) .int).before args s = true := hs _ (by decide +kernel)
  have hle : (Cond.le (.length (.arg 0)) (.int 260)).before args s = true := hs _ (by decide +kernel)
  have hlen : (Cond.isInt (.length (.arg 0))).before args s = true := hq _ (by decide +kernel)
  have hall : (Cond.all (.arg 0) (.isInt (.elem (.arg 0) (.index 0)))).before args s = true := hq _ (by decide +kernel)
  obtain ⟨b, xs, hb, hx⟩ := State.ints_of_pre rfl harr hlen hall
  have hsm : xs.length < 2 ^ 31 := hx.choose_spec.2.2.2
  have hev : (Term.length (.arg 0)).eval args s none [] s = some (.int xs.length.toInt32) := hx.length_eval hb
  have hv := Cond.le_ints hev (show (Term.int 260).eval args s none [] s = some (.int 260) from rfl)
  have hd : xs.length.toInt32 ≤ 260 := by
    simpa [Cond.before, Cond.holds, hv] using hle
  have hN : xs.length ≤ 260 := (Int32.ofNat_le_ofNat hsm (by decide)).mp (show Int32.ofNat xs.length ≤ Int32.ofNat 260 from hd)
  exact ⟨b, xs, Cond.one_arg hc (show args[0]? = some (.ref b) from hb), hx, hN, h⟩
theorem lw_comes (l : Launch) (hflags : l.flags = flags0) : Comes l x (Jvm.Cond.code x code maxLocals ret :: tables_1) room_1 (fun tb e args s => Calls_1 tb e args s ∧ rest_1 tb e args s ∧ Pre_1 tb e args s)
    (fun _ _ args s o t => lw_Q args s o t) := by
  intro p e ha hc hk s m args below hf hfit hheap happ hpre
  obtain ⟨b, xs, hP⟩ := lw_pre_spec hpre.2.2 hpre.2.1
  obtain ⟨k, o, h1, h2, h3, hQ⟩ := lw_walk l hflags b xs p e ha hc hk s m args below hf ((Spec.applies_iff_loose hf).mp happ).1 hP trivial
  exact ⟨k, o, h1, h2, h3, hQ⟩
theorem lw_frame {s t : State} {o : Outcome} {args : Array Value} (h : Framed s o t [] 641172 7178731) :
    Framed s o t (fieldLocs frame_1_writes args s ++ arrayLocs frame_1_arrays args s ++ staticLocs frame_1_statics s) 641172 7178731 := h
theorem lw_limb (L : Cond) (hL : ∀ (args : Array Value) (s t : State), L.after args s (.returned (some (.int 1))) t = true) :
    ArmFor flags0 classFile x code maxLocals ret World_1 tables_1 room_1 Calls_1 rest_1 Pre_1
      (fun tb e a s o t => postC L tb e a s o t ∧ Framed s o t (fieldLocs frame_1_writes a s ++ arrayLocs frame_1_arrays a s ++ staticLocs frame_1_statics s) 641172 7178731) := by
  intro l hflags _ _ p e ha hc hk s m args below hf hfit hheap happ hpre
  obtain ⟨k, o, h1, h2, h3, rfl, hF⟩ := lw_comes l hflags p e ha hc hk s m args below hf hfit hheap happ hpre
  exact ⟨k, _, h1, h2, h3, hL args s _, lw_frame hF⟩
theorem i_vc : Claimed_1_1 ∧ Claimed_1_2 := ⟨lw_limb limb_1_1 (fun args s t => by simp [limb_1_1, Cond.after, Cond.holds, Cond.value]), lw_limb limb_1_2 (fun args s t => Cond.after_iff.mpr (by
  first | (rw [show limb_1_2 = Cond.eq .result (.int 1) from rfl, Cond.eq_ints (x := 1) (y := 1) rfl rfl]; simp; done) | (simp [limb_1_2, Cond.value, Term.eval]; done)))⟩
