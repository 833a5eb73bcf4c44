/-! build -/
section BD
theorem fm_all {f x y z n k : Nat} (hf : f < 6) (hx : x < k) (hy : y < k) (hz : z < k) (hn : n < 10) (hk : k ≤ 23) : FmOk k (frm f x y z n) := by
  rcases (show f = 0 ∨ f = 1 ∨ f = 2 ∨ f = 3 ∨ f = 4 ∨ f = 5 by omega) with rfl | rfl | rfl | rfl | rfl | rfl
  · exact f0_ok hx hy hk
  · exact f1_ok hx hy hn hk
  · exact f2_ok hx hy hz hn hk
  · exact f3_ok hx hy hk
  · exact f4_ok hx hy hk
  · exact f5_ok hx hy hn hk
theorem frm_in {f x y z n : Nat} (hf : f < 6) (hx : x < 23) (hy : y < 23) (hz : z < 23) (hn : n < 10) : ∀ c, c ∈ frm f x y z n → ∃ v, v < 128 ∧ c = nI v := by
  have kx : ∃ v, v < 128 ∧ nI (97 + x) = nI v := ⟨97 + x, by omega, rfl⟩
  have ky : ∃ v, v < 128 ∧ nI (97 + y) = nI v := ⟨97 + y, by omega, rfl⟩
  have kz : ∃ v, v < 128 ∧ nI (97 + z) = nI v := ⟨97 + z, by omega, rfl⟩
  have kn : ∃ v, v < 128 ∧ nI (48 + n) = nI v := ⟨48 + n, by omega, rfl⟩
  have kk : ∀ v, v < 128 → ∃ v', v' < 128 ∧ nI v = nI v' := fun v hv => ⟨v, hv, rfl⟩
  intro c hc
  rcases (show f = 0 ∨ f = 1 ∨ f = 2 ∨ f = 3 ∨ f = 4 ∨ f = 5 by omega) with rfl | rfl | rfl | rfl | rfl | rfl
  · simp only [frm, List.mem_cons, List.not_mem_nil, or_false] at hc
    rcases hc with rfl | rfl | rfl
    · exact kx
    · exact kk 43 (by decide)
    · exact ky
  · simp only [frm, List.mem_cons, List.not_mem_nil, or_false] at hc
    rcases hc with rfl | rfl | rfl | rfl | rfl
    · exact kx
    · exact kk 42 (by decide)
    · exact ky
    · exact kk 45 (by decide)
    · exact kn
  · simp only [frm, List.mem_cons, List.not_mem_nil, or_false] at hc
    rcases hc with rfl | rfl | rfl | rfl | rfl | rfl | rfl | rfl | rfl
    · exact kk 91 (by decide)
    · exact kx
    · exact kk 60 (by decide)
    · exact kn
    · exact kk 63 (by decide)
    · exact ky
    · exact kk 58 (by decide)
    · exact kz
    · exact kk 93 (by decide)
  · simp only [frm, List.mem_cons, List.not_mem_nil, or_false] at hc
    rcases hc with rfl | rfl | rfl
    · exact kx
    · exact kk 47 (by decide)
    · exact ky
  · simp only [frm, List.mem_cons, List.not_mem_nil, or_false] at hc
    rcases hc with rfl | rfl | rfl | rfl | rfl | rfl | rfl
    · exact kk 40 (by decide)
    · exact kx
    · exact kk 45 (by decide)
    · exact ky
    · exact kk 41 (by decide)
    · exact kk 42 (by decide)
    · exact kk 50 (by decide)
  · simp only [frm, List.mem_cons, List.not_mem_nil, or_false] at hc
    rcases hc with rfl | rfl | rfl | rfl | rfl | rfl | rfl | rfl | rfl
    · exact kk 94 (by decide)
    · exact kk 40 (by decide)
    · exact kk 45 (by decide)
    · exact kx
    · exact kk 44 (by decide)
    · exact ky
    · exact kk 37 (by decide)
    · exact kn
    · exact kk 41 (by decide)
theorem frm_len {f x y z n : Nat} (hf : f < 6) : (frm f x y z n).length ≤ 9 := by
  rcases (show f = 0 ∨ f = 1 ∨ f = 2 ∨ f = 3 ∨ f = 4 ∨ f = 5 by omega) with rfl | rfl | rfl | rfl | rfl | rfl <;> exact Nat.le_of_ble_eq_true rfl
abbrev nBu : MethodName := ⟨"PulledSignalsLaw", "build", "([II)LPulledSignals;"⟩
theorem nBu_c : Cond.code nBu method_13_code 4 (some (.object "PulledSignals")) ∈ xBig := wIn (by decide +kernel)
theorem nBu_s : Cond.static nBu ∈ xBig := wIn (by decide +kernel)
theorem lb91 : Cond.classLink "PulledSignalsLaw" 91 "PulledSignals" ∈ xBig := wIn (by decide +kernel)
theorem lb96 : Cond.methodLink "PulledSignalsLaw" 96 (xMy rX8_init) ∈ xBig := wIn (by decide +kernel)
theorem lb13 : Cond.methodLink "PulledSignalsLaw" 13 (xMy rL_sources) ∈ xBig := wIn (by decide +kernel)
theorem lb97 : Cond.methodLink "PulledSignalsLaw" 97 (xMy rL_value) ∈ xBig := wIn (by decide +kernel)
theorem lb100 : Cond.methodLink "PulledSignalsLaw" 100 (xMy rX8_source) ∈ xBig := wIn (by decide +kernel)
theorem lb104 : Cond.methodLink "PulledSignalsLaw" 104 (xMy rL_many) ∈ xBig := wIn (by decide +kernel)
theorem lb107 : Cond.methodLink "PulledSignalsLaw" 107 nFo ∈ xBig := wIn (by decide +kernel)
theorem lb111 : Cond.methodLink "PulledSignalsLaw" 111 nFe ∈ xBig := wIn (by decide +kernel)
theorem lb115 : Cond.methodLink "PulledSignalsLaw" 115 (xMy rX8_memo) ∈ xBig := wIn (by decide +kernel)
def bPP (b N : Nat) (xs : Nat → Int32) (D : va_G) (ca : Nat → ClassId) (o : Nat) (U : State) : Prop := va_X b N xs U U.heap ∧ va_K D vwCl (xTys ca) U ∧ xNX o U ∧ U.heap.size = o
/-- the class's world while the law builds: i cells, the first at o -/
def WB (D : va_G) (ca : Nat → ClassId) (b o ns i : Nat) (tp : List Int32) (H : Heap) : Prop := ∃ (om : Nat → Nat) (h : List xE) (T : Tp) (w : Ws) (n : Nat), om 0 = o ∧ xUp om ∧ T.n = i ∧ T.ns = ns ∧ LB T w tp n h ∧ va_P D vwCl (xWs b om R0 ca h) H
def bQQ (D : va_G) (ca : Nat → ClassId) (b o ns i : Nat) (r : Option Value) (st t : State) : Prop := r = some (.ref o) ∧ WB D ca b o ns i [] t.heap ∧ va_F (fun a => o ≤ a) st t
theorem bPP.blind {b N o : Nat} {xs : Nat → Int32} {D : va_G} {ca : Nat → ClassId} (a : Array Value) (U : State) (g : JFrame) (mk : MethodId) (h : bPP b N xs D ca o U) : bPP b N xs D ca o (U.calling g mk a) := by
  obtain ⟨h1, h2, h3, h4⟩ := h
  exact ⟨va_X.moved (u := U) (U := U) (Vm.Alike.refl U.vm) h1, va_K.moved (u := U) (U := U.calling g mk a) (Vm.Alike.refl U.vm) h2, ⟨xNW.same (s := U) (U := U.calling g mk a) rfl h3.1, h3.2⟩, h4⟩
variable {p : Program} {l : Launch} {e : Env} {R : Room} {s : State} {m : MethodId} {args : Array Value} {below : List Frame} {meth : Method} {c : Code} {Q : State → Prop} {D : va_G} {ca : Nat → ClassId} {o N0 N b k n ns nm i : Nat} {xs : Nat → Int32} {A F : Nat → Prop} {H H1 : Heap} {locs : List Loc} {cells slots idx pc nL : Nat} {cc : ByteArray} {ls : Array Slot} {rest : List Value} {ts tp : List Int32}
theorem WB.keep (hW : WB D ca b o ns i tp H) (hk : ∀ q, q < H.size → H1[q]? = H[q]?) : WB D ca b o ns i tp H1 := by
  obtain ⟨om, h, T, w, n, h1, h2, h3, h4, h5, h6⟩ := hW
  exact ⟨om, h, T, w, n, h1, h2, h3, h4, h5, fun k q hq => va_at.kept (h6 k q hq) (hk q.1 (h6 k q hq).lt)⟩
theorem xA_o {om : Nat → Nat} {h : List xE} (hup : xUp om) (h0 : 0 < h.length) (hu : xUp (rmp om h.length H.size)) : ∀ a, xA (rmp om h.length H.size) a → om 0 ≤ a := fun a z => by
  obtain ⟨j, hj⟩ := z
  have := hu.ge j
  rw [rmp_lo h0] at this
  omega
theorem g_build (D : va_G) (ca : Nat → ClassId) (hN3 : N < 2147483648) (hbo : b < o) (es : xSources N xs = nI ns) (hs : ns = 2 ∨ ns = 3) (em : xMemos N xs = nI nm) (hm : 2 ≤ nm ∧ nm ≤ 5) : gMet nBu method_13_code 4 (some (.object "PulledSignals")) 15 149 25000 [.ref b, .int (-1)] (bPP b N xs D ca o) (bQQ D ca b o ns (ns + nm)) (fun a => o ≤ a) := by
  refine gMet_of rfl (Nat.le_of_ble_eq_true rfl) (fun p l e s m args below meth c S hP hret hlk ls hl => ?_)
  obtain ⟨hx, hb, hml, hown, hts⟩ := id S
  obtain ⟨hX, hK, hN, hso⟩ := hP
  have le : ∀ {a b : Nat}, Nat.ble a b = true → a ≤ b := fun h => Nat.le_of_ble_eq_true h
  have hos : o ≤ s.heap.size := by omega
  have hbl : b < s.heap.size := by omega
  have hbA : ¬ o ≤ b := by omega
  have hA0 : ∀ a, a < o → ¬ o ≤ a := fun a h1 h2 => by omega
  have hl : lv_has ls 4 [(0, .ref b), (1, .int (-1))] := hl
  have hKn := hK.1 8 (RX8, TX8, 9) rfl
  have hLy := xLy_at (ci := 8) (q := (RX8, TX8, 9)) rfl
  refine W.newcK hx hb hown (hts _ lb91) (hts _ hLy.2.1) (hts _ hLy.2.2) rfl dbu_0 (le rfl) (le rfl) hKn.2.1 hso (fun H1 kC hkC e1 z1 o1 => ?_)
  have hP : va_P D vwCl (xWs b (fun q => o + q) R0 ca z0) H1 := fun k q hq => by
    match k, hq with
    | 0, hq =>
      cases hq
      exact ⟨_, show vwCl[8]? = some (RX8, TX8, 9) from rfl, (u_born tyX8 hts hLy.1 hKn hkC e1 tyX8_ok).to (fun j hj => by
        match j, hj with
        | 0, _ => rfl
        | 1, _ => rfl
        | 2, _ => rfl
        | 3, _ => rfl
        | 4, _ => rfl
        | 5, _ => rfl
        | 6, _ => rfl
        | 7, _ => rfl
        | 8, _ => rfl
        | j + 9, hj => exact absurd (show j + 9 < 9 from hj) (by omega))⟩
    | k + 1, hq => cases hq
  have hS1 : va_S (fun a => o ≤ a) s.heap H1 [] := ⟨by omega, fun q h1 _ => o1 q (by omega), fun _ h => by cases h⟩
  show W p l e _ s m args below meth c H1 [] 1 9 _ (F0 m 3 ls [.ref o])
  refine lv_dup hx hb dbu_3 rfl ?_
  have hup0 : xUp (fun q => o + q) := fun i j h => by
    show o + i < o + j
    omega
  have wo : LWo D ca b (fun q => o + q) (fun a => o ≤ a) s z0 H1 := ⟨hP, hup0, hbo, hos, (fun z => by cases z), hK, hN, hA0⟩
  have hT0 : TT [18] z0 := hB_ok (by decide +kernel)
  refine wCallI (as0 := []) (rest := [.ref o]) (q := 0) (cA := 59) S wo hT0 hS1 (xA_o (h := z0) hup0 (by decide) wo.up) (show xMs[84]? = some rX8_init from rfl) rfl lb96 st_cM (fun h' r hq => by
    have := hq.2.1.1
    rw [this]
    decide) rfl (by decide) dbu_4 (le rfl) ⟨le rfl, le rfl⟩ ⟨le rfl, le rfl⟩ hl.1 (fun H2 locs2 h2 r2 hQ hl2 hP2 hS2 hz2 hk2 => ?_)
  obtain ⟨rfl, hTT, hSP⟩ := hQ
  obtain ⟨hBd, hTr⟩ := bd_first (ns := ns) hSP
  have hlen2 : h2.length = 60 := hTT.1
  have hW : WB D ca b o ns 0 [] H2 := ⟨_, h2, T00 ns, W00, 60, wo.o0, wo.up, rfl, rfl, ⟨KS0, hTT, rfl, hBd, hTr, hlen2⟩, hP2⟩
  refine lv_astore_n hx hb dbu_7 rfl hl (by decide) rfl (fun ls hl => ?_)
  refine lv_iconst (v := 0) hx hb dbu_8 (by decide) ?_
  refine lv_istore_n hx hb dbu_9 rfl hl (by decide) rfl (fun ls hl => ?_)
  have hl : lv_has ls 4 [(3, .int (nI 0)), (2, .ref o), (0, .ref b), (1, .int (-1))] := hl
  have loop2 : ∀ (d j : Nat), j + d = nm → ∀ (ls : Array Slot) (H : Heap) (locs : List Loc), lv_has ls 4 [(3, .int (nI (ns + j))), (2, .ref o), (0, .ref b), (1, .int (-1))] → WB D ca b o ns (ns + j) [] H → va_S (fun a => o ≤ a) s.heap H locs →
      W p l e { frames := 15, cells := 149, slots := 25000, locals := 41 * 15 } s m args below meth c H locs (60 + 3 * ns + 16 * j) (3509 + 763 * ns + 3823 * j) (MQ below (fun _ st oc t => ∃ r, oc = .returned r ∧ bQQ D ca b o ns (ns + nm) r st t) args s 149 25000 (fun a => o ≤ a)) (F0 m 40 ls []) := by
    intro d
    induction d with
    | zero =>
      intro j hj ls H locs hl hW hS
      obtain rfl : j = nm := by omega
      refine lv_iload_n hx hb dbu_40 rfl (lv_at hl 0 rfl) ?_
      refine lv_aload_n hx hb dbu_41 rfl (lv_at hl 2 rfl) ?_
      refine hcall (as := [.ref 0]) (rest := [.int (nI (ns + j))]) S (h_many hN3) ok_rL_many rfl lb104 hX hbl hbA hS rfl dbu_42 (le rfl) ⟨le rfl, le rfl⟩ ⟨by show _ ≤ 149; omega, by show _ ≤ 25000; omega⟩ hl.1 (fun H1 locs1 hS _ hk1 => ?_)
      rw [xMany_n es em]
      replace hW := hW.keep hk1
      refine lv_icmp_ge (tgt := 70) hx hb dbu_45 (by decide) (fun _ => ?_) (fun hc => absurd (nI_le (a := ns + j) (b := ns + j) (Nat.le_refl _) (by omega)) hc)
      refine lv_aload_n hx hb dbu_70 rfl (lv_at hl 1 rfl) ?_
      refine W.widen (k := 149) (n := 25000) (by omega) (by omega) ?_
      exact W.aret hx hb hret (Or.inl ⟨_, rfl⟩) (Or.inr ⟨_, rfl⟩) (fun t ht _ => ⟨_, rfl, rfl, by rw [ht]; exact hW, va_S.F hS ht⟩) hS.2.2 dbu_71 hlk
    | succ d ih =>
      intro j hj ls H locs hl hW hS
      refine lv_iload_n hx hb dbu_40 rfl (lv_at hl 0 rfl) ?_
      refine lv_aload_n hx hb dbu_41 rfl (lv_at hl 2 rfl) ?_
      refine hcall (as := [.ref 0]) (rest := [.int (nI (ns + j))]) S (h_many hN3) ok_rL_many rfl lb104 hX hbl hbA hS rfl dbu_42 (le rfl) ⟨le rfl, le rfl⟩ ⟨by show _ ≤ 149; omega, by show _ ≤ 25000; omega⟩ hl.1 (fun H1 locs1 hS _ hk1 => ?_)
      rw [xMany_n es em]
      replace hW := hW.keep hk1
      refine lv_icmp_ge (tgt := 70) hx hb dbu_45 (by decide) (fun hc => absurd ((nI_leI (a := ns + nm) (b := ns + j) (by omega) (by omega)).mp hc) (by omega)) (fun _ => ?_)
      refine lv_aload_n hx hb dbu_48 rfl (lv_at hl 1 rfl) ?_
      refine lv_aload_n hx hb dbu_49 rfl (lv_at hl 2 rfl) ?_
      refine lv_iload_n hx hb dbu_50 rfl (lv_at hl 0 rfl) ?_
      obtain ⟨f, x, y, z, n', hf, hx9, hy9, hz9, hn9, hfo⟩ := g_formula (N := N) (k := ns + j) xs hN3 (by omega) (by omega)
      have hsz := hS.1
      have PP : ∀ U : State, U.heap = H1 → s.WarmedH U.vm → fPP b N xs D ca o H1.size U := fun U hU hWm =>
        ⟨by rw [hU]; exact (hX.kept (hS.2.1 b hbl hbA)).moved hWm.alike, va_K.moved hWm.alike hK, hN.go hWm (fun q hq => by rw [hU]; exact hS.2.1 q (by omega) (hA0 q hq)), by rw [hU]⟩
      refine gCall (as := [.ref b, .int (nI (ns + j))]) (rest := [.ref o]) S (hfo D ca o H1.size b (by omega) hbo) nFo_c lb107 nFo_s iLAW ⟨by decide, by decide, (show (parseMethodDescriptor nFo.desc).map (fun d => d.parameters.length) = some 2 from by decide +kernel)⟩ fPP.blind PP hS (fun q hq => by
        have hq : H1.size ≤ q := hq
        show o ≤ q
        omega) (fun r st t _ hq => by
        obtain ⟨_, _, _, _, _, _, hF⟩ := hq
        exact hF) dbu_51 (le rfl) ⟨le rfl, le rfl⟩ ⟨by show _ ≤ 149; omega, by show _ ≤ 25000; omega⟩ hl.1 (fun st t T' locs2 r hst e1 e2 hal hQ hS2 hz2 hk2 => ?_)
      obtain ⟨q, cS, rfl, hq1, hq2, hST, -⟩ := hQ
      have hST2 : ST q cS (frm f x y z n') s T'.heap := by
        rw [e1]
        refine hST.to ?_
        rw [← e2]
        exact hal.symm
      obtain ⟨om, h, T, w, n, w1, w2, w3, w4, w5, w6⟩ := hW
      have hnl := w5.len
      have wlt : ∀ jj, jj < n → om jj < H1.size := fun jj hjj => by
        obtain ⟨e, he⟩ : ∃ e, h[jj]? = some e := ⟨h[jj], List.getElem?_eq_getElem (by omega)⟩
        exact (w6 _ _ (xWs_get he)).lt
      have w7 : va_P D vwCl (xWs b om R0 ca h) T'.heap := fun k q hq => va_at.kept (w6 k q hq) (hk2 q.1 (w6 k q hq).lt (fun z => by
        have z : H1.size ≤ q.1 := z
        have := (w6 k q hq).lt
        omega))
      have hlt := hST2.lt
      have hsz2 := hS2.1
      subst w1
      have PP2 : ∀ U : State, U.heap = T'.heap → s.WarmedH U.vm → ePP D ca b om h q cS (frm f x y z n') T'.heap.size U := fun U hU hWm =>
        ⟨by rw [hU]; exact w7, va_K.moved hWm.alike hK, hN.go hWm (fun q hq => by rw [hU]; exact hS2.2.1 q (by omega) (hA0 q hq)), by rw [hU], by rw [hU]; exact hST2.to hWm.alike⟩
      have fin := frm_in (f := f) (x := x) (y := y) (z := z) (n := n') hf (by omega) (by omega) (by omega) hn9
      have flen := frm_len (f := f) (x := x) (y := y) (z := z) (n := n') hf
      refine gCall (as := [.ref (om 0), .ref q.sa]) (rest := []) S (g_feeds (N0 := T'.heap.size) D ca cS hbo w2 (by omega) w5 (fun i x hi => fin x (List.mem_of_getElem? hi)) (by show 0 + _ ≤ 250; omega) (by omega) (fun j hj => by
        have := wlt j hj
        omega) (fun j hj => by
        have := wlt j hj
        omega)) nFe_c lb111 nFe_s iLAW ⟨by decide, by decide, (show (parseMethodDescriptor nFe.desc).map (fun d => d.parameters.length) = some 2 from by decide +kernel)⟩ ePP.blind PP2 hS2 (fun q hq => by
        rcases hq with ⟨j, _, hq⟩ | hq
        · have := w2.ge j
          show om 0 ≤ q
          omega
        · show om 0 ≤ q
          omega) (fun r st t _ hq => ⟨hq.2.2.1, fun q h1 h2 => hq.2.2.2 q h1 (fun z => h2 (Or.inl z))⟩) dbu_54 (le rfl) ⟨le rfl, le rfl⟩ ⟨by show _ ≤ 149; omega, by show _ ≤ 25000; omega⟩ hl.1 (fun st3 t3 T3 locs3 r3 hst3 e31 e32 hal3 hQ3 hS3 hz3 hk3 => ?_)
      obtain ⟨⟨z3, rfl⟩, ⟨h3, B3, hP3⟩, -⟩ := hQ3
      rw [← e31] at hP3
      refine lv_pop hx hb dbu_57 rfl ?_
      refine lv_aload_n hx hb dbu_58 rfl (lv_at hl 1 rfl) ?_
      refine lv_iload_n hx hb dbu_59 rfl (lv_at hl 3 rfl) ?_
      have wo : LWo D ca b om (fun a => om 0 ≤ a) s h3 T3.heap := ⟨hP3, w2, hbo, hos, (fun z => by have := B3.at0.1; have := B3.len; omega), hK, hN, hA0⟩
      have hnl3 := B3.len
      obtain ⟨hn0, fs, hfs⟩ := B3.at0
      obtain ⟨ks, hTT3, -⟩ := id B3
      have hok : FmOk T.n ([] ++ frm f x y z n') := by
        rw [w3]
        exact fm_all hf hx9 hy9 hz9 hn9 (by omega)
      refine wCallV (as0 := [.int (-1)]) (rest := []) (q := 0) (cA := 12) S wo hTT3 hS3 (xA_o w2 (by omega) wo.up) (show xMs[89]? = some rX8_memo from rfl) rfl lb115 (c_memo B3 (by omega) (by omega) hok) (fun h' r hq => by
        obtain ⟨_, _, _, _, _, hq⟩ := hq
        have := hq.len
        omega) rfl hfs rfl dbu_60 (le rfl) ⟨le rfl, le rfl⟩ ⟨by show _ ≤ 149; omega, by show _ ≤ 25000; omega⟩ hl.1 (fun H4 locs4 h4 r4 hQ4 hl4 hP4 hS4 hz4 hk4 => ?_)
      obtain ⟨⟨z4, rfl⟩, T4, w4', t1, t2, B4⟩ := hQ4
      have hW : WB D ca b (om 0) ns (ns + (j + 1)) [] H4 := ⟨_, h4, T4, w4', n + 12, wo.o0, wo.up, by omega, by omega, B4, hP4⟩
      refine lv_pop hx hb dbu_63 rfl ?_
      refine lv_iinc (v := nI (ns + (j + 1))) hx hb dbu_64 hl (k := 0) rfl (nI_1 (ns + j)) (by decide) rfl (fun ls hl => ?_)
      refine lv_goto (tgt := 40) hx hb dbu_67 (by decide) ?_
      refine W.widen (k := 60 + 3 * ns + 16 * (j + 1)) (n := 3509 + 763 * ns + 3823 * (j + 1)) (by omega) (by omega) ?_
      exact ih (j + 1) (by omega) ls H4 locs4 hl hW hS4
  have loop1 : ∀ (d i : Nat), i + d = ns → ∀ (ls : Array Slot) (H : Heap) (locs : List Loc), lv_has ls 4 [(3, .int (nI i)), (2, .ref o), (0, .ref b), (1, .int (-1))] → WB D ca b o ns i [] H → va_S (fun a => o ≤ a) s.heap H locs →
      W p l e { frames := 15, cells := 149, slots := 25000, locals := 41 * 15 } s m args below meth c H locs (60 + 3 * i) (3509 + 763 * i) (MQ below (fun _ st oc t => ∃ r, oc = .returned r ∧ bQQ D ca b o ns (ns + nm) r st t) args s 149 25000 (fun a => o ≤ a)) (F0 m 10 ls []) := by
    intro d
    induction d with
    | zero =>
      intro i hi ls H locs hl hW hS
      obtain rfl : i = ns := by omega
      refine lv_iload_n hx hb dbu_10 rfl (lv_at hl 0 rfl) ?_
      refine lv_aload_n hx hb dbu_11 rfl (lv_at hl 2 rfl) ?_
      refine hcall (as := [.ref 0]) (rest := [.int (nI i)]) S (h_sources hN3) ok_rL_sources rfl lb13 hX hbl hbA hS rfl dbu_12 (le rfl) ⟨le rfl, le rfl⟩ ⟨by show _ ≤ 149; omega, by show _ ≤ 25000; omega⟩ hl.1 (fun H1 locs1 hS _ hk1 => ?_)
      rw [es]
      replace hW := hW.keep hk1
      refine lv_icmp_ge (tgt := 35) hx hb dbu_15 (by decide) (fun _ => ?_) (fun hc => absurd (nI_le (a := i) (b := i) (Nat.le_refl _) (by omega)) hc)
      refine lv_aload_n hx hb dbu_35 rfl (lv_at hl 2 rfl) ?_
      refine hcall (as := [.ref 0]) (rest := []) S (h_sources hN3) ok_rL_sources rfl lb13 hX hbl hbA hS rfl dbu_36 (le rfl) ⟨le rfl, le rfl⟩ ⟨by show _ ≤ 149; omega, by show _ ≤ 25000; omega⟩ hl.1 (fun H1 locs1 hS _ hk1 => ?_)
      rw [es]
      replace hW := hW.keep hk1
      refine lv_istore_n hx hb dbu_39 rfl hl (by decide) rfl (fun ls hl => ?_)
      have hl : lv_has ls 4 [(3, .int (nI (i + 0))), (2, .ref o), (0, .ref b), (1, .int (-1))] := hl
      exact loop2 nm 0 (by omega) ls H1 locs1 hl hW hS
    | succ d ih =>
      intro i hi ls H locs hl hW hS
      refine lv_iload_n hx hb dbu_10 rfl (lv_at hl 0 rfl) ?_
      refine lv_aload_n hx hb dbu_11 rfl (lv_at hl 2 rfl) ?_
      refine hcall (as := [.ref 0]) (rest := [.int (nI i)]) S (h_sources hN3) ok_rL_sources rfl lb13 hX hbl hbA hS rfl dbu_12 (le rfl) ⟨le rfl, le rfl⟩ ⟨by show _ ≤ 149; omega, by show _ ≤ 25000; omega⟩ hl.1 (fun H1 locs1 hS _ hk1 => ?_)
      rw [es]
      replace hW := hW.keep hk1
      refine lv_icmp_ge (tgt := 35) hx hb dbu_15 (by decide) (fun hc => absurd ((nI_leI (a := ns) (b := i) (by omega) (by omega)).mp hc) (by omega)) (fun _ => ?_)
      refine lv_aload_n hx hb dbu_18 rfl (lv_at hl 1 rfl) ?_
      refine lv_aload_n hx hb dbu_19 rfl (lv_at hl 2 rfl) ?_
      refine lv_iload_n hx hb dbu_20 rfl (lv_at hl 0 rfl) ?_
      refine hcall (as := [.ref 0, .int (nI i)]) (rest := [.ref o]) S (h_value (j := i) hN3 (nI_toInt (by omega)) (by omega)) ok_rL_value rfl lb97 hX hbl hbA hS rfl dbu_21 (le rfl) ⟨le rfl, le rfl⟩ ⟨by show _ ≤ 149; omega, by show _ ≤ 25000; omega⟩ hl.1 (fun H2 locs2 hS _ hk2 => ?_)
      replace hW := hW.keep hk2
      refine lv_iload_n hx hb dbu_24 rfl (lv_at hl 3 rfl) ?_
      obtain ⟨om, h, T, w, n, w1, w2, w3, w4, w5, w6⟩ := hW
      have hsz2 := hS.1
      subst w1
      have wo : LWo D ca b om (fun a => om 0 ≤ a) s h H2 := ⟨w6, w2, hbo, hos, (fun z => by have := w5.at0.1; have := w5.len; omega), hK, hN, hA0⟩
      have hnl3 := w5.len
      obtain ⟨hn0, fs, hfs⟩ := w5.at0
      obtain ⟨ks, hTT3, -⟩ := id w5
      refine wCallV (as0 := [.int (xValue N xs i), .int (-1)]) (rest := []) (q := 0) (cA := 3) S wo hTT3 hS (xA_o w2 (by omega) wo.up) (show xMs[87]? = some rX8_source from rfl) rfl lb100 (c_source (x := xValue N xs i) w5 (by omega) (by omega)) (fun h' r hq => by
        obtain ⟨_, _, _, _, _, hq⟩ := hq
        have := hq.len
        omega) rfl hfs rfl dbu_25 (le rfl) ⟨le rfl, le rfl⟩ ⟨by show _ ≤ 149; omega, by show _ ≤ 25000; omega⟩ hl.1 (fun H4 locs4 h4 r4 hQ4 hl4 hP4 hS4 hz4 hk4 => ?_)
      obtain ⟨⟨z4, rfl⟩, T4, w4', t1, t2, B4⟩ := hQ4
      have hW : WB D ca b (om 0) ns (i + 1) [] H4 := ⟨_, h4, T4, w4', n + 3, wo.o0, wo.up, by omega, by omega, B4, hP4⟩
      refine lv_pop hx hb dbu_28 rfl ?_
      refine lv_iinc (v := nI (i + 1)) hx hb dbu_29 hl (k := 0) rfl (nI_1 i) (by decide) rfl (fun ls hl => ?_)
      refine lv_goto (tgt := 10) hx hb dbu_32 (by decide) ?_
      refine W.widen (k := 60 + 3 * (i + 1)) (n := 3509 + 763 * (i + 1)) (by omega) (by omega) ?_
      exact ih (i + 1) (by omega) ls H4 locs4 hl hW hS4
  exact loop1 ns 0 (by omega) ls H2 locs2 hl hW hS2
end BD
