/-! formula as a contract; feeds -/
section FG
variable {p : Program} {l : Launch} {e : Env} {R : Room} {s : State} {m : MethodId} {args : Array Value} {below : List Frame} {meth : Method} {c : Code} {Q : State → Prop} {D : va_G} {ca : Nat → ClassId} {o N0 N b k n : Nat} {xs : Nat → Int32} {A F : Nat → Prop} {H H1 : Heap} {locs : List Loc} {cells slots idx pc nL : Nat} {cc : ByteArray} {ls : Array Slot} {rest : List Value} {ts tp : List Int32} {q : Jvm.Free.SB.SQ} {cS : ClassId} {om : Nat → Nat} {h : List xE} {T : Tp} {w : Ws}
theorem ST.keep (hT : ST q cS ts s H) (h1 : H1[q.sa]? = H[q.sa]?) (h2 : H1[q.sd]? = H[q.sd]?) : ST q cS ts s H1 := by
  obtain ⟨g1, g2, g3, g4⟩ := hT
  refine ⟨g1, g2, g3, fun U hU hH => ?_⟩
  have hS : Jvm.Free.SBG.Sl q cS { U with heap := H } := g4 { U with heap := H } hU rfl
  exact Jvm.Free.SBG.Sl.carry (U := { U with heap := H }) (U' := U) (Vm.Alike.refl U.vm) (by rw [hH, h1]; exact hS.1.1) (by rw [hH, h2]; exact hS.1.2.2.2.2.2.2.2.2.2.1) hS
theorem ST.lt (hT : ST q cS ts s H) : q.sa < H.size ∧ q.sd < H.size := by
  have hS : Jvm.Free.SBG.Sl q cS { s with heap := H } := hT.2.2.2 { s with heap := H } (Vm.Alike.refl _) rfl
  exact ⟨(Array.getElem?_eq_some_iff.mp hS.1.1).1, (Array.getElem?_eq_some_iff.mp hS.1.2.2.2.2.2.2.2.2.2.1).1⟩
/-- formula(s, k) answers a String of the letters of one of the six forms over the cells ahead of k -/
theorem g_formula (xs : Nat → Int32) (hN3 : N < 2147483648) (hk0 : 0 < k) (hk9 : k < 23) : ∃ f x y z n, f < 6 ∧ x < k ∧ y < k ∧ z < k ∧ n < 10 ∧ ∀ (D : va_G) (ca : Nat → ClassId) (o N0 b : Nat), o ≤ N0 → b < o → gMet nFo method_11_code 7 (some (.object "java/lang/String")) 12 4 40 [.ref b, .int (nI k)] (fPP b N xs D ca o N0) (fQQ N0 (frm f x y z n)) (fun a => N0 ≤ a) := by
  obtain ⟨x, hx, ex⟩ := xOperand_n (N := N) (xs := xs) (j := k) (k := k) (d := 0) hk0 (by omega)
  obtain ⟨y, hy, ey⟩ := xOperand_n (N := N) (xs := xs) (j := k) (k := k) (d := 1) hk0 (by omega)
  obtain ⟨z, hz, ez⟩ := xOperand_n (N := N) (xs := xs) (j := k) (k := k) (d := 2) hk0 (by omega)
  obtain ⟨n, hn, en⟩ := xNumber_n (N := N) (xs := xs) k
  obtain ⟨f, hf, ef⟩ := xForm_n (N := N) (xs := xs) k
  refine ⟨f, x, y, z, n, hf, hx, hy, hz, hn, fun D ca o N0 b ho hbo => gMet_of rfl (Nat.le_of_ble_eq_true rfl) (fun p l e s m args below meth c S hP hret hlk ls hl => ?_)⟩
  obtain ⟨hx', hb, hml, hown, hts⟩ := id S
  obtain ⟨hX, hK, hN, hN0⟩ := hP
  have hl : lv_has ls 7 [(0, .ref b), (1, .int (nI k))] := hl
  have hS : va_S (fun a => N0 ≤ a) s.heap s.heap [] := va_S.rf
  have hbl : b < s.heap.size := by omega
  have hbA : ¬ N0 ≤ b := by omega
  have ek : (nI k).toInt = (k : Int) := nI_toInt (by omega)
  have h0 : ¬ nI k = 0 := fun z => by
    have := (nI_eq (a := k) (b := 0) (by omega) (by omega)).mp z
    omega
  have le : ∀ {a b : Nat}, Nat.ble a b = true → a ≤ b := fun h => Nat.le_of_ble_eq_true h
  refine lv_aload_n hx' hb dfo_0 rfl (lv_at hl 0 rfl) ?_
  refine lv_iload_n hx' hb dfo_1 rfl (lv_at hl 1 rfl) ?_
  refine lv_iconst (v := 0) hx' hb dfo_2 (by decide) ?_
  refine hcall (as := [.ref 0, .int (nI k), .int 0]) (rest := []) S (h_operand (d := 0) hN3 ek (by omega) h0) ok_rL_operand rfl lkOp hX hbl hbA hS rfl dfo_3 (le rfl) ⟨le rfl, le rfl⟩ ⟨le rfl, le rfl⟩ hl.1 (fun H1 locs1 hS _ _ => ?_)
  rw [ex]
  refine hcall (as := [.int (nI x)]) (rest := []) S (h_letter rfl (by omega)) ok_rL_letter rfl lkLe hX hbl hbA hS rfl dfo_6 (le rfl) ⟨le rfl, le rfl⟩ ⟨le rfl, le rfl⟩ hl.1 (fun H2 locs2 hS _ _ => ?_)
  refine lv_istore_n hx' hb dfo_9 rfl hl (by decide) rfl (fun ls hl => ?_)
  have hl : lv_has ls 7 [(2, .int (nI (97 + x))), (0, .ref b), (1, .int (nI k))] := hl
  refine lv_aload_n hx' hb dfo_10 rfl (lv_at hl 1 rfl) ?_
  refine lv_iload_n hx' hb dfo_11 rfl (lv_at hl 2 rfl) ?_
  refine lv_iconst (v := 1) hx' hb dfo_12 (by decide) ?_
  refine hcall (as := [.ref 0, .int (nI k), .int 1]) (rest := []) S (h_operand (d := 1) hN3 ek (by omega) h0) ok_rL_operand rfl lkOp hX hbl hbA hS rfl dfo_13 (le rfl) ⟨le rfl, le rfl⟩ ⟨le rfl, le rfl⟩ hl.1 (fun H1 locs1 hS _ _ => ?_)
  rw [ey]
  refine hcall (as := [.int (nI y)]) (rest := []) S (h_letter rfl (by omega)) ok_rL_letter rfl lkLe hX hbl hbA hS rfl dfo_16 (le rfl) ⟨le rfl, le rfl⟩ ⟨le rfl, le rfl⟩ hl.1 (fun H2 locs2 hS _ _ => ?_)
  refine lv_istore_n hx' hb dfo_19 rfl hl (by decide) rfl (fun ls hl => ?_)
  have hl : lv_has ls 7 [(3, .int (nI (97 + y))), (2, .int (nI (97 + x))), (0, .ref b), (1, .int (nI k))] := hl
  refine lv_aload_n hx' hb dfo_20 rfl (lv_at hl 2 rfl) ?_
  refine lv_iload_n hx' hb dfo_21 rfl (lv_at hl 3 rfl) ?_
  refine lv_iconst (v := 2) hx' hb dfo_22 (by decide) ?_
  refine hcall (as := [.ref 0, .int (nI k), .int 2]) (rest := []) S (h_operand (d := 2) hN3 ek (by omega) h0) ok_rL_operand rfl lkOp hX hbl hbA hS rfl dfo_23 (le rfl) ⟨le rfl, le rfl⟩ ⟨le rfl, le rfl⟩ hl.1 (fun H1 locs1 hS _ _ => ?_)
  rw [ez]
  refine hcall (as := [.int (nI z)]) (rest := []) S (h_letter rfl (by omega)) ok_rL_letter rfl lkLe hX hbl hbA hS rfl dfo_26 (le rfl) ⟨le rfl, le rfl⟩ ⟨le rfl, le rfl⟩ hl.1 (fun H2 locs2 hS _ _ => ?_)
  refine lv_istore hx' hb dfo_29 hl (by decide) rfl (fun ls hl => ?_)
  have hl : lv_has ls 7 [(4, .int (nI (97 + z))), (3, .int (nI (97 + y))), (2, .int (nI (97 + x))), (0, .ref b), (1, .int (nI k))] := hl
  refine lv_aload_n hx' hb dfo_31 rfl (lv_at hl 3 rfl) ?_
  refine lv_iload_n hx' hb dfo_32 rfl (lv_at hl 4 rfl) ?_
  refine hcall (as := [.ref 0, .int (nI k)]) (rest := []) S (h_number hN3 ek (by omega)) ok_rL_number rfl lkNu hX hbl hbA hS rfl dfo_33 (le rfl) ⟨le rfl, le rfl⟩ ⟨le rfl, le rfl⟩ hl.1 (fun H1 locs1 hS _ _ => ?_)
  rw [en]
  refine lv_istore hx' hb dfo_36 hl (by decide) rfl (fun ls hl => ?_)
  have hl : lv_has ls 7 [(5, .int (nI n)), (4, .int (nI (97 + z))), (3, .int (nI (97 + y))), (2, .int (nI (97 + x))), (0, .ref b), (1, .int (nI k))] := hl
  refine lv_aload_n hx' hb dfo_38 rfl (lv_at hl 4 rfl) ?_
  refine lv_iload_n hx' hb dfo_39 rfl (lv_at hl 5 rfl) ?_
  refine hcall (as := [.ref 0, .int (nI k)]) (rest := []) S (h_form hN3 ek (by omega)) ok_rL_form rfl lkFo hX hbl hbA hS rfl dfo_40 (le rfl) ⟨le rfl, le rfl⟩ ⟨le rfl, le rfl⟩ hl.1 (fun H1 locs1 hS _ _ => ?_)
  rw [ef]
  refine lv_istore hx' hb dfo_43 hl (by decide) rfl (fun ls hl => ?_)
  have hl : lv_has ls 7 [(6, .int (nI f)), (5, .int (nI n)), (4, .int (nI (97 + z))), (3, .int (nI (97 + y))), (2, .int (nI (97 + x))), (0, .ref b), (1, .int (nI k))] := hl
  rcases (show f = 0 ∨ f = 1 ∨ f = 2 ∨ f = 3 ∨ f = 4 ∨ f = 5 by omega) with rfl | rfl | rfl | rfl | rfl | rfl
  · exact w_fo0 S hN hK hN0 ho (by omega) (by omega) (by omega) hn hret hlk hS hl
  · exact w_fo1 S hN hK hN0 ho (by omega) (by omega) (by omega) hn hret hlk hS hl
  · exact w_fo2 S hN hK hN0 ho (by omega) (by omega) (by omega) hn hret hlk hS hl
  · exact w_fo3 S hN hK hN0 ho (by omega) (by omega) (by omega) hn hret hlk hS hl
  · exact w_fo4 S hN hK hN0 ho (by omega) (by omega) (by omega) hn hret hlk hS hl
  · exact w_fo5 S hN hK hN0 ho (by omega) (by omega) (by omega) hn hret hlk hS hl
abbrev nFe : MethodName := ⟨"PulledSignalsLaw", "feeds", "(LPulledSignals;Ljava/lang/String;)I"⟩
theorem nFe_c : Cond.code nFe method_12_code 3 (some .int) ∈ xBig := wIn (by decide +kernel)
theorem nFe_s : Cond.static nFe ∈ xBig := wIn (by decide +kernel)
theorem lkFd : Cond.methodLink "PulledSignalsLaw" 90 (xMy rX8_feed) ∈ xBig := wIn (by decide +kernel)
def ePP (D : va_G) (ca : Nat → ClassId) (b : Nat) (om : Nat → Nat) (h : List xE) (q : Jvm.Free.SB.SQ) (cS : ClassId) (ts : List Int32) (N0 : Nat) (U : State) : Prop := va_P D vwCl (xWs b om R0 ca h) U.heap ∧ va_K D vwCl (xTys ca) U ∧ xNX (om 0) U ∧ U.heap.size = N0 ∧ ST q cS ts U U.heap
def eF (om : Nat → Nat) (n : Nat) : Nat → Prop := fun a => ∃ j, j < n ∧ om j = a
def eQQ (D : va_G) (ca : Nat → ClassId) (b : Nat) (om : Nat → Nat) (T : Tp) (w : Ws) (tp : List Int32) (n : Nat) (r : Option Value) (st t : State) : Prop := (∃ z, r = some (.int z)) ∧ (∃ h', LB T w tp n h' ∧ va_P D vwCl (xWs b om R0 ca h') t.heap) ∧ va_F (eF om n) st t
theorem ePP.blind (a : Array Value) (U : State) (g : JFrame) (mk : MethodId) (hU : ePP D ca b om h q cS ts N0 U) : ePP D ca b om h q cS ts N0 (U.calling g mk a) := by
  obtain ⟨h1, h2, h3, h4, h5⟩ := hU
  exact ⟨h1, va_K.moved (u := U) (U := U.calling g mk a) (Vm.Alike.refl U.vm) h2, ⟨xNW.same (s := U) (U := U.calling g mk a) rfl h3.1, h3.2⟩, h4, ST.to (s := U) (t := U.calling g mk a) h5 (Vm.Alike.refl U.vm)⟩
theorem LB.at0 (B : LB T w tp n h) : 0 < n ∧ ∃ fs, h[0]? = some (.inr (8, fs)) := by
  obtain ⟨ks, hT, o0, -, -, hl⟩ := B
  obtain ⟨e, h1, fs, h2, -⟩ := hT.2 0 18 o0
  rw [xnth_eq, h2] at h1
  exact ⟨by rw [← hl]; exact (List.getElem?_eq_some_iff.mp h1).1, fs, h1⟩
theorem LB.len (B : LB T w tp n h) : h.length = n := by
  obtain ⟨ks, -, -, -, -, hl⟩ := B
  exact hl
/-- the class's cells are told the same by another map, where both agree on the places there are -/
theorem LB.mv {o1 : Nat → Nat} (B : LB T w tp n h) (hP : va_P D vwCl (xWs b om R0 ca h) H) (e : ∀ j, j < n → om j = o1 j) : va_P D vwCl (xWs b o1 R0 ca h) H := by
  obtain ⟨ks, hT, -, -, -, hl⟩ := B
  exact xWs_mv hT (fun j hj => e j (by omega)) hP
/-- feed of a made String's letters, one by one -/
theorem g_feeds (D : va_G) (ca : Nat → ClassId) (cS : ClassId) (hbo : b < om 0) (hup : xUp om) (hom : om 0 ≤ N0) (B : LB T w tp n h) (htx : ∀ (i : Nat) (x : Int32), ts[i]? = some x → ∃ v, v < 128 ∧ x = nI v) (hlen : tp.length + ts.length ≤ 250) (hqs : om 0 ≤ q.sa) (hq1 : ∀ j, j < n → om j ≠ q.sa) (hq2 : ∀ j, j < n → om j ≠ q.sd) :
    gMet nFe method_12_code 3 (some .int) 5 0 0 [.ref (om 0), .ref q.sa] (ePP D ca b om h q cS ts N0) (eQQ D ca b om T w (tp ++ ts) n) (fun a => eF om n a ∨ N0 ≤ a) := by
  refine gMet_of rfl (Nat.le_of_ble_eq_true rfl) (fun p l e s m args below meth c S hP hret hlk ls hl => ?_)
  obtain ⟨hx, hb, hml, hown, hts⟩ := id S
  obtain ⟨hP, hK, hN, hN0, hT⟩ := hP
  have hn0 := B.at0.1
  have hos : om 0 ≤ s.heap.size := by omega
  have hA0 : ∀ a, a < om 0 → ¬ (eF om n a ∨ N0 ≤ a) := fun a ha z => by
    rcases z with ⟨j, hj, z⟩ | z
    · have := hup.ge j
      omega
    · omega
  have le : ∀ {a b : Nat}, Nat.ble a b = true → a ≤ b := fun h => Nat.le_of_ble_eq_true h
  have hl : lv_has ls 3 [(0, .ref (om 0)), (1, .ref q.sa)] := hl
  refine lv_iconst (v := 0) hx hb dfe_0 (by decide) ?_
  refine lv_istore_n hx hb dfe_1 rfl hl (by decide) rfl (fun ls hl => ?_)
  have loop : ∀ (d k : Nat), k + d = ts.length → ∀ (ls : Array Slot) (H : Heap) (locs : List Loc) (h : List xE), lv_has ls 3 [(2, .int (nI k)), (0, .ref (om 0)), (1, .ref q.sa)] → LB T w (tp ++ ts.take k) n h → va_P D vwCl (xWs b om R0 ca h) H → ST q cS ts s H → va_S (fun a => eF om n a ∨ N0 ≤ a) s.heap H locs →
      W p l e { frames := 5, cells := 0, slots := 0, locals := 41 * 5 } s m args below meth c H locs 0 0 (MQ below (fun _ st oc t => ∃ r, oc = .returned r ∧ eQQ D ca b om T w (tp ++ ts) n r st t) args s 0 0 (fun a => eF om n a ∨ N0 ≤ a)) (F0 m 2 ls []) := by
    intro d
    induction d with
    | zero =>
      intro k hk ls H locs h hl B hP hT hS
      refine lv_iload_n hx hb dfe_2 rfl (lv_at hl 0 rfl) ?_
      refine lv_aload_n hx hb dfe_3 rfl (lv_at hl 2 rfl) ?_
      refine wLn (o := om 0) S hN hos hA0 hS hl.1 rfl ⟨le rfl, le rfl⟩ ⟨le rfl, le rfl⟩ hT hqs dfe_4 ?_
      refine lv_icmp_ge (tgt := 26) hx hb dfe_7 (by decide) (fun _ => ?_) (fun hc => absurd (nI_le (a := ts.length) (b := k) (by omega) (by omega)) hc)
      refine lv_aload_n hx hb dfe_26 rfl (lv_at hl 2 rfl) ?_
      refine wLn (o := om 0) S hN hos hA0 hS hl.1 rfl ⟨le rfl, le rfl⟩ ⟨le rfl, le rfl⟩ hT hqs dfe_27 ?_
      have et : ts.take k = ts := List.take_of_length_le (by omega)
      rw [et] at B
      exact W.iret hx hb hret (fun t ht _ => ⟨_, rfl, ⟨_, rfl⟩, ⟨h, B, by rw [ht]; exact hP⟩, by rw [ht]; exact hS.1, fun q h1 h2 => by rw [ht]; exact hS.2.1 q h1 (fun z => by rcases z with z | z; exact h2 z; omega)⟩) hS.2.2 dfe_30 hlk
    | succ d ih =>
      intro k hk ls H locs h hl B hP hT hS
      have hkl : k < ts.length := by omega
      obtain ⟨v, hv, ev⟩ := htx k (ts[k]'hkl) (List.getElem?_eq_getElem hkl)
      have hkv : ts[k]? = some (nI v) := by rw [← ev]; exact List.getElem?_eq_getElem hkl
      have hnl := B.len
      refine lv_iload_n hx hb dfe_2 rfl (lv_at hl 0 rfl) ?_
      refine lv_aload_n hx hb dfe_3 rfl (lv_at hl 2 rfl) ?_
      refine wLn (o := om 0) S hN hos hA0 hS hl.1 rfl ⟨le rfl, le rfl⟩ ⟨le rfl, le rfl⟩ hT hqs dfe_4 ?_
      refine lv_icmp_ge (tgt := 26) hx hb dfe_7 (by decide) (fun hc => absurd ((nI_leI (a := ts.length) (b := k) (by omega) (by omega)).mp hc) (by omega)) (fun _ => ?_)
      refine lv_aload_n hx hb dfe_10 rfl (lv_at hl 1 rfl) ?_
      refine lv_aload_n hx hb dfe_11 rfl (lv_at hl 2 rfl) ?_
      refine lv_iload_n hx hb dfe_12 rfl (lv_at hl 0 rfl) ?_
      refine wChA (o := om 0) S hN hos hA0 hS hl.1 rfl ⟨le rfl, le rfl⟩ ⟨le rfl, le rfl⟩ hT hkv hv dfe_13 ?_
      have wo : LWo D ca b om (fun a => eF om n a ∨ N0 ≤ a) s h H := ⟨hP, hup, hbo, hos, fun z => by omega, hK, hN, hA0⟩
      obtain ⟨-, fs, hfs⟩ := B.at0
      have hlt : (tp ++ ts.take k).length < 250 := by
        rw [List.length_append, List.length_take]
        omega
      have ev0 : (nI v).toInt = (v : Int) := nI_toInt (by omega)
      have hc := c_feed (x := nI v) B ⟨by omega, by omega⟩ hlt
      obtain ⟨ks, hTT, -⟩ := id B
      have hsz := hS.1
      have eR : ∀ j, j < n → rmp om h.length H.size j = om j := fun j hj => rmp_lo (by omega)
      have hxA : ∀ a, xA (rmp om h.length H.size) a → eF om n a ∨ N0 ≤ a := fun a z => by
        obtain ⟨j, hj⟩ := z
        by_cases hjn : j < n
        · exact Or.inl ⟨j, hjn, by rw [← eR j hjn]; exact hj⟩
        · have : rmp om h.length H.size j = H.size + (j - h.length) := by
            unfold rmp
            rw [if_neg (by omega)]
          exact Or.inr (by omega)
      refine wCallV (as0 := [.int (nI v)]) (rest := []) (q := 0) (cA := 0) S wo hTT hS hxA (show xMs[86]? = some rX8_feed from rfl) rfl lkFd hc (fun h' r hq => by
        have := hq.2.len
        omega) rfl hfs rfl dfe_16 (le rfl) ⟨le rfl, le rfl⟩ ⟨le rfl, le rfl⟩ hl.1 (fun H1 locs1 h' r1 hQ hl1 hP1 hS1 hz1 hk1 => ?_)
      obtain ⟨⟨z, hz⟩, B1⟩ := hQ
      subst hz
      have hP1' : va_P D vwCl (xWs b om R0 ca h') H1 := B1.mv hP1 eR
      have hTl := hT.lt
      have kp : ∀ a, a < H.size → (∀ j, j < n → om j ≠ a) → H1[a]? = H[a]? := fun a ha hne => hk1 a ha (fun z => by
        obtain ⟨j, hj⟩ := z
        by_cases hjn : j < n
        · exact hne j hjn (by rw [← eR j hjn]; exact hj)
        · have : rmp om h.length H.size j = H.size + (j - h.length) := by
            unfold rmp
            rw [if_neg (by omega)]
          omega)
      have hT1 : ST q cS ts s H1 := hT.keep (kp _ hTl.1 hq1) (kp _ hTl.2 hq2)
      have et : tp ++ ts.take k ++ [nI v] = tp ++ ts.take (k + 1) := by
        rw [List.append_assoc, List.take_add_one, hkv]
        rfl
      rw [et] at B1
      refine lv_pop hx hb dfe_19 rfl ?_
      refine lv_iinc (v := nI (k + 1)) hx hb dfe_20 hl (k := 0) rfl (nI_1 k) (by decide) rfl (fun ls hl => ?_)
      refine lv_goto (tgt := 2) hx hb dfe_23 (by decide) ?_
      exact ih (k + 1) (by omega) ls H1 locs1 h' hl B1 hP1' hT1 hS1
  have B' : LB T w (tp ++ ts.take 0) n h := by
    rw [List.take_zero, List.append_nil]
    exact B
  exact loop ts.length 0 (by omega) ls s.heap [] h hl B' hP hT va_S.rf
end FG
