/-! the JDK's own methods on a builder of 16 bytes: their walks (printed by jwalk.py) -/
abbrev nIni : MethodName := ⟨"java/lang/AbstractStringBuilder", "<init>", "(I)V"⟩
theorem nIni_c : Cond.code nIni prog_12_method_2_code 2 none ∈ xBig := wIn (by decide +kernel)
theorem nIni_i : Cond.instanceMethod nIni ∈ xBig := wIn (by decide +kernel)
abbrev nSbi : MethodName := ⟨"java/lang/StringBuilder", "<init>", "()V"⟩
theorem nSbi_c : Cond.code nSbi prog_17_method_1_code 1 none ∈ xBig := wIn (by decide +kernel)
theorem nSbi_i : Cond.instanceMethod nSbi ∈ xBig := wIn (by decide +kernel)
abbrev nIsL : MethodName := ⟨"java/lang/AbstractStringBuilder", "isLatin1", "()Z"⟩
theorem nIsL_c : Cond.code nIsL prog_12_method_68_code 1 (some .boolean) ∈ xBig := wIn (by decide +kernel)
theorem nIsL_i : Cond.instanceMethod nIsL ∈ xBig := wIn (by decide +kernel)
abbrev nCan : MethodName := ⟨"java/lang/StringLatin1", "canEncode", "(C)Z"⟩
theorem nCan_c : Cond.code nCan prog_18_method_3_code 1 (some .boolean) ∈ xBig := wIn (by decide +kernel)
theorem nCan_s : Cond.static nCan ∈ xBig := wIn (by decide +kernel)
abbrev nEns : MethodName := ⟨"java/lang/AbstractStringBuilder", "ensureCapacityInternal", "(I)V"⟩
theorem nEns_c : Cond.code nEns prog_12_method_9_code 3 none ∈ xBig := wIn (by decide +kernel)
theorem nEns_i : Cond.instanceMethod nEns ∈ xBig := wIn (by decide +kernel)
abbrev nApC : MethodName := ⟨"java/lang/AbstractStringBuilder", "append", "(C)Ljava/lang/AbstractStringBuilder;"⟩
theorem nApC_c : Cond.code nApC prog_12_method_31_code 2 (some (.object "java/lang/AbstractStringBuilder")) ∈ xBig := wIn (by decide +kernel)
theorem nApC_i : Cond.instanceMethod nApC ∈ xBig := wIn (by decide +kernel)
abbrev nSbC : MethodName := ⟨"java/lang/StringBuilder", "append", "(C)Ljava/lang/StringBuilder;"⟩
theorem nSbC_c : Cond.code nSbC prog_17_method_14_code 2 (some (.object "java/lang/StringBuilder")) ∈ xBig := wIn (by decide +kernel)
theorem nSbC_i : Cond.instanceMethod nSbC ∈ xBig := wIn (by decide +kernel)
abbrev nCod : MethodName := ⟨"java/lang/String", "coder", "()B"⟩
theorem nCod_c : Cond.code nCod prog_16_method_152_code 1 (some .byte) ∈ xBig := wIn (by decide +kernel)
theorem nCod_i : Cond.instanceMethod nCod ∈ xBig := wIn (by decide +kernel)
abbrev nLen : MethodName := ⟨"java/lang/String", "length", "()I"⟩
theorem nLen_c : Cond.code nLen prog_16_method_54_code 1 (some .int) ∈ xBig := wIn (by decide +kernel)
theorem nLen_i : Cond.instanceMethod nLen ∈ xBig := wIn (by decide +kernel)
abbrev nInf : MethodName := ⟨"java/lang/AbstractStringBuilder", "inflateIfNeededFor", "(Ljava/lang/String;)V"⟩
theorem nInf_c : Cond.code nInf prog_12_method_71_code 2 none ∈ xBig := wIn (by decide +kernel)
theorem nInf_i : Cond.instanceMethod nInf ∈ xBig := wIn (by decide +kernel)
abbrev nGby : MethodName := ⟨"java/lang/String", "getBytes", "([BIB)V"⟩
theorem nGby_c : Cond.code nGby prog_16_method_147_code 4 none ∈ xBig := wIn (by decide +kernel)
theorem nGby_i : Cond.instanceMethod nGby ∈ xBig := wIn (by decide +kernel)
abbrev nPst : MethodName := ⟨"java/lang/AbstractStringBuilder", "putStringAt", "(ILjava/lang/String;)V"⟩
theorem nPst_c : Cond.code nPst prog_12_method_73_code 3 none ∈ xBig := wIn (by decide +kernel)
theorem nPst_i : Cond.instanceMethod nPst ∈ xBig := wIn (by decide +kernel)
abbrev nApS : MethodName := ⟨"java/lang/AbstractStringBuilder", "append", "(Ljava/lang/String;)Ljava/lang/AbstractStringBuilder;"⟩
theorem nApS_c : Cond.code nApS prog_12_method_22_code 3 (some (.object "java/lang/AbstractStringBuilder")) ∈ xBig := wIn (by decide +kernel)
theorem nApS_i : Cond.instanceMethod nApS ∈ xBig := wIn (by decide +kernel)
abbrev nSbS : MethodName := ⟨"java/lang/StringBuilder", "append", "(Ljava/lang/String;)Ljava/lang/StringBuilder;"⟩
theorem nSbS_c : Cond.code nSbS prog_17_method_7_code 2 (some (.object "java/lang/StringBuilder")) ∈ xBig := wIn (by decide +kernel)
theorem nSbS_i : Cond.instanceMethod nSbS ∈ xBig := wIn (by decide +kernel)
abbrev nSsz : MethodName := ⟨"java/lang/Integer", "stringSize", "(I)I"⟩
theorem nSsz_c : Cond.code nSsz prog_14_method_13_code 4 (some .int) ∈ xBig := wIn (by decide +kernel)
theorem nSsz_s : Cond.static nSsz ∈ xBig := wIn (by decide +kernel)
abbrev nGch : MethodName := ⟨"java/lang/Integer", "getChars", "(II[B)I"⟩
theorem nGch_c : Cond.code nGch prog_14_method_12_code 7 (some .int) ∈ xBig := wIn (by decide +kernel)
theorem nGch_s : Cond.static nGch ∈ xBig := wIn (by decide +kernel)
abbrev nApI : MethodName := ⟨"java/lang/AbstractStringBuilder", "append", "(I)Ljava/lang/AbstractStringBuilder;"⟩
theorem nApI_c : Cond.code nApI prog_12_method_32_code 4 (some (.object "java/lang/AbstractStringBuilder")) ∈ xBig := wIn (by decide +kernel)
theorem nApI_i : Cond.instanceMethod nApI ∈ xBig := wIn (by decide +kernel)
abbrev nSbI : MethodName := ⟨"java/lang/StringBuilder", "append", "(I)Ljava/lang/StringBuilder;"⟩
theorem nSbI_c : Cond.code nSbI prog_17_method_15_code 2 (some (.object "java/lang/StringBuilder")) ∈ xBig := wIn (by decide +kernel)
theorem nSbI_i : Cond.instanceMethod nSbI ∈ xBig := wIn (by decide +kernel)
theorem iASB : Cond.initialized "java/lang/AbstractStringBuilder" ∈ xBig := wIn (by decide +kernel)
theorem iSTR : Cond.initialized "java/lang/String" ∈ xBig := wIn (by decide +kernel)
theorem iSL1 : Cond.initialized "java/lang/StringLatin1" ∈ xBig := wIn (by decide +kernel)
theorem iINT : Cond.initialized "java/lang/Integer" ∈ xBig := wIn (by decide +kernel)
theorem lkV : Cond.fieldLink "java/lang/AbstractStringBuilder" 15 "java/lang/AbstractStringBuilder" "value" "[B" ∈ xBig := wIn (by decide +kernel)
theorem lkC : Cond.fieldLink "java/lang/AbstractStringBuilder" 22 "java/lang/AbstractStringBuilder" "coder" "B" ∈ xBig := wIn (by decide +kernel)
theorem lkN : Cond.fieldLink "java/lang/AbstractStringBuilder" 79 "java/lang/AbstractStringBuilder" "count" "I" ∈ xBig := wIn (by decide +kernel)
theorem lkS : Cond.fieldLink "java/lang/AbstractStringBuilder" 18 "java/lang/String" "COMPACT_STRINGS" "Z" ∈ xBig := wIn (by decide +kernel)
theorem lkT : Cond.fieldLink "java/lang/String" 38 "java/lang/String" "COMPACT_STRINGS" "Z" ∈ xBig := wIn (by decide +kernel)
theorem lkTc : Cond.fieldLink "java/lang/String" 15 "java/lang/String" "coder" "B" ∈ xBig := wIn (by decide +kernel)
theorem lkTv : Cond.fieldLink "java/lang/String" 9 "java/lang/String" "value" "[B" ∈ xBig := wIn (by decide +kernel)
theorem lkD : Cond.fieldLink "java/lang/Integer" 83 "java/lang/Integer" "DigitOnes" "[B" ∈ xBig := wIn (by decide +kernel)
abbrev wB (ca : Nat → ClassId) (b da : Nat) (ml : Int32) (n : Nat) (f : Nat → Int32) : va_W := [(b, .inr (10, [.ref da, .int 0, .int ml, .int (nI n)])), (da, .inl (ca 2, 16, .inl f))]
abbrev wA (ca : Nat → ClassId) (da : Nat) (f : Nat → Int32) : va_W := [(da, .inl (ca 2, 16, .inl f))]
abbrev FN : Nat → Prop := fun _ => False
abbrev FD (da : Nat) : Nat → Prop := fun a => a = da
abbrev FB (b da : Nat) : Nat → Prop := fun a => a = b ∨ a = da
theorem nI_b8 : ∀ c, c < 128 → (nI c).toInt8.toInt32 = nI c := by decide +kernel
theorem cl10 : vwCl[10]? = some (RJ4, TJ4, 4) := rfl
theorem wB_a {D : va_G} {ca : Nat → ClassId} {b da n : Nat} {ml : Int32} {f : Nat → Int32} {H : Heap} (h : va_P D vwCl (wB ca b da ml n f) H) : va_P D vwCl (wA ca da f) H := fun k q hq => by
  cases k with
  | zero =>
    cases hq
    exact h 1 _ rfl
  | succ k => cases hq
theorem wB_D {A : Nat → Prop} {ca : Nat → ClassId} {b da n : Nat} {ml : Int32} {f : Nat → Int32} (hne : b ≠ da) (h1 : A b) (h2 : A da) : va_D A (wB ca b da ml n f) := by
  refine ⟨fun i j p q hi hj e => ?_, fun k q hq => ?_⟩
  · match i, j, hi, hj with
    | 0, 0, _, _ => rfl
    | 1, 1, _, _ => rfl
    | 0, 1, hi, hj =>
      cases hi
      cases hj
      exact absurd e hne
    | 1, 0, hi, hj =>
      cases hi
      cases hj
      exact absurd e.symm hne
    | i + 2, _, hi, _ => cases hi
    | 0, j + 2, _, hj => cases hj
    | 1, j + 2, _, hj => cases hj
  · match k, hq with
    | 0, hq =>
      cases hq
      exact h1
    | 1, hq =>
      cases hq
      exact h2
    | k + 2, hq => cases hq
theorem wA_D {A : Nat → Prop} {ca : Nat → ClassId} {da : Nat} {f : Nat → Int32} (h2 : A da) : va_D A (wA ca da f) := by
  refine ⟨fun i j p q hi hj e => ?_, fun k q hq => ?_⟩
  · match i, j, hi, hj with
    | 0, 0, _, _ => rfl
    | i + 1, _, hi, _ => cases hi
    | 0, j + 1, _, hj => cases hj
  · match k, hq with
    | 0, hq =>
      cases hq
      exact h2
    | k + 1, hq => cases hq
theorem wB_put {D : va_G} {ca : Nat → ClassId} {b da n : Nat} {ml : Int32} {f f' : Nat → Int32} {H H1 : Heap} (h : va_P D vwCl (wB ca b da ml n f) H) (hb : H1[b]? = H[b]?) (h1 : va_P D vwCl (wA ca da f') H1) : va_P D vwCl (wB ca b da ml n f') H1 := fun k q hq => by
  match k, hq with
  | 0, hq =>
    cases hq
    exact va_at.kept (h 0 _ rfl) hb
  | 1, hq =>
    cases hq
    exact h1 0 _ rfl
  | k + 2, hq => cases hq
theorem wB_keep {D : va_G} {ca : Nat → ClassId} {b da n : Nat} {ml : Int32} {f : Nat → Int32} {H H1 : Heap} (h : va_P D vwCl (wB ca b da ml n f) H) (hk : ∀ q, q < H.size → H1[q]? = H[q]?) : va_P D vwCl (wB ca b da ml n f) H1 := fun k q hq => va_at.kept (h k q hq) (hk q.1 (h k q hq).lt)
theorem wA_keep {D : va_G} {ca : Nat → ClassId} {da : Nat} {f : Nat → Int32} {H H1 : Heap} (h : va_P D vwCl (wA ca da f) H) (hk : ∀ q, q < H.size → H1[q]? = H[q]?) : va_P D vwCl (wA ca da f) H1 := fun k q hq => va_at.kept (h k q hq) (hk q.1 (h k q hq).lt)
section JW
variable {D : va_G} {ca : Nat → ClassId} {o N0 b da n k sa v c : Nat} {ml : Int32} {f : Nat → Int32} {idx : Nat} {tx : String} {cs : List Int32} {ks : List (Nat × String × Nat)}
theorem j_isL (ho : o ≤ N0) : jMet D ca o N0 nIsL prog_12_method_68_code 1 (some .boolean) 0 0 0 [.ref b] (wB ca b da ml n f) ks FN (fun r _ => r = some (.int 1)) := by
  refine jMet_of (by decide) (Nat.le_of_ble_eq_true rfl) (fun p l e s m args below meth c_ S hN hK hP hN0 hks hret hlk hnm ls hl => ?_)
  obtain ⟨hx, hb, hml, hown, hts⟩ := id S
  have hl : lv_has ls 1 [(0, .ref b)] := hl
  have hS : va_S (fun a => FN a ∨ N0 ≤ a) s.heap s.heap [] := va_S.rf
  have hA0 : ∀ a, a < o → ¬ (FN a ∨ N0 ≤ a) := fun a ha z => by
    rcases z with z | z
    · exact z
    · omega
  have hAo : ∀ a, (FN a ∨ N0 ≤ a) → o ≤ a := fun a z => Nat.not_lt.mp (fun ha => hA0 a ha z)
  have hos : o ≤ s.heap.size := by omega
  refine va_gets (ref := "java/lang/String") hx hb ((zCs hN hts).narrow hAo) hS hown (hts _ lkS) (fun _ h => h) dj_isL_0 ?_
  refine lv_if_eq (tgt := 17) hx hb dj_isL_3 (by decide) (fun hc => absurd hc (by decide)) (fun _ => ?_)
  refine lv_aload_n hx hb dj_isL_6 rfl (lv_at hl 0 rfl) ?_
  refine va_get (ref := "java/lang/AbstractStringBuilder") hx hb hts (xLy_at (ci := 10) rfl).1 hown hK hP 0 rfl cl10 1 (by decide) (hts _ lkC) (fun _ h => h) rfl dj_isL_7 ?_
  refine lv_if_ne (tgt := 17) hx hb dj_isL_10 (by decide) (fun hc => absurd hc (fun z => z rfl)) (fun _ => ?_)
  refine lv_iconst (v := 1) hx hb dj_isL_13 (by decide) ?_
  refine lv_goto (tgt := 18) hx hb dj_isL_14 (by decide) ?_
  exact W.zret (ty := .boolean) hx hb hret rfl (fun t ht _ => ⟨_, rfl, rfl, jF hS hN0 ht⟩) hS.2.2 dj_isL_18 hlk
theorem j_can (ho : o ≤ N0) (hc : c < 256) : jMet D ca o N0 nCan prog_18_method_3_code 1 (some .boolean) 0 0 0 [.int (nI c)] [] ks FN (fun r _ => r = some (.int 1)) := by
  refine jMet_of (by decide) (Nat.le_of_ble_eq_true rfl) (fun p l e s m args below meth c_ S hN hK hP hN0 hks hret hlk hnm ls hl => ?_)
  obtain ⟨hx, hb, hml, hown, hts⟩ := id S
  have hl : lv_has ls 1 [(0, .int (nI c))] := hl
  have hS : va_S (fun a => FN a ∨ N0 ≤ a) s.heap s.heap [] := va_S.rf
  have hA0 : ∀ a, a < o → ¬ (FN a ∨ N0 ≤ a) := fun a ha z => by
    rcases z with z | z
    · exact z
    · omega
  have hAo : ∀ a, (FN a ∨ N0 ≤ a) → o ≤ a := fun a z => Nat.not_lt.mp (fun ha => hA0 a ha z)
  have hos : o ≤ s.heap.size := by omega
  refine lv_iload_n hx hb dj_can_0 rfl (lv_at hl 0 rfl) ?_
  refine lv_sipush (v := 255) hx hb dj_can_1 (by decide) ?_
  refine lv_icmp_gt (tgt := 11) hx hb dj_can_4 (by decide) (fun hc => absurd hc (nI_nlt (a := 255) (b := c) (by omega) (by omega))) (fun _ => ?_)
  refine lv_iconst (v := 1) hx hb dj_can_7 (by decide) ?_
  refine lv_goto (tgt := 12) hx hb dj_can_8 (by decide) ?_
  exact W.zret (ty := .boolean) hx hb hret rfl (fun t ht _ => ⟨_, rfl, rfl, jF hS hN0 ht⟩) hS.2.2 dj_can_12 hlk
theorem j_ens (ho : o ≤ N0) (hk : k ≤ 16) : jMet D ca o N0 nEns prog_12_method_9_code 3 none 0 0 0 [.ref b, .int (nI k)] (wB ca b da ml n f) ks FN (fun r _ => r = none) := by
  refine jMet_of (by decide) (Nat.le_of_ble_eq_true rfl) (fun p l e s m args below meth c_ S hN hK hP hN0 hks hret hlk hnm ls hl => ?_)
  obtain ⟨hx, hb, hml, hown, hts⟩ := id S
  have hl : lv_has ls 3 [(0, .ref b), (1, .int (nI k))] := hl
  have hS : va_S (fun a => FN a ∨ N0 ≤ a) s.heap s.heap [] := va_S.rf
  have hA0 : ∀ a, a < o → ¬ (FN a ∨ N0 ≤ a) := fun a ha z => by
    rcases z with z | z
    · exact z
    · omega
  have hAo : ∀ a, (FN a ∨ N0 ≤ a) → o ≤ a := fun a z => Nat.not_lt.mp (fun ha => hA0 a ha z)
  have hos : o ≤ s.heap.size := by omega
  refine lv_aload_n hx hb dj_ens_0 rfl (lv_at hl 0 rfl) ?_
  refine va_get (ref := "java/lang/AbstractStringBuilder") hx hb hts (xLy_at (ci := 10) rfl).1 hown hK hP 0 rfl cl10 0 (by decide) (hts _ lkV) (fun _ h => h) rfl dj_ens_1 ?_
  refine va_alen hx hb hK hP 1 2 rfl rfl (v := 16) rfl dj_ens_4 ?_
  refine lv_aload_n hx hb dj_ens_5 rfl (lv_at hl 0 rfl) ?_
  refine va_get (ref := "java/lang/AbstractStringBuilder") hx hb hts (xLy_at (ci := 10) rfl).1 hown hK hP 0 rfl cl10 1 (by decide) (hts _ lkC) (fun _ h => h) rfl dj_ens_6 ?_
  refine lv_ishr hx hb dj_ens_9 ?_
  refine lv_istore_n hx hb dj_ens_10 rfl hl (by decide) rfl (fun ls hl => ?_)
  have hl : lv_has ls 3 [(2, .int ((16 : Int32) >>> ((0 : Int32) &&& 31))), (0, .ref b), (1, .int (nI k))] := hl
  refine lv_iload_n hx hb dj_ens_11 rfl (lv_at hl 2 rfl) ?_
  refine lv_iload_n hx hb dj_ens_12 rfl (lv_at hl 0 rfl) ?_
  refine lv_isub hx hb dj_ens_13 ?_
  have e1 : nI k - (16 : Int32) >>> ((0 : Int32) &&& 31) ≤ 0 := by
    have e : (nI k - (16 : Int32) >>> ((0 : Int32) &&& 31)).toInt = (k : Int) - 16 := pk_sub_toInt (a := k) (b := 16) (by omega) (by omega)
    rw [Int32.le_iff_toInt_le, e, Int32.toInt_zero]
    omega
  refine lv_if_le (tgt := 38) hx hb dj_ens_14 (by decide) (fun _ => ?_) (fun hc => absurd e1 hc)
  exact W.vret hx hb hret (fun t ht _ => ⟨_, rfl, rfl, jF hS hN0 ht⟩) hS.2.2 dj_ens_38 hlk
theorem j_apC (ho : o ≤ N0) (hb0 : o ≤ b) (hd0 : o ≤ da) (hne : b ≠ da) (hn : n < 16) (hc : c < 128) : jMet D ca o N0 nApC prog_12_method_31_code 2 (some (.object "java/lang/AbstractStringBuilder")) 1 0 0 [.ref b, .int (nI c)] (wB ca b da ml n f) ks (FB b da) (fun r H => r = some (.ref b) ∧ va_P D vwCl (wB ca b da ml (n + 1) (upd f n (nI c))) H) := by
  refine jMet_of (by decide) (Nat.le_of_ble_eq_true rfl) (fun p l e s m args below meth c_ S hN hK hP hN0 hks hret hlk hnm ls hl => ?_)
  obtain ⟨hx, hb, hml, hown, hts⟩ := id S
  have hl : lv_has ls 2 [(0, .ref b), (1, .int (nI c))] := hl
  have hS : va_S (fun a => (FB b da) a ∨ N0 ≤ a) s.heap s.heap [] := va_S.rf
  have hA0 : ∀ a, a < o → ¬ ((FB b da) a ∨ N0 ≤ a) := fun a ha z => by
    rcases z with z | z
    · rcases z with z | z <;> omega
    · omega
  have hAo : ∀ a, ((FB b da) a ∨ N0 ≤ a) → o ≤ a := fun a z => Nat.not_lt.mp (fun ha => hA0 a ha z)
  have hos : o ≤ s.heap.size := by omega
  refine lv_aload_n hx hb dj_apC_0 rfl (lv_at hl 0 rfl) ?_
  refine lv_aload_n hx hb dj_apC_1 rfl (lv_at hl 0 rfl) ?_
  refine va_get (ref := "java/lang/AbstractStringBuilder") hx hb hts (xLy_at (ci := 10) rfl).1 hown hK hP 0 rfl cl10 3 (by decide) (hts _ lkN) (fun _ h => h) rfl dj_apC_2 ?_
  refine lv_iconst (v := 1) hx hb dj_apC_5 (by decide) ?_
  refine lv_iadd hx hb dj_apC_6 ?_
  rw [nI_1]
  have hH : N0 ≤ s.heap.size := by
    have := hS.1
    omega
  refine jcU (as := [.int (nI (n + 1))]) (rest := []) S (j_ens (ml := ml) (n := n) (f := f) (k := n + 1) (Nat.le_trans ho hH) (by omega)) nEns_c (wIn (by decide +kernel)) nEns_i iASB rfl (show (parseMethodDescriptor nEns.desc).map (fun d => d.parameters.length) = some 1 from by decide +kernel) (jSelP (by1 := prog_12_method_9_code) (n := 3) (ret := none) hN (by decide +kernel) rfl (by decide +kernel) (by decide +kernel)) hN hK hP (q0 := 0) rfl hP hks hos hA0 hS (fun q z => absurd z id) (fun q hq => Or.inr (Nat.le_trans hH hq)) dj_apC_7 (Nat.le_of_ble_eq_true rfl) ⟨Nat.le_of_ble_eq_true rfl, Nat.le_of_ble_eq_true rfl⟩ ⟨Nat.le_of_ble_eq_true rfl, Nat.le_of_ble_eq_true rfl⟩ hl.1 (fun H1 locs1 r1 hr1 hS1 hz1 hk1 => ?_)
  replace hS := hS1
  have hr1 : r1 = none := hr1
  subst hr1
  replace hP := wB_keep hP (fun q hq => hk1 q hq id)
  refine lv_aload_n hx hb dj_apC_10 rfl (lv_at hl 0 rfl) ?_
  have hH : N0 ≤ H1.size := by
    have := hS.1
    omega
  refine jcU (as := []) (rest := []) S (j_isL (ml := ml) (n := n) (f := f) (Nat.le_trans ho hH)) nIsL_c (wIn (by decide +kernel)) nIsL_i iASB rfl (show (parseMethodDescriptor nIsL.desc).map (fun d => d.parameters.length) = some 0 from by decide +kernel) (jW hN (by decide +kernel) (by decide +kernel)) hN hK hP (q0 := 0) rfl hP hks hos hA0 hS (fun q z => absurd z id) (fun q hq => Or.inr (Nat.le_trans hH hq)) dj_apC_11 (Nat.le_of_ble_eq_true rfl) ⟨Nat.le_of_ble_eq_true rfl, Nat.le_of_ble_eq_true rfl⟩ ⟨Nat.le_of_ble_eq_true rfl, Nat.le_of_ble_eq_true rfl⟩ hl.1 (fun H2 locs2 r2 hr2 hS2 hz2 hk2 => ?_)
  replace hS := hS2
  have hr2 : r2 = some (.int 1) := hr2
  subst hr2
  replace hP := wB_keep hP (fun q hq => hk2 q hq id)
  refine lv_if_eq (tgt := 45) hx hb dj_apC_14 (by decide) (fun hc => absurd hc (by decide)) (fun _ => ?_)
  refine lv_iload_n hx hb dj_apC_17 rfl (lv_at hl 1 rfl) ?_
  have hH : N0 ≤ H2.size := by
    have := hS.1
    omega
  refine jcS (as := [.int (nI c)]) (rest := []) S (j_can (c := c) (Nat.le_trans ho hH) (by omega)) nCan_c (wIn (by decide +kernel)) nCan_s iSL1 ⟨by decide, by decide, (show (parseMethodDescriptor nCan.desc).map (fun d => d.parameters.length) = some 1 from by decide +kernel)⟩ hN hK (fun k q hq => by cases hq) hks hos hA0 hS (fun q z => absurd z id) (fun q hq => Or.inr (Nat.le_trans hH hq)) dj_apC_18 (Nat.le_of_ble_eq_true rfl) ⟨Nat.le_of_ble_eq_true rfl, Nat.le_of_ble_eq_true rfl⟩ ⟨Nat.le_of_ble_eq_true rfl, Nat.le_of_ble_eq_true rfl⟩ hl.1 (fun H3 locs3 r3 hr3 hS3 hz3 hk3 => ?_)
  replace hS := hS3
  have hr3 : r3 = some (.int 1) := hr3
  subst hr3
  replace hP := wB_keep hP (fun q hq => hk3 q hq id)
  refine lv_if_eq (tgt := 45) hx hb dj_apC_21 (by decide) (fun hc => absurd hc (by decide)) (fun _ => ?_)
  refine lv_aload_n hx hb dj_apC_24 rfl (lv_at hl 0 rfl) ?_
  refine va_get (ref := "java/lang/AbstractStringBuilder") hx hb hts (xLy_at (ci := 10) rfl).1 hown hK hP 0 rfl cl10 0 (by decide) (hts _ lkV) (fun _ h => h) rfl dj_apC_25 ?_
  refine lv_aload_n hx hb dj_apC_28 rfl (lv_at hl 0 rfl) ?_
  refine lv_dup hx hb dj_apC_29 rfl ?_
  refine va_get (ref := "java/lang/AbstractStringBuilder") hx hb hts (xLy_at (ci := 10) rfl).1 hown hK hP 0 rfl cl10 3 (by decide) (hts _ lkN) (fun _ h => h) rfl dj_apC_30 ?_
  refine lv_dup_x1 hx hb dj_apC_33 rfl rfl ?_
  refine lv_iconst (v := 1) hx hb dj_apC_34 (by decide) ?_
  refine lv_iadd hx hb dj_apC_35 ?_
  rw [nI_1]
  have hD : va_D (fun a => FB b da a ∨ N0 ≤ a) (wB ca b da ml n f) := wB_D hne (Or.inl (Or.inl rfl)) (Or.inl (Or.inr rfl))
  refine va_put (ref := "java/lang/AbstractStringBuilder") hx hb hts (xLy_at (ci := 10) rfl).1 tyJ4 tyJ4_ok nmJ4 hown hK hP hD hS 0 rfl cl10 3 (by decide) (hts _ lkN) (fun _ h => h) rfl (tyJ4_ok 3 (by decide)) rfl rfl (Nat.le_of_ble_eq_true rfl) dj_apC_36 (fun H4 locs4 hP hD hS => ?_)
  have hP : va_P D vwCl (wB ca b da ml (n + 1) f) H4 := hP
  have hD : va_D _ (wB ca b da ml (n + 1) f) := hD
  refine lv_iload_n hx hb dj_apC_39 rfl (lv_at hl 1 rfl) ?_
  refine lv_i2b (v := nI c) hx hb dj_apC_40 (nI_b8 c hc) ?_
  refine va_bast hx hb hK hP hD hS 1 2 rfl rfl (vp_in_nI (n := n) (by omega) (by omega)) dj_apC_41 (fun H5 locs5 hP hD hS => ?_)
  rw [nI_clamp (n := n) (by omega), vp_nar_byte, nI_b8 (c) (by omega)] at hP
  have hP : va_P D vwCl (wB ca b da ml (n + 1) (upd f n (nI c))) H5 := hP
  refine lv_goto (tgt := 75) hx hb dj_apC_42 (by decide) ?_
  refine lv_aload_n hx hb dj_apC_75 rfl (lv_at hl 0 rfl) ?_
  exact W.aret hx hb hret (Or.inl ⟨_, rfl⟩) (Or.inr ⟨_, rfl⟩) (fun t ht _ => ⟨_, rfl, ⟨rfl, by rw [ht]; exact hP⟩, jF hS hN0 ht⟩) hS.2.2 dj_apC_76 hlk
theorem j_sbC (ho : o ≤ N0) (hb0 : o ≤ b) (hd0 : o ≤ da) (hne : b ≠ da) (hn : n < 16) (hc : c < 128) : jMet D ca o N0 nSbC prog_17_method_14_code 2 (some (.object "java/lang/StringBuilder")) 2 0 0 [.ref b, .int (nI c)] (wB ca b da ml n f) ks (FB b da) (fun r H => r = some (.ref b) ∧ va_P D vwCl (wB ca b da ml (n + 1) (upd f n (nI c))) H) := by
  refine jMet_of (by decide) (Nat.le_of_ble_eq_true rfl) (fun p l e s m args below meth c_ S hN hK hP hN0 hks hret hlk hnm ls hl => ?_)
  obtain ⟨hx, hb, hml, hown, hts⟩ := id S
  have hl : lv_has ls 2 [(0, .ref b), (1, .int (nI c))] := hl
  have hS : va_S (fun a => (FB b da) a ∨ N0 ≤ a) s.heap s.heap [] := va_S.rf
  have hA0 : ∀ a, a < o → ¬ ((FB b da) a ∨ N0 ≤ a) := fun a ha z => by
    rcases z with z | z
    · rcases z with z | z <;> omega
    · omega
  have hAo : ∀ a, ((FB b da) a ∨ N0 ≤ a) → o ≤ a := fun a z => Nat.not_lt.mp (fun ha => hA0 a ha z)
  have hos : o ≤ s.heap.size := by omega
  refine lv_aload_n hx hb dj_sbC_0 rfl (lv_at hl 0 rfl) ?_
  refine lv_iload_n hx hb dj_sbC_1 rfl (lv_at hl 1 rfl) ?_
  have hH : N0 ≤ s.heap.size := by
    have := hS.1
    omega
  refine jcSU (as := [.int (nI c)]) (rest := []) S (j_apC (Nat.le_trans ho hH) hb0 hd0 hne hn hc) nApC_c (wIn (by decide +kernel)) nApC_i iASB rfl rfl (by decide) (show (parseMethodDescriptor nApC.desc).map (fun d => d.parameters.length) = some 1 from by decide +kernel) hN hK hP (q0 := 0) rfl hP hks hos hA0 hS (fun q z => Or.inl z) (fun q hq => Or.inr (Nat.le_trans hH hq)) dj_sbC_2 (Nat.le_of_ble_eq_true rfl) ⟨Nat.le_of_ble_eq_true rfl, Nat.le_of_ble_eq_true rfl⟩ ⟨Nat.le_of_ble_eq_true rfl, Nat.le_of_ble_eq_true rfl⟩ hl.1 (fun H1 locs1 r1 hr1 hS1 hz1 hk1 => ?_)
  replace hS := hS1
  obtain ⟨hr1, hP⟩ : r1 = some (.ref b) ∧ va_P D vwCl (wB ca b da ml (n + 1) (upd f n (nI c))) H1 := hr1
  subst hr1
  refine lv_pop hx hb dj_sbC_5 rfl ?_
  refine lv_aload_n hx hb dj_sbC_6 rfl (lv_at hl 0 rfl) ?_
  exact W.aret hx hb hret (Or.inl ⟨_, rfl⟩) (Or.inr ⟨_, rfl⟩) (fun t ht _ => ⟨_, rfl, ⟨rfl, by rw [ht]; exact hP⟩, jF hS hN0 ht⟩) hS.2.2 dj_sbC_7 hlk
theorem j_cod (ho : o ≤ N0) (hok : zOk idx tx cs = true) : jMet D ca o N0 nCod prog_16_method_152_code 1 (some .byte) 0 0 0 [.ref sa] [] [(idx, tx, sa)] FN (fun r _ => r = some (.int 0)) := by
  refine jMet_of (by decide) (Nat.le_of_ble_eq_true rfl) (fun p l e s m args below meth c_ S hN hK hP hN0 hks hret hlk hnm ls hl => ?_)
  obtain ⟨hx, hb, hml, hown, hts⟩ := id S
  have hl : lv_has ls 1 [(0, .ref sa)] := hl
  have hS : va_S (fun a => FN a ∨ N0 ≤ a) s.heap s.heap [] := va_S.rf
  have hA0 : ∀ a, a < o → ¬ (FN a ∨ N0 ≤ a) := fun a ha z => by
    rcases z with z | z
    · exact z
    · omega
  have hAo : ∀ a, (FN a ∨ N0 ≤ a) → o ≤ a := fun a z => Nat.not_lt.mp (fun ha => hA0 a ha z)
  have hos : o ≤ s.heap.size := by omega
  have hT : jStr o s sa cs := jStr_of hN hok (hks _ List.mem_cons_self)
  obtain ⟨va, hT1, hT2, hT3, hT4, hT5, hT6, hT7, hT8⟩ := id hT
  refine va_gets (ref := "java/lang/String") hx hb ((zCs hN hts).narrow hAo) hS hown (hts _ lkT) (fun _ h => h) dj_cod_0 ?_
  refine lv_if_eq (tgt := 13) hx hb dj_cod_3 (by decide) (fun hc => absurd hc (by decide)) (fun _ => ?_)
  refine lv_aload_n hx hb dj_cod_6 rfl (lv_at hl 0 rfl) ?_
  refine vk_getf (ref := "java/lang/String") hx hb (hT4.narrow hAo) hS hown (hts _ lkTc) (fun _ h => h) dj_cod_7 ?_
  refine lv_goto (tgt := 14) hx hb dj_cod_10 (by decide) ?_
  exact W.zret (ty := .byte) hx hb hret rfl (fun t ht _ => ⟨_, rfl, rfl, jF hS hN0 ht⟩) hS.2.2 dj_cod_14 hlk
theorem j_len (ho : o ≤ N0) (hok : zOk idx tx cs = true) : jMet D ca o N0 nLen prog_16_method_54_code 1 (some .int) 1 0 0 [.ref sa] [] [(idx, tx, sa)] FN (fun r _ => r = some (.int (nI cs.length))) := by
  refine jMet_of (by decide) (Nat.le_of_ble_eq_true rfl) (fun p l e s m args below meth c_ S hN hK hP hN0 hks hret hlk hnm ls hl => ?_)
  obtain ⟨hx, hb, hml, hown, hts⟩ := id S
  have hl : lv_has ls 1 [(0, .ref sa)] := hl
  have hS : va_S (fun a => FN a ∨ N0 ≤ a) s.heap s.heap [] := va_S.rf
  have hA0 : ∀ a, a < o → ¬ (FN a ∨ N0 ≤ a) := fun a ha z => by
    rcases z with z | z
    · exact z
    · omega
  have hAo : ∀ a, (FN a ∨ N0 ≤ a) → o ≤ a := fun a z => Nat.not_lt.mp (fun ha => hA0 a ha z)
  have hos : o ≤ s.heap.size := by omega
  have hT : jStr o s sa cs := jStr_of hN hok (hks _ List.mem_cons_self)
  obtain ⟨va, hT1, hT2, hT3, hT4, hT5, hT6, hT7, hT8⟩ := id hT
  refine lv_aload_n hx hb dj_len_0 rfl (lv_at hl 0 rfl) ?_
  refine vk_getf (ref := "java/lang/String") hx hb (hT5.narrow hAo) hS hown (hts _ lkTv) (fun _ h => h) dj_len_1 ?_
  refine va_tlen hx hb (hT6.narrow hAo) hS (v := nI cs.length) rfl dj_len_4 ?_
  refine lv_aload_n hx hb dj_len_5 rfl (lv_at hl 0 rfl) ?_
  have hH : N0 ≤ s.heap.size := by
    have := hS.1
    omega
  refine jcT (as := []) (rest := [.int (nI cs.length)]) S (j_cod (Nat.le_trans ho hH) hok) nCod_c (wIn (by decide +kernel)) nCod_i (wIn (by decide +kernel)) iSTR ⟨by decide, by decide, (show (parseMethodDescriptor nCod.desc).map (fun d => d.parameters.length) = some 0 from by decide +kernel)⟩ hN hK hT (fun k q hq => by cases hq) hks hos hA0 hS (fun q z => absurd z id) (fun q hq => Or.inr (Nat.le_trans hH hq)) dj_len_6 (Nat.le_of_ble_eq_true rfl) ⟨Nat.le_of_ble_eq_true rfl, Nat.le_of_ble_eq_true rfl⟩ ⟨Nat.le_of_ble_eq_true rfl, Nat.le_of_ble_eq_true rfl⟩ hl.1 (fun H1 locs1 r1 hr1 hS1 hz1 hk1 => ?_)
  replace hS := hS1
  have hr1 : r1 = some (.int 0) := hr1
  subst hr1
  refine lv_ishr hx hb dj_len_9 ?_
  rw [sb_shr0]
  exact W.iret hx hb hret (fun t ht _ => ⟨_, rfl, rfl, jF hS hN0 ht⟩) hS.2.2 dj_len_10 hlk
theorem j_inf (ho : o ≤ N0) (hok : zOk idx tx cs = true) : jMet D ca o N0 nInf prog_12_method_71_code 2 none 1 0 0 [.ref b, .ref sa] (wB ca b da ml n f) [(idx, tx, sa)] FN (fun r _ => r = none) := by
  refine jMet_of (by decide) (Nat.le_of_ble_eq_true rfl) (fun p l e s m args below meth c_ S hN hK hP hN0 hks hret hlk hnm ls hl => ?_)
  obtain ⟨hx, hb, hml, hown, hts⟩ := id S
  have hl : lv_has ls 2 [(0, .ref b), (1, .ref sa)] := hl
  have hS : va_S (fun a => FN a ∨ N0 ≤ a) s.heap s.heap [] := va_S.rf
  have hA0 : ∀ a, a < o → ¬ (FN a ∨ N0 ≤ a) := fun a ha z => by
    rcases z with z | z
    · exact z
    · omega
  have hAo : ∀ a, (FN a ∨ N0 ≤ a) → o ≤ a := fun a z => Nat.not_lt.mp (fun ha => hA0 a ha z)
  have hos : o ≤ s.heap.size := by omega
  have hT : jStr o s sa cs := jStr_of hN hok (hks _ List.mem_cons_self)
  obtain ⟨va, hT1, hT2, hT3, hT4, hT5, hT6, hT7, hT8⟩ := id hT
  refine va_gets (ref := "java/lang/String") hx hb ((zCs hN hts).narrow hAo) hS hown (hts _ lkS) (fun _ h => h) dj_inf_0 ?_
  refine lv_if_eq (tgt := 21) hx hb dj_inf_3 (by decide) (fun hc => absurd hc (by decide)) (fun _ => ?_)
  refine lv_aload_n hx hb dj_inf_6 rfl (lv_at hl 0 rfl) ?_
  refine va_get (ref := "java/lang/AbstractStringBuilder") hx hb hts (xLy_at (ci := 10) rfl).1 hown hK hP 0 rfl cl10 1 (by decide) (hts _ lkC) (fun _ h => h) rfl dj_inf_7 ?_
  refine lv_aload_n hx hb dj_inf_10 rfl (lv_at hl 1 rfl) ?_
  have hH : N0 ≤ s.heap.size := by
    have := hS.1
    omega
  refine jcT (as := []) (rest := [.int 0]) S (j_cod (Nat.le_trans ho hH) hok) nCod_c (wIn (by decide +kernel)) nCod_i (wIn (by decide +kernel)) iSTR ⟨by decide, by decide, (show (parseMethodDescriptor nCod.desc).map (fun d => d.parameters.length) = some 0 from by decide +kernel)⟩ hN hK hT (fun k q hq => by cases hq) hks hos hA0 hS (fun q z => absurd z id) (fun q hq => Or.inr (Nat.le_trans hH hq)) dj_inf_11 (Nat.le_of_ble_eq_true rfl) ⟨Nat.le_of_ble_eq_true rfl, Nat.le_of_ble_eq_true rfl⟩ ⟨Nat.le_of_ble_eq_true rfl, Nat.le_of_ble_eq_true rfl⟩ hl.1 (fun H1 locs1 r1 hr1 hS1 hz1 hk1 => ?_)
  replace hS := hS1
  have hr1 : r1 = some (.int 0) := hr1
  subst hr1
  refine lv_icmp_eq (tgt := 21) hx hb dj_inf_14 (by decide) (fun _ => ?_) (fun hc => absurd rfl hc)
  exact W.vret hx hb hret (fun t ht _ => ⟨_, rfl, rfl, jF hS hN0 ht⟩) hS.2.2 dj_inf_21 hlk
def SX (D : va_G) (ca : Nat → ClassId) (b da : Nat) (ml : Int32) (n : Nat) (f : Nat → Int32) (cs : List Int32) (H : Heap) : Prop := ∃ f' : Nat → Int32, (∀ j, j < n → f' j = f j) ∧ (∀ j, j < cs.length → f' (n + j) = cs.getD j 0) ∧ (∀ j, n + cs.length ≤ j → f' j = f j) ∧ va_P D vwCl (wB ca b da ml (n + cs.length) f') H
def SA (D : va_G) (ca : Nat → ClassId) (da n : Nat) (f : Nat → Int32) (cs : List Int32) (H : Heap) : Prop := ∃ f' : Nat → Int32, (∀ j, j < n → f' j = f j) ∧ (∀ j, j < cs.length → f' (n + j) = cs.getD j 0) ∧ (∀ j, n + cs.length ≤ j → f' j = f j) ∧ va_P D vwCl (wA ca da f') H
theorem j_gby (ho : o ≤ N0) (hd0 : o ≤ da) (hok : zOk idx tx cs = true) (hn : n + cs.length ≤ 16) : jMet D ca o N0 nGby prog_16_method_147_code 4 none 2 0 0 [.ref sa, .ref da, .int (nI n), .int 0] (wA ca da f) [(idx, tx, sa)] (FD da) (fun r H => r = none ∧ SA D ca da n f cs H) := by
  refine jMet_of (by decide) (Nat.le_of_ble_eq_true rfl) (fun p l e s m args below meth c_ S hN hK hP hN0 hks hret hlk hnm ls hl => ?_)
  obtain ⟨hx, hb, hml, hown, hts⟩ := id S
  have hl : lv_has ls 4 [(0, .ref sa), (1, .ref da), (2, .int (nI n)), (3, .int 0)] := hl
  have hS : va_S (fun a => (FD da) a ∨ N0 ≤ a) s.heap s.heap [] := va_S.rf
  have hA0 : ∀ a, a < o → ¬ ((FD da) a ∨ N0 ≤ a) := fun a ha z => by
    rcases z with z | z
    · have z : a = da := z
      omega
    · omega
  have hAo : ∀ a, ((FD da) a ∨ N0 ≤ a) → o ≤ a := fun a z => Nat.not_lt.mp (fun ha => hA0 a ha z)
  have hos : o ≤ s.heap.size := by omega
  have hT : jStr o s sa cs := jStr_of hN hok (hks _ List.mem_cons_self)
  obtain ⟨va, hT1, hT2, hT3, hT4, hT5, hT6, hT7, hT8⟩ := id hT
  refine lv_aload_n hx hb dj_gby_0 rfl (lv_at hl 0 rfl) ?_
  have hH : N0 ≤ s.heap.size := by
    have := hS.1
    omega
  refine jcT (as := []) (rest := []) S (j_cod (Nat.le_trans ho hH) hok) nCod_c (wIn (by decide +kernel)) nCod_i (wIn (by decide +kernel)) iSTR ⟨by decide, by decide, (show (parseMethodDescriptor nCod.desc).map (fun d => d.parameters.length) = some 0 from by decide +kernel)⟩ hN hK hT (fun k q hq => by cases hq) hks hos hA0 hS (fun q z => absurd z id) (fun q hq => Or.inr (Nat.le_trans hH hq)) dj_gby_1 (Nat.le_of_ble_eq_true rfl) ⟨Nat.le_of_ble_eq_true rfl, Nat.le_of_ble_eq_true rfl⟩ ⟨Nat.le_of_ble_eq_true rfl, Nat.le_of_ble_eq_true rfl⟩ hl.1 (fun H1 locs1 r1 hr1 hS1 hz1 hk1 => ?_)
  replace hS := hS1
  have hr1 : r1 = some (.int 0) := hr1
  subst hr1
  replace hP := wA_keep hP (fun q hq => hk1 q hq id)
  refine lv_iload_n hx hb dj_gby_4 rfl (lv_at hl 3 rfl) ?_
  refine lv_icmp_ne (tgt := 28) hx hb dj_gby_5 (by decide) (fun hc => absurd hc (fun z => z rfl)) (fun _ => ?_)
  refine lv_aload_n hx hb dj_gby_8 rfl (lv_at hl 0 rfl) ?_
  refine vk_getf (ref := "java/lang/String") hx hb (hT5.narrow hAo) hS hown (hts _ lkTv) (fun _ h => h) dj_gby_9 ?_
  refine lv_iconst (v := 0) hx hb dj_gby_12 (by decide) ?_
  refine lv_aload_n hx hb dj_gby_13 rfl (lv_at hl 1 rfl) ?_
  refine lv_iload_n hx hb dj_gby_14 rfl (lv_at hl 2 rfl) ?_
  refine lv_iload_n hx hb dj_gby_15 rfl (lv_at hl 3 rfl) ?_
  refine lv_ishl hx hb dj_gby_16 ?_
  rw [sb_shl0]
  refine lv_aload_n hx hb dj_gby_17 rfl (lv_at hl 0 rfl) ?_
  refine vk_getf (ref := "java/lang/String") hx hb (hT5.narrow hAo) hS hown (hts _ lkTv) (fun _ h => h) dj_gby_18 ?_
  refine va_tlen hx hb (hT6.narrow hAo) hS (v := nI cs.length) rfl dj_gby_21 ?_
  have hD : va_D (fun a => FD da a ∨ N0 ≤ a) (wA ca da f) := wA_D (Or.inl rfl)
  have e1 : (nI cs.length).toNatClampNeg = cs.length := nI_clamp (by omega)
  have e2 : (nI n).toNatClampNeg = n := nI_clamp (by omega)
  refine vk_copyt hx hb (hml.trans hl.1.symm) hown (hts _ (wIn (by decide +kernel))) (hts _ (wIn (by decide +kernel))) (hts _ (wIn (by decide +kernel))) (hts _ (wIn (by decide +kernel))) hK hP hD hS (hT6.narrow hAo) 0 2 rfl rfl (by decide) (nI_pos (by omega)) (nI_pos (by omega)) (by rw [e1, sb_cl0]; omega) (by rw [e1, e2]; exact hn) (fun i hi => ?_) (Nat.le_of_ble_eq_true rfl) (by decide +kernel) dj_gby_22 (fun H9 locs9 hP hD hS => ?_)
  · rw [sb_cl0, Nat.zero_add]
    rw [e1] at hi
    exact hT7 i hi
  rw [e1, e2, sb_cl0] at hP
  refine lv_goto (tgt := 43) hx hb dj_gby_25 (by decide) ?_
  have hP : va_P D vwCl (wA ca da (va_cpy (fun j => cs.getD j 0) f 0 n cs.length)) H9 := hP
  exact W.vret hx hb hret (fun t ht _ => ⟨_, rfl, ⟨rfl, va_cpy (fun j => cs.getD j 0) f 0 n cs.length, fun j hj => (if_neg (by omega) : (if n ≤ j ∧ j < n + cs.length then cs.getD (0 + (j - n)) 0 else f j) = f j), fun j hj => (if_pos (by omega) : (if n ≤ n + j ∧ n + j < n + cs.length then cs.getD (0 + (n + j - n)) 0 else f (n + j)) = cs.getD (0 + (n + j - n)) 0).trans (by rw [Nat.zero_add, Nat.add_sub_cancel_left]), fun j hj => (if_neg (by omega) : (if n ≤ j ∧ j < n + cs.length then cs.getD (0 + (j - n)) 0 else f j) = f j), by rw [ht]; exact hP⟩, jF hS hN0 ht⟩) hS.2.2 dj_gby_43 hlk
theorem j_pst (ho : o ≤ N0) (hb0 : o ≤ b) (hd0 : o ≤ da) (hne : b ≠ da) (hok : zOk idx tx cs = true) (hn : n + cs.length ≤ 16) : jMet D ca o N0 nPst prog_12_method_73_code 3 none 3 0 0 [.ref b, .int (nI n), .ref sa] (wB ca b da ml n f) [(idx, tx, sa)] (FD da) (fun r H => r = none ∧ ∃ f' : Nat → Int32, (∀ j, j < n → f' j = f j) ∧ (∀ j, j < cs.length → f' (n + j) = cs.getD j 0) ∧ (∀ j, n + cs.length ≤ j → f' j = f j) ∧ va_P D vwCl (wB ca b da ml n f') H) := by
  refine jMet_of (by decide) (Nat.le_of_ble_eq_true rfl) (fun p l e s m args below meth c_ S hN hK hP hN0 hks hret hlk hnm ls hl => ?_)
  obtain ⟨hx, hb, hml, hown, hts⟩ := id S
  have hl : lv_has ls 3 [(0, .ref b), (1, .int (nI n)), (2, .ref sa)] := hl
  have hS : va_S (fun a => (FD da) a ∨ N0 ≤ a) s.heap s.heap [] := va_S.rf
  have hA0 : ∀ a, a < o → ¬ ((FD da) a ∨ N0 ≤ a) := fun a ha z => by
    rcases z with z | z
    · have z : a = da := z
      omega
    · omega
  have hAo : ∀ a, ((FD da) a ∨ N0 ≤ a) → o ≤ a := fun a z => Nat.not_lt.mp (fun ha => hA0 a ha z)
  have hos : o ≤ s.heap.size := by omega
  have hT : jStr o s sa cs := jStr_of hN hok (hks _ List.mem_cons_self)
  obtain ⟨va, hT1, hT2, hT3, hT4, hT5, hT6, hT7, hT8⟩ := id hT
  refine lv_aload_n hx hb dj_pst_0 rfl (lv_at hl 0 rfl) ?_
  refine lv_aload_n hx hb dj_pst_1 rfl (lv_at hl 2 rfl) ?_
  have hH : N0 ≤ s.heap.size := by
    have := hS.1
    omega
  refine jcU (as := [.ref sa]) (rest := []) S (j_inf (ml := ml) (n := n) (f := f) (Nat.le_trans ho hH) hok) nInf_c (wIn (by decide +kernel)) nInf_i iASB rfl (show (parseMethodDescriptor nInf.desc).map (fun d => d.parameters.length) = some 1 from by decide +kernel) (jSelP (by1 := prog_12_method_71_code) (n := 2) (ret := none) hN (by decide +kernel) rfl (by decide +kernel) (by decide +kernel)) hN hK hP (q0 := 0) rfl hP hks hos hA0 hS (fun q z => absurd z id) (fun q hq => Or.inr (Nat.le_trans hH hq)) dj_pst_2 (Nat.le_of_ble_eq_true rfl) ⟨Nat.le_of_ble_eq_true rfl, Nat.le_of_ble_eq_true rfl⟩ ⟨Nat.le_of_ble_eq_true rfl, Nat.le_of_ble_eq_true rfl⟩ hl.1 (fun H1 locs1 r1 hr1 hS1 hz1 hk1 => ?_)
  replace hS := hS1
  have hr1 : r1 = none := hr1
  subst hr1
  replace hP := wB_keep hP (fun q hq => hk1 q hq id)
  refine lv_aload_n hx hb dj_pst_5 rfl (lv_at hl 2 rfl) ?_
  refine lv_aload_n hx hb dj_pst_6 rfl (lv_at hl 0 rfl) ?_
  refine va_get (ref := "java/lang/AbstractStringBuilder") hx hb hts (xLy_at (ci := 10) rfl).1 hown hK hP 0 rfl cl10 0 (by decide) (hts _ lkV) (fun _ h => h) rfl dj_pst_7 ?_
  refine lv_iload_n hx hb dj_pst_10 rfl (lv_at hl 1 rfl) ?_
  refine lv_aload_n hx hb dj_pst_11 rfl (lv_at hl 0 rfl) ?_
  refine va_get (ref := "java/lang/AbstractStringBuilder") hx hb hts (xLy_at (ci := 10) rfl).1 hown hK hP 0 rfl cl10 1 (by decide) (hts _ lkC) (fun _ h => h) rfl dj_pst_12 ?_
  have hH : N0 ≤ H1.size := by
    have := hS.1
    omega
  refine jcT (as := [.ref da, .int (nI n), .int 0]) (rest := []) S (j_gby (Nat.le_trans ho hH) hd0 hok hn) nGby_c (wIn (by decide +kernel)) nGby_i (wIn (by decide +kernel)) iSTR ⟨by decide, by decide, (show (parseMethodDescriptor nGby.desc).map (fun d => d.parameters.length) = some 3 from by decide +kernel)⟩ hN hK hT (wB_a hP) hks hos hA0 hS (fun q z => Or.inl z) (fun q hq => Or.inr (Nat.le_trans hH hq)) dj_pst_15 (Nat.le_of_ble_eq_true rfl) ⟨Nat.le_of_ble_eq_true rfl, Nat.le_of_ble_eq_true rfl⟩ ⟨Nat.le_of_ble_eq_true rfl, Nat.le_of_ble_eq_true rfl⟩ hl.1 (fun H2 locs2 r2 hr2 hS2 hz2 hk2 => ?_)
  replace hS := hS2
  obtain ⟨hr2, f', hf1, hf2, hf3, hPa⟩ : r2 = none ∧ SA D ca da n f cs H2 := hr2
  subst hr2
  replace hP := wB_put hP (hk2 b (hP 0 _ rfl).lt (fun z => hne z)) hPa
  exact W.vret hx hb hret (fun t ht _ => ⟨_, rfl, ⟨rfl, f', hf1, hf2, hf3, by rw [ht]; exact hP⟩, jF hS hN0 ht⟩) hS.2.2 dj_pst_18 hlk
theorem j_apS (ho : o ≤ N0) (hb0 : o ≤ b) (hd0 : o ≤ da) (hne : b ≠ da) (hok : zOk idx tx cs = true) (hn : n + cs.length ≤ 16) : jMet D ca o N0 nApS prog_12_method_22_code 3 (some (.object "java/lang/AbstractStringBuilder")) 4 0 0 [.ref b, .ref sa] (wB ca b da ml n f) [(idx, tx, sa)] (FB b da) (fun r H => r = some (.ref b) ∧ SX D ca b da ml n f cs H) := by
  refine jMet_of (by decide) (Nat.le_of_ble_eq_true rfl) (fun p l e s m args below meth c_ S hN hK hP hN0 hks hret hlk hnm ls hl => ?_)
  obtain ⟨hx, hb, hml, hown, hts⟩ := id S
  have hl : lv_has ls 3 [(0, .ref b), (1, .ref sa)] := hl
  have hS : va_S (fun a => (FB b da) a ∨ N0 ≤ a) s.heap s.heap [] := va_S.rf
  have hA0 : ∀ a, a < o → ¬ ((FB b da) a ∨ N0 ≤ a) := fun a ha z => by
    rcases z with z | z
    · rcases z with z | z <;> omega
    · omega
  have hAo : ∀ a, ((FB b da) a ∨ N0 ≤ a) → o ≤ a := fun a z => Nat.not_lt.mp (fun ha => hA0 a ha z)
  have hos : o ≤ s.heap.size := by omega
  have hT : jStr o s sa cs := jStr_of hN hok (hks _ List.mem_cons_self)
  obtain ⟨va, hT1, hT2, hT3, hT4, hT5, hT6, hT7, hT8⟩ := id hT
  refine lv_aload_n hx hb dj_apS_0 rfl (lv_at hl 1 rfl) ?_
  refine lv_ifnonnull (tgt := 9) hx hb dj_apS_1 (by decide) ?_
  refine lv_aload_n hx hb dj_apS_9 rfl (lv_at hl 1 rfl) ?_
  have hH : N0 ≤ s.heap.size := by
    have := hS.1
    omega
  refine jcT (as := []) (rest := []) S (j_len (Nat.le_trans ho hH) hok) nLen_c (wIn (by decide +kernel)) nLen_i (wIn (by decide +kernel)) iSTR ⟨by decide, by decide, (show (parseMethodDescriptor nLen.desc).map (fun d => d.parameters.length) = some 0 from by decide +kernel)⟩ hN hK hT (fun k q hq => by cases hq) hks hos hA0 hS (fun q z => absurd z id) (fun q hq => Or.inr (Nat.le_trans hH hq)) dj_apS_10 (Nat.le_of_ble_eq_true rfl) ⟨Nat.le_of_ble_eq_true rfl, Nat.le_of_ble_eq_true rfl⟩ ⟨Nat.le_of_ble_eq_true rfl, Nat.le_of_ble_eq_true rfl⟩ hl.1 (fun H1 locs1 r1 hr1 hS1 hz1 hk1 => ?_)
  replace hS := hS1
  have hr1 : r1 = some (.int (nI cs.length)) := hr1
  subst hr1
  replace hP := wB_keep hP (fun q hq => hk1 q hq id)
  refine lv_istore_n hx hb dj_apS_13 rfl hl (by decide) rfl (fun ls hl => ?_)
  have hl : lv_has ls 3 [(2, .int (nI cs.length)), (0, .ref b), (1, .ref sa)] := hl
  refine lv_aload_n hx hb dj_apS_14 rfl (lv_at hl 1 rfl) ?_
  refine lv_aload_n hx hb dj_apS_15 rfl (lv_at hl 1 rfl) ?_
  refine va_get (ref := "java/lang/AbstractStringBuilder") hx hb hts (xLy_at (ci := 10) rfl).1 hown hK hP 0 rfl cl10 3 (by decide) (hts _ lkN) (fun _ h => h) rfl dj_apS_16 ?_
  refine lv_iload_n hx hb dj_apS_19 rfl (lv_at hl 0 rfl) ?_
  refine lv_iadd hx hb dj_apS_20 ?_
  rw [nI_add]
  have hH : N0 ≤ H1.size := by
    have := hS.1
    omega
  refine jcU (as := [.int (nI (n + cs.length))]) (rest := []) S (j_ens (ml := ml) (n := n) (f := f) (k := n + cs.length) (Nat.le_trans ho hH) (by omega)) nEns_c (wIn (by decide +kernel)) nEns_i iASB rfl (show (parseMethodDescriptor nEns.desc).map (fun d => d.parameters.length) = some 1 from by decide +kernel) (jSelP (by1 := prog_12_method_9_code) (n := 3) (ret := none) hN (by decide +kernel) rfl (by decide +kernel) (by decide +kernel)) hN hK hP (q0 := 0) rfl hP hks hos hA0 hS (fun q z => absurd z id) (fun q hq => Or.inr (Nat.le_trans hH hq)) dj_apS_21 (Nat.le_of_ble_eq_true rfl) ⟨Nat.le_of_ble_eq_true rfl, Nat.le_of_ble_eq_true rfl⟩ ⟨Nat.le_of_ble_eq_true rfl, Nat.le_of_ble_eq_true rfl⟩ hl.1 (fun H2 locs2 r2 hr2 hS2 hz2 hk2 => ?_)
  replace hS := hS2
  have hr2 : r2 = none := hr2
  subst hr2
  replace hP := wB_keep hP (fun q hq => hk2 q hq id)
  refine lv_aload_n hx hb dj_apS_24 rfl (lv_at hl 1 rfl) ?_
  refine lv_aload_n hx hb dj_apS_25 rfl (lv_at hl 1 rfl) ?_
  refine va_get (ref := "java/lang/AbstractStringBuilder") hx hb hts (xLy_at (ci := 10) rfl).1 hown hK hP 0 rfl cl10 3 (by decide) (hts _ lkN) (fun _ h => h) rfl dj_apS_26 ?_
  refine lv_aload_n hx hb dj_apS_29 rfl (lv_at hl 2 rfl) ?_
  have hH : N0 ≤ H2.size := by
    have := hS.1
    omega
  refine jcU (as := [.int (nI n), .ref sa]) (rest := []) S (j_pst (Nat.le_trans ho hH) hb0 hd0 hne hok hn) nPst_c (wIn (by decide +kernel)) nPst_i iASB rfl (show (parseMethodDescriptor nPst.desc).map (fun d => d.parameters.length) = some 2 from by decide +kernel) (jSelP (by1 := prog_12_method_73_code) (n := 3) (ret := none) hN (by decide +kernel) rfl (by decide +kernel) (by decide +kernel)) hN hK hP (q0 := 0) rfl hP hks hos hA0 hS (fun q z => Or.inl (Or.inr z)) (fun q hq => Or.inr (Nat.le_trans hH hq)) dj_apS_30 (Nat.le_of_ble_eq_true rfl) ⟨Nat.le_of_ble_eq_true rfl, Nat.le_of_ble_eq_true rfl⟩ ⟨Nat.le_of_ble_eq_true rfl, Nat.le_of_ble_eq_true rfl⟩ hl.1 (fun H3 locs3 r3 hr3 hS3 hz3 hk3 => ?_)
  replace hS := hS3
  obtain ⟨hr3, f', hf1, hf2, hf3, hP⟩ : r3 = none ∧ ∃ f' : Nat → Int32, (∀ j, j < n → f' j = f j) ∧ (∀ j, j < cs.length → f' (n + j) = cs.getD j 0) ∧ (∀ j, n + cs.length ≤ j → f' j = f j) ∧ va_P D vwCl (wB ca b da ml n f') H3 := hr3
  subst hr3
  refine lv_aload_n hx hb dj_apS_33 rfl (lv_at hl 1 rfl) ?_
  refine lv_dup hx hb dj_apS_34 rfl ?_
  refine va_get (ref := "java/lang/AbstractStringBuilder") hx hb hts (xLy_at (ci := 10) rfl).1 hown hK hP 0 rfl cl10 3 (by decide) (hts _ lkN) (fun _ h => h) rfl dj_apS_35 ?_
  refine lv_iload_n hx hb dj_apS_38 rfl (lv_at hl 0 rfl) ?_
  refine lv_iadd hx hb dj_apS_39 ?_
  rw [nI_add]
  have hD : va_D (fun a => FB b da a ∨ N0 ≤ a) (wB ca b da ml n f') := wB_D hne (Or.inl (Or.inl rfl)) (Or.inl (Or.inr rfl))
  refine va_put (ref := "java/lang/AbstractStringBuilder") hx hb hts (xLy_at (ci := 10) rfl).1 tyJ4 tyJ4_ok nmJ4 hown hK hP hD hS 0 rfl cl10 3 (by decide) (hts _ lkN) (fun _ h => h) rfl (tyJ4_ok 3 (by decide)) rfl rfl (Nat.le_of_ble_eq_true rfl) dj_apS_40 (fun H4 locs4 hP hD hS => ?_)
  have hP : va_P D vwCl (wB ca b da ml (n + cs.length) f') H4 := hP
  have hD : va_D _ (wB ca b da ml (n + cs.length) f') := hD
  refine lv_aload_n hx hb dj_apS_43 rfl (lv_at hl 1 rfl) ?_
  exact W.aret hx hb hret (Or.inl ⟨_, rfl⟩) (Or.inr ⟨_, rfl⟩) (fun t ht _ => ⟨_, rfl, ⟨rfl, f', hf1, hf2, hf3, by rw [ht]; exact hP⟩, jF hS hN0 ht⟩) hS.2.2 dj_apS_44 hlk
theorem j_sbS (ho : o ≤ N0) (hb0 : o ≤ b) (hd0 : o ≤ da) (hne : b ≠ da) (hok : zOk idx tx cs = true) (hn : n + cs.length ≤ 16) : jMet D ca o N0 nSbS prog_17_method_7_code 2 (some (.object "java/lang/StringBuilder")) 5 0 0 [.ref b, .ref sa] (wB ca b da ml n f) [(idx, tx, sa)] (FB b da) (fun r H => r = some (.ref b) ∧ SX D ca b da ml n f cs H) := by
  refine jMet_of (by decide) (Nat.le_of_ble_eq_true rfl) (fun p l e s m args below meth c_ S hN hK hP hN0 hks hret hlk hnm ls hl => ?_)
  obtain ⟨hx, hb, hml, hown, hts⟩ := id S
  have hl : lv_has ls 2 [(0, .ref b), (1, .ref sa)] := hl
  have hS : va_S (fun a => (FB b da) a ∨ N0 ≤ a) s.heap s.heap [] := va_S.rf
  have hA0 : ∀ a, a < o → ¬ ((FB b da) a ∨ N0 ≤ a) := fun a ha z => by
    rcases z with z | z
    · rcases z with z | z <;> omega
    · omega
  have hAo : ∀ a, ((FB b da) a ∨ N0 ≤ a) → o ≤ a := fun a z => Nat.not_lt.mp (fun ha => hA0 a ha z)
  have hos : o ≤ s.heap.size := by omega
  have hT : jStr o s sa cs := jStr_of hN hok (hks _ List.mem_cons_self)
  obtain ⟨va, hT1, hT2, hT3, hT4, hT5, hT6, hT7, hT8⟩ := id hT
  refine lv_aload_n hx hb dj_sbS_0 rfl (lv_at hl 0 rfl) ?_
  refine lv_aload_n hx hb dj_sbS_1 rfl (lv_at hl 1 rfl) ?_
  have hH : N0 ≤ s.heap.size := by
    have := hS.1
    omega
  refine jcSU (as := [.ref sa]) (rest := []) S (j_apS (Nat.le_trans ho hH) hb0 hd0 hne hok hn) nApS_c (wIn (by decide +kernel)) nApS_i iASB rfl rfl (by decide) (show (parseMethodDescriptor nApS.desc).map (fun d => d.parameters.length) = some 1 from by decide +kernel) hN hK hP (q0 := 0) rfl hP hks hos hA0 hS (fun q z => Or.inl z) (fun q hq => Or.inr (Nat.le_trans hH hq)) dj_sbS_2 (Nat.le_of_ble_eq_true rfl) ⟨Nat.le_of_ble_eq_true rfl, Nat.le_of_ble_eq_true rfl⟩ ⟨Nat.le_of_ble_eq_true rfl, Nat.le_of_ble_eq_true rfl⟩ hl.1 (fun H1 locs1 r1 hr1 hS1 hz1 hk1 => ?_)
  replace hS := hS1
  obtain ⟨hr1, f', hf1, hf2, hf3, hP⟩ : r1 = some (.ref b) ∧ SX D ca b da ml n f cs H1 := hr1
  subst hr1
  refine lv_pop hx hb dj_sbS_5 rfl ?_
  refine lv_aload_n hx hb dj_sbS_6 rfl (lv_at hl 0 rfl) ?_
  exact W.aret hx hb hret (Or.inl ⟨_, rfl⟩) (Or.inr ⟨_, rfl⟩) (fun t ht _ => ⟨_, rfl, ⟨rfl, f', hf1, hf2, hf3, by rw [ht]; exact hP⟩, jF hS hN0 ht⟩) hS.2.2 dj_sbS_7 hlk
theorem j_ssz (ho : o ≤ N0) (hv : v < 10) : jMet D ca o N0 nSsz prog_14_method_13_code 4 (some .int) 0 0 0 [.int (nI v)] [] ks FN (fun r _ => r = some (.int 1)) := by
  refine jMet_of (by decide) (Nat.le_of_ble_eq_true rfl) (fun p l e s m args below meth c_ S hN hK hP hN0 hks hret hlk hnm ls hl => ?_)
  obtain ⟨hx, hb, hml, hown, hts⟩ := id S
  have hl : lv_has ls 4 [(0, .int (nI v))] := hl
  have hS : va_S (fun a => FN a ∨ N0 ≤ a) s.heap s.heap [] := va_S.rf
  have hA0 : ∀ a, a < o → ¬ (FN a ∨ N0 ≤ a) := fun a ha z => by
    rcases z with z | z
    · exact z
    · omega
  have hAo : ∀ a, (FN a ∨ N0 ≤ a) → o ≤ a := fun a z => Nat.not_lt.mp (fun ha => hA0 a ha z)
  have hos : o ≤ s.heap.size := by omega
  refine lv_iconst (v := 1) hx hb dj_ssz_0 (by decide) ?_
  refine lv_istore_n hx hb dj_ssz_1 rfl hl (by decide) rfl (fun ls hl => ?_)
  have hl : lv_has ls 4 [(1, .int 1), (0, .int (nI v))] := hl
  refine lv_iload_n hx hb dj_ssz_2 rfl (lv_at hl 1 rfl) ?_
  refine lv_if_lt (tgt := 11) hx hb dj_ssz_3 (by decide) (fun hc => absurd hc (nI_pos (by omega))) (fun _ => ?_)
  refine lv_iconst (v := 0) hx hb dj_ssz_6 (by decide) ?_
  refine lv_istore_n hx hb dj_ssz_7 rfl hl (by decide) rfl (fun ls hl => ?_)
  have hl : lv_has ls 4 [(1, .int 0), (0, .int (nI v))] := hl
  refine lv_iload_n hx hb dj_ssz_8 rfl (lv_at hl 1 rfl) ?_
  refine lv_ineg hx hb dj_ssz_9 ?_
  refine lv_istore_n hx hb dj_ssz_10 rfl hl (by decide) rfl (fun ls hl => ?_)
  have hl : lv_has ls 4 [(0, .int (-nI v)), (1, .int 0)] := hl
  refine lv_bipush (v := -10) hx hb dj_ssz_11 (by decide) ?_
  refine lv_istore_n hx hb dj_ssz_13 rfl hl (by decide) rfl (fun ls hl => ?_)
  have hl : lv_has ls 4 [(2, .int (-10)), (0, .int (-nI v)), (1, .int 0)] := hl
  refine lv_iconst (v := 1) hx hb dj_ssz_14 (by decide) ?_
  refine lv_istore_n hx hb dj_ssz_15 rfl hl (by decide) rfl (fun ls hl => ?_)
  have hl : lv_has ls 4 [(3, .int 1), (2, .int (-10)), (0, .int (-nI v)), (1, .int 0)] := hl
  refine lv_iload_n hx hb dj_ssz_16 rfl (lv_at hl 0 rfl) ?_
  refine lv_bipush (v := 10) hx hb dj_ssz_17 (by decide) ?_
  refine lv_icmp_ge (tgt := 42) hx hb dj_ssz_19 (by decide) (fun hc => absurd hc (by decide)) (fun _ => ?_)
  refine lv_iload_n hx hb dj_ssz_22 rfl (lv_at hl 2 rfl) ?_
  refine lv_iload_n hx hb dj_ssz_23 rfl (lv_at hl 1 rfl) ?_
  have e1 : ¬ -nI v ≤ -10 := fun z => by
    rw [Int32.le_iff_toInt_le, sb_negT (by omega), show (-10 : Int32).toInt = -10 from by decide] at z
    omega
  refine lv_icmp_le (tgt := 31) hx hb dj_ssz_24 (by decide) (fun hc => absurd hc e1) (fun _ => ?_)
  refine lv_iload_n hx hb dj_ssz_27 rfl (lv_at hl 0 rfl) ?_
  refine lv_iload_n hx hb dj_ssz_28 rfl (lv_at hl 3 rfl) ?_
  refine lv_iadd hx hb dj_ssz_29 ?_
  rw [show (1 : Int32) + 0 = 1 from by decide]
  exact W.iret hx hb hret (fun t ht _ => ⟨_, rfl, rfl, jF hS hN0 ht⟩) hS.2.2 dj_ssz_30 hlk
theorem j_gch (ho : o ≤ N0) (hd0 : o ≤ da) (hv : v < 10) (hk : 0 < k ∧ k ≤ 16) : jMet D ca o N0 nGch prog_14_method_12_code 7 (some .int) 0 0 0 [.int (nI v), .int (nI k), .ref da] (wA ca da f) ks (FD da) (fun r H => (∃ z, r = some (.int z)) ∧ va_P D vwCl (wA ca da (upd f (k - 1) (nI (48 + v)))) H) := by
  refine jMet_of (by decide) (Nat.le_of_ble_eq_true rfl) (fun p l e s m args below meth c_ S hN hK hP hN0 hks hret hlk hnm ls hl => ?_)
  obtain ⟨hx, hb, hml, hown, hts⟩ := id S
  have hl : lv_has ls 7 [(0, .int (nI v)), (1, .int (nI k)), (2, .ref da)] := hl
  have hS : va_S (fun a => (FD da) a ∨ N0 ≤ a) s.heap s.heap [] := va_S.rf
  have hA0 : ∀ a, a < o → ¬ ((FD da) a ∨ N0 ≤ a) := fun a ha z => by
    rcases z with z | z
    · have z : a = da := z
      omega
    · omega
  have hAo : ∀ a, ((FD da) a ∨ N0 ≤ a) → o ≤ a := fun a z => Nat.not_lt.mp (fun ha => hA0 a ha z)
  have hos : o ≤ s.heap.size := by omega
  obtain ⟨d1, hZ1, hZ2⟩ := zDg hN hts
  refine lv_iload_n hx hb dj_gch_0 rfl (lv_at hl 1 rfl) ?_
  refine lv_istore hx hb dj_gch_1 hl (by decide) rfl (fun ls hl => ?_)
  have hl : lv_has ls 7 [(5, .int (nI k)), (0, .int (nI v)), (1, .int (nI k)), (2, .ref da)] := hl
  refine lv_iload_n hx hb dj_gch_3 rfl (lv_at hl 1 rfl) ?_
  refine lv_if_ge (tgt := 11) hx hb dj_gch_4 (by decide) (fun _ => ?_) (fun hc => absurd (nI_pos' (by omega)) hc)
  refine lv_iconst (v := 0) hx hb dj_gch_11 (by decide) ?_
  refine lv_istore hx hb dj_gch_12 hl (by decide) rfl (fun ls hl => ?_)
  have hl : lv_has ls 7 [(6, .int 0), (5, .int (nI k)), (0, .int (nI v)), (1, .int (nI k)), (2, .ref da)] := hl
  refine lv_iload hx hb dj_gch_14 (lv_at hl 0 rfl) ?_
  refine lv_if_ne (tgt := 22) hx hb dj_gch_16 (by decide) (fun hc => absurd hc (fun z => z rfl)) (fun _ => ?_)
  refine lv_iload_n hx hb dj_gch_19 rfl (lv_at hl 2 rfl) ?_
  refine lv_ineg hx hb dj_gch_20 ?_
  refine lv_istore_n hx hb dj_gch_21 rfl hl (by decide) rfl (fun ls hl => ?_)
  have hl : lv_has ls 7 [(0, .int (-nI v)), (6, .int 0), (5, .int (nI k)), (1, .int (nI k)), (2, .ref da)] := hl
  refine lv_iload_n hx hb dj_gch_22 rfl (lv_at hl 0 rfl) ?_
  refine lv_bipush (v := -100) hx hb dj_gch_23 (by decide) ?_
  have e1 : (-100 : Int32) < -nI v := by
    rw [Int32.lt_iff_toInt_lt, sb_negT (by omega), show (-100 : Int32).toInt = -100 from by decide]
    omega
  refine lv_icmp_gt (tgt := 72) hx hb dj_gch_25 (by decide) (fun _ => ?_) (fun hc => absurd e1 hc)
  refine lv_aload_n hx hb dj_gch_72 rfl (lv_at hl 4 rfl) ?_
  refine lv_iinc (v := nI (k - 1)) hx hb dj_gch_73 hl (k := 2) rfl (by rw [show Int32.ofInt (-1) = (-1 : Int32) from by decide]; exact sb_m1 hk.1) (by decide) rfl (fun ls hl => ?_)
  have hl : lv_has ls 7 [(5, .int (nI (k - 1))), (0, .int (-nI v)), (6, .int 0), (1, .int (nI k)), (2, .ref da)] := hl
  refine lv_iload hx hb dj_gch_76 (lv_at hl 0 rfl) ?_
  refine va_gets (ref := "java/lang/Integer") hx hb (hZ1.narrow hAo) hS hown (hts _ lkD) (fun _ h => h) dj_gch_78 ?_
  refine lv_iload_n hx hb dj_gch_81 rfl (lv_at hl 1 rfl) ?_
  refine lv_ineg hx hb dj_gch_82 ?_
  rw [Int32.neg_neg]
  refine va_tb hx hb (hZ2.narrow hAo) hS (vp_in_nI (n := v) (by omega) (by omega)) (v := .int (nI (48 + v))) (by rw [nI_clamp (n := v) (by omega), Nat.mod_eq_of_lt hv]) dj_gch_83 ?_
  have hD : va_D (fun a => FD da a ∨ N0 ≤ a) (wA ca da f) := wA_D (Or.inl rfl)
  refine va_bast hx hb hK hP hD hS 0 2 rfl rfl (vp_in_nI (n := k - 1) (by omega) (by omega)) dj_gch_84 (fun H1 locs1 hP hD hS => ?_)
  rw [nI_clamp (n := k - 1) (by omega), vp_nar_byte, nI_b8 (48 + v) (by omega)] at hP
  have hP : va_P D vwCl (wA ca da (upd f (k - 1) (nI (48 + v)))) H1 := hP
  refine lv_iload_n hx hb dj_gch_85 rfl (lv_at hl 1 rfl) ?_
  refine lv_bipush (v := -9) hx hb dj_gch_86 (by decide) ?_
  have e2 : (-9 : Int32) ≤ -nI v := by
    rw [Int32.le_iff_toInt_le, sb_negT (by omega), show (-9 : Int32).toInt = -9 from by decide]
    omega
  refine lv_icmp_ge (tgt := 104) hx hb dj_gch_88 (by decide) (fun _ => ?_) (fun hc => absurd e2 hc)
  refine lv_iload hx hb dj_gch_104 (lv_at hl 2 rfl) ?_
  refine lv_if_eq (tgt := 118) hx hb dj_gch_106 (by decide) (fun _ => ?_) (fun hc => absurd rfl hc)
  refine lv_iload hx hb dj_gch_118 (lv_at hl 0 rfl) ?_
  exact W.iret hx hb hret (fun t ht _ => ⟨_, rfl, ⟨⟨_, rfl⟩, by rw [ht]; exact hP⟩, jF hS hN0 ht⟩) hS.2.2 dj_gch_120 hlk
theorem j_apI (ho : o ≤ N0) (hb0 : o ≤ b) (hd0 : o ≤ da) (hne : b ≠ da) (hn : n < 16) (hv : v < 10) : jMet D ca o N0 nApI prog_12_method_32_code 4 (some (.object "java/lang/AbstractStringBuilder")) 1 0 0 [.ref b, .int (nI v)] (wB ca b da ml n f) ks (FB b da) (fun r H => r = some (.ref b) ∧ va_P D vwCl (wB ca b da ml (n + 1) (upd f n (nI (48 + v)))) H) := by
  refine jMet_of (by decide) (Nat.le_of_ble_eq_true rfl) (fun p l e s m args below meth c_ S hN hK hP hN0 hks hret hlk hnm ls hl => ?_)
  obtain ⟨hx, hb, hml, hown, hts⟩ := id S
  have hl : lv_has ls 4 [(0, .ref b), (1, .int (nI v))] := hl
  have hS : va_S (fun a => (FB b da) a ∨ N0 ≤ a) s.heap s.heap [] := va_S.rf
  have hA0 : ∀ a, a < o → ¬ ((FB b da) a ∨ N0 ≤ a) := fun a ha z => by
    rcases z with z | z
    · rcases z with z | z <;> omega
    · omega
  have hAo : ∀ a, ((FB b da) a ∨ N0 ≤ a) → o ≤ a := fun a z => Nat.not_lt.mp (fun ha => hA0 a ha z)
  have hos : o ≤ s.heap.size := by omega
  refine lv_aload_n hx hb dj_apI_0 rfl (lv_at hl 0 rfl) ?_
  refine va_get (ref := "java/lang/AbstractStringBuilder") hx hb hts (xLy_at (ci := 10) rfl).1 hown hK hP 0 rfl cl10 3 (by decide) (hts _ lkN) (fun _ h => h) rfl dj_apI_1 ?_
  refine lv_istore_n hx hb dj_apI_4 rfl hl (by decide) rfl (fun ls hl => ?_)
  have hl : lv_has ls 4 [(2, .int (nI n)), (0, .ref b), (1, .int (nI v))] := hl
  refine lv_iload_n hx hb dj_apI_5 rfl (lv_at hl 0 rfl) ?_
  refine lv_iload_n hx hb dj_apI_6 rfl (lv_at hl 2 rfl) ?_
  have hH : N0 ≤ s.heap.size := by
    have := hS.1
    omega
  refine jcS (as := [.int (nI v)]) (rest := [.int (nI n)]) S (j_ssz (v := v) (Nat.le_trans ho hH) hv) nSsz_c (wIn (by decide +kernel)) nSsz_s iINT ⟨by decide, by decide, (show (parseMethodDescriptor nSsz.desc).map (fun d => d.parameters.length) = some 1 from by decide +kernel)⟩ hN hK (fun k q hq => by cases hq) hks hos hA0 hS (fun q z => absurd z id) (fun q hq => Or.inr (Nat.le_trans hH hq)) dj_apI_7 (Nat.le_of_ble_eq_true rfl) ⟨Nat.le_of_ble_eq_true rfl, Nat.le_of_ble_eq_true rfl⟩ ⟨Nat.le_of_ble_eq_true rfl, Nat.le_of_ble_eq_true rfl⟩ hl.1 (fun H1 locs1 r1 hr1 hS1 hz1 hk1 => ?_)
  replace hS := hS1
  have hr1 : r1 = some (.int 1) := hr1
  subst hr1
  replace hP := wB_keep hP (fun q hq => hk1 q hq id)
  refine lv_iadd hx hb dj_apI_10 ?_
  rw [nI_1]
  refine lv_istore_n hx hb dj_apI_11 rfl hl (by decide) rfl (fun ls hl => ?_)
  have hl : lv_has ls 4 [(3, .int (nI (n + 1))), (2, .int (nI n)), (0, .ref b), (1, .int (nI v))] := hl
  refine lv_aload_n hx hb dj_apI_12 rfl (lv_at hl 2 rfl) ?_
  refine lv_iload_n hx hb dj_apI_13 rfl (lv_at hl 0 rfl) ?_
  have hH : N0 ≤ H1.size := by
    have := hS.1
    omega
  refine jcU (as := [.int (nI (n + 1))]) (rest := []) S (j_ens (ml := ml) (n := n) (f := f) (k := n + 1) (Nat.le_trans ho hH) (by omega)) nEns_c (wIn (by decide +kernel)) nEns_i iASB rfl (show (parseMethodDescriptor nEns.desc).map (fun d => d.parameters.length) = some 1 from by decide +kernel) (jSelP (by1 := prog_12_method_9_code) (n := 3) (ret := none) hN (by decide +kernel) rfl (by decide +kernel) (by decide +kernel)) hN hK hP (q0 := 0) rfl hP hks hos hA0 hS (fun q z => absurd z id) (fun q hq => Or.inr (Nat.le_trans hH hq)) dj_apI_14 (Nat.le_of_ble_eq_true rfl) ⟨Nat.le_of_ble_eq_true rfl, Nat.le_of_ble_eq_true rfl⟩ ⟨Nat.le_of_ble_eq_true rfl, Nat.le_of_ble_eq_true rfl⟩ hl.1 (fun H2 locs2 r2 hr2 hS2 hz2 hk2 => ?_)
  replace hS := hS2
  have hr2 : r2 = none := hr2
  subst hr2
  replace hP := wB_keep hP (fun q hq => hk2 q hq id)
  refine lv_aload_n hx hb dj_apI_17 rfl (lv_at hl 2 rfl) ?_
  have hH : N0 ≤ H2.size := by
    have := hS.1
    omega
  refine jcU (as := []) (rest := []) S (j_isL (ml := ml) (n := n) (f := f) (Nat.le_trans ho hH)) nIsL_c (wIn (by decide +kernel)) nIsL_i iASB rfl (show (parseMethodDescriptor nIsL.desc).map (fun d => d.parameters.length) = some 0 from by decide +kernel) (jW hN (by decide +kernel) (by decide +kernel)) hN hK hP (q0 := 0) rfl hP hks hos hA0 hS (fun q z => absurd z id) (fun q hq => Or.inr (Nat.le_trans hH hq)) dj_apI_18 (Nat.le_of_ble_eq_true rfl) ⟨Nat.le_of_ble_eq_true rfl, Nat.le_of_ble_eq_true rfl⟩ ⟨Nat.le_of_ble_eq_true rfl, Nat.le_of_ble_eq_true rfl⟩ hl.1 (fun H3 locs3 r3 hr3 hS3 hz3 hk3 => ?_)
  replace hS := hS3
  have hr3 : r3 = some (.int 1) := hr3
  subst hr3
  replace hP := wB_keep hP (fun q hq => hk3 q hq id)
  refine lv_if_eq (tgt := 37) hx hb dj_apI_21 (by decide) (fun hc => absurd hc (by decide)) (fun _ => ?_)
  refine lv_iload_n hx hb dj_apI_24 rfl (lv_at hl 3 rfl) ?_
  refine lv_iload_n hx hb dj_apI_25 rfl (lv_at hl 0 rfl) ?_
  refine lv_aload_n hx hb dj_apI_26 rfl (lv_at hl 2 rfl) ?_
  refine va_get (ref := "java/lang/AbstractStringBuilder") hx hb hts (xLy_at (ci := 10) rfl).1 hown hK hP 0 rfl cl10 0 (by decide) (hts _ lkV) (fun _ h => h) rfl dj_apI_27 ?_
  have hH : N0 ≤ H3.size := by
    have := hS.1
    omega
  refine jcS (as := [.int (nI v), .int (nI (n + 1)), .ref da]) (rest := []) S (j_gch (v := v) (k := n + 1) (Nat.le_trans ho hH) hd0 hv (by omega)) nGch_c (wIn (by decide +kernel)) nGch_s iINT ⟨by decide, by decide, (show (parseMethodDescriptor nGch.desc).map (fun d => d.parameters.length) = some 3 from by decide +kernel)⟩ hN hK (wB_a hP) hks hos hA0 hS (fun q z => Or.inl (Or.inr z)) (fun q hq => Or.inr (Nat.le_trans hH hq)) dj_apI_30 (Nat.le_of_ble_eq_true rfl) ⟨Nat.le_of_ble_eq_true rfl, Nat.le_of_ble_eq_true rfl⟩ ⟨Nat.le_of_ble_eq_true rfl, Nat.le_of_ble_eq_true rfl⟩ hl.1 (fun H4 locs4 r4 hr4 hS4 hz4 hk4 => ?_)
  replace hS := hS4
  obtain ⟨⟨z, hr4⟩, hPa⟩ : (∃ z, r4 = some (.int z)) ∧ va_P D vwCl (wA ca da (upd f (n + 1 - 1) (nI (48 + v)))) H4 := hr4
  subst hr4
  replace hP := wB_put hP (hk4 b (hP 0 _ rfl).lt (fun z => hne z)) hPa
  rw [Nat.add_sub_cancel] at hP
  refine lv_pop hx hb dj_apI_33 rfl ?_
  refine lv_goto (tgt := 48) hx hb dj_apI_34 (by decide) ?_
  refine lv_aload_n hx hb dj_apI_48 rfl (lv_at hl 2 rfl) ?_
  refine lv_iload_n hx hb dj_apI_49 rfl (lv_at hl 0 rfl) ?_
  have hD : va_D (fun a => FB b da a ∨ N0 ≤ a) (wB ca b da ml n (upd f n (nI (48 + v)))) := wB_D hne (Or.inl (Or.inl rfl)) (Or.inl (Or.inr rfl))
  refine va_put (ref := "java/lang/AbstractStringBuilder") hx hb hts (xLy_at (ci := 10) rfl).1 tyJ4 tyJ4_ok nmJ4 hown hK hP hD hS 0 rfl cl10 3 (by decide) (hts _ lkN) (fun _ h => h) rfl (tyJ4_ok 3 (by decide)) rfl rfl (Nat.le_of_ble_eq_true rfl) dj_apI_50 (fun H5 locs5 hP hD hS => ?_)
  have hP : va_P D vwCl (wB ca b da ml (n + 1) (upd f n (nI (48 + v)))) H5 := hP
  have hD : va_D _ (wB ca b da ml (n + 1) (upd f n (nI (48 + v)))) := hD
  refine lv_aload_n hx hb dj_apI_53 rfl (lv_at hl 2 rfl) ?_
  exact W.aret hx hb hret (Or.inl ⟨_, rfl⟩) (Or.inr ⟨_, rfl⟩) (fun t ht _ => ⟨_, rfl, ⟨rfl, by rw [ht]; exact hP⟩, jF hS hN0 ht⟩) hS.2.2 dj_apI_54 hlk
theorem j_sbI (ho : o ≤ N0) (hb0 : o ≤ b) (hd0 : o ≤ da) (hne : b ≠ da) (hn : n < 16) (hv : v < 10) : jMet D ca o N0 nSbI prog_17_method_15_code 2 (some (.object "java/lang/StringBuilder")) 2 0 0 [.ref b, .int (nI v)] (wB ca b da ml n f) ks (FB b da) (fun r H => r = some (.ref b) ∧ va_P D vwCl (wB ca b da ml (n + 1) (upd f n (nI (48 + v)))) H) := by
  refine jMet_of (by decide) (Nat.le_of_ble_eq_true rfl) (fun p l e s m args below meth c_ S hN hK hP hN0 hks hret hlk hnm ls hl => ?_)
  obtain ⟨hx, hb, hml, hown, hts⟩ := id S
  have hl : lv_has ls 2 [(0, .ref b), (1, .int (nI v))] := hl
  have hS : va_S (fun a => (FB b da) a ∨ N0 ≤ a) s.heap s.heap [] := va_S.rf
  have hA0 : ∀ a, a < o → ¬ ((FB b da) a ∨ N0 ≤ a) := fun a ha z => by
    rcases z with z | z
    · rcases z with z | z <;> omega
    · omega
  have hAo : ∀ a, ((FB b da) a ∨ N0 ≤ a) → o ≤ a := fun a z => Nat.not_lt.mp (fun ha => hA0 a ha z)
  have hos : o ≤ s.heap.size := by omega
  refine lv_aload_n hx hb dj_sbI_0 rfl (lv_at hl 0 rfl) ?_
  refine lv_iload_n hx hb dj_sbI_1 rfl (lv_at hl 1 rfl) ?_
  have hH : N0 ≤ s.heap.size := by
    have := hS.1
    omega
  refine jcSU (as := [.int (nI v)]) (rest := []) S (j_apI (Nat.le_trans ho hH) hb0 hd0 hne hn hv) nApI_c (wIn (by decide +kernel)) nApI_i iASB rfl rfl (by decide) (show (parseMethodDescriptor nApI.desc).map (fun d => d.parameters.length) = some 1 from by decide +kernel) hN hK hP (q0 := 0) rfl hP hks hos hA0 hS (fun q z => Or.inl z) (fun q hq => Or.inr (Nat.le_trans hH hq)) dj_sbI_2 (Nat.le_of_ble_eq_true rfl) ⟨Nat.le_of_ble_eq_true rfl, Nat.le_of_ble_eq_true rfl⟩ ⟨Nat.le_of_ble_eq_true rfl, Nat.le_of_ble_eq_true rfl⟩ hl.1 (fun H1 locs1 r1 hr1 hS1 hz1 hk1 => ?_)
  replace hS := hS1
  obtain ⟨hr1, hP⟩ : r1 = some (.ref b) ∧ va_P D vwCl (wB ca b da ml (n + 1) (upd f n (nI (48 + v)))) H1 := hr1
  subst hr1
  refine lv_pop hx hb dj_sbI_5 rfl ?_
  refine lv_aload_n hx hb dj_sbI_6 rfl (lv_at hl 0 rfl) ?_
  exact W.aret hx hb hret (Or.inl ⟨_, rfl⟩) (Or.inr ⟨_, rfl⟩) (fun t ht _ => ⟨_, rfl, ⟨rfl, by rw [ht]; exact hP⟩, jF hS hN0 ht⟩) hS.2.2 dj_sbI_7 hlk
theorem j_ini (ho : o ≤ N0) (hb0 : o ≤ b) : jMet D ca o N0 nIni prog_12_method_2_code 2 none 2 1 16 [.ref b, .int 16] [(b, .inr (10, [.null, .int 0, .int 0, .int 0]))] ks (fun a => a = b) (fun r H => r = none ∧ va_P D vwCl (wB ca b N0 0 0 (fun _ => 0)) H) := by
  refine jMet_of (by decide) (Nat.le_of_ble_eq_true rfl) (fun p l e s m args below meth c_ S hN hK hP hN0 hks hret hlk hnm ls hl => ?_)
  obtain ⟨hx, hb, hml, hown, hts⟩ := id S
  have hl : lv_has ls 2 [(0, .ref b), (1, .int 16)] := hl
  have hS : va_S (fun a => (fun a => a = b) a ∨ N0 ≤ a) s.heap s.heap [] := va_S.rf
  have hA0 : ∀ a, a < o → ¬ ((fun a => a = b) a ∨ N0 ≤ a) := fun a ha z => by
    rcases z with z | z
    · have z : a = b := z
      omega
    · omega
  have hAo : ∀ a, ((fun a => a = b) a ∨ N0 ≤ a) → o ≤ a := fun a z => Nat.not_lt.mp (fun ha => hA0 a ha z)
  have hos : o ≤ s.heap.size := by omega
  refine lv_aload_n hx hb dj_ini_0 rfl (lv_at hl 0 rfl) ?_
  refine W.objInit hx hb hown (hts _ (wIn (by decide +kernel))) (hts _ xOI_in.1) (hts _ xOI_in.2) rfl (hl.1.trans hml.symm) rfl dj_ini_1 (Nat.le_of_ble_eq_true rfl) (Nat.le_of_ble_eq_true rfl) ?_
  show W p l e _ s m args below meth c_ s.heap [] 0 0 _ (F0 m 4 ls [])
  refine va_gets (ref := "java/lang/String") hx hb ((zCs hN hts).narrow hAo) hS hown (hts _ lkS) (fun _ h => h) dj_ini_4 ?_
  refine lv_if_eq (tgt := 25) hx hb dj_ini_7 (by decide) (fun hc => absurd hc (by decide)) (fun _ => ?_)
  refine lv_aload_n hx hb dj_ini_10 rfl (lv_at hl 0 rfl) ?_
  refine lv_iload_n hx hb dj_ini_11 rfl (lv_at hl 1 rfl) ?_
  refine va_newaK (atype := .byte) hx hb (hts _ xAA_in.2.2.1) rfl dj_ini_12 rfl (by decide) (N := 16) rfl (by decide) (Nat.le_of_ble_eq_true rfl) (Nat.le_of_ble_eq_true rfl) hN0 (fun H1 cA e1 z1 o1 hAr hNm => ?_)
  obtain rfl : ca 2 = cA := Option.some.inj ((hK.2 2 _ rfl).2.symm.trans hNm)
  have hbl : b < N0 := by
    have := (hP 0 _ rfl).lt
    rw [← hN0]
    exact this
  replace hP : va_P D vwCl [(b, .inr (10, [.null, .int 0, .int 0, .int 0])), (N0, .inl (ca 2, 16, .inl (fun _ => 0)))] H1 := fun k q hq => by
    match k, hq with
    | 0, hq =>
      cases hq
      exact va_at.kept (hP 0 _ rfl) (o1 b hbl)
    | 1, hq =>
      cases hq
      exact e1
    | k + 2, hq => cases hq
  have hD : va_D (fun a => (fun a => a = b) a ∨ N0 ≤ a) [(b, .inr (10, [.null, .int 0, .int 0, .int 0])), (N0, .inl (ca 2, 16, .inl (fun _ => 0)))] := by
    refine ⟨fun i j p q hi hj e => ?_, fun k q hq => ?_⟩
    · match i, j, hi, hj with
      | 0, 0, _, _ => rfl
      | 1, 1, _, _ => rfl
      | 0, 1, hi, hj =>
        cases hi
        cases hj
        exact absurd (show b = N0 from e) (by omega)
      | 1, 0, hi, hj =>
        cases hi
        cases hj
        exact absurd (show N0 = b from e) (by omega)
      | i + 2, _, hi, _ => cases hi
      | 0, j + 2, _, hj => cases hj
      | 1, j + 2, _, hj => cases hj
    · match k, hq with
      | 0, hq =>
        cases hq
        exact Or.inl rfl
      | 1, hq =>
        cases hq
        exact Or.inr (Nat.le_refl _)
      | k + 2, hq => cases hq
  replace hS : va_S (fun a => (fun a => a = b) a ∨ N0 ≤ a) s.heap H1 [] := ⟨by omega, fun q h1 _ => o1 q (by omega), fun _ h => by cases h⟩
  show W p l e _ s m args below meth c_ H1 [] 1 16 _ (F0 m 14 ls [.ref N0, .ref b])
  refine va_put (ref := "java/lang/AbstractStringBuilder") hx hb hts (xLy_at (ci := 10) rfl).1 tyJ4 tyJ4_ok nmJ4 hown hK hP hD hS 0 rfl cl10 0 (by decide) (hts _ lkV) (fun _ h => h) rfl (tyJ4_ok 0 (by decide)) rfl rfl (Nat.le_of_ble_eq_true rfl) dj_ini_14 (fun H2 locs2 hP hD hS => ?_)
  have hD := hD
  refine lv_aload_n hx hb dj_ini_17 rfl (lv_at hl 0 rfl) ?_
  refine lv_iconst (v := 0) hx hb dj_ini_18 (by decide) ?_
  refine va_put (ref := "java/lang/AbstractStringBuilder") hx hb hts (xLy_at (ci := 10) rfl).1 tyJ4 tyJ4_ok nmJ4 hown hK hP hD hS 0 rfl cl10 1 (by decide) (hts _ lkC) (fun _ h => h) rfl (tyJ4_ok 1 (by decide)) rfl rfl (Nat.le_of_ble_eq_true rfl) dj_ini_19 (fun H3 locs3 hP hD hS => ?_)
  refine lv_goto (tgt := 38) hx hb dj_ini_22 (by decide) ?_
  exact W.vret hx hb hret (fun t ht _ => ⟨_, rfl, ⟨rfl, by rw [ht]; exact hP⟩, jF hS hN0 ht⟩) hS.2.2 dj_ini_38 hlk
theorem j_sbi (ho : o ≤ N0) (hb0 : o ≤ b) : jMet D ca o N0 nSbi prog_17_method_1_code 1 none 3 1 16 [.ref b] [(b, .inr (10, [.null, .int 0, .int 0, .int 0]))] ks (fun a => a = b) (fun r H => r = none ∧ va_P D vwCl (wB ca b N0 0 0 (fun _ => 0)) H) := by
  refine jMet_of (by decide) (Nat.le_of_ble_eq_true rfl) (fun p l e s m args below meth c_ S hN hK hP hN0 hks hret hlk hnm ls hl => ?_)
  obtain ⟨hx, hb, hml, hown, hts⟩ := id S
  have hl : lv_has ls 1 [(0, .ref b)] := hl
  have hS : va_S (fun a => (fun a => a = b) a ∨ N0 ≤ a) s.heap s.heap [] := va_S.rf
  have hA0 : ∀ a, a < o → ¬ ((fun a => a = b) a ∨ N0 ≤ a) := fun a ha z => by
    rcases z with z | z
    · have z : a = b := z
      omega
    · omega
  have hAo : ∀ a, ((fun a => a = b) a ∨ N0 ≤ a) → o ≤ a := fun a z => Nat.not_lt.mp (fun ha => hA0 a ha z)
  have hos : o ≤ s.heap.size := by omega
  refine lv_aload_n hx hb dj_sbi_0 rfl (lv_at hl 0 rfl) ?_
  refine lv_bipush (v := 16) hx hb dj_sbi_1 (by decide) ?_
  have hH : N0 ≤ s.heap.size := by
    have := hS.1
    omega
  refine jcI (as := [.int 16]) (rest := []) S (j_ini (Nat.le_trans ho hH) hb0) nIni_c (wIn (by decide +kernel)) nIni_i iASB rfl ⟨by decide, by decide, (show (parseMethodDescriptor nIni.desc).map (fun d => d.parameters.length) = some 1 from by decide +kernel)⟩ hN hK hP hks hos hA0 hS (fun q z => Or.inl z) (fun q hq => Or.inr (Nat.le_trans hH hq)) dj_sbi_3 (Nat.le_of_ble_eq_true rfl) ⟨Nat.le_of_ble_eq_true rfl, Nat.le_of_ble_eq_true rfl⟩ ⟨Nat.le_of_ble_eq_true rfl, Nat.le_of_ble_eq_true rfl⟩ hl.1 (fun H1 locs1 r1 hr1 hS1 hz1 hk1 => ?_)
  replace hS := hS1
  obtain ⟨hr1, hP⟩ : r1 = none ∧ va_P D vwCl (wB ca b s.heap.size 0 0 (fun _ => 0)) H1 := hr1
  subst hr1
  rw [hN0] at hP
  exact W.vret hx hb hret (fun t ht _ => ⟨_, rfl, ⟨rfl, by rw [ht]; exact hP⟩, jF hS hN0 ht⟩) hS.2.2 dj_sbi_6 hlk
end JW
