theorem xMok_all {M : xM} (h : xMok M = true) : xTok (xMc M) (xMo M) (xMk M) (xMt M) = true ∧ Cond.code (xMy M) (xMc M) (xMn M) (xMr M) ∈ xBig ∧ Cond.initialized (xMy M).cls ∈ xBig ∧ xMn M ≤ 22 ∧ plainName (xMy M).cls = true ∧
    ((xMy M).cls ≠ "java/lang/invoke/MethodHandle" ∧ (xMy M).cls ≠ "java/lang/invoke/VarHandle" ∧ (parseMethodDescriptor (xMy M).desc).map (fun d => d.parameters.length) = some (xMp M)) ∧ xRC (xMo M) = (xMy M).cls := by
  unfold xMok at h
  simp only [Bool.and_eq_true, decide_eq_true_eq] at h
  obtain ⟨h1, h2, h3, h4, h5, h6, h7, -⟩ := h
  exact ⟨h1, xBig_of h2, xBig_of h3, Nat.le_of_ble_eq_true h4, h5, h6, h7⟩
theorem xMok_S {M : xM} (h : xMok M = true) (hk : xMk M = 1) : Cond.static (xMy M) ∈ xBig := by
  unfold xMok at h
  rw [hk] at h
  simp only [Bool.and_eq_true, decide_eq_true_eq] at h
  obtain ⟨-, -, -, -, -, -, -, h8⟩ := h
  exact xBig_of h8
theorem xMok_I {M : xM} (h : xMok M = true) (hk : xMk M = 2) : Cond.instanceMethod (xMy M) ∈ xBig ∧ (xMy M).name = "<init>" ∧ xMr M = none ∧ ∃ q : vw_C, vwCl[xMo M]? = some q ∧ q.1 = (xMy M).cls := by
  unfold xMok at h
  rw [hk] at h
  simp only [Bool.and_eq_true, decide_eq_true_eq, Option.map_eq_some_iff] at h
  obtain ⟨-, -, -, -, -, -, -, h8, h9, q, h10, h11⟩ := h
  exact ⟨xBig_of h8, h9.1, h9.2, q, h10, h11⟩
theorem xMok_V {M : xM} (h : xMok M = true) (hk : xMk M = 0) : Cond.instanceMethod (xMy M) ∈ xBig ∧ (∃ q : vw_C, vwCl[xMo M]? = some q ∧ q.1 = (xMy M).cls) ∧ Cond.selects (xMy M).cls (xMy M) (xMy M) ∈ xBig := by
  unfold xMok at h
  rw [hk] at h
  simp only [Bool.and_eq_true, Bool.or_eq_true, decide_eq_true_eq, Option.map_eq_some_iff] at h
  obtain ⟨-, -, -, -, -, -, -, h8, ⟨q, h9, h10⟩, h11⟩ := h
  refine ⟨xBig_of h8, ⟨q, h9, h10⟩, ?_⟩
  rcases h11 with h11 | ⟨⟨z, h12, h13⟩, h14⟩
  · exact xBig_of h11
  · refine List.mem_filter.mpr ⟨List.mem_append_left _ ?_, h14⟩
    unfold k2_sels
    exact List.mem_map.mpr ⟨z, List.mem_of_getElem? h12, by rw [h13]⟩
section XD
variable {p : Program} {l : Launch} {e : Env} {R : Room} {s : State} {m : MethodId} {args : Array Value} {below : List Frame} {meth : Method} {c : Code} {Q : State → Prop} {D : va_G} {ca : Nat → ClassId} {b o L n0 : Nat} {ρ : Nat → Int32 × Int64} {xs : Nat → Int32} {M M' : xM}
theorem xpre {H : Heap} {locs : List Loc} {h : List xE} {as : List Value} (X : xCtx p s m args meth c D ca b o ρ L xs M n0) (hP : va_P D vwCl (xWs b o ρ ca h) H) (hS : va_S (fun q : Nat => o ≤ q) s.heap H locs) (hz : H.size = o + h.length) :
    ∀ U : State, U.heap = H → s.WarmedH U.vm → xPc D ca b o ρ as h (as.map (xSh b o ρ)).toArray U := by
  obtain ⟨-, -, -, -, -, hN, hK, hX, hb, hs, -⟩ := X
  intro U hU hW
  exact ⟨rfl, by rw [hU]; exact hP, by rw [hU]; exact hz, va_K.moved hW.alike hK, hb, hN.go hW (fun q hq => by
    rw [hU]
    exact hS.2.1 q (by omega) (fun h1 => by have h1 : o ≤ q := h1; omega))⟩
theorem xroom {r : xR} {h : List xE} {pc sl fr : Nat} {lv : xLv} {st : List Value} (hl : h.length ≤ r.1.length) (hn0 : n0 ≤ h.length) (hn : xMn M' ≤ 22) (hF : xFits R n0 (pc, lv, st, r.1, sl + r.2.2.1, Nat.max fr (r.2.2.2 + 1))) :
    (r.2.2.2 + 1 ≤ R.frames ∧ 8 + (xMn M' + 11) + 41 * r.2.2.2 ≤ R.locals) ∧ (h.length - n0 + (r.1.length - h.length) ≤ R.cells ∧ sl + r.2.2.1 ≤ R.slots) ∧ h.length - n0 + (r.1.length - h.length) = r.1.length - n0 := by
  obtain ⟨h1, h2, h3, h4⟩ := hF
  have h5 : r.2.2.2 + 1 ≤ Nat.max fr (r.2.2.2 + 1) := Nat.le_max_right _ _
  have h1 : r.1.length - n0 ≤ R.cells := h1
  have h2 : sl + r.2.2.1 ≤ R.slots := h2
  have h3 : Nat.max fr (r.2.2.2 + 1) ≤ R.frames := h3
  have h4 : 41 * Nat.max fr (r.2.2.2 + 1) ≤ R.locals := h4
  generalize Nat.max fr (r.2.2.2 + 1) = z at h3 h4 h5
  refine ⟨⟨by omega, by omega⟩, ⟨by omega, h2⟩, by omega⟩
theorem xrest {ret : Option Value} {r : List Value} : (ret.toList ++ r).map (xSh b o ρ) = (ret.map (xSh b o ρ)).toList ++ r.map (xSh b o ρ) := by cases ret <;> rfl
theorem xcallV {nest : Bool} {idx pc q sl fr d' : Nat} {lv : xLv} {st As0 rest : List Value} {h : List xE} {ci : Nat} {fs : List Value} {r : xR}
    (X : xCtx p s m args meth c D ca b o ρ L xs M n0) (hok : xMok M' = true) (hk : xMk M' = 0)
    (hl : (bif nest then va_Nw (.methodLinkNest (xRC (xMo M)) idx (xMy M') "PulledSignals") s else Cond.methodLink (xRC (xMo M)) idx (xMy M') ∈ xBig : Prop))
    (hM : xMet D ca b o ρ M' (.ref (q + 1) :: As0) h r) (hlen : h.length ≤ r.1.length) (hn : As0.length = xMp M') (hst : st = As0.reverse ++ .ref (q + 1) :: rest) (hc8 : xcat rest ≤ 8)
    (hq : h[q]? = some (.inr (ci, fs))) (hci : ci = xMo M') (hd : decode (xMc M) pc = .ok (.invokevirtual idx, 3))
    (hF : xFits R n0 (pc + 3, lv, r.2.1.toList ++ rest, r.1, sl + r.2.2.1, Nat.max fr (r.2.2.2 + 1)))
    (k : xAt p l e R s m args below meth c Q D ca b o ρ M n0 (pc + 3, lv, r.2.1.toList ++ rest, r.1, sl + r.2.2.1, Nat.max fr (r.2.2.2 + 1))) : xAt p l e R s m args below meth c Q D ca b o ρ M n0 (pc, lv, st, h, sl, fr) := by
  obtain ⟨-, g2, g3, g4, g5, g6, g7⟩ := xMok_all hok
  obtain ⟨v1, ⟨qc, v2, v3⟩, v4⟩ := xMok_V hok hk
  intro H locs ls a1 a2 a3 a4 T hT XT
  have hu := XT.heapSize
  rw [hT] at hu
  have hz := xSize a1 a2 X.2.2.2.2.2.2.2.2.2.1 a3 hu
  obtain ⟨r1, r2, r3⟩ := xroom (M' := M') hlen a3 g4 hF
  have hpre := xpre (as := .ref (q + 1) :: As0) X a1 a2 hz
  subst hci
  have hrecv := va_recv X.2.2.2.2.2.2.1 a1 v2 (xWs_get (b := b) (o := o) (ρ := ρ) (ca := ca) hq)
  rw [v3] at hrecv
  have hcb : (xws M').map id = xws M' := List.map_id _
  have hG : GoodIn xBig (xws M') := xBig_good (fun w hw => by
    rcases List.mem_cons.mp hw with rfl | hw
    · exact g2
    · exact hw)
  have hpv : PreV s H (xMy M').cls (o + q) (xPc D ca b o ρ (.ref (q + 1) :: As0) h) (As0.map (xSh b o ρ)) := ⟨xPc.blind, hrecv, hpre⟩
  have hst2 : st.map (xSh b o ρ) = (As0.map (xSh b o ρ)).reverse ++ .ref (o + q) :: rest.map (xSh b o ρ) := by
    rw [hst, List.map_append, List.map_reverse]
    rfl
  have hk2 : ∀ (H1 : Heap) (locs1 : List Loc), va_P D vwCl (xWs b o ρ ca r.1) H1 → va_S (fun q : Nat => o ≤ q) s.heap H1 locs1 → W p l e R s m args below meth c H1 locs1 (h.length - n0 + (r.1.length - h.length)) (sl + r.2.2.1) Q (F0 m (pc + 3) ls ((r.2.1.map (xSh b o ρ)).toList ++ rest.map (xSh b o ρ))) := by
    intro H1 locs1 b1 b2
    rw [r3, ← xrest]
    exact k H1 locs1 ls b1 b2 (Nat.le_trans a3 hlen) a4
  have h8 : ((rest.map (xSh b o ρ)).map fun v => v.category).sum ≤ 8 := by
    rw [xcat_map]
    exact hc8
  refine W.eq (g2 := F0 m pc ls (st.map (xSh b o ρ))) rfl ?_ T hT XT
  cases nest with
  | false =>
    exact xcalled (va_runV (Ts := xBig) (own := xRC (xMo M)) (rest := rest.map (xSh b o ρ)) (As := As0.map (xSh b o ρ)) ⟨X.1, X.2.1, X.2.2.1, X.2.2.2.1, X.2.2.2.2.1⟩ (hM l) ⟨callB_of (xMp M') X.2.2.2.2.1 hG rfl rfl rfl (X.2.2.2.2.1 _ g3) (X.2.2.2.2.1 _ hl) g6 r1, X.2.2.2.2.1 _ v1, X.2.2.2.2.1 _ v4⟩ hpv rfl (by rw [List.length_map]; exact hn) a4.1 hst2 (lv_room h8) hd r2) a2 hk2
  | true =>
    exact xcalled (va_runVN (Ts := xBig) (own := xRC (xMo M)) (host := "PulledSignals") (rest := rest.map (xSh b o ρ)) (As := As0.map (xSh b o ρ)) ⟨X.1, X.2.1, X.2.2.1, X.2.2.2.1, X.2.2.2.2.1⟩ (hM l) ⟨va_cnB (xMp M') X.2.2.2.2.1 hG rfl rfl rfl hl (X.2.2.2.2.1 _ g3) g6 r1, X.2.2.2.2.1 _ v1, X.2.2.2.2.1 _ v4⟩ hpv rfl (by rw [List.length_map]; exact hn) a4.1 hst2 (lv_room h8) hd r2) a2 hk2
theorem xcallI {nest : Bool} {idx pc q sl fr d' : Nat} {lv : xLv} {st As0 rest : List Value} {h : List xE} {r : xR}
    (X : xCtx p s m args meth c D ca b o ρ L xs M n0) (hok : xMok M' = true) (hk : xMk M' = 2)
    (hl : (bif nest then va_Nw (.methodLinkNest (xRC (xMo M)) idx (xMy M') "PulledSignals") s else Cond.methodLink (xRC (xMo M)) idx (xMy M') ∈ xBig : Prop))
    (hM : xMet D ca b o ρ M' (.ref (q + 1) :: As0) h r) (hlen : h.length ≤ r.1.length) (hn : As0.length = xMp M') (hst : st = As0.reverse ++ .ref (q + 1) :: rest) (hc8 : xcat rest ≤ 8)
    (hd : decode (xMc M) pc = .ok (.invokespecial idx, 3))
    (hF : xFits R n0 (pc + 3, lv, r.2.1.toList ++ rest, r.1, sl + r.2.2.1, Nat.max fr (r.2.2.2 + 1)))
    (k : xAt p l e R s m args below meth c Q D ca b o ρ M n0 (pc + 3, lv, r.2.1.toList ++ rest, r.1, sl + r.2.2.1, Nat.max fr (r.2.2.2 + 1))) : xAt p l e R s m args below meth c Q D ca b o ρ M n0 (pc, lv, st, h, sl, fr) := by
  obtain ⟨-, g2, g3, g4, g5, g6, g7⟩ := xMok_all hok
  obtain ⟨v1, v2, v3, -⟩ := xMok_I hok hk
  intro H locs ls a1 a2 a3 a4 T hT XT
  have hu := XT.heapSize
  rw [hT] at hu
  have hz := xSize a1 a2 X.2.2.2.2.2.2.2.2.2.1 a3 hu
  obtain ⟨r1, r2, r3⟩ := xroom (M' := M') hlen a3 g4 hF
  have hpre := xpre (as := .ref (q + 1) :: As0) X a1 a2 hz
  have hG : GoodIn xBig (xws M') := xBig_good (fun w hw => by
    rcases List.mem_cons.mp hw with rfl | hw
    · exact g2
    · exact hw)
  have hw2 : xws M' = Cond.code (xMy M') (xMc M') (xMn M') none :: xBig := by
    unfold xws
    rw [v3]
  have hpv : PreS s H (xPc D ca b o ρ (.ref (q + 1) :: As0) h) (.ref (o + q) :: As0.map (xSh b o ρ)) := ⟨xPc.blind, hpre⟩
  have hst2 : st.map (xSh b o ρ) = (As0.map (xSh b o ρ)).reverse ++ .ref (o + q) :: rest.map (xSh b o ρ) := by
    rw [hst, List.map_append, List.map_reverse]
    rfl
  have hk2 : ∀ (H1 : Heap) (locs1 : List Loc), va_P D vwCl (xWs b o ρ ca r.1) H1 → va_S (fun q : Nat => o ≤ q) s.heap H1 locs1 → W p l e R s m args below meth c H1 locs1 (h.length - n0 + (r.1.length - h.length)) (sl + r.2.2.1) Q (F0 m (pc + 3) ls ((r.2.1.map (xSh b o ρ)).toList ++ rest.map (xSh b o ρ))) := by
    intro H1 locs1 b1 b2
    rw [r3, ← xrest]
    exact k H1 locs1 ls b1 b2 (Nat.le_trans a3 hlen) a4
  have h8 : ((rest.map (xSh b o ρ)).map fun v => v.category).sum ≤ 8 := by
    rw [xcat_map]
    exact hc8
  refine W.eq (g2 := F0 m pc ls (st.map (xSh b o ρ))) rfl ?_ T hT XT
  cases nest with
  | false =>
    exact xcalled (va_runI (Ts := xBig) (own := xRC (xMo M)) (rest := rest.map (xSh b o ρ)) (As := As0.map (xSh b o ρ)) ⟨X.1, X.2.1, X.2.2.1, X.2.2.2.1, X.2.2.2.2.1⟩ (hM l) (cwI (xMp M') X.2.2.2.2.1 hG hw2 rfl rfl (X.2.2.2.2.1 _ g3) (X.2.2.2.2.1 _ hl) (X.2.2.2.2.1 _ v1) v2 g6 r1) hpv rfl (by rw [List.length_map]; exact hn) a4.1 hst2 (lv_room h8) hd r2) a2 hk2
  | true =>
    exact xcalled (va_runIN (Ts := xBig) (own := xRC (xMo M)) (host := "PulledSignals") (rest := rest.map (xSh b o ρ)) (As := As0.map (xSh b o ρ)) ⟨X.1, X.2.1, X.2.2.1, X.2.2.2.1, X.2.2.2.2.1⟩ (hM l) ⟨va_cnB (xMp M') X.2.2.2.2.1 hG hw2 rfl rfl hl (X.2.2.2.2.1 _ g3) g6 r1, v2, X.2.2.2.2.1 _ v1⟩ hpv rfl (by rw [List.length_map]; exact hn) a4.1 hst2 (lv_room h8) hd r2) a2 hk2
theorem xcallS {nest : Bool} {idx pc sl fr d' : Nat} {lv : xLv} {st As0 rest : List Value} {h : List xE} {r : xR}
    (X : xCtx p s m args meth c D ca b o ρ L xs M n0) (hok : xMok M' = true) (hk : xMk M' = 1)
    (hl : (bif nest then va_Nw (.methodLinkNest (xRC (xMo M)) idx (xMy M') "PulledSignals") s else Cond.methodLink (xRC (xMo M)) idx (xMy M') ∈ xBig : Prop))
    (hM : xMet D ca b o ρ M' As0 h r) (hlen : h.length ≤ r.1.length) (hn : As0.length = xMp M') (hst : st = As0.reverse ++ rest) (hc8 : xcat rest ≤ 8)
    (hd : decode (xMc M) pc = .ok (.invokestatic idx, 3))
    (hF : xFits R n0 (pc + 3, lv, r.2.1.toList ++ rest, r.1, sl + r.2.2.1, Nat.max fr (r.2.2.2 + 1)))
    (k : xAt p l e R s m args below meth c Q D ca b o ρ M n0 (pc + 3, lv, r.2.1.toList ++ rest, r.1, sl + r.2.2.1, Nat.max fr (r.2.2.2 + 1))) : xAt p l e R s m args below meth c Q D ca b o ρ M n0 (pc, lv, st, h, sl, fr) := by
  obtain ⟨-, g2, g3, g4, g5, g6, g7⟩ := xMok_all hok
  have v1 := xMok_S hok hk
  intro H locs ls a1 a2 a3 a4 T hT XT
  have hu := XT.heapSize
  rw [hT] at hu
  have hz := xSize a1 a2 X.2.2.2.2.2.2.2.2.2.1 a3 hu
  obtain ⟨r1, r2, r3⟩ := xroom (M' := M') hlen a3 g4 hF
  have hpre := xpre (as := As0) X a1 a2 hz
  have hG : GoodIn xBig (xws M') := xBig_good (fun w hw => by
    rcases List.mem_cons.mp hw with rfl | hw
    · exact g2
    · exact hw)
  have hpv : PreS s H (xPc D ca b o ρ As0 h) (As0.map (xSh b o ρ)) := ⟨xPc.blind, hpre⟩
  have hst2 : st.map (xSh b o ρ) = (As0.map (xSh b o ρ)).reverse ++ rest.map (xSh b o ρ) := by
    rw [hst, List.map_append, List.map_reverse]
  have hk2 : ∀ (H1 : Heap) (locs1 : List Loc), va_P D vwCl (xWs b o ρ ca r.1) H1 → va_S (fun q : Nat => o ≤ q) s.heap H1 locs1 → W p l e R s m args below meth c H1 locs1 (h.length - n0 + (r.1.length - h.length)) (sl + r.2.2.1) Q (F0 m (pc + 3) ls ((r.2.1.map (xSh b o ρ)).toList ++ rest.map (xSh b o ρ))) := by
    intro H1 locs1 b1 b2
    rw [r3, ← xrest]
    exact k H1 locs1 ls b1 b2 (Nat.le_trans a3 hlen) a4
  have h8 : ((rest.map (xSh b o ρ)).map fun v => v.category).sum ≤ 8 := by
    rw [xcat_map]
    exact hc8
  refine W.eq (g2 := F0 m pc ls (st.map (xSh b o ρ))) rfl ?_ T hT XT
  cases nest with
  | false =>
    exact xcalled (va_runS (Ts := xBig) (own := xRC (xMo M)) (rest := rest.map (xSh b o ρ)) (As := As0.map (xSh b o ρ)) ⟨X.1, X.2.1, X.2.2.1, X.2.2.2.1, X.2.2.2.2.1⟩ (hM l) ⟨callB_of (xMp M') X.2.2.2.2.1 hG rfl rfl rfl (X.2.2.2.2.1 _ g3) (X.2.2.2.2.1 _ hl) g6 r1, X.2.2.2.2.1 _ v1⟩ hpv rfl (by rw [List.length_map]; exact hn) a4.1 hst2 (lv_room h8) hd r2) a2 hk2
  | true =>
    exact xcalled (va_runSN (Ts := xBig) (own := xRC (xMo M)) (host := "PulledSignals") (rest := rest.map (xSh b o ρ)) (As := As0.map (xSh b o ρ)) ⟨X.1, X.2.1, X.2.2.1, X.2.2.2.1, X.2.2.2.2.1⟩ (hM l) ⟨va_cnB (xMp M') X.2.2.2.2.1 hG rfl rfl rfl hl (X.2.2.2.2.1 _ g3) g6 r1, X.2.2.2.2.1 _ v1, trivial⟩ hpv rfl (by rw [List.length_map]; exact hn) a4.1 hst2 (lv_room h8) hd r2) a2 hk2
end XD
