/-! THE CLAIM OUT OF ONE WALK OF THE LAW'S BODY. Your part is whole_start (and what it stands on); all else here is the same for every law, but numbers. -/
def R_law : String := "PulledSignalsLaw"
def lw_P (b : Addr) (xs : List Int32) (args : Array Value) (s : State) : Prop := args = #[.ref b] ∧ s.IntsAt b xs ∧ xs.length ≤ 6 ∧ (Jvm.Cond.and given_1 narrow_1).before args s = true
def lw_Q (_ : Array Value) (s : State) (o : Outcome) (t : State) : Prop := o = .returned (some (.int 1)) ∧ Framed s o t [] 600000 7302250
def lw_Z (below : List Frame) (a : Array Value) (s : State) : State → Prop := fun t => ∃ o, t.status = .running ∧ Ended t below o ∧ lw_Q a s o t
/-- the law's own end, with 1 on the stack, nothing written that was there before, its room as the claim has it -/
theorem lw_ret {p : Program} {l : Launch} {e : Env} {s : State} {m : MethodId} {below : List Frame} {meth : Method} {c : Code} {b : Nat} (hx : p.tables.exec = Jvm.exec) (hb : c.code = code) (hr : meth.sig.returnType = ret) (hlocks : meth.locks = false) {pc : Nat} {H : Heap} {ls : Array Slot} (hdg : decode code pc = .ok (.ireturn, 1)) : W p l e room_1 s m #[Value.ref b] below meth c H [] 600000 7302250 (lw_Z below #[Value.ref b] s) (F0 m pc ls [.int 1]) := by
  intro T hT X
  obtain ⟨fs, hret, hrun, hended, hW, hframe⟩ := X.leave (v := some (.int 1)) (hlocks := hlocks) (fun h => by rw [hr] at h; cases h)
  have hmeth' : T.vm.method? m = some meth := X.method'
  refine ⟨T.setFrames fs, ?_, .returned (some (.int 1)), hrun, hended, rfl, ⟨_, rfl⟩, hW, hframe⟩
  jvm_step X.here [X.here.top, hx, hb, hdg, hmeth', hr, ret, narrow_b1]
  (try refine ⟨rfl, ?_⟩); (try refine ⟨rfl, ?_⟩)
  first | (intro acts; rw [hret _ acts rfl rfl rfl]) | rw [hret _ _ rfl rfl rfl]
  exact Steps.refl _
/-- what holds at the law's entry: the machine, the code, the tables' words (any of lw_tbl by 'hts w (by decide +kernel)'), the script of L ints xs at the cell b, what the Statement gives of the start (any of its parts by flat_of_before) -/
def lw_At (p : Program) (s : State) (m : MethodId) (meth : Method) (c : Code) (b L : Nat) (xs : Nat → Int32) : Prop :=
  p.tables.exec = Jvm.exec ∧ c.code = code ∧ meth.sig.returnType = ret ∧ c.maxLocals = 4 ∧ s.vm.findClass R_law = some m.cls ∧ (∀ w ∈ lw_tbl, w.before #[Value.ref b] s = true) ∧ va_X b L xs s s.heap ∧ b < s.heap.size ∧ meth.locks = false ∧ (Jvm.Cond.and given_1 narrow_1).before #[Value.ref b] s = true
/-- the classes of the launch, as they stand at the law's start -/
theorem xDca {s : State} {args : Array Value} (hts : ∀ w ∈ lw_tbl, w.before args s = true) : ∃ (D : va_G) (ca : Nat → ClassId), va_K D vwCl (xTys ca) s := by
  have hbig : ∀ w ∈ xBig, w.before args s = true := fun w hw => hts w (List.mem_filter.mp hw).1
  have hc : ∀ k : Nat, ∃ (cC : ClassId) (iS : Nat → Nat), ∀ q : vw_C, vwCl[k]? = some q → u_Kn s q.1 q.2.1 q.2.2 cC iS := by
    intro k
    cases hk : vwCl[k]? with
    | none => exact ⟨0, fun _ => 0, fun q h => by cases h⟩
    | some q =>
      obtain ⟨h1, h2, -⟩ := xLy_at hk
      obtain ⟨cC, iS, h⟩ := u_known (ws := xBig) hbig h1 (hbig _ h2)
      exact ⟨cC, iS, fun q' h' => by cases h'; exact h⟩
  have hp : ∀ ty : FieldType, (Cond.arrayClass ty).before args s = true → (∀ C, ty ≠ .object C) → ∃ c : ClassId, ArrOfT s c ty ∧ va_RA s c ty := by
    intro ty h hn
    obtain ⟨c, k, comp, h1, h2, h3⟩ := Cond.arrayClass_spec h
    refine ⟨c, fun n z => ⟨fun k h => (by cases h), k, h2, comp, h3⟩, ?_⟩
    unfold va_RA
    split
    · exact absurd rfl (hn _)
    · exact h1
  have ho : ∀ C : String, (Cond.arrayOver (.object C)).before args s = true → ∃ c : ClassId, ArrOfT s c (.object C) ∧ va_RA s c (.object C) := by
    intro C h
    obtain ⟨comp, c, k, h1, h2, h3, h4, h5⟩ := Cond.arrayOver_spec h
    exact ⟨c, fun n z => ⟨fun k h => (by cases h), k, h3, comp, h4⟩, k, comp, h3, h4, h1, h5⟩
  obtain ⟨a1, a2, a3, a4, a5⟩ := xAA_in
  obtain ⟨c0, r0⟩ := hp .int (hbig _ a1) (fun C h => by cases h)
  obtain ⟨c1, r1⟩ := hp .long (hbig _ a2) (fun C h => by cases h)
  obtain ⟨c2, r2⟩ := hp .boolean (hbig _ a3) (fun C h => by cases h)
  obtain ⟨c3, r3⟩ := ho "PulledSignals$Cell" (hts _ (List.mem_append_right _ a4))
  obtain ⟨c4, r4⟩ := ho "PulledSignals$Shelf" (hts _ (List.mem_append_right _ a5))
  refine ⟨(fun k => Classical.choose (hc k), fun k => Classical.choose (Classical.choose_spec (hc k))), fun t => match t with
    | 0 => c0
    | 1 => c1
    | 2 => c2
    | 3 => c3
    | _ => c4, fun k q hq => Classical.choose_spec (Classical.choose_spec (hc k)) q hq, fun k q hq => ?_⟩
  match k, hq with
  | 0, hq => cases hq; exact r0
  | 1, hq => cases hq; exact r1
  | 2, hq => cases hq; exact r2
  | 3, hq => cases hq; exact r3
  | 4, hq => cases hq; exact r4
  | n + 5, hq => simp [xTys] at hq
theorem xA_some : ∃ S : xS, xA = some (S, ([], [])) := by
  have h := xA_ok
  split at h
  · rename_i pc r hA
    exact ⟨_, hA⟩
  · cases h
theorem xB_some {L : Nat} {iv : List (Int × Int)} (h : xfin (xB L iv) = true) : ∃ (pc : Nat) (lv : xLv) (hh : List xE) (sl fr : Nat) (z : Nat × Nat × Nat), xB L iv = some ((pc, lv, [.int 1], hh, sl, fr), ([], [])) ∧ xfet tL_law pc = some (.ireturn, z) ∧ hh.length ≤ 600000 ∧ sl ≤ 7302250 ∧ fr ≤ 2048 := by
  unfold xfin at h
  split at h
  · rename_i pc lv v hh sl fr hB
    simp only [Bool.and_eq_true, decide_eq_true_eq] at h
    obtain ⟨rfl, h2, h3, h4, h5⟩ := h
    split at h2
    · rename_i z hf
      exact ⟨pc, lv, hh, sl, fr, z, hB, hf, Nat.le_of_ble_eq_true h3, Nat.le_of_ble_eq_true h4, Nat.le_of_ble_eq_true h5⟩
    · cases h2
  · cases h
theorem xNX_of {s : State} {args : Array Value} (hts : ∀ w ∈ lw_tbl, w.before args s = true) (hgv : (Jvm.Cond.and given_1 narrow_1).before args s = true) : xNX s.heap.size s := by
  refine ⟨fun w hw hn => ?_, s, args, hgv, hts, rfl, State.WarmedH.refl s, fun _ _ => rfl⟩
  have h := hts w (List.mem_append_right _ hw)
  cases w <;> first | exact h | cases hn
theorem whole_start {p : Program} {e : Env} {s : State} {m : MethodId} {below : List Frame} {meth : Method} {c : Code} (l : Launch) (hflags : l.flags = flags0) {b L : Nat} {xs : Nat → Int32} (hL : L ≤ 6) (C0 : lw_At p s m meth c b L xs) : W p l e room_1 s m #[Value.ref b] below meth c s.heap [] 0 0 (lw_Z below #[Value.ref b] s) (entryFrame m ([Value.ref b] : List Value).toArray 4) := by
  obtain ⟨hx, hb, hr, hml, hown, hts, hX, hbl, hlocks, hgv⟩ := id C0
  obtain ⟨D, ca, hK⟩ := xDca hts
  have hbig : ∀ w ∈ xBig, w.before #[Value.ref b] s = true := fun w hw => hts w (List.mem_filter.mp hw).1
  have hN := xNX_of hts hgv
  obtain ⟨iv, hiv, hfin⟩ : ∃ iv, xIv (xRho xs) iv ∧ xfin (xB (L + 1) iv) = true := by
    by_cases h6 : L = 6
    · subst h6
      exact xcase xs
    · exact ⟨[], xIv_nil xs, List.all_eq_true.mp fL_ok L (List.mem_range.mpr (by omega))⟩
  obtain ⟨SA, hA⟩ := xA_some
  have hSA : xSA = SA := by
    unfold xSA
    rw [hA]
  obtain ⟨pc, lv, hh, sl, fr, z, hB, hf, h1, h2, h3⟩ := xB_some hfin
  have X0 : xCtx p s m #[Value.ref b] meth c D ca b s.heap.size (xRho xs) 0 (fun _ => 0) rL_law 0 := ⟨hx, hb, hml, hown, hbig, hN, hK, fun q => absurd rfl q, hbl, rfl, fun hk => absurd hk (by decide)⟩
  have X1 : xCtx p s m #[Value.ref b] meth c D ca b s.heap.size (xRho xs) (L + 1) xs rL_law 0 := ⟨hx, hb, hml, hown, hbig, hN, hK, fun _ => hX, hbl, rfl, fun hk => absurd hk (by decide)⟩
  have hC : ∀ iv', xIv (xRho xs) iv' → xCsnd D ca b s.heap.size (xRho xs) xMs (xC xBt iv' xMs xN 16) := fun iv' hv => xC_ok (xBt_ok (xIv_nil xs)) hv xCs_ok xMs_ok xN 16
  have hxs : ∀ i, i < (L + 1) - 1 → xs i = (xRho xs i).1 := fun i hi => by
    rcases (show i = 0 ∨ i = 1 ∨ i = 2 ∨ i = 3 ∨ i = 4 ∨ i = 5 by omega) with rfl | rfl | rfl | rfl | rfl | rfl <;> rfl
  have rA := xrun_ok (L := 0) (xs := fun _ => 0) (xIv_nil xs) (fun i hi => absurd hi (Nat.not_lt_zero i)) xCs_ok (hC [] (xIv_nil xs)) tk_rL_law 10 xS0 ([], []) SA ([], []) hA
  have rB := xrun_ok (L := L + 1) (xs := xs) hiv hxs xCs_ok (hC iv hiv) tk_rL_law xN SA ([], []) _ ([], []) (by rw [← hSA]; exact hB)
  have hF : xFits room_1 0 (pc, lv, [.int 1], hh, sl, fr) := ⟨by show hh.length - 0 ≤ 600000; omega, h2, h3, by show 41 * fr ≤ 84000; omega⟩
  have hFA : xFits room_1 0 SA := xFits.of (h := SA.2.2.2.1) (sl := SA.2.2.2.2.1) (fr := SA.2.2.2.2.2) rB.1 hF
  have kfin : xAt p l e room_1 s m #[Value.ref b] below meth c (lw_Z below #[Value.ref b] s) D ca b s.heap.size (xRho xs) rL_law 0 (pc, lv, [.int 1], hh, sl, fr) := by
    intro H locs ls a1 a2 a3 a4
    obtain ⟨len, aa, bb⟩ := z
    obtain ⟨hd, hl, -⟩ := xfet_ok tk_rL_law hf
    obtain rfl : len = 1 := by simpa [xlen] using hl
    exact W.widen (k := 600000) (n := 7302250) (by show hh.length - 0 ≤ 600000; omega) h2 (va_forget a2.2.2 (lw_ret hx hb hr hlocks hd))
  have kB := rB.2 p l e room_1 s m #[Value.ref b] below meth c (lw_Z below #[Value.ref b] s) 0 X1 (fun P hP => by cases hP) hF kfin
  have kA := rA.2 p l e room_1 s m #[Value.ref b] below meth c (lw_Z below #[Value.ref b] s) 0 X0 (fun P hP => by cases hP) hFA kB
  have hl := lv_entry ([.ref b]) (n := 4) (Nat.le_of_ble_eq_true rfl)
  rw [lg_entry_eq]
  generalize (lg_sl ([.ref b]) ++ List.replicate (4 - (lg_sl ([.ref b])).length) Slot.unset).toArray = ls at hl ⊢
  exact kA s.heap [] ls (fun k q h => by cases h) va_S.rf (Nat.le_refl 0) hl
-- ===== YOUR PART ENDS =====
set_option maxHeartbeats 4000000 in
theorem lw_walk (l : Launch) (hflags : l.flags = flags0) (b : Addr) (xs : List Int32) : MetFree l x (headSpec (Jvm.Cond.code x code maxLocals ret :: tables_1) room_1) (lw_P b xs) (fun _ _ _ _ _ => True) lw_Q := by
  refine MetFree.of_bodyS (code := code) (maxLocals := maxLocals) (ret := ret) (by decide) ?_ ?_
  · intro args s m h hn
    obtain ⟨meth, c, h1, h2, h3, h4, h5, h6, -, -⟩ := Cond.code_spec hn (atoms_spec (ws := Jvm.Cond.code x code maxLocals ret :: tables_1) h _ List.mem_cons_self)
    exact ⟨meth, c, h1, h2, h3, h4, h5, h6⟩
  · intro p e s m args below meth c s₁ B hml0 hP _
    obtain ⟨rfl, hx, hbd, hgv⟩ := hP
    obtain ⟨scr, harrAt, hlist, hof, hsmall⟩ := hx
    obtain ⟨hcb, hkn, -, -⟩ := State.arrayAt?_spec harrAt
    have hown : s.vm.findClass R_law = some m.cls := findClass_of_methodNamed B.named
    have hts0 : ∀ c ∈ (Jvm.Cond.code x code maxLocals ret :: tables_1), c.before #[Value.ref b] s = true := atoms_spec (ws := Jvm.Cond.code x code maxLocals ret :: tables_1) B.pre
    have hts : ∀ w ∈ lw_tbl, w.before #[Value.ref b] s = true := k2_hts_sels lw_privs (fun w hw => hts0 w (List.mem_cons_of_mem _ hw)) lw_privs_ok
    have hml : c.maxLocals = 4 := B.maxLocals_eq (hts0 _ List.mem_cons_self)
    have X₀ : Stand p l e room_1 s m #[Value.ref b] below meth c s₁ [] 0 0 := Stand.of_body B
    have hh0 : s₁.heap = s.heap := by rw [B.state]; rfl
    have hsz : scr.slots.size = xs.length := by rw [← Array.length_toList, hlist, List.length_map]
    have hval : ∀ j : Nat, j < xs.length → scr.slots[j]? = some (.int (xs.getD j 0)) := fun j hj => by
      rw [← Array.getElem?_toList, hlist]
      simp [hj]
    have hbl : b < s.heap.size := (Array.getElem?_eq_some_iff.mp hcb).1
    have hX : va_X b xs.length (fun j => xs.getD j 0) s s.heap := ⟨scr, hcb, hof, hkn, hsz, hval⟩
    have K : W p l e room_1 s m #[Value.ref b] below meth c s₁.heap [] 0 0 (lw_Z below #[Value.ref b] s) (entryFrame m ([Value.ref b] : List Value).toArray 4) := by
      rw [hh0]
      exact whole_start l hflags hbd ⟨B.exec, B.bytes, B.returns, hml, hown, hts, hX, hbl, B.notSynchronized, hgv⟩
    obtain ⟨t, a1, o, b1, b2, b3⟩ := K s₁ rfl X₀
    exact ⟨t, o, a1, b1, b2, b3⟩
theorem lw_pre_spec {args : Array Value} {s : State} (h : (Jvm.Cond.and given_1 narrow_1).before args s = true) (hr : rest_1_c.before args s = true) : ∃ (b : Addr) (xs : List Int32), lw_P b xs args s := by
  have hs := flat_of_before _ h
  have hq := flat_of_before _ hr
  have hc : (Cond.count 1).before args s = true := hs _ (by decide +kernel)
  have harr : (Cond.arrayOf (.arg 0) .int).before args s = true := hs _ (by decide +kernel)
  have hle : (Cond.le (.length (.arg 0)) (.int 6)).before args s = true := hs _ (by decide +kernel)
  have hlen : (Cond.isInt (.length (.arg 0))).before args s = true := hq _ (by decide +kernel)
  have hall : (Cond.all (.arg 0) (.isInt (.elem (.arg 0) (.index 0)))).before args s = true := hq _ (by decide +kernel)
  obtain ⟨b, xs, hb, hx⟩ := State.ints_of_pre rfl harr hlen hall
  have hsm : xs.length < 2 ^ 31 := hx.choose_spec.2.2.2
  have hev : (Term.length (.arg 0)).eval args s none [] s = some (.int xs.length.toInt32) := hx.length_eval hb
  have hv := Cond.le_ints hev (show (Term.int 6).eval args s none [] s = some (.int 6) from rfl)
  have hd : xs.length.toInt32 ≤ 6 := by
    simpa [Cond.before, Cond.holds, hv] using hle
  have hN : xs.length ≤ 6 := (Int32.ofNat_le_ofNat hsm (by decide)).mp (show Int32.ofNat xs.length ≤ Int32.ofNat 6 from hd)
  exact ⟨b, xs, Cond.one_arg hc (show args[0]? = some (.ref b) from hb), hx, hN, h⟩
theorem lw_comes (l : Launch) (hflags : l.flags = flags0) : Comes l x (Jvm.Cond.code x code maxLocals ret :: tables_1) room_1 (fun tb e args s => Calls_1 tb e args s ∧ rest_1 tb e args s ∧ Pre_1 tb e args s)
    (fun _ _ args s o t => lw_Q args s o t) := by
  intro p e ha hc hk s m args below hf hfit hheap happ hpre
  obtain ⟨b, xs, hP⟩ := lw_pre_spec hpre.2.2 hpre.2.1
  obtain ⟨k, o, h1, h2, h3, hQ⟩ := lw_walk l hflags b xs p e ha hc hk s m args below hf ((Spec.applies_iff_loose hf).mp happ).1 hP trivial
  exact ⟨k, o, h1, h2, h3, hQ⟩
theorem lw_frame {s t : State} {o : Outcome} {args : Array Value} (h : Framed s o t [] 600000 7302250) :
    Framed s o t (fieldLocs frame_1_writes args s ++ arrayLocs frame_1_arrays args s ++ staticLocs frame_1_statics s) 600000 7302250 := h
theorem lw_limb (L : Cond) (hL : ∀ (args : Array Value) (s t : State), L.after args s (.returned (some (.int 1))) t = true) :
    ArmFor flags0 classFile x code maxLocals ret World_1 tables_1 room_1 Calls_1 rest_1 Pre_1
      (fun tb e a s o t => postC L tb e a s o t ∧ Framed s o t (fieldLocs frame_1_writes a s ++ arrayLocs frame_1_arrays a s ++ staticLocs frame_1_statics s) 600000 7302250) := by
  intro l hflags _ _ p e ha hc hk s m args below hf hfit hheap happ hpre
  obtain ⟨k, o, h1, h2, h3, rfl, hF⟩ := lw_comes l hflags p e ha hc hk s m args below hf hfit hheap happ hpre
  exact ⟨k, _, h1, h2, h3, hL args s _, lw_frame hF⟩
theorem i_vc : Claimed_1_1 ∧ Claimed_1_2 := ⟨lw_limb limb_1_1 (fun args s t => by simp [limb_1_1, Cond.after, Cond.holds, Cond.value]), lw_limb limb_1_2 (fun args s t => Cond.after_iff.mpr (by
  first | (rw [show limb_1_2 = Cond.eq .result (.int 1) from rfl, Cond.eq_ints (x := 1) (y := 1) rfl rfl]; simp; done) | (simp [limb_1_2, Cond.value, Term.eval]; done)))⟩
