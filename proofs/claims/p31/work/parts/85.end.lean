/-! the script's numbers; the end -/
def xBd (v : Nat → Int) : Prop := ∀ j, -2147483648 ≤ v j ∧ v j ≤ 2147483647
/-! the numbers of a script, and those that are made of them -/
def xRi (xs : Nat → Int32) (k : Nat) : Int32 := match k with
  | 6 => xs 0 &&& 63
  | 7 => 0
  | 8 => xs 1 - 12
  | 20 => xs 1 + xs 2
  | 21 => xs 1 - xs 2
  | 22 => xs 1 * xs 2
  | 23 => xs 1 / xs 2
  | 24 => xs 1 - xs 1 / xs 2 * xs 2
  | 30 => if xs 1 + xs 2 = xs 3 then 1 else 0
  | 31 => if xs 1 - xs 2 = xs 3 then 1 else 0
  | 32 => if xs 1 * xs 2 = xs 3 then 1 else 0
  | 33 => if xs 1 / xs 2 = xs 3 then 1 else 0
  | 34 => if xs 1 - xs 1 / xs 2 * xs 2 = xs 3 then 1 else 0
  | 36 => if xs 1 < xs 2 then -1 else if xs 1 = xs 2 then 0 else 1
  | 37 => if xs 2 = 0 then 0 else if xs 2 = -1 then -1 else 1
  | 38 => if xs 3 = 0 then 0 else if xs 3 = 1 then 1 else 2
  | 40 => lg_cmp (xs 1 + xs 2).toInt64 (xs 3).toInt64
  | 41 => lg_cmp (xs 1 - xs 2).toInt64 (xs 3).toInt64
  | 42 => lg_cmp (xs 1 * xs 2).toInt64 (xs 3).toInt64
  | 43 => lg_cmp (xs 1 / xs 2).toInt64 (xs 3).toInt64
  | 44 => lg_cmp (xs 1 - xs 1 / xs 2 * xs 2).toInt64 (xs 3).toInt64
  | 45 => lg_cmp 0 (xs 3).toInt64
  | 46 => lg_cmp 1 (xs 3).toInt64
  | n => xs n
def xRl (xs : Nat → Int32) (k : Nat) : Int64 := match k with
  | 1000 => (xs 3).toInt64 <<< ((32 : Int32).toInt64 &&& 63)
  | 1001 => (xs 4).toInt64 &&& 4294967295
  | 1002 => ((xs 3).toInt64 <<< ((32 : Int32).toInt64 &&& 63)) ||| ((xs 4).toInt64 &&& 4294967295)
  | _ => 0
def xRho (xs : Nat → Int32) (k : Nat) : Int32 × Int64 := (xRi xs k, bif Nat.blt k 1000 then (xRi xs k).toInt64 else xRl xs k)
theorem xBd_of (xs : Nat → Int32) : xBd (fun j => (xRho xs j).1.toInt) := fun j => by
  have h1 := Int32.le_toInt (xRho xs j).1
  have h2 := Int32.toInt_lt (xRho xs j).1
  exact ⟨by show -2147483648 ≤ (xRho xs j).1.toInt; omega, by show (xRho xs j).1.toInt ≤ 2147483647; omega⟩
theorem xSg_of (xs : Nat → Int32) : xSg (xRho xs) := by
  refine ⟨⟨rfl, rfl, rfl, rfl, rfl⟩, ?_, rfl, rfl, rfl, ?_, rfl, rfl⟩
  · intro n h1 h2
    rcases (show n = 20 ∨ n = 21 ∨ n = 22 ∨ n = 23 ∨ n = 24 by omega) with rfl | rfl | rfl | rfl | rfl <;> rfl
  · intro n h1 h2
    rcases (show n = 20 ∨ n = 21 ∨ n = 22 ∨ n = 23 ∨ n = 24 by omega) with rfl | rfl | rfl | rfl | rfl <;> rfl
theorem xIv_of {xs : Nat → Int32} {iv : List (Int × Int)} (h : ∀ (j : Nat) (q : Int × Int), xnth iv j = some q → q.1 ≤ (xRho xs j).1.toInt ∧ (xRho xs j).1.toInt ≤ q.2) : xIv (xRho xs) iv := by
  refine ⟨fun k => ?_, fun k hk => ?_, rfl, rfl, rfl, rfl, ?_, rfl, xSg_of xs⟩
  · unfold xiv
    cases hq : xnth iv k with
    | none => exact xBd_of xs k
    | some q => exact h k q hq
  · show (bif Nat.blt k 1000 then (xRi xs k).toInt64 else xRl xs k) = (xRi xs k).toInt64
    rw [show Nat.blt k 1000 = true from Nat.ble_eq_true_of_le hk]
    rfl
  · show ((0 : Int32), (bif Nat.blt 7 1000 then (0 : Int32).toInt64 else xRl xs 7)) = (0, 0)
    rw [show Nat.blt 7 1000 = true from rfl]
    rw [show (0 : Int32).toInt64 = 0 from by decide]
    rfl
theorem xIv_nil (xs : Nat → Int32) : xIv (xRho xs) [] := xIv_of (fun j q h => by cases j <;> cases h)
def zRho (xs : Nat → Int32) (k : Nat) : Int32 × Int64 := bif Nat.ble 2000 k then (xs (k - 2000), 0) else xRho (fun _ => 0) k
theorem zRho_lo {xs : Nat → Int32} {k : Nat} (h : k < 2000) : zRho xs k = xRho (fun _ => 0) k := by
  unfold zRho
  cases hb : Nat.ble 2000 k with
  | true => exact absurd (Nat.le_of_ble_eq_true hb) (by omega)
  | false => rfl
theorem zRho_hi {xs : Nat → Int32} (i : Nat) : xs i = (zRho xs (i + 2000)).1 := by
  unfold zRho
  rw [show Nat.ble 2000 (i + 2000) = true from Nat.ble_eq_true_of_le (by omega), show i + 2000 - 2000 = i by omega]
  rfl
theorem zSg (xs : Nat → Int32) : xSg (zRho xs) := by
  obtain ⟨⟨a1, a2, a3, a4, a5⟩, b, c, d, e, f, g, i⟩ := xSg_of (fun _ => 0)
  refine ⟨⟨a1, a2, a3, a4, a5⟩, fun n h1 h2 => ?_, c, d, e, fun n h1 h2 => ?_, g, i⟩
  · rw [zRho_lo (k := n + 10) (by omega), zRho_lo (k := n) (by omega), zRho_lo (k := 3) (by omega)]
    exact b n h1 h2
  · rw [zRho_lo (k := n + 20) (by omega), zRho_lo (k := n) (by omega), zRho_lo (k := 3) (by omega)]
    exact f n h1 h2
theorem zIv {xs : Nat → Int32} {iv : List (Int × Int)} (h : ∀ k, (xiv iv k).1 ≤ (zRho xs k).1.toInt ∧ (zRho xs k).1.toInt ≤ (xiv iv k).2) : xIv (zRho xs) iv := by
  obtain ⟨-, b, c, d, e, f, g, i, -⟩ := xIv_nil (fun _ => 0)
  refine ⟨h, fun k hk => ?_, c, d, e, f, g, i, zSg xs⟩
  rw [zRho_lo (by omega)]
  exact b k hk
theorem zIv_nil (xs : Nat → Int32) : xIv (zRho xs) [] := zIv (fun k => by
  have := i32_rng (zRho xs k).1
  show -2147483648 ≤ _ ∧ _ ≤ 2147483647
  exact this)
def zL (xs : Nat → Int32) (N : Nat) : List (Int × Int) := List.replicate 2000 (-2147483648, 2147483647) ++ (List.range N).map (fun j => ((xs j).toInt, (xs j).toInt))
theorem zL_hi {xs : Nat → Int32} {N j : Nat} (h : j < N) : xiv (zL xs N) (j + 2000) = ((xs j).toInt, (xs j).toInt) := by
  unfold xiv
  rw [xnth_eq]
  unfold zL
  rw [List.getElem?_append_right (by rw [List.length_replicate]; omega), List.length_replicate, show j + 2000 - 2000 = j by omega, List.getElem?_map, List.getElem?_range h]
  rfl
theorem zL_ok (xs : Nat → Int32) (N : Nat) : xIv (zRho xs) (zL xs N) := zIv (fun k => by
  have r := i32_rng (zRho xs k).1
  by_cases hk : k < 2000
  · have e : xiv (zL xs N) k = (-2147483648, 2147483647) := by
      unfold xiv
      rw [xnth_eq]
      unfold zL
      rw [List.getElem?_append_left (by rw [List.length_replicate]; exact hk), List.getElem?_replicate, if_pos hk]
    rw [e]
    exact r
  · by_cases hN : k - 2000 < N
    · have e := zL_hi (xs := xs) hN
      rw [show k - 2000 + 2000 = k by omega] at e
      rw [e]
      have e2 := zRho_hi (xs := xs) (k - 2000)
      rw [show k - 2000 + 2000 = k by omega] at e2
      rw [← e2]
      exact ⟨Int.le_refl _, Int.le_refl _⟩
    · have e : xiv (zL xs N) k = (-2147483648, 2147483647) := by
        unfold xiv
        rw [xnth_eq]
        unfold zL
        rw [List.getElem?_append_right (by rw [List.length_replicate]; omega), List.length_replicate, List.getElem?_eq_none (by rw [List.length_map, List.length_range]; omega)]
      rw [e]
      exact r)
theorem zL_fl {xs : Nat → Int32} {N j : Nat} (h : j < N) : xfl (zL xs N) (j + 2000) = some (xs j).toInt := by
  unfold xfl
  rw [zL_hi h]
  show (bif decide ((xs j).toInt = (xs j).toInt) then some (xs j).toInt else none) = _
  rw [decide_eq_true rfl]
  rfl
theorem nzr_le {f : Nat → Int32} : ∀ n, nzr f n ≤ n
  | 0 => Nat.le_refl _
  | n + 1 => by
    have := nzr_le (f := f) n
    unfold nzr
    split <;> omega
theorem xend_Z {S : xS} {r : xR} (he : xend rL_law S ([], []) = some (r, ([], []))) (hr : r.2.1 = some (.int 1)) : ∃ (pc : Nat) (lv : xLv) (h : List xE) (sl fr : Nat) (z : Nat × Nat × Nat), S = (pc, lv, [.int 1], h, sl, fr) ∧ xfet tL_law pc = some (.ireturn, z) ∧ r.1 = h ∧ r.2.2.1 = sl ∧ r.2.2.2 = fr := by
  obtain ⟨pc, lv, st, h, sl, fr⟩ := S
  have hm : xMr rL_law = some .boolean := rfl
  unfold xend at he
  rw [hm] at he
  dsimp only at he
  split at he
  · rename_i z hf
    split at he
    · rename_i hq
      cases hq
    · rename_i hq
      cases hq
    · rename_i v _
      obtain ⟨hb, he⟩ := xbif he
      cases he
      obtain rfl : v = 1 := by injection (Option.some.inj hr)
      exact ⟨pc, lv, h, sl, fr, z, rfl, hf, rfl, rfl, rfl⟩
    · cases he
  · split at he
    · rename_i hq
      cases hq
    · rename_i hq
      cases hq
    · cases he
  · split at he
    · rename_i hq
      cases hq
    · rename_i hq
      cases hq
    · cases he
  · split at he
    · rename_i hq
      cases hq
    · cases he
  · cases he
def R_law : String := "PulledSignalsLaw"
def lw_P (b : Addr) (xs : List Int32) (args : Array Value) (s : State) : Prop := args = #[.ref b] ∧ s.IntsAt b xs ∧ xs.length ≤ 3072 ∧ (Jvm.Cond.and given_1 narrow_1).before args s = true
def lw_Q (_ : Array Value) (s : State) (o : Outcome) (t : State) : Prop := o = .returned (some (.int 1)) ∧ Framed s o t [] 600000 7302250
def lw_Z (below : List Frame) (a : Array Value) (s : State) : State → Prop := fun t => ∃ o, t.status = .running ∧ Ended t below o ∧ lw_Q a s o t
/-- the law's own end, with 1 on the stack, nothing written that was there before, its room as the claim has it -/
theorem lw_ret {p : Program} {l : Launch} {e : Env} {s : State} {m : MethodId} {below : List Frame} {meth : Method} {c : Code} {b : Nat} (hx : p.tables.exec = Jvm.exec) (hb : c.code = code) (hr : meth.sig.returnType = ret) (hlocks : meth.locks = false) {pc : Nat} {H : Heap} {ls : Array Slot} (hdg : decode code pc = .ok (.ireturn, 1)) : W p l e room_1 s m #[Value.ref b] below meth c H [] 600000 7302250 (lw_Z below #[Value.ref b] s) (F0 m pc ls [.int 1]) := by
  intro T hT X
  obtain ⟨fs, hret, hrun, hended, hW, hframe⟩ := X.leave (v := some (.int 1)) (hlocks := hlocks) (fun h => by rw [hr] at h; cases h)
  have hmeth' : T.vm.method? m = some meth := X.method'
  refine ⟨T.setFrames fs, ?_, .returned (some (.int 1)), hrun, hended, rfl, ⟨_, rfl⟩, hW, hframe⟩
  jvm_step X.here [X.here.top, hx, hb, hdg, hmeth', hr, ret, narrow_b1]
  (try refine ⟨rfl, ?_⟩); (try refine ⟨rfl, ?_⟩)
  first | (intro acts; rw [hret _ acts rfl rfl rfl]) | rw [hret _ _ rfl rfl rfl]
  exact Steps.refl _
/-- what holds at the law's entry: the machine, the code, the tables' words (any of lw_tbl by 'hts w (by decide +kernel)'), the script of L ints xs at the cell b, what the Statement gives of the start (any of its parts by flat_of_before) -/
def lw_At (p : Program) (s : State) (m : MethodId) (meth : Method) (c : Code) (b L : Nat) (xs : Nat → Int32) : Prop :=
  p.tables.exec = Jvm.exec ∧ c.code = code ∧ meth.sig.returnType = ret ∧ c.maxLocals = 4 ∧ s.vm.findClass R_law = some m.cls ∧ (∀ w ∈ lw_tbl, w.before #[Value.ref b] s = true) ∧ va_X b L xs s s.heap ∧ b < s.heap.size ∧ meth.locks = false ∧ (Jvm.Cond.and given_1 narrow_1).before #[Value.ref b] s = true
/-- the classes of the launch, as they stand at the law's start -/
theorem xDca {s : State} {args : Array Value} (hts : ∀ w ∈ lw_tbl, w.before args s = true) : ∃ (D : va_G) (ca : Nat → ClassId), va_K D vwCl (xTys ca) s := by
  have hbig : ∀ w ∈ xBig, w.before args s = true := fun w hw => hts w (List.mem_filter.mp hw).1
  have hc : ∀ k : Nat, ∃ (cC : ClassId) (iS : Nat → Nat), ∀ q : vw_C, vwCl[k]? = some q → u_Kn s q.1 q.2.1 q.2.2 cC iS := by
    intro k
    cases hk : vwCl[k]? with
    | none => exact ⟨0, fun _ => 0, fun q h => by cases h⟩
    | some q =>
      obtain ⟨h1, h2, -⟩ := xLy_at hk
      obtain ⟨cC, iS, h⟩ := u_known (ws := xBig) hbig h1 (hbig _ h2)
      exact ⟨cC, iS, fun q' h' => by cases h'; exact h⟩
  have hp : ∀ ty : FieldType, (Cond.arrayClass ty).before args s = true → (∀ C, ty ≠ .object C) → ∃ c : ClassId, ArrOfT s c ty ∧ va_RA s c ty := by
    intro ty h hn
    obtain ⟨c, k, comp, h1, h2, h3⟩ := Cond.arrayClass_spec h
    refine ⟨c, fun n z => ⟨fun k h => (by cases h), k, h2, comp, h3⟩, ?_⟩
    unfold va_RA
    split
    · exact absurd rfl (hn _)
    · exact h1
  have ho : ∀ C : String, (Cond.arrayOver (.object C)).before args s = true → ∃ c : ClassId, ArrOfT s c (.object C) ∧ va_RA s c (.object C) := by
    intro C h
    obtain ⟨comp, c, k, h1, h2, h3, h4, h5⟩ := Cond.arrayOver_spec h
    exact ⟨c, fun n z => ⟨fun k h => (by cases h), k, h3, comp, h4⟩, k, comp, h3, h4, h1, h5⟩
  obtain ⟨a1, a2, a3, a4, a5⟩ := xAA_in
  obtain ⟨c0, r0⟩ := hp .int (hbig _ a1) (fun C h => by cases h)
  obtain ⟨c1, r1⟩ := hp .long (hbig _ a2) (fun C h => by cases h)
  obtain ⟨c2, r2⟩ := hp .boolean (hbig _ a3) (fun C h => by cases h)
  obtain ⟨c3, r3⟩ := ho "PulledSignals$Cell" (hts _ (List.mem_append_right _ a4))
  obtain ⟨c4, r4⟩ := ho "PulledSignals$Shelf" (hts _ (List.mem_append_right _ a5))
  refine ⟨(fun k => Classical.choose (hc k), fun k => Classical.choose (Classical.choose_spec (hc k))), fun t => match t with
    | 0 => c0
    | 1 => c1
    | 2 => c2
    | 3 => c3
    | _ => c4, fun k q hq => Classical.choose_spec (Classical.choose_spec (hc k)) q hq, fun k q hq => ?_⟩
  match k, hq with
  | 0, hq => cases hq; exact r0
  | 1, hq => cases hq; exact r1
  | 2, hq => cases hq; exact r2
  | 3, hq => cases hq; exact r3
  | 4, hq => cases hq; exact r4
  | n + 5, hq => simp [xTys] at hq
theorem xNX_of {s : State} {args : Array Value} (hts : ∀ w ∈ lw_tbl, w.before args s = true) (hgv : (Jvm.Cond.and given_1 narrow_1).before args s = true) : xNX s.heap.size s := by
  refine ⟨fun w hw hn => ?_, s, args, hgv, hts, rfl, State.WarmedH.refl s, fun _ _ => rfl⟩
  have h := hts w (List.mem_append_right _ hw)
  cases w <;> first | exact h | cases hn
theorem whole_start {p : Program} {e : Env} {s : State} {m : MethodId} {below : List Frame} {meth : Method} {c : Code} (l : Launch) (hflags : l.flags = flags0) {b N : Nat} {xs : Nat → Int32} (hN3 : N ≤ 3072) (C0 : lw_At p s m meth c b N xs) : W p l e room_1 s m #[Value.ref b] below meth c s.heap [] 0 0 (lw_Z below #[Value.ref b] s) (entryFrame m ([Value.ref b] : List Value).toArray 4) := by
  obtain ⟨hx, hb, hr, hml, hown, hts, hX, hbl, hlocks, hgv⟩ := id C0
  obtain ⟨D, ca, hK⟩ := xDca hts
  have hbig : ∀ w ∈ xBig, w.before #[Value.ref b] s = true := fun w hw => hts w (List.mem_filter.mp hw).1
  have hN := xNX_of hts hgv
  have hiv := zL_ok xs N
  have hv0 := zIv_nil xs
  obtain ⟨lv, h0, sl, fr, hA, g0, g1, g2, g3, hsl, hfr, hc0, hn0⟩ := xA_get
  obtain ⟨R, E⟩ := start_ok hn0
  have hT := hChk_ok (ρ := fun _ => .inl (0, 0, .inl (fun _ => 0))) hc0
  have hnz : nz (sg0 h0) ≤ 48 := by
    have a1 := nzr_le (f := sg0 h0 2) 24
    have a2 := nzr_le (f := sg0 h0 12) 24
    unfold nz
    omega
  obtain ⟨S, r, z0, ⟨j, n0, d0, hrun⟩, hf0, hr0, he0, k2, k3, k4, k5⟩ := lloop (L := N + 1) (iv := zL xs N) (zz := xs) (Q := fun h' r => r = some (.int 1) ∧ h'.length ≤ 600000) rfl hN3 (fun j hj => zL_fl hj) (fun h hh => ⟨rfl, hh⟩) (N / 6) 0 KS0 (sg0 h0) h0 lv 0 (by omega) (KE.rf.w (Nat.zero_le _)) hT R E g0 g1 g2 g3 rfl sl fr
  have hB : xrun (N + 1) (zL xs N) xMs (xCd n0 d0) rL_law (1 + j) (18, lv, [], h0, sl, fr) ([], []) = some (S, ([], [])) := by
    rw [hrun n0 d0 1 [] (Nat.le_refl _) (Nat.le_refl _)]
    obtain ⟨pc, lv', st, hh, sl', fr'⟩ := S
    obtain ⟨ins, len, a, b'⟩ := z0
    show (match xfet (xMt rL_law) pc with
        | none => none
        | some (ins, len, a, b) => bif xisr ins then some ((pc, lv', st, hh, sl', fr'), (([], []) : xO)) else match xstep (N + 1) (zL xs N) xMs (xCd n0 d0) rL_law ins len a b pc lv' st hh sl' fr' ([], []) with
          | none => none
          | some (S', O') => xrun (N + 1) (zL xs N) xMs (xCd n0 d0) rL_law 0 S' O') = _
    rw [show xfet (xMt rL_law) pc = some (ins, len, a, b') from hf0]
    dsimp only
    rw [show xisr ins = true from hr0]
    rfl
  obtain ⟨pc, lv2, hh, sl2, fr2, z, rfl, hf, q1, q2, q3⟩ := xend_Z (he0 []) k4
  have X0 : xCtx p s m #[Value.ref b] meth c D ca b s.heap.size (zRho xs) 0 (fun _ => 0) rL_law 0 := ⟨hx, hb, hml, hown, hbig, hN, hK, fun q => absurd rfl q, hbl, rfl, fun hk => absurd hk (by decide)⟩
  have X1 : xCtx p s m #[Value.ref b] meth c D ca b s.heap.size (zRho xs) (N + 1) xs rL_law 0 := ⟨hx, hb, hml, hown, hbig, hN, hK, fun _ => hX, hbl, rfl, fun hk => absurd hk (by decide)⟩
  have hCA : xCsnd D ca b s.heap.size (zRho xs) xMs (xC xBt [] xMs xN 16) := xC_ok (xBt_ok hv0) hv0 xCs_ok xMs_ok xN 16
  have hCB : xCsnd D ca b s.heap.size (zRho xs) xMs (xCd n0 d0) := xC_ok (xBt_ok hv0) hv0 xCs_ok xMs_ok n0 d0
  have rA := xrun_ok (L := 0) (xs := fun _ => 0) hv0 (fun i hi => absurd hi (Nat.not_lt_zero i)) xCs_ok hCA tk_rL_law 10 xS0 ([], []) _ ([], []) hA
  have rB := xrun_ok (L := N + 1) (xs := xs) hiv (fun i hi => zRho_hi i) xCs_ok hCB tk_rL_law (1 + j) _ ([], []) _ ([], []) hB
  have q4 : fr2 ≤ 2000 := by
    rw [← q3]
    exact Nat.le_trans k3 (Nat.max_le.mpr ⟨hfr, by decide⟩)
  have q5 : hh.length ≤ 600000 := by
    rw [← q1]
    exact k5
  have hF : xFits room_1 0 (pc, lv2, [.int 1], hh, sl2, fr2) := ⟨by show hh.length - 0 ≤ 600000; omega, by show sl2 ≤ 7302250; omega, by show fr2 ≤ 2048; omega, by show 41 * fr2 ≤ 84000; omega⟩
  have hFA : xFits room_1 0 (18, lv, [], h0, sl, fr) := xFits.of (h := h0) (sl := sl) (fr := fr) rB.1 hF
  have kfin : xAt p l e room_1 s m #[Value.ref b] below meth c (lw_Z below #[Value.ref b] s) D ca b s.heap.size (zRho xs) rL_law 0 (pc, lv2, [.int 1], hh, sl2, fr2) := by
    intro H locs ls a1 a2 a3 a4
    obtain ⟨len, aa, bb⟩ := z
    obtain ⟨hd, hl, -⟩ := xfet_ok tk_rL_law hf
    obtain rfl : len = 1 := by simpa [xlen] using hl
    exact W.widen (k := 600000) (n := 7302250) (by show hh.length - 0 ≤ 600000; omega) (by show sl2 ≤ 7302250; omega) (va_forget a2.2.2 (lw_ret hx hb hr hlocks hd))
  have kB := rB.2 p l e room_1 s m #[Value.ref b] below meth c (lw_Z below #[Value.ref b] s) 0 X1 (fun P hP => by cases hP) hF kfin
  have kA := rA.2 p l e room_1 s m #[Value.ref b] below meth c (lw_Z below #[Value.ref b] s) 0 X0 (fun P hP => by cases hP) hFA kB
  have hl := lv_entry ([.ref b]) (n := 4) (Nat.le_of_ble_eq_true rfl)
  rw [lg_entry_eq]
  generalize (lg_sl ([.ref b]) ++ List.replicate (4 - (lg_sl ([.ref b])).length) Slot.unset).toArray = ls at hl ⊢
  exact kA s.heap [] ls (fun k q h => by cases h) va_S.rf (Nat.le_refl 0) hl
-- ===== YOUR PART ENDS =====
set_option maxHeartbeats 4000000 in
theorem lw_walk (l : Launch) (hflags : l.flags = flags0) (b : Addr) (xs : List Int32) : MetFree l x (headSpec (Jvm.Cond.code x code maxLocals ret :: tables_1) room_1) (lw_P b xs) (fun _ _ _ _ _ => True) lw_Q := by
  refine MetFree.of_bodyS (code := code) (maxLocals := maxLocals) (ret := ret) (by decide) ?_ ?_
  · intro args s m h hn
    obtain ⟨meth, c, h1, h2, h3, h4, h5, h6, -, -⟩ := Cond.code_spec hn (atoms_spec (ws := Jvm.Cond.code x code maxLocals ret :: tables_1) h _ List.mem_cons_self)
    exact ⟨meth, c, h1, h2, h3, h4, h5, h6⟩
  · intro p e s m args below meth c s₁ B hml0 hP _
    obtain ⟨rfl, hx, hbd, hgv⟩ := hP
    obtain ⟨scr, harrAt, hlist, hof, hsmall⟩ := hx
    obtain ⟨hcb, hkn, -, -⟩ := State.arrayAt?_spec harrAt
    have hown : s.vm.findClass R_law = some m.cls := findClass_of_methodNamed B.named
    have hts0 : ∀ c ∈ (Jvm.Cond.code x code maxLocals ret :: tables_1), c.before #[Value.ref b] s = true := atoms_spec (ws := Jvm.Cond.code x code maxLocals ret :: tables_1) B.pre
    have hts : ∀ w ∈ lw_tbl, w.before #[Value.ref b] s = true := k2_hts_sels lw_privs (fun w hw => hts0 w (List.mem_cons_of_mem _ hw)) lw_privs_ok
    have hml : c.maxLocals = 4 := B.maxLocals_eq (hts0 _ List.mem_cons_self)
    have X₀ : Stand p l e room_1 s m #[Value.ref b] below meth c s₁ [] 0 0 := Stand.of_body B
    have hh0 : s₁.heap = s.heap := by rw [B.state]; rfl
    have hsz : scr.slots.size = xs.length := by rw [← Array.length_toList, hlist, List.length_map]
    have hval : ∀ j : Nat, j < xs.length → scr.slots[j]? = some (.int (xs.getD j 0)) := fun j hj => by
      rw [← Array.getElem?_toList, hlist]
      simp [hj]
    have hbl : b < s.heap.size := (Array.getElem?_eq_some_iff.mp hcb).1
    have hX : va_X b xs.length (fun j => xs.getD j 0) s s.heap := ⟨scr, hcb, hof, hkn, hsz, hval⟩
    have K : W p l e room_1 s m #[Value.ref b] below meth c s₁.heap [] 0 0 (lw_Z below #[Value.ref b] s) (entryFrame m ([Value.ref b] : List Value).toArray 4) := by
      rw [hh0]
      exact whole_start l hflags hbd ⟨B.exec, B.bytes, B.returns, hml, hown, hts, hX, hbl, B.notSynchronized, hgv⟩
    obtain ⟨t, a1, o, b1, b2, b3⟩ := K s₁ rfl X₀
    exact ⟨t, o, a1, b1, b2, b3⟩
theorem lw_pre_spec {args : Array Value} {s : State} (h : (Jvm.Cond.and given_1 narrow_1).before args s = true) (hr : rest_1_c.before args s = true) : ∃ (b : Addr) (xs : List Int32), lw_P b xs args s := by
  have hs := flat_of_before _ h
  have hq := flat_of_before _ hr
  have hc : (Cond.count 1).before args s = true := hs _ (by decide +kernel)
  have harr : (Cond.arrayOf (.arg 0) .int).before args s = true := hs _ (by decide +kernel)
  have hle : (Cond.le (.length (.arg 0)) (.int 3072)).before args s = true := hs _ (by decide +kernel)
  have hlen : (Cond.isInt (.length (.arg 0))).before args s = true := hq _ (by decide +kernel)
  have hall : (Cond.all (.arg 0) (.isInt (.elem (.arg 0) (.index 0)))).before args s = true := hq _ (by decide +kernel)
  obtain ⟨b, xs, hb, hx⟩ := State.ints_of_pre rfl harr hlen hall
  have hsm : xs.length < 2 ^ 31 := hx.choose_spec.2.2.2
  have hev : (Term.length (.arg 0)).eval args s none [] s = some (.int xs.length.toInt32) := hx.length_eval hb
  have hv := Cond.le_ints hev (show (Term.int 3072).eval args s none [] s = some (.int 3072) from rfl)
  have hd : xs.length.toInt32 ≤ 3072 := by
    simpa [Cond.before, Cond.holds, hv] using hle
  have hN : xs.length ≤ 3072 := (Int32.ofNat_le_ofNat hsm (by decide)).mp (show Int32.ofNat xs.length ≤ Int32.ofNat 3072 from hd)
  exact ⟨b, xs, Cond.one_arg hc (show args[0]? = some (.ref b) from hb), hx, hN, h⟩
theorem lw_comes (l : Launch) (hflags : l.flags = flags0) : Comes l x (Jvm.Cond.code x code maxLocals ret :: tables_1) room_1 (fun tb e args s => Calls_1 tb e args s ∧ rest_1 tb e args s ∧ Pre_1 tb e args s)
    (fun _ _ args s o t => lw_Q args s o t) := by
  intro p e ha hc hk s m args below hf hfit hheap happ hpre
  obtain ⟨b, xs, hP⟩ := lw_pre_spec hpre.2.2 hpre.2.1
  obtain ⟨k, o, h1, h2, h3, hQ⟩ := lw_walk l hflags b xs p e ha hc hk s m args below hf ((Spec.applies_iff_loose hf).mp happ).1 hP trivial
  exact ⟨k, o, h1, h2, h3, hQ⟩
theorem lw_frame {s t : State} {o : Outcome} {args : Array Value} (h : Framed s o t [] 600000 7302250) :
    Framed s o t (fieldLocs frame_1_writes args s ++ arrayLocs frame_1_arrays args s ++ staticLocs frame_1_statics s) 600000 7302250 := h
theorem lw_limb (L : Cond) (hL : ∀ (args : Array Value) (s t : State), L.after args s (.returned (some (.int 1))) t = true) :
    ArmFor flags0 classFile x code maxLocals ret World_1 tables_1 room_1 Calls_1 rest_1 Pre_1
      (fun tb e a s o t => postC L tb e a s o t ∧ Framed s o t (fieldLocs frame_1_writes a s ++ arrayLocs frame_1_arrays a s ++ staticLocs frame_1_statics s) 600000 7302250) := by
  intro l hflags _ _ p e ha hc hk s m args below hf hfit hheap happ hpre
  obtain ⟨k, o, h1, h2, h3, rfl, hF⟩ := lw_comes l hflags p e ha hc hk s m args below hf hfit hheap happ hpre
  exact ⟨k, _, h1, h2, h3, hL args s _, lw_frame hF⟩
theorem i_vc : Claimed_1_1 ∧ Claimed_1_2 := ⟨lw_limb limb_1_1 (fun args s t => by simp [limb_1_1, Cond.after, Cond.holds, Cond.value]), lw_limb limb_1_2 (fun args s t => Cond.after_iff.mpr (by
  first | (rw [show limb_1_2 = Cond.eq .result (.int 1) from rfl, Cond.eq_ints (x := 1) (y := 1) rfl rfl]; simp; done) | (simp [limb_1_2, Cond.value, Term.eval]; done)))⟩
