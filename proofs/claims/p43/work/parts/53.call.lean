/-! the script's numbers; the end -/
def xBd (v : Nat → Int) : Prop := ∀ j, -2147483648 ≤ v j ∧ v j ≤ 2147483647
/-! the numbers of a script, and those that are made of them -/
def xRi (xs : Nat → Int32) (k : Nat) : Int32 := match k with
  | 6 => xs 0 &&& 63
  | 7 => 0
  | 8 => xs 1 - 12
  | 20 => xs 1 + xs 2
  | 21 => xs 1 - xs 2
  | 22 => xs 1 * xs 2
  | 23 => xs 1 / xs 2
  | 24 => xs 1 - xs 1 / xs 2 * xs 2
  | 30 => if xs 1 + xs 2 = xs 3 then 1 else 0
  | 31 => if xs 1 - xs 2 = xs 3 then 1 else 0
  | 32 => if xs 1 * xs 2 = xs 3 then 1 else 0
  | 33 => if xs 1 / xs 2 = xs 3 then 1 else 0
  | 34 => if xs 1 - xs 1 / xs 2 * xs 2 = xs 3 then 1 else 0
  | 36 => if xs 1 < xs 2 then -1 else if xs 1 = xs 2 then 0 else 1
  | 37 => if xs 2 = 0 then 0 else if xs 2 = -1 then -1 else 1
  | 38 => if xs 3 = 0 then 0 else if xs 3 = 1 then 1 else 2
  | 40 => lg_cmp (xs 1 + xs 2).toInt64 (xs 3).toInt64
  | 41 => lg_cmp (xs 1 - xs 2).toInt64 (xs 3).toInt64
  | 42 => lg_cmp (xs 1 * xs 2).toInt64 (xs 3).toInt64
  | 43 => lg_cmp (xs 1 / xs 2).toInt64 (xs 3).toInt64
  | 44 => lg_cmp (xs 1 - xs 1 / xs 2 * xs 2).toInt64 (xs 3).toInt64
  | 45 => lg_cmp 0 (xs 3).toInt64
  | 46 => lg_cmp 1 (xs 3).toInt64
  | n => xs n
def xRl (xs : Nat → Int32) (k : Nat) : Int64 := match k with
  | 1000 => (xs 3).toInt64 <<< ((32 : Int32).toInt64 &&& 63)
  | 1001 => (xs 4).toInt64 &&& 4294967295
  | 1002 => ((xs 3).toInt64 <<< ((32 : Int32).toInt64 &&& 63)) ||| ((xs 4).toInt64 &&& 4294967295)
  | _ => 0
def xRho (xs : Nat → Int32) (k : Nat) : Int32 × Int64 := (xRi xs k, bif Nat.blt k 1000 then (xRi xs k).toInt64 else xRl xs k)
theorem xBd_of (xs : Nat → Int32) : xBd (fun j => (xRho xs j).1.toInt) := fun j => by
  have h1 := Int32.le_toInt (xRho xs j).1
  have h2 := Int32.toInt_lt (xRho xs j).1
  exact ⟨by show -2147483648 ≤ (xRho xs j).1.toInt; omega, by show (xRho xs j).1.toInt ≤ 2147483647; omega⟩
theorem xSg_of (xs : Nat → Int32) : xSg (xRho xs) := by
  refine ⟨⟨rfl, rfl, rfl, rfl, rfl⟩, ?_, rfl, rfl, rfl, ?_, rfl, rfl⟩
  · intro n h1 h2
    rcases (show n = 20 ∨ n = 21 ∨ n = 22 ∨ n = 23 ∨ n = 24 by omega) with rfl | rfl | rfl | rfl | rfl <;> rfl
  · intro n h1 h2
    rcases (show n = 20 ∨ n = 21 ∨ n = 22 ∨ n = 23 ∨ n = 24 by omega) with rfl | rfl | rfl | rfl | rfl <;> rfl
theorem xIv_of {xs : Nat → Int32} {iv : List (Int × Int)} (h : ∀ (j : Nat) (q : Int × Int), xnth iv j = some q → q.1 ≤ (xRho xs j).1.toInt ∧ (xRho xs j).1.toInt ≤ q.2) : xIv (xRho xs) iv := by
  refine ⟨fun k => ?_, fun k hk => ?_, rfl, rfl, rfl, rfl, ?_, rfl, xSg_of xs⟩
  · unfold xiv
    cases hq : xnth iv k with
    | none => exact xBd_of xs k
    | some q => exact h k q hq
  · show (bif Nat.blt k 1000 then (xRi xs k).toInt64 else xRl xs k) = (xRi xs k).toInt64
    rw [show Nat.blt k 1000 = true from Nat.ble_eq_true_of_le hk]
    rfl
  · show ((0 : Int32), (bif Nat.blt 7 1000 then (0 : Int32).toInt64 else xRl xs 7)) = (0, 0)
    rw [show Nat.blt 7 1000 = true from rfl]
    rw [show (0 : Int32).toInt64 = 0 from by decide]
    rfl
theorem xIv_nil (xs : Nat → Int32) : xIv (xRho xs) [] := xIv_of (fun j q h => by cases j <;> cases h)
/-! a call out of the law: the class's contract, wherever foreign cells lie -/
abbrev R0 : Nat → Int32 × Int64 := xRho (fun _ => 0)
section WC
variable {p : Program} {l : Launch} {e : Env} {R : Room} {s : State} {m : MethodId} {args : Array Value} {below : List Frame} {meth : Method} {c : Code} {Q : State → Prop} {D : va_G} {ca : Nat → ClassId} {b : Nat} {o o1 : Nat → Nat} {A : Nat → Prop} {H : Heap} {locs : List Loc} {cells slots : Nat} {ks : List Nat} {h : List xE} {cc : ByteArray} {nL : Nat} {own : String}
/-- the world of the law: the class's cells, the places they have, what stands below -/
def LWo (D : va_G) (ca : Nat → ClassId) (b : Nat) (o : Nat → Nat) (A : Nat → Prop) (s : State) (h : List xE) (H : Heap) : Prop := va_P D vwCl (xWs b o R0 ca h) H ∧ xUp o ∧ b < o 0 ∧ o 0 ≤ s.heap.size ∧ (h.length = 0 → o 0 = H.size) ∧ va_K D vwCl (xTys ca) s ∧ xNX (o 0) s ∧ ∀ a, a < o 0 → ¬ A a
theorem LWo.lt (w : LWo D ca b o A s h H) : ∀ q, q < h.length → o q < H.size := fun q hq => by
  obtain ⟨e, he⟩ : ∃ e, h[q]? = some e := ⟨h[q], List.getElem?_eq_getElem hq⟩
  exact (w.1 _ _ (xWs_get (b := b) (o := o) (ρ := R0) (ca := ca) he)).lt
theorem LWo.o0 (w : LWo D ca b o A s h H) : rmp o h.length H.size 0 = o 0 := by
  by_cases h0 : h.length = 0
  · rw [w.2.2.2.2.1 h0]
    unfold rmp
    rw [if_neg (by omega)]
    omega
  · exact rmp_lo (by omega)
theorem LWo.ws (w : LWo D ca b o A s h H) (hT : TT ks h) : va_P D vwCl (xWs b (rmp o h.length H.size) R0 ca h) H :=
  xWs_mv hT (fun q hq => (rmp_lo hq).symm) w.1
theorem LWo.up (w : LWo D ca b o A s h H) : xUp (rmp o h.length H.size) := rmp_up w.2.1 w.lt
theorem LWo.pre (w : LWo D ca b o A s h H) (hT : TT ks h) (hS : va_S A s.heap H locs) (as : List Value) : ∀ U : State, U.heap = H → s.WarmedH U.vm → xPc D ca b (rmp o h.length H.size) R0 as h (as.map (xSh b (rmp o h.length H.size) R0)).toArray U := by
  obtain ⟨-, w2, w3, w4, w5, w6, w7, w8⟩ := id w
  intro U hU hW
  refine ⟨rfl, by rw [hU]; exact w.ws hT, fun i => by rw [hU]; exact rmp_hi, va_K.moved hW.alike w6, ⟨by rw [w.o0]; exact w3, w.up⟩, ?_⟩
  rw [w.o0]
  exact w7.go hW (fun q hq => by
    rw [hU]
    exact hS.2.1 q (by omega) (w8 q hq))
/-- behind the call: more than xcalled tells -/
theorem wcalled {h' : List xE} {ret : Option Value} {mc ms pc : Nat} {ls : Array Slot} {st0 rest : List Value} {a : Array Value}
    (hr : va_Run p l e R s m args below meth c H locs cells slots mc ms (F0 m pc ls st0) rest (xQc D ca b o1 R0 h' ret a) (xA o1)) (hS : va_S A s.heap H locs) (hA : ∀ q, xA o1 q → A q)
    (kk : ∀ (H1 : Heap) (locs1 : List Loc), va_P D vwCl (xWs b o1 R0 ca h') H1 → va_S A s.heap H1 locs1 → H.size ≤ H1.size → (∀ q, q < H.size → ¬ xA o1 q → H1[q]? = H[q]?) → W p l e R s m args below meth c H1 locs1 (cells + mc) (slots + ms) Q (F0 m (pc + 3) ls ((ret.map (xSh b o1 R0)).toList ++ rest))) :
    W p l e R s m args below meth c H locs cells slots Q (F0 m pc ls st0) := by
  intro T hT X
  obtain ⟨v, st0', t, T', L', h0, X', hL, e1, e2, ⟨hv, hp, hz, hk⟩, st⟩ := hr T hT X
  cases hv
  rw [h0] at hz hk
  obtain ⟨t2, a1, b1⟩ := kk T'.heap (locs ++ L') (by rw [e1]; exact hp) ⟨Nat.le_trans hS.1 (by rw [e1]; exact hz), fun q h1 h2 => by rw [e1, hk q (Nat.lt_of_lt_of_le h1 hS.1) (fun z => h2 (hA q z))]; exact hS.2.1 q h1 h2, fun q hq => by
    rcases List.mem_append.mp hq with h | h
    · exact hS.2.2 q h
    · exact hA _ (hL q h)⟩ (by rw [e1]; exact hz) (fun q h1 h2 => by rw [e1]; exact hk q h1 h2) T' rfl X'
  exact ⟨t2, st t2 a1, b1⟩
/-- what a method does from a heap on, found by one run -/
def cM (a F G : Nat) (as : List Value) (h : List xE) (Qy : yQ) : Prop := ∃ (n d : Nat) (r : xR), xC xBt [] xMs n d a as h ([], []) = some (r, ([], [])) ∧ r.2.2.1 ≤ G ∧ r.2.2.2 ≤ F ∧ Qy r.1 r.2.1
theorem yM.cm {a F G : Nat} {as : List Value} {h : List xE} {Qy : yQ} (w : yM a F G as h Qy) : cM a F G as h Qy := by
  obtain ⟨r, n0, d0, hrun, hG, hF, hQ⟩ := w
  exact ⟨n0, d0, r, hrun n0 d0 [] (Nat.le_refl _) (Nat.le_refl _), hG, hF, hQ⟩
/-- a contract of the machine as one at the machine's own level -/
theorem wMet {a F G : Nat} {as : List Value} {h : List xE} {Qy : yQ} {M' : xM} (hM : xMs[a]? = some M') (w : cM a F G as h Qy) : ∃ r : xR, xMok M' = true ∧ h.length ≤ r.1.length ∧ r.2.2.1 ≤ G ∧ r.2.2.2 ≤ F ∧ Qy r.1 r.2.1 ∧ xMet D ca b o1 R0 M' as h r := by
  obtain ⟨n0, d0, r, hrun, hG, hF, hQ⟩ := w
  obtain ⟨-, k2, k3, k4⟩ := xC_ok (D := D) (ca := ca) (b := b) (o := o1) (ρ := R0) xBt_ok (xIv_nil (fun _ => 0)) xCs_ok xMs_ok n0 d0 a M' as h ([], []) r ([], []) hM hrun
  exact ⟨r, k3, k2, hG, hF, hQ, k4 (fun X hX => by cases hX)⟩
theorem wCallV {a F G cA q idx pc ci : Nat} {as0 fs rest : List Value} {Qy : yQ} {M' : xM} {ls : Array Slot} (S : CallFix p m c cc nL s args xBig own) (w : LWo D ca b o A s h H) (hT : TT ks h) (hS : va_S A s.heap H locs) (hA : ∀ q, xA (rmp o h.length H.size) q → A q)
    (hM : xMs[a]? = some M') (hk : xMk M' = 0) (hl : Cond.methodLink own idx (xMy M') ∈ xBig) (hy : cM a F G (.ref (q + 1) :: as0) h Qy) (hQl : ∀ h' r, Qy h' r → h'.length ≤ h.length + cA) (hn : as0.length = xMp M') (hq : h[q]? = some (.inr (ci, fs))) (hci : ci = xMo M')
    (hd : decode cc pc = .ok (.invokevirtual idx, 3)) (hc8 : (rest.map fun v => v.category).sum ≤ 8) (rF : F + 1 ≤ R.frames ∧ 41 + 41 * F ≤ R.locals) (rC : cells + cA ≤ R.cells ∧ slots + G ≤ R.slots) (hz : ls.size = nL)
    (k : ∀ (H1 : Heap) (locs1 : List Loc) (h' : List xE) (ret : Option Value), Qy h' ret → h.length ≤ h'.length → va_P D vwCl (xWs b (rmp o h.length H.size) R0 ca h') H1 → va_S A s.heap H1 locs1 → H.size ≤ H1.size → (∀ q, q < H.size → ¬ xA (rmp o h.length H.size) q → H1[q]? = H[q]?) → W p l e R s m args below meth c H1 locs1 (cells + cA) (slots + G) Q (F0 m (pc + 3) ls ((ret.map (xSh b (rmp o h.length H.size) R0)).toList ++ rest))) :
    W p l e R s m args below meth c H locs cells slots Q (F0 m pc ls ((as0.map (xSh b (rmp o h.length H.size) R0)).reverse ++ .ref (o q) :: rest)) := by
  obtain ⟨r, hok, hlen, hG, hF, hQ, hmet⟩ := wMet (D := D) (ca := ca) (b := b) (o1 := rmp o h.length H.size) hM hy
  obtain ⟨-, g2, g3, g4, g5, g6, g7⟩ := xMok_all hok
  obtain ⟨v1, ⟨qc, v2, v3⟩, v4⟩ := xMok_V hok hk
  have hcl := hQl _ _ hQ
  subst hci
  have hql : q < h.length := (List.getElem?_eq_some_iff.mp hq).1
  have hoq : rmp o h.length H.size q = o q := rmp_lo hql
  have hrecv := va_recv w.2.2.2.2.2.1 (w.ws hT) v2 (xWs_get (b := b) (o := rmp o h.length H.size) (ρ := R0) (ca := ca) hq)
  rw [v3] at hrecv
  have hG2 : GoodIn xBig (xws M') := xBig_good (fun w hw => by
    rcases List.mem_cons.mp hw with rfl | hw
    · exact g2
    · exact hw)
  have hpv : PreV s H (xMy M').cls (rmp o h.length H.size q) (xPc D ca b (rmp o h.length H.size) R0 (.ref (q + 1) :: as0) h) (as0.map (xSh b (rmp o h.length H.size) R0)) := ⟨xPc.blind, hrecv, w.pre hT hS (.ref (q + 1) :: as0)⟩
  have r1 : r.2.2.2 + 1 ≤ R.frames ∧ 8 + (xMn M' + 11) + 41 * r.2.2.2 ≤ R.locals := ⟨by omega, by omega⟩
  rw [← hoq]
  refine wcalled (va_runV (Ts := xBig) (own := own) (rest := rest) (As := as0.map (xSh b (rmp o h.length H.size) R0)) S (hmet l) ⟨callB_of (xMp M') S.2.2.2.2 hG2 rfl rfl rfl (S.2.2.2.2 _ g3) (S.2.2.2.2 _ hl) g6 r1, S.2.2.2.2 _ v1, S.2.2.2.2 _ v4⟩ hpv rfl (by rw [List.length_map]; exact hn) hz rfl (lv_room hc8) hd (by omega)) hS hA (fun H1 locs1 b1 b2 b3 b4 => ?_)
  exact W.widen (by omega) (by omega) (k H1 locs1 r.1 r.2.1 hQ hlen b1 b2 b3 b4)
theorem wCallI {a F G cA q idx pc : Nat} {as0 rest : List Value} {Qy : yQ} {M' : xM} {ls : Array Slot} (S : CallFix p m c cc nL s args xBig own) (w : LWo D ca b o A s h H) (hT : TT ks h) (hS : va_S A s.heap H locs) (hA : ∀ q, xA (rmp o h.length H.size) q → A q)
    (hM : xMs[a]? = some M') (hk : xMk M' = 2) (hl : Cond.methodLink own idx (xMy M') ∈ xBig) (hy : cM a F G (.ref (q + 1) :: as0) h Qy) (hQl : ∀ h' r, Qy h' r → h'.length ≤ h.length + cA) (hn : as0.length = xMp M') (hq : q < h.length)
    (hd : decode cc pc = .ok (.invokespecial idx, 3)) (hc8 : (rest.map fun v => v.category).sum ≤ 8) (rF : F + 1 ≤ R.frames ∧ 41 + 41 * F ≤ R.locals) (rC : cells + cA ≤ R.cells ∧ slots + G ≤ R.slots) (hz : ls.size = nL)
    (k : ∀ (H1 : Heap) (locs1 : List Loc) (h' : List xE) (ret : Option Value), Qy h' ret → h.length ≤ h'.length → va_P D vwCl (xWs b (rmp o h.length H.size) R0 ca h') H1 → va_S A s.heap H1 locs1 → H.size ≤ H1.size → (∀ q, q < H.size → ¬ xA (rmp o h.length H.size) q → H1[q]? = H[q]?) → W p l e R s m args below meth c H1 locs1 (cells + cA) (slots + G) Q (F0 m (pc + 3) ls ((ret.map (xSh b (rmp o h.length H.size) R0)).toList ++ rest))) :
    W p l e R s m args below meth c H locs cells slots Q (F0 m pc ls ((as0.map (xSh b (rmp o h.length H.size) R0)).reverse ++ .ref (o q) :: rest)) := by
  obtain ⟨r, hok, hlen, hG, hF, hQ, hmet⟩ := wMet (D := D) (ca := ca) (b := b) (o1 := rmp o h.length H.size) hM hy
  obtain ⟨-, g2, g3, g4, g5, g6, g7⟩ := xMok_all hok
  obtain ⟨v1, v2, v3, -⟩ := xMok_I hok hk
  have hcl := hQl _ _ hQ
  have hoq : rmp o h.length H.size q = o q := rmp_lo hq
  have hG2 : GoodIn xBig (xws M') := xBig_good (fun w hw => by
    rcases List.mem_cons.mp hw with rfl | hw
    · exact g2
    · exact hw)
  have hw2 : xws M' = Cond.code (xMy M') (xMc M') (xMn M') none :: xBig := by
    unfold xws
    rw [v3]
  have hpv : PreS s H (xPc D ca b (rmp o h.length H.size) R0 (.ref (q + 1) :: as0) h) (.ref (rmp o h.length H.size q) :: as0.map (xSh b (rmp o h.length H.size) R0)) := ⟨xPc.blind, w.pre hT hS (.ref (q + 1) :: as0)⟩
  have r1 : r.2.2.2 + 1 ≤ R.frames ∧ 8 + (xMn M' + 11) + 41 * r.2.2.2 ≤ R.locals := ⟨by omega, by omega⟩
  rw [← hoq]
  refine wcalled (va_runI (Ts := xBig) (own := own) (rest := rest) (As := as0.map (xSh b (rmp o h.length H.size) R0)) S (hmet l) (cwI (xMp M') S.2.2.2.2 hG2 hw2 rfl rfl (S.2.2.2.2 _ g3) (S.2.2.2.2 _ hl) (S.2.2.2.2 _ v1) v2 g6 r1) hpv rfl (by rw [List.length_map]; exact hn) hz rfl (lv_room hc8) hd (by omega)) hS hA (fun H1 locs1 b1 b2 b3 b4 => ?_)
  exact W.widen (by omega) (by omega) (k H1 locs1 r.1 r.2.1 hQ hlen b1 b2 b3 b4)
end WC
