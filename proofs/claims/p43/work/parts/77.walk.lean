/-! the law's acts walked -/
section LW
variable {p : Program} {l : Launch} {e : Env} {R : Room} {s : State} {m : MethodId} {args : Array Value} {below : List Frame} {meth : Method} {c : Code} {Q : State → Prop} {D : va_G} {ca : Nat → ClassId} {o N b k n ns nm bt d a : Nat} {xs : Nat → Int32} {H : Heap} {locs : List Loc} {cells slots : Nat} {ls : Array Slot} {T : Tp} {w w0 : Ws}
/-- what is to be shown behind one act -/
def KN (p : Program) (l : Launch) (e : Env) (R : Room) (s : State) (m : MethodId) (args : Array Value) (below : List Frame) (meth : Method) (c : Code) (D : va_G) (ca : Nat → ClassId) (b o : Nat) (T : Tp) (mm d n cells slots : Nat) (Q : State → Prop) : Prop := ∀ (ls : Array Slot) (H : Heap) (locs : List Loc) (w : Ws) (bt : Nat), lv_has ls 9 [(0, .ref b), (1, .ref o), (2, .int (nI mm)), (3, .int (nI d))] → bt ≤ 1 → WL D ca b o T w bt n H → va_S (fun a => o ≤ a) s.heap H locs → W p l e R s m args below meth c H locs cells slots Q (F0 m 335 ls [])
theorem w_inner (E : LE p m c s args D ca b N xs o ns nm T) (hR : LR R cells slots) (hbt : bt ≤ 1) (kn : KN p l e R s m args below meth c D ca b o T (ns + nm) d n cells slots Q) : ∀ (r k : Nat), k + r = ns + nm → ∀ (ls : Array Slot) (H : Heap) (locs : List Loc), lv_has ls 9 [(7, .int (nI k)), (0, .ref b), (1, .ref o), (2, .int (nI (ns + nm))), (3, .int (nI d))] → WL D ca b o T w bt n H → va_S (fun a => o ≤ a) s.heap H locs → W p l e R s m args below meth c H locs cells slots Q (F0 m 285 ls []) := by
  obtain ⟨⟨hx, hb, hml, hown, hts⟩, hN3, hX, hK, hN, hso, hbo, es, hns, em, hnm, hEf, hTn, hTs⟩ := id E
  have le : ∀ {a b : Nat}, Nat.ble a b = true → a ≤ b := fun h => Nat.le_of_ble_eq_true h
  intro r
  induction r with
  | zero =>
    intro k hk ls H locs hl hW hS
    obtain rfl : k = ns + nm := by omega
    refine lv_iload hx hb dlw_285 (lv_at hl 0 rfl) ?_
    refine lv_iload_n hx hb dlw_287 rfl (lv_at hl 3 rfl) ?_
    refine lv_icmp_ge (tgt := 335) hx hb dlw_288 (by decide) (fun _ => ?_) (fun hc => absurd (nI_le (a := ns + nm) (b := ns + nm) (Nat.le_refl _) (by omega)) hc)
    exact kn ls H locs w bt (lv_sub hl [1, 2, 3, 4] rfl) hbt hW hS
  | succ r ih =>
    intro k hk ls H locs hl hW hS
    have hkx : (nI k).toInt = (k : Int) := nI_toInt (by omega)
    have nx : ∀ (H : Heap) (locs : List Loc), WL D ca b o T w bt n H → va_S (fun a => o ≤ a) s.heap H locs → W p l e R s m args below meth c H locs cells slots Q (F0 m 329 ls []) := fun H locs hW hS => by
      refine lv_iinc (v := nI (k + 1)) hx hb dlw_329 hl (k := 0) rfl (nI_1 k) (by decide) rfl (fun ls hl => ?_)
      refine lv_goto (tgt := 285) hx hb dlw_332 (by decide) ?_
      exact ih (k + 1) (by omega) ls H locs hl hW hS
    refine lv_iload hx hb dlw_285 (lv_at hl 0 rfl) ?_
    refine lv_iload_n hx hb dlw_287 rfl (lv_at hl 3 rfl) ?_
    refine lv_icmp_ge (tgt := 335) hx hb dlw_288 (by decide) (fun hc => absurd ((nI_leI (a := ns + nm) (b := k) (by omega) (by omega)).mp hc) (by omega)) (fun _ => ?_)
    refine lv_aload_n hx hb dlw_291 rfl (lv_at hl 2 rfl) ?_
    refine lv_iload hx hb dlw_292 (lv_at hl 0 rfl) ?_
    refine lv_iconst (v := 3) hx hb dlw_294 (by decide) ?_
    refine wCo3 (k := k) E hR hW hS hl.1 (le rfl) dlw_295 (by omega) hkx (fun H locs hW hS => ?_)
    refine lv_if_ne (tgt := 329) hx hb dlw_298 (by decide) (fun _ => nx H locs hW hS) (fun hc => ?_)
    refine lv_aload_n hx hb dlw_301 rfl (lv_at hl 2 rfl) ?_
    refine lv_iload hx hb dlw_302 (lv_at hl 0 rfl) ?_
    refine lv_iconst (v := 4) hx hb dlw_304 (by decide) ?_
    refine wCo4 (k := k) E hR hW hS hl.1 (le rfl) dlw_305 (by omega) hkx (fun z H locs hW hS => ?_)
    refine lv_if_le (tgt := 329) hx hb dlw_308 (by decide) (fun _ => nx H locs hW hS) (fun _ => ?_)
    refine lv_aload_n hx hb dlw_311 rfl (lv_at hl 2 rfl) ?_
    refine lv_iload hx hb dlw_312 (lv_at hl 0 rfl) ?_
    refine wKep (k := k) E hR hW hS hl.1 (le rfl) dlw_314 (by omega) hkx (fun H locs hW hS => ?_)
    refine lv_aload_n hx hb dlw_317 rfl (lv_at hl 2 rfl) ?_
    refine lv_iload hx hb dlw_318 (lv_at hl 0 rfl) ?_
    refine wPla (k := k) E hR hW hS hl.1 (le rfl) dlw_320 (by omega) hkx (fun H locs hW hS => ?_)
    rw [hW.clean hEf (k := k) (by omega) hc]
    refine W.lcmp hx hb dlw_323 ?_
    rw [lgc0]
    exact lv_if_eq (tgt := 329) hx hb dlw_324 (by decide) (fun _ => nx H locs hW hS) (fun hc => absurd rfl hc)
theorem w_tail (E : LE p m c s args D ca b N xs o ns nm T) (hR : LR R cells slots) (hbt : bt ≤ 1) (kn : KN p l e R s m args below meth c D ca b o T (ns + nm) d n cells slots Q) (hAR : AR T w0 w) (hl : lv_has ls 9 [(6, .int (nI (rsm w0.ru T.n))), (0, .ref b), (1, .ref o), (2, .int (nI (ns + nm))), (3, .int (nI d))]) (hW : WL D ca b o T w bt n H) (hS : va_S (fun a => o ≤ a) s.heap H locs) : W p l e R s m args below meth c H locs cells slots Q (F0 m 232 ls []) := by
  obtain ⟨S, hN3, hX, hK, hN, hso, hbo, es, hns, em, hnm, hEf, hTn, hTs⟩ := id E
  obtain ⟨hx, hb, hml, hown, hts⟩ := id S
  obtain ⟨r1, r2, r3, r4⟩ := id hR
  have le : ∀ {a b : Nat}, Nat.ble a b = true → a ≤ b := fun h => Nat.le_of_ble_eq_true h
  have hbl : b < s.heap.size := by omega
  have hbA : ¬ o ≤ b := by omega
  have u1 : rsm w0.ru T.n ≤ rsm w.ru T.n := rsm_le T.n (fun j hj => (hAR j hj).1)
  have u2 : rsm w.ru T.n ≤ rsm w0.ru T.n + (T.n - T.ns) := rsm_up T.n (fun j hj => (hAR j hj).2)
  have inn : ∀ (w : Ws) (H : Heap) (locs : List Loc), WL D ca b o T w bt n H → va_S (fun a => o ≤ a) s.heap H locs → W p l e R s m args below meth c H locs cells slots Q (F0 m 282 ls []) := fun w H locs hW hS => by
    refine lv_iconst (v := 0) hx hb dlw_282 (by decide) ?_
    refine lv_istore hx hb dlw_283 hl (by decide) rfl (fun ls hl => ?_)
    exact w_inner (w := w) E hR hbt kn (ns + nm) 0 (by omega) ls H locs (lv_sub hl [0, 2, 3, 4, 5] rfl) hW hS
  refine lv_aload_n hx hb dlw_232 rfl (lv_at hl 2 rfl) ?_
  refine lv_bipush (v := 6) hx hb dlw_233 (by decide) ?_
  refine wSt6 E hR hW hS hl.1 (le rfl) dlw_235 (fun H locs hW hS => ?_)
  refine lv_iload hx hb dlw_238 (lv_at hl 0 rfl) ?_
  refine lv_isub hx hb dlw_240 ?_
  rw [pk_sub u1]
  refine lv_aload_n hx hb dlw_241 rfl (lv_at hl 1 rfl) ?_
  refine hcall (as := [.ref 0]) (rest := [.int (nI (rsm w.ru T.n - rsm w0.ru T.n))]) S (h_memos hN3) ok_rL_memos rfl lk17 hX hbl hbA hS rfl dlw_242 (le rfl) ⟨by omega, by omega⟩ ⟨r3, r4⟩ hl.1 (fun H1 locs1 hS _ hk1 => ?_)
  rw [em]
  replace hW := hW.keep hk1
  refine lv_iconst (v := 1) hx hb dlw_245 (by decide) ?_
  refine lv_iadd hx hb dlw_246 ?_
  rw [nI_1 nm]
  refine lv_icmp_gt (tgt := 280) hx hb dlw_247 (by decide) (fun hc => absurd ((nI_ltI (a := nm + 1) (b := rsm w.ru T.n - rsm w0.ru T.n) (by omega) (by omega)).mp hc) (by omega)) (fun _ => ?_)
  refine lv_aload_n hx hb dlw_250 rfl (lv_at hl 2 rfl) ?_
  refine lv_iconst (v := 2) hx hb dlw_251 (by decide) ?_
  refine wSt2 E hR hW hS hl.1 (le rfl) dlw_252 (fun H locs hW hS => ?_)
  refine lv_if_ne (tgt := 282) hx hb dlw_255 (by decide) (fun _ => inn w H locs hW hS) (fun hc => ?_)
  have hb0 : bt = 0 := (nI_eq (a := bt) (b := 0) (by omega) (by omega)).mp hc
  refine lv_aload_n hx hb dlw_258 rfl (lv_at hl 2 rfl) ?_
  refine lv_iconst (v := 3) hx hb dlw_259 (by decide) ?_
  refine wSt3 E hR hW hS hl.1 (le rfl) dlw_260 (fun H locs hW hS => ?_)
  have hq0 : w.qu.length = 0 := by
    rw [hb0] at hW
    exact hW.qu0
  rw [hq0]
  refine lv_if_ne (tgt := 280) hx hb dlw_263 (by decide) (fun hc => absurd rfl hc) (fun _ => ?_)
  have hkx : (nI (ns + nm)).toInt = ((ns + nm : Nat) : Int) := nI_toInt (by omega)
  refine lv_aload_n hx hb dlw_266 rfl (lv_at hl 2 rfl) ?_
  refine lv_iload_n hx hb dlw_267 rfl (lv_at hl 3 rfl) ?_
  refine wRea (k := ns + nm) E hR hW hbt hS hl.1 (le rfl) dlw_268 (by omega) hkx (fun _ => hb0) (fun w' _ hpl H locs hW hS => ?_)
  refine lv_aload_n hx hb dlw_271 rfl (lv_at hl 2 rfl) ?_
  refine lv_iload_n hx hb dlw_272 rfl (lv_at hl 3 rfl) ?_
  refine wPla (k := ns + nm) E hR hW hS hl.1 (le rfl) dlw_273 (by omega) hkx (fun H locs hW hS => ?_)
  rw [hpl (ns + nm) (by omega)]
  refine W.lcmp hx hb dlw_276 ?_
  rw [lgc0]
  exact lv_if_eq (tgt := 282) hx hb dlw_277 (by decide) (fun _ => inn w' H locs hW hS) (fun hc => absurd rfl hc)
theorem AR.rf : AR T w w := fun j _ => ⟨Nat.le_refl _, Nat.le_add_right _ _⟩
abbrev L6 (b o mm d r k a : Nat) : List (Nat × Value) := [(6, .int (nI r)), (5, .int (nI k)), (4, .int (nI a)), (0, .ref b), (1, .ref o), (2, .int (nI mm)), (3, .int (nI d))]
theorem w_192 (E : LE p m c s args D ca b N xs o ns nm T) (hR : LR R cells slots) (hbt : bt ≤ 1) (kn : KN p l e R s m args below meth c D ca b o T (ns + nm) d n cells slots Q) (ha : a < 256) (hk : k < ns + nm) (hl : lv_has ls 9 (L6 b o (ns + nm) d (rsm w.ru T.n) k a)) (hW : WL D ca b o T w bt n H) (hS : va_S (fun a => o ≤ a) s.heap H locs) : W p l e R s m args below meth c H locs cells slots Q (F0 m 192 ls []) := by
  obtain ⟨S, hN3, hX, hK, hN, hso, hbo, es, hns, em, hnm, hEf, hTn, hTs⟩ := id E
  obtain ⟨hx, hb, hml, hown, hts⟩ := id S
  obtain ⟨r1, r2, r3, r4⟩ := id hR
  have le : ∀ {a b : Nat}, Nat.ble a b = true → a ≤ b := fun h => Nat.le_of_ble_eq_true h
  have hbl : b < s.heap.size := by omega
  have hbA : ¬ o ≤ b := by omega
  refine lv_aload_n hx hb dlw_192 rfl (lv_at hl 4 rfl) ?_
  refine lv_iload hx hb dlw_193 (lv_at hl 1 rfl) ?_
  refine lv_aload_n hx hb dlw_195 rfl (lv_at hl 3 rfl) ?_
  refine hcall (as := [.ref 0]) (rest := [.int (nI k), .ref o]) S (h_sources hN3) ok_rL_sources rfl lb13 hX hbl hbA hS rfl dlw_196 (le rfl) ⟨by omega, by omega⟩ ⟨r3, r4⟩ hl.1 (fun H1 locs1 hS _ hk1 => ?_)
  rw [es]
  replace hW := hW.keep hk1
  refine lv_irem hx hb dlw_199 (nI_ne0 (by omega) (by omega)) ?_
  rw [pk_rem (a := k) (d := ns) (by omega) (by omega) (by omega)]
  refine lv_iload hx hb dlw_200 (lv_at hl 2 rfl) ?_
  refine lv_bipush (v := 9) hx hb dlw_202 (by decide) ?_
  refine lv_irem hx hb dlw_204 (by decide) ?_
  refine lv_iconst (v := 4) hx hb dlw_205 (by decide) ?_
  refine lv_isub hx hb dlw_206 ?_
  have hkm : k % ns < ns := Nat.mod_lt _ (by omega)
  refine wWri (k := k % ns) E hR hW hbt hS hl.1 (le rfl) dlw_207 (by omega) (nI_toInt (by omega)) (fun z w' hAR hru H locs hW hS => ?_)
  refine lv_pop hx hb dlw_210 rfl ?_
  have tl : ∀ (H : Heap) (locs : List Loc), WL D ca b o T w' bt n H → va_S (fun a => o ≤ a) s.heap H locs → W p l e R s m args below meth c H locs cells slots Q (F0 m 232 ls []) := fun H locs hW hS => w_tail E hR hbt kn hAR (lv_sub hl [0, 3, 4, 5, 6] rfl) hW hS
  refine lv_aload_n hx hb dlw_211 rfl (lv_at hl 4 rfl) ?_
  refine lv_iconst (v := 2) hx hb dlw_212 (by decide) ?_
  refine wSt2 E hR hW hS hl.1 (le rfl) dlw_213 (fun H locs hW hS => ?_)
  refine lv_if_le (tgt := 232) hx hb dlw_216 (by decide) (fun _ => tl H locs hW hS) (fun hc => ?_)
  have hb0 : 0 < bt := by
    rcases Nat.eq_zero_or_pos bt with h | h
    · rw [h] at hc
      exact absurd (by decide) hc
    · exact h
  refine lv_aload_n hx hb dlw_219 rfl (lv_at hl 4 rfl) ?_
  refine lv_bipush (v := 6) hx hb dlw_220 (by decide) ?_
  refine wSt6 E hR hW hS hl.1 (le rfl) dlw_222 (fun H locs hW hS => ?_)
  refine lv_iload hx hb dlw_225 (lv_at hl 0 rfl) ?_
  rw [rsm_eq T.n (hru hb0)]
  exact lv_icmp_eq (tgt := 232) hx hb dlw_227 (by decide) (fun _ => tl H locs hW hS) (fun hc => absurd rfl hc)
theorem w_168 (E : LE p m c s args D ca b N xs o ns nm T) (hR : LR R cells slots) (hbt : bt ≤ 1) (kn : KN p l e R s m args below meth c D ca b o T (ns + nm) d n cells slots Q) (ha : a < 256) (hk : k < ns + nm) (hl : lv_has ls 9 (L6 b o (ns + nm) d (rsm w.ru T.n) k a)) (hW : WL D ca b o T w bt n H) (hS : va_S (fun a => o ≤ a) s.heap H locs) : W p l e R s m args below meth c H locs cells slots Q (F0 m 168 ls []) := by
  obtain ⟨S, hN3, hX, hK, hN, hso, hbo, es, hns, em, hnm, hEf, hTn, hTs⟩ := id E
  obtain ⟨hx, hb, hml, hown, hts⟩ := id S
  have le : ∀ {a b : Nat}, Nat.ble a b = true → a ≤ b := fun h => Nat.le_of_ble_eq_true h
  refine lv_iload hx hb dlw_168 (lv_at hl 2 rfl) ?_
  refine lv_iconst (v := 3) hx hb dlw_170 (by decide) ?_
  refine lv_iand hx hb dlw_171 ?_
  refine lv_iconst (v := 2) hx hb dlw_172 (by decide) ?_
  refine lv_icmp_ne (tgt := 192) hx hb dlw_173 (by decide) (fun _ => w_192 E hR hbt kn ha hk hl hW hS) (fun _ => ?_)
  refine lv_aload_n hx hb dlw_176 rfl (lv_at hl 4 rfl) ?_
  refine lv_iconst (v := 2) hx hb dlw_177 (by decide) ?_
  refine wSt2 E hR hW hS hl.1 (le rfl) dlw_178 (fun H locs hW hS => ?_)
  refine lv_if_le (tgt := 192) hx hb dlw_181 (by decide) (fun _ => w_192 E hR hbt kn ha hk hl hW hS) (fun hc => ?_)
  obtain ⟨b1, rfl⟩ : ∃ b1, bt = b1 + 1 := by
    rcases Nat.eq_zero_or_pos bt with h | h
    · rw [h] at hc
      exact absurd (by decide) hc
    · exact ⟨bt - 1, by omega⟩
  refine lv_aload_n hx hb dlw_184 rfl (lv_at hl 4 rfl) ?_
  refine wEnd E hR hW (by omega) hS hl.1 (le rfl) dlw_185 (fun z w' hAR H locs hW hS => ?_)
  refine lv_pop hx hb dlw_188 rfl ?_
  refine lv_goto (tgt := 232) hx hb dlw_189 (by decide) ?_
  exact w_tail E hR (by omega) kn hAR (lv_sub hl [0, 3, 4, 5, 6] rfl) hW hS
theorem w_act (E : LE p m c s args D ca b N xs o ns nm T) (hR : LR R cells slots) (hbt : bt ≤ 1) (hd : d < 12) (kn : KN p l e R s m args below meth c D ca b o T (ns + nm) d n cells slots Q) (hl : lv_has ls 9 [(0, .ref b), (1, .ref o), (2, .int (nI (ns + nm))), (3, .int (nI d))]) (hW : WL D ca b o T w bt n H) (hS : va_S (fun a => o ≤ a) s.heap H locs) : W p l e R s m args below meth c H locs cells slots Q (F0 m 61 ls []) := by
  obtain ⟨S, hN3, hX, hK, hN, hso, hbo, es, hns, em, hnm, hEf, hTn, hTs⟩ := id E
  obtain ⟨hx, hb, hml, hown, hts⟩ := id S
  obtain ⟨r1, r2, r3, r4⟩ := id hR
  have le : ∀ {a b : Nat}, Nat.ble a b = true → a ≤ b := fun h => Nat.le_of_ble_eq_true h
  have hbl : b < s.heap.size := by omega
  have hbA : ¬ o ≤ b := by omega
  refine lv_aload_n hx hb dlw_61 rfl (lv_at hl 0 rfl) ?_
  refine lv_bipush (v := 20) hx hb dlw_62 (by decide) ?_
  refine lv_iload_n hx hb dlw_64 rfl (lv_at hl 3 rfl) ?_
  refine lv_iconst (v := 4) hx hb dlw_65 (by decide) ?_
  refine lv_irem hx hb dlw_66 (by decide) ?_
  have e0 : nI d - nI d / 4 * 4 = nI (d % 4) := pk_rem (a := d) (d := 4) (by omega) (by omega) (by omega)
  rw [e0]
  refine lv_iadd hx hb dlw_67 ?_
  have e1 : (20 : Int32) + nI (d % 4) = nI (20 + d % 4) := nI_add 20 (d % 4)
  rw [e1]
  refine hcall (as := [.ref 0, .int (nI (20 + d % 4))]) (rest := []) S (h_at (i := 20 + d % 4) hN3 (nI_toInt (by omega))) ok_rL_at rfl lk7 hX hbl hbA hS rfl dlw_68 (le rfl) ⟨by omega, by omega⟩ ⟨r3, r4⟩ hl.1 (fun H1 locs1 hS _ hk1 => ?_)
  replace hW := hW.keep hk1
  refine lv_bipush (v := 8) hx hb dlw_71 (by decide) ?_
  refine lv_iload_n hx hb dlw_73 rfl (lv_at hl 3 rfl) ?_
  refine lv_iconst (v := 4) hx hb dlw_74 (by decide) ?_
  refine lv_idiv hx hb dlw_75 (by decide) ?_
  refine lv_imul hx hb dlw_76 ?_
  refine lv_ishr hx hb dlw_77 ?_
  refine lv_sipush (v := 255) hx hb dlw_78 (by decide) ?_
  refine lv_iand hx hb dlw_81 ?_
  obtain ⟨a, ha, ea⟩ := pk_andE (sAt N xs (20 + d % 4) >>> (((8 : Int32) * (nI d / 4)) &&& 31)) (m := 255) 8 (by decide)
  have ha : a < 256 := ha
  rw [ea]
  refine lv_istore hx hb dlw_82 hl (by decide) rfl (fun ls hl => ?_)
  refine lv_iload hx hb dlw_84 (lv_at hl 0 rfl) ?_
  refine lv_iconst (v := 2) hx hb dlw_86 (by decide) ?_
  refine lv_ishr hx hb dlw_87 ?_
  rw [shr2 a ha]
  refine lv_iload_n hx hb dlw_88 rfl (lv_at hl 3 rfl) ?_
  refine lv_irem hx hb dlw_89 (nI_ne0 (by omega) (by omega)) ?_
  rw [pk_rem (a := a / 4) (d := ns + nm) (by omega) (by omega) (by omega)]
  have hk : a / 4 % (ns + nm) < ns + nm := Nat.mod_lt _ (by omega)
  generalize a / 4 % (ns + nm) = k at hk ⊢
  have hkx : (nI k).toInt = (k : Int) := nI_toInt (by omega)
  refine lv_istore hx hb dlw_90 hl (by decide) rfl (fun ls hl => ?_)
  refine lv_aload_n hx hb dlw_92 rfl (lv_at hl 3 rfl) ?_
  refine lv_bipush (v := 6) hx hb dlw_93 (by decide) ?_
  refine wSt6 E hR hW hS hl.1 (le rfl) dlw_95 (fun H locs hW hS => ?_)
  refine lv_istore hx hb dlw_98 hl (by decide) rfl (fun ls hl => ?_)
  have hl : lv_has ls 9 (L6 b o (ns + nm) d (rsm w.ru T.n) k a) := hl
  refine lv_iload hx hb dlw_100 (lv_at hl 2 rfl) ?_
  refine lv_iconst (v := 3) hx hb dlw_102 (by decide) ?_
  refine lv_iand hx hb dlw_103 ?_
  refine lv_if_ne (tgt := 144) hx hb dlw_104 (by decide) (fun _ => ?_) (fun _ => ?_)
  · refine lv_iload hx hb dlw_144 (lv_at hl 2 rfl) ?_
    refine lv_iconst (v := 3) hx hb dlw_146 (by decide) ?_
    refine lv_iand hx hb dlw_147 ?_
    refine lv_iconst (v := 1) hx hb dlw_148 (by decide) ?_
    refine lv_icmp_ne (tgt := 168) hx hb dlw_149 (by decide) (fun _ => w_168 E hR hbt kn ha hk hl hW hS) (fun _ => ?_)
    refine lv_aload_n hx hb dlw_152 rfl (lv_at hl 4 rfl) ?_
    refine lv_iconst (v := 2) hx hb dlw_153 (by decide) ?_
    refine wSt2 E hR hW hS hl.1 (le rfl) dlw_154 (fun H locs hW hS => ?_)
    refine lv_if_ne (tgt := 168) hx hb dlw_157 (by decide) (fun _ => w_168 E hR hbt kn ha hk hl hW hS) (fun hc => ?_)
    have hb0 : bt = 0 := (nI_eq (a := bt) (b := 0) (by omega) (by omega)).mp hc
    refine lv_aload_n hx hb dlw_160 rfl (lv_at hl 4 rfl) ?_
    refine wBeg E hR hW hS hl.1 (le rfl) dlw_161 (fun z H locs hW hS => ?_)
    refine lv_pop hx hb dlw_164 rfl ?_
    refine lv_goto (tgt := 232) hx hb dlw_165 (by decide) ?_
    exact w_tail E hR (by omega) kn AR.rf (lv_sub hl [0, 3, 4, 5, 6] rfl) hW hS
  · refine lv_aload_n hx hb dlw_107 rfl (lv_at hl 4 rfl) ?_
    refine lv_iload hx hb dlw_108 (lv_at hl 1 rfl) ?_
    refine wPla (k := k) E hR hW hS hl.1 (le rfl) dlw_110 (by omega) hkx (fun H locs hW hS => ?_)
    refine lv_lstore hx hb dlw_113 hl (by decide) rfl (fun ls hl => ?_)
    refine lv_aload_n hx hb dlw_115 rfl (lv_at hl 5 rfl) ?_
    refine lv_iload hx hb dlw_116 (lv_at hl 2 rfl) ?_
    refine wRea (k := k) E hR hW hbt hS hl.1 (le rfl) dlw_118 (by omega) hkx (fun z => by omega) (fun w' hAR hpl H locs hW hS => ?_)
    refine lv_lload hx hb dlw_121 (lv_at hl 0 rfl) ?_
    refine W.lcmp hx hb dlw_123 ?_
    rw [lgc0]
    refine lv_if_ne (tgt := 139) hx hb dlw_124 (by decide) (fun hc => absurd rfl hc) (fun _ => ?_)
    refine lv_aload_n hx hb dlw_127 rfl (lv_at hl 5 rfl) ?_
    refine lv_iload hx hb dlw_128 (lv_at hl 2 rfl) ?_
    refine wPla (k := k) E hR hW hS hl.1 (le rfl) dlw_130 (by omega) hkx (fun H locs hW hS => ?_)
    refine lv_lload hx hb dlw_133 (lv_at hl 0 rfl) ?_
    rw [hpl k (by omega)]
    refine W.lcmp hx hb dlw_135 ?_
    rw [lgc0]
    refine lv_if_eq (tgt := 141) hx hb dlw_136 (by decide) (fun _ => ?_) (fun hc => absurd rfl hc)
    refine lv_goto (tgt := 232) hx hb dlw_141 (by decide) ?_
    exact w_tail E hR hbt kn hAR (lv_sub hl [1, 4, 5, 6, 7] rfl) hW hS
/-- all twelve acts -/
theorem w_acts (E : LE p m c s args D ca b N xs o ns nm T) (hR : LR R cells slots) (kend : ∀ (ls : Array Slot) (H : Heap) (locs : List Loc), va_S (fun a => o ≤ a) s.heap H locs → W p l e R s m args below meth c H locs cells slots Q (F0 m 341 ls [])) : ∀ (r d : Nat), d + r = 12 → ∀ (ls : Array Slot) (H : Heap) (locs : List Loc) (w : Ws) (bt : Nat), lv_has ls 9 [(0, .ref b), (1, .ref o), (2, .int (nI (ns + nm))), (3, .int (nI d))] → bt ≤ 1 → WL D ca b o T w bt n H → va_S (fun a => o ≤ a) s.heap H locs → W p l e R s m args below meth c H locs cells slots Q (F0 m 55 ls []) := by
  obtain ⟨hx, hb, hml, hown, hts⟩ := id E.1
  intro r
  induction r with
  | zero =>
    intro d hd ls H locs w bt hl hbt hW hS
    obtain rfl : d = 12 := by omega
    refine lv_iload_n hx hb dlw_55 rfl (lv_at hl 3 rfl) ?_
    refine lv_bipush (v := 12) hx hb dlw_56 (by decide) ?_
    exact lv_icmp_ge (tgt := 341) hx hb dlw_58 (by decide) (fun _ => kend ls H locs hS) (fun hc => absurd (by decide) hc)
  | succ r ih =>
    intro d hd ls H locs w bt hl hbt hW hS
    refine lv_iload_n hx hb dlw_55 rfl (lv_at hl 3 rfl) ?_
    refine lv_bipush (v := 12) hx hb dlw_56 (by decide) ?_
    refine lv_icmp_ge (tgt := 341) hx hb dlw_58 (by decide) (fun hc => absurd ((nI_leI (a := 12) (b := d) (by omega) (by omega)).mp hc) (by omega)) (fun _ => ?_)
    refine w_act E hR hbt (by omega) (fun ls H locs w bt hl hbt hW hS => ?_) hl hW hS
    refine lv_iinc (v := nI (d + 1)) hx hb dlw_335 hl (k := 3) rfl (nI_1 d) (by decide) rfl (fun ls hl => ?_)
    refine lv_goto (tgt := 55) hx hb dlw_338 (by decide) ?_
    exact ih (d + 1) (by omega) ls H locs w bt (lv_sub hl [1, 2, 3, 0] rfl) hbt hW hS
end LW
