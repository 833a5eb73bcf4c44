/-! the law's acts, after the building -/
section LA
theorem lk7 : Cond.methodLink "PulledSignalsLaw" 7 (xMy rL_at) ∈ xBig := wIn (by decide +kernel)
theorem lk17 : Cond.methodLink "PulledSignalsLaw" 17 (xMy rL_memos) ∈ xBig := wIn (by decide +kernel)
theorem lk138 : Cond.methodLink "PulledSignalsLaw" 138 nBu ∈ xBig := wIn (by decide +kernel)
theorem lk142 : Cond.methodLink "PulledSignalsLaw" 142 (xMy rX8_effect) ∈ xBig := wIn (by decide +kernel)
theorem lk145 : Cond.methodLink "PulledSignalsLaw" 145 (xMy rX8_status) ∈ xBig := wIn (by decide +kernel)
theorem lk148 : Cond.methodLink "PulledSignalsLaw" 148 (xMy rX8_plain) ∈ xBig := wIn (by decide +kernel)
theorem lk152 : Cond.methodLink "PulledSignalsLaw" 152 (xMy rX8_read) ∈ xBig := wIn (by decide +kernel)
theorem lk155 : Cond.methodLink "PulledSignalsLaw" 155 (xMy rX8_begin) ∈ xBig := wIn (by decide +kernel)
theorem lk158 : Cond.methodLink "PulledSignalsLaw" 158 (xMy rX8_end) ∈ xBig := wIn (by decide +kernel)
theorem lk161 : Cond.methodLink "PulledSignalsLaw" 161 (xMy rX8_write) ∈ xBig := wIn (by decide +kernel)
theorem lk164 : Cond.methodLink "PulledSignalsLaw" 164 (xMy rX8_cellOf) ∈ xBig := wIn (by decide +kernel)
theorem lk167 : Cond.methodLink "PulledSignalsLaw" 167 (xMy rX8_kept) ∈ xBig := wIn (by decide +kernel)
theorem rsm_le {f g : Nat → Nat} : ∀ n, (∀ j, j < n → f j ≤ g j) → rsm f n ≤ rsm g n
  | 0, _ => Nat.le_refl _
  | n + 1, h => Nat.add_le_add (rsm_le n (fun j hj => h j (by omega))) (h n (by omega))
theorem rsm_eq {f g : Nat → Nat} (n : Nat) (h : ∀ j, j < n → f j = g j) : rsm f n = rsm g n :=
  Nat.le_antisymm (rsm_le n (fun j hj => Nat.le_of_eq (h j hj))) (rsm_le n (fun j hj => Nat.le_of_eq (h j hj).symm))
theorem rsm_up {f g : Nat → Nat} {ns : Nat} : ∀ n, (∀ j, j < n → g j ≤ f j + (if j < ns then 0 else 1)) → rsm g n ≤ rsm f n + (n - ns)
  | 0, _ => Nat.zero_le _
  | n + 1, h => by
    have h1 := rsm_up (f := f) (g := g) (ns := ns) n (fun j hj => h j (by omega))
    have h2 := h n (by omega)
    show rsm g n + g n ≤ rsm f n + f n + (n + 1 - ns)
    split at h2
    · omega
    · omega
theorem lgc0 (z : Int64) : lg_cmp z z = 0 := by
  unfold lg_cmp
  rw [if_neg (by rw [gt_iff_lt, Int64.lt_iff_toInt_lt]; omega), if_pos rfl]
theorem shr2 : ∀ a, a < 256 → nI a >>> ((2 : Int32) &&& 31) = nI (a / 4) := by decide +kernel
theorem and3 : ∀ a, a < 256 → nI a &&& 3 = nI (a % 4) := by decide +kernel
/-- the class's world while the law acts -/
def WL (D : va_G) (ca : Nat → ClassId) (b o : Nat) (T : Tp) (w : Ws) (bt n : Nat) (H : Heap) : Prop := ∃ (om : Nat → Nat) (h : List xE), om 0 = o ∧ xUp om ∧ LC T w bt n h ∧ va_P D vwCl (xWs b om R0 ca h) H
def LE (p : Program) (m : MethodId) (c : Code) (s : State) (args : Array Value) (D : va_G) (ca : Nat → ClassId) (b N : Nat) (xs : Nat → Int32) (o ns nm : Nat) (T : Tp) : Prop := CallFix p m c code 9 s args xBig "PulledSignalsLaw" ∧ N < 2147483648 ∧ va_X b N xs s s.heap ∧ va_K D vwCl (xTys ca) s ∧ xNX o s ∧ s.heap.size = o ∧ b < o ∧ xSources N xs = nI ns ∧ (ns = 2 ∨ ns = 3) ∧ xMemos N xs = nI nm ∧ (2 ≤ nm ∧ nm ≤ 5) ∧ Ef T ∧ T.n = ns + nm + 1 ∧ T.ns = ns
def LR (R : Room) (cells slots : Nat) : Prop := 90 ≤ R.frames ∧ 3690 ≤ R.locals ∧ cells ≤ R.cells ∧ slots ≤ R.slots
variable {p : Program} {l : Launch} {e : Env} {R : Room} {s : State} {m : MethodId} {args : Array Value} {below : List Frame} {meth : Method} {c : Code} {Q : State → Prop} {D : va_G} {ca : Nat → ClassId} {o N b k n ns nm mm bt d : Nat} {xs : Nat → Int32} {H H1 : Heap} {locs : List Loc} {cells slots idx pc : Nat} {ls : Array Slot} {rest : List Value} {T : Tp} {w w0 : Ws} {x v : Int32}
theorem LC.at0 {h : List xE} (B : LC T w bt n h) : 0 < n ∧ ∃ fs, h[0]? = some (.inr (8, fs)) := by
  obtain ⟨ks, hT, o0, -, hl⟩ := B
  obtain ⟨e, h1, fs, h2, -⟩ := hT.2 0 18 o0
  rw [xnth_eq, h2] at h1
  exact ⟨by rw [← hl]; exact (List.getElem?_eq_some_iff.mp h1).1, fs, h1⟩
theorem LC.len {h : List xE} (B : LC T w bt n h) : h.length = n := by
  obtain ⟨ks, -, -, -, hl⟩ := B
  exact hl
theorem WL.keep (hW : WL D ca b o T w bt n H) (hk : ∀ q, q < H.size → H1[q]? = H[q]?) : WL D ca b o T w bt n H1 := by
  obtain ⟨om, h, h1, h2, h3, h4⟩ := hW
  exact ⟨om, h, h1, h2, h3, fun k q hq => va_at.kept (h4 k q hq) (hk q.1 (h4 k q hq).lt)⟩
theorem WL.clean (hW : WL D ca b o T w bt n H) (S : Ef T) (hk : k < T.n) (hc : w.co k = 0) : w.ou k = pl T w.ou k := by
  obtain ⟨om, h, -, -, ⟨ks, -, -, A, -⟩, -⟩ := hW
  exact clean_is S A hk hc
theorem WL.qu0 (hW : WL D ca b o T w 0 n H) : w.qu.length = 0 := by
  obtain ⟨om, h, -, -, ⟨ks, -, -, A, -⟩, -⟩ := hW
  obtain ⟨-, -, -, -, hq, -, hz⟩ := A
  rw [hq]
  unfold qof
  rw [if_pos (hz rfl)]
  rfl
/-- a call of the class's own, as the law makes it -/
theorem lCl {a F : Nat} {as0 : List Value} {M' : xM} {Qy : yQ} {PP : Value → Ws → Nat → Prop} (E : LE p m c s args D ca b N xs o ns nm T) (hR : LR R cells slots) (hW : WL D ca b o T w bt n H) (hS : va_S (fun a => o ≤ a) s.heap H locs) (hM : xMs[a]? = some M') (hk : xMk M' = 0) (hci : 8 = xMo M') (hl : Cond.methodLink "PulledSignalsLaw" idx (xMy M') ∈ xBig) (hn : as0.length = xMp M') (has : ∀ om : Nat → Nat, as0.map (xSh b om R0) = as0)
    (hy : ∀ h, LC T w bt n h → cM a F 0 (.ref (0 + 1) :: as0) h Qy) (hc : ∀ h' r, Qy h' r → ∃ v w' bt', r = some v ∧ (∀ om : Nat → Nat, xSh b om R0 v = v) ∧ PP v w' bt' ∧ LC T w' bt' n h') (hd : decode code pc = .ok (.invokevirtual idx, 3)) (hc8 : (rest.map fun v => v.category).sum ≤ 8) (hF : F ≤ 89) (hz : ls.size = 9)
    (kk : ∀ (H1 : Heap) (locs1 : List Loc) (v : Value) (w' : Ws) (bt' : Nat), PP v w' bt' → WL D ca b o T w' bt' n H1 → va_S (fun a => o ≤ a) s.heap H1 locs1 → W p l e R s m args below meth c H1 locs1 cells slots Q (F0 m (pc + 3) ls (v :: rest))) :
    W p l e R s m args below meth c H locs cells slots Q (F0 m pc ls (as0.reverse ++ .ref o :: rest)) := by
  obtain ⟨S, hN3, hX, hK, hN, hso, hbo, -⟩ := E
  obtain ⟨r1, r2, r3, r4⟩ := hR
  obtain ⟨om, h, w1, w2, w3, w4⟩ := hW
  subst w1
  have wo : LWo D ca b om (fun a => om 0 ≤ a) s h H := ⟨w4, w2, hbo, by omega, (fun z => by have := w3.at0.1; have := w3.len; omega), hK, hN, fun a h1 h2 => by omega⟩
  obtain ⟨hn0, fs, hfs⟩ := w3.at0
  have hnl := w3.len
  obtain ⟨ks, hTT, -⟩ := id w3
  rw [← has (rmp om h.length H.size)]
  refine wCallV (as0 := as0) (rest := rest) (q := 0) (cA := 0) S wo hTT hS (xA_o w2 (by omega) wo.up) hM hk hl (hy h w3) (fun h' r hq => by
    obtain ⟨_, _, _, _, _, _, hq⟩ := hc h' r hq
    have := hq.len
    omega) hn hfs hci hd hc8 ⟨by omega, by omega⟩ ⟨by omega, by omega⟩ hz (fun H1 locs1 h' r hQ hl1 hP1 hS1 hz1 hk1 => ?_)
  obtain ⟨v, w', bt', rfl, hv, pp, B'⟩ := hc h' r hQ
  have hh := kk H1 locs1 v w' bt' pp ⟨_, h', wo.o0, wo.up, B', hP1⟩ hS1
  show W p l e R s m args below meth c H1 locs1 cells slots Q (F0 m (pc + 3) ls (xSh b (rmp om h.length H.size) R0 v :: rest))
  rw [hv]
  exact hh
abbrev KW (p : Program) (l : Launch) (e : Env) (R : Room) (s : State) (m : MethodId) (args : Array Value) (below : List Frame) (meth : Method) (c : Code) (D : va_G) (ca : Nat → ClassId) (b o : Nat) (T : Tp) (w : Ws) (bt n cells slots : Nat) (Q : State → Prop) (f : JFrame) : Prop := ∀ (H1 : Heap) (locs1 : List Loc), WL D ca b o T w bt n H1 → va_S (fun a => o ≤ a) s.heap H1 locs1 → W p l e R s m args below meth c H1 locs1 cells slots Q f
theorem wSt2 (E : LE p m c s args D ca b N xs o ns nm T) (hR : LR R cells slots) (hW : WL D ca b o T w bt n H) (hS : va_S (fun a => o ≤ a) s.heap H locs) (hz : ls.size = 9) (hc8 : (rest.map fun v => v.category).sum ≤ 8) (hd : decode code pc = .ok (.invokevirtual 145, 3))
    (kk : KW p l e R s m args below meth c D ca b o T w bt n cells slots Q (F0 m (pc + 3) ls (.int (nI bt) :: rest))) : W p l e R s m args below meth c H locs cells slots Q (F0 m pc ls (.int 2 :: .ref o :: rest)) :=
  lCl (as0 := [.int 2]) (rest := rest) (a := 99) (F := 1) (M' := rX8_status) (PP := fun v w' b' => v = .int (nI bt) ∧ w' = w ∧ b' = bt) E hR hW hS rfl rfl rfl lk145 rfl (fun _ => rfl) (fun h B => c_status2 B) (fun h' r q => ⟨_, _, _, q.1, fun _ => rfl, ⟨rfl, rfl, rfl⟩, q.2⟩) hd hc8 (by decide) hz (fun H1 locs1 v w' b' pp hW hS => by
    obtain ⟨p1, p2, p3⟩ := pp
    rw [p1]
    rw [p2, p3] at hW
    exact kk H1 locs1 hW hS)
theorem wSt3 (E : LE p m c s args D ca b N xs o ns nm T) (hR : LR R cells slots) (hW : WL D ca b o T w bt n H) (hS : va_S (fun a => o ≤ a) s.heap H locs) (hz : ls.size = 9) (hc8 : (rest.map fun v => v.category).sum ≤ 8) (hd : decode code pc = .ok (.invokevirtual 145, 3))
    (kk : KW p l e R s m args below meth c D ca b o T w bt n cells slots Q (F0 m (pc + 3) ls (.int (nI w.qu.length) :: rest))) : W p l e R s m args below meth c H locs cells slots Q (F0 m pc ls (.int 3 :: .ref o :: rest)) :=
  lCl (as0 := [.int 3]) (rest := rest) (a := 99) (F := 1) (M' := rX8_status) (PP := fun v w' b' => v = .int (nI w.qu.length) ∧ w' = w ∧ b' = bt) E hR hW hS rfl rfl rfl lk145 rfl (fun _ => rfl) (fun h B => c_status3 B) (fun h' r q => ⟨_, _, _, q.1, fun _ => rfl, ⟨rfl, rfl, rfl⟩, q.2⟩) hd hc8 (by decide) hz (fun H1 locs1 v w' b' pp hW hS => by
    obtain ⟨p1, p2, p3⟩ := pp
    rw [p1]
    rw [p2, p3] at hW
    exact kk H1 locs1 hW hS)
theorem wSt6 (E : LE p m c s args D ca b N xs o ns nm T) (hR : LR R cells slots) (hW : WL D ca b o T w bt n H) (hS : va_S (fun a => o ≤ a) s.heap H locs) (hz : ls.size = 9) (hc8 : (rest.map fun v => v.category).sum ≤ 8) (hd : decode code pc = .ok (.invokevirtual 145, 3))
    (kk : KW p l e R s m args below meth c D ca b o T w bt n cells slots Q (F0 m (pc + 3) ls (.int (nI (rsm w.ru T.n)) :: rest))) : W p l e R s m args below meth c H locs cells slots Q (F0 m pc ls (.int 6 :: .ref o :: rest)) :=
  lCl (as0 := [.int 6]) (rest := rest) (a := 99) (F := 1) (M' := rX8_status) (PP := fun v w' b' => v = .int (nI (rsm w.ru T.n)) ∧ w' = w ∧ b' = bt) E hR hW hS rfl rfl rfl lk145 rfl (fun _ => rfl) (fun h B => c_status6 B) (fun h' r q => ⟨_, _, _, q.1, fun _ => rfl, ⟨rfl, rfl, rfl⟩, q.2⟩) hd hc8 (by decide) hz (fun H1 locs1 v w' b' pp hW hS => by
    obtain ⟨p1, p2, p3⟩ := pp
    rw [p1]
    rw [p2, p3] at hW
    exact kk H1 locs1 hW hS)
theorem wPla (E : LE p m c s args D ca b N xs o ns nm T) (hR : LR R cells slots) (hW : WL D ca b o T w bt n H) (hS : va_S (fun a => o ≤ a) s.heap H locs) (hz : ls.size = 9) (hc8 : (rest.map fun v => v.category).sum ≤ 8) (hd : decode code pc = .ok (.invokevirtual 148, 3)) (hk : k < T.n) (hx : x.toInt = (k : Int))
    (kk : KW p l e R s m args below meth c D ca b o T w bt n cells slots Q (F0 m (pc + 3) ls (.long (pl T w.ou k) :: rest))) : W p l e R s m args below meth c H locs cells slots Q (F0 m pc ls (.int x :: .ref o :: rest)) := by
  have hEf : Ef T := E.2.2.2.2.2.2.2.2.2.2.2.1
  exact lCl (as0 := [.int x]) (rest := rest) (a := 98) (F := 63) (M' := rX8_plain) (PP := fun v w' b' => v = .long (pl T w.ou k) ∧ w' = w ∧ b' = bt) E hR hW hS rfl rfl rfl lk148 rfl (fun _ => rfl) (fun h B => c_plain hEf B hk hx) (fun h' r q => ⟨_, _, _, q.1, fun _ => rfl, ⟨rfl, rfl, rfl⟩, q.2⟩) hd hc8 (by decide) hz (fun H1 locs1 v w' b' pp hW hS => by
    obtain ⟨p1, p2, p3⟩ := pp
    rw [p1]
    rw [p2, p3] at hW
    exact kk H1 locs1 hW hS)
theorem wKep (E : LE p m c s args D ca b N xs o ns nm T) (hR : LR R cells slots) (hW : WL D ca b o T w bt n H) (hS : va_S (fun a => o ≤ a) s.heap H locs) (hz : ls.size = 9) (hc8 : (rest.map fun v => v.category).sum ≤ 8) (hd : decode code pc = .ok (.invokevirtual 167, 3)) (hk : k < T.n) (hx : x.toInt = (k : Int))
    (kk : KW p l e R s m args below meth c D ca b o T w bt n cells slots Q (F0 m (pc + 3) ls (.long (w.ou k) :: rest))) : W p l e R s m args below meth c H locs cells slots Q (F0 m pc ls (.int x :: .ref o :: rest)) :=
  lCl (as0 := [.int x]) (rest := rest) (a := 96) (F := 1) (M' := rX8_kept) (PP := fun v w' b' => v = .long (w.ou k) ∧ w' = w ∧ b' = bt) E hR hW hS rfl rfl rfl lk167 rfl (fun _ => rfl) (fun h B => c_kept B hk hx) (fun h' r q => ⟨_, _, _, q.1, fun _ => rfl, ⟨rfl, rfl, rfl⟩, q.2⟩) hd hc8 (by decide) hz (fun H1 locs1 v w' b' pp hW hS => by
    obtain ⟨p1, p2, p3⟩ := pp
    rw [p1]
    rw [p2, p3] at hW
    exact kk H1 locs1 hW hS)
theorem wCo3 (E : LE p m c s args D ca b N xs o ns nm T) (hR : LR R cells slots) (hW : WL D ca b o T w bt n H) (hS : va_S (fun a => o ≤ a) s.heap H locs) (hz : ls.size = 9) (hc8 : (rest.map fun v => v.category).sum ≤ 8) (hd : decode code pc = .ok (.invokevirtual 164, 3)) (hk : k < T.n) (hx : x.toInt = (k : Int))
    (kk : KW p l e R s m args below meth c D ca b o T w bt n cells slots Q (F0 m (pc + 3) ls (.int (w.co k) :: rest))) : W p l e R s m args below meth c H locs cells slots Q (F0 m pc ls (.int 3 :: .int x :: .ref o :: rest)) :=
  lCl (as0 := [.int x, .int 3]) (rest := rest) (a := 97) (F := 1) (M' := rX8_cellOf) (PP := fun v w' b' => v = .int (w.co k) ∧ w' = w ∧ b' = bt) E hR hW hS rfl rfl rfl lk164 rfl (fun _ => rfl) (fun h B => c_cellOf3 B hk hx) (fun h' r q => ⟨_, _, _, q.1, fun _ => rfl, ⟨rfl, rfl, rfl⟩, q.2⟩) hd hc8 (by decide) hz (fun H1 locs1 v w' b' pp hW hS => by
    obtain ⟨p1, p2, p3⟩ := pp
    rw [p1]
    rw [p2, p3] at hW
    exact kk H1 locs1 hW hS)
theorem wCo4 (E : LE p m c s args D ca b N xs o ns nm T) (hR : LR R cells slots) (hW : WL D ca b o T w bt n H) (hS : va_S (fun a => o ≤ a) s.heap H locs) (hz : ls.size = 9) (hc8 : (rest.map fun v => v.category).sum ≤ 8) (hd : decode code pc = .ok (.invokevirtual 164, 3)) (hk : k < T.n) (hx : x.toInt = (k : Int))
    (kk : ∀ z : Int32, KW p l e R s m args below meth c D ca b o T w bt n cells slots Q (F0 m (pc + 3) ls (.int z :: rest))) : W p l e R s m args below meth c H locs cells slots Q (F0 m pc ls (.int 4 :: .int x :: .ref o :: rest)) :=
  lCl (as0 := [.int x, .int 4]) (rest := rest) (a := 97) (F := 1) (M' := rX8_cellOf) (PP := fun v w' b' => (∃ z, v = .int z) ∧ w' = w ∧ b' = bt) E hR hW hS rfl rfl rfl lk164 rfl (fun _ => rfl) (fun h B => c_cellOf4 B hk hx) (fun h' r q => by
    obtain ⟨⟨z, hz⟩, q2⟩ := q
    exact ⟨_, _, _, hz, fun _ => rfl, ⟨⟨z, rfl⟩, rfl, rfl⟩, q2⟩) hd hc8 (by decide) hz (fun H1 locs1 v w' b' pp hW hS => by
    obtain ⟨⟨z, p1⟩, p2, p3⟩ := pp
    rw [p1]
    rw [p2, p3] at hW
    exact kk z H1 locs1 hW hS)
theorem wBeg (E : LE p m c s args D ca b N xs o ns nm T) (hR : LR R cells slots) (hW : WL D ca b o T w bt n H) (hS : va_S (fun a => o ≤ a) s.heap H locs) (hz : ls.size = 9) (hc8 : (rest.map fun v => v.category).sum ≤ 8) (hd : decode code pc = .ok (.invokevirtual 155, 3))
    (kk : ∀ z : Int32, KW p l e R s m args below meth c D ca b o T w (bt + 1) n cells slots Q (F0 m (pc + 3) ls (.int z :: rest))) : W p l e R s m args below meth c H locs cells slots Q (F0 m pc ls (.ref o :: rest)) :=
  lCl (as0 := []) (rest := rest) (a := 93) (F := 0) (M' := rX8_begin) (PP := fun v w' b' => (∃ z, v = .int z) ∧ w' = w ∧ b' = bt + 1) E hR hW hS rfl rfl rfl lk155 rfl (fun _ => rfl) (fun h B => c_begin B) (fun h' r q => by
    obtain ⟨⟨z, hz⟩, q2⟩ := q
    exact ⟨_, _, _, hz, fun _ => rfl, ⟨⟨z, rfl⟩, rfl, rfl⟩, q2⟩) hd hc8 (by decide) hz (fun H1 locs1 v w' b' pp hW hS => by
    obtain ⟨⟨z, p1⟩, p2, p3⟩ := pp
    rw [p1]
    rw [p2, p3] at hW
    exact kk z H1 locs1 hW hS)
theorem wEnd (E : LE p m c s args D ca b N xs o ns nm T) (hR : LR R cells slots) (hW : WL D ca b o T w (bt + 1) n H) (hbt : bt ≤ 1) (hS : va_S (fun a => o ≤ a) s.heap H locs) (hz : ls.size = 9) (hc8 : (rest.map fun v => v.category).sum ≤ 8) (hd : decode code pc = .ok (.invokevirtual 158, 3))
    (kk : ∀ (z : Int32) (w' : Ws), AR T w w' → KW p l e R s m args below meth c D ca b o T w' bt n cells slots Q (F0 m (pc + 3) ls (.int z :: rest))) : W p l e R s m args below meth c H locs cells slots Q (F0 m pc ls (.ref o :: rest)) := by
  have hEf : Ef T := E.2.2.2.2.2.2.2.2.2.2.2.1
  exact lCl (as0 := []) (rest := rest) (a := 94) (F := 89) (M' := rX8_end) (PP := fun v w' b' => (∃ z, v = .int z) ∧ AR T w w' ∧ b' = bt) E hR hW hS rfl rfl rfl lk158 rfl (fun _ => rfl) (fun h B => c_end hEf B (by omega)) (fun h' r q => by
    obtain ⟨⟨z, hz⟩, w', q1, q2⟩ := q
    exact ⟨_, w', _, hz, fun _ => rfl, ⟨⟨z, rfl⟩, q1, rfl⟩, q2⟩) hd hc8 (by decide) hz (fun H1 locs1 v w' b' pp hW hS => by
    obtain ⟨⟨z, p1⟩, p2, p3⟩ := pp
    rw [p1]
    rw [p3] at hW
    exact kk z w' p2 H1 locs1 hW hS)
theorem wWri (E : LE p m c s args D ca b N xs o ns nm T) (hR : LR R cells slots) (hW : WL D ca b o T w bt n H) (hbt : bt ≤ 1) (hS : va_S (fun a => o ≤ a) s.heap H locs) (hz : ls.size = 9) (hc8 : (rest.map fun v => v.category).sum ≤ 8) (hd : decode code pc = .ok (.invokevirtual 161, 3)) (hk : k < T.ns) (hx : x.toInt = (k : Int))
    (kk : ∀ (z : Int32) (w' : Ws), AR T w w' → (0 < bt → ∀ j, j < T.n → w'.ru j = w.ru j) → KW p l e R s m args below meth c D ca b o T w' bt n cells slots Q (F0 m (pc + 3) ls (.int z :: rest))) : W p l e R s m args below meth c H locs cells slots Q (F0 m pc ls (.int v :: .int x :: .ref o :: rest)) := by
  have hEf : Ef T := E.2.2.2.2.2.2.2.2.2.2.2.1
  exact lCl (as0 := [.int x, .int v]) (rest := rest) (a := 92) (F := 89) (M' := rX8_write) (PP := fun v w' b' => (∃ z, v = .int z) ∧ (AR T w w' ∧ (0 < bt → ∀ j, j < T.n → w'.ru j = w.ru j)) ∧ b' = bt) E hR hW hS rfl rfl rfl lk161 rfl (fun _ => rfl) (fun h B => c_write hEf B (by omega) hk hx) (fun h' r q => by
    obtain ⟨⟨z, hz⟩, w', q1, q3, q2⟩ := q
    exact ⟨_, w', _, hz, fun _ => rfl, ⟨⟨z, rfl⟩, ⟨q1, q3⟩, rfl⟩, q2⟩) hd hc8 (by decide) hz (fun H1 locs1 v w' b' pp hW hS => by
    obtain ⟨⟨z, p1⟩, ⟨p2, p4⟩, p3⟩ := pp
    rw [p1]
    rw [p3] at hW
    exact kk z w' p2 p4 H1 locs1 hW hS)
theorem wRea (E : LE p m c s args D ca b N xs o ns nm T) (hR : LR R cells slots) (hW : WL D ca b o T w bt n H) (hbt : bt ≤ 1) (hS : va_S (fun a => o ≤ a) s.heap H locs) (hz : ls.size = 9) (hc8 : (rest.map fun v => v.category).sum ≤ 8) (hd : decode code pc = .ok (.invokevirtual 152, 3)) (hk : k < T.n) (hx : x.toInt = (k : Int)) (he : k + 1 = T.n → bt = 0)
    (kk : ∀ w' : Ws, AR T w w' → (∀ j, j < T.n → pl T w'.ou j = pl T w.ou j) → KW p l e R s m args below meth c D ca b o T w' bt n cells slots Q (F0 m (pc + 3) ls (.long (pl T w.ou k) :: rest))) : W p l e R s m args below meth c H locs cells slots Q (F0 m pc ls (.int x :: .ref o :: rest)) := by
  have hEf : Ef T := E.2.2.2.2.2.2.2.2.2.2.2.1
  exact lCl (as0 := [.int x]) (rest := rest) (a := 95) (F := 89) (M' := rX8_read) (PP := fun v w' b' => v = .long (pl T w.ou k) ∧ (AR T w w' ∧ (∀ j, j < T.n → pl T w'.ou j = pl T w.ou j)) ∧ b' = bt) E hR hW hS rfl rfl rfl lk152 rfl (fun _ => rfl) (fun h B => c_read hEf B (by omega) hk hx he) (fun h' r q => by
    obtain ⟨hz, w', q1, q3, q2⟩ := q
    exact ⟨_, w', _, hz, fun _ => rfl, ⟨rfl, ⟨q1, q3⟩, rfl⟩, q2⟩) hd hc8 (by decide) hz (fun H1 locs1 v w' b' pp hW hS => by
    obtain ⟨p1, ⟨p2, p4⟩, p3⟩ := pp
    rw [p1]
    rw [p3] at hW
    exact kk w' p2 p4 H1 locs1 hW hS)
end LA
