/-! the class's calls, as the law makes them -/
/-- while the law builds; between two acts -/
def LB (T : Tp) (w : Ws) (tp : List Int32) (n : Nat) (h : List xE) : Prop := ∃ ks, TT ks h ∧ xnth ks 0 = some 18 ∧ Bd T (mm h) w ∧ Tr (mm h) tp ∧ h.length = n
def LC (T : Tp) (w : Ws) (b n : Nat) (h : List xE) : Prop := ∃ ks, TT ks h ∧ xnth ks 0 = some 18 ∧ Act T (mm h) w b ∧ h.length = n
section CL
variable {T : Tp} {w : Ws} {tp : List Int32} {h : List xE} {n b k : Nat} {x v : Int32}
theorem mm_nx (h : List xE) : (mm h).nx = h.length := rfl
theorem c_feed (B : LB T w tp n h) (hx : 0 ≤ x.toInt ∧ x.toInt ≤ 255) (hl : tp.length < 250) : cM 86 1 0 [.ref (0 + 1), .int x] h (fun h' r => (∃ z, r = some (.int z)) ∧ LB T w (tp ++ [x]) n h') := by
  obtain ⟨ks, hT, o0, B, t, hn⟩ := B
  refine (yM.w (kPS_feed hT o0 x (K := fun m' _ => Bd T m' w ∧ Tr m' (tp ++ [x]) ∧ m'.nx = (mm h).nx) (aFeed B t hx hl (fun m' z a1 a2 a3 => ⟨a1, a2, a3⟩))) (Nat.le_refl _) (Nat.le_refl _) ?_).cm
  rintro h' r ⟨z, e, hT', a1, a2, a3⟩
  exact ⟨⟨z, e⟩, ks, hT', o0, a1, a2, a3.trans hn⟩
theorem c_source (B : LB T w tp n h) (hs : T.n < T.ns) (hn : T.n < 23) : cM 87 6 763 [.ref (0 + 1), .int x, .int (-1)] h (fun h' r => (∃ z, r = some (.int z)) ∧ ∃ T' w', T'.n = T.n + 1 ∧ T'.ns = T.ns ∧ LB T' w' tp (n + 3) h') := by
  obtain ⟨ks, hT, o0, B, t, hl⟩ := B
  refine (yM.w (kPS_source hT o0 x (-1) (K := fun m' _ => ∃ T' w', T'.n = T.n + 1 ∧ T'.ns = T.ns ∧ Bd T' m' w' ∧ Tr m' tp ∧ m'.nx = (mm h).nx + 3) (aSource B t hs hn (fun m' z T' w' a1 a2 a3 a4 a5 => ⟨T', w', a1, a2, a3, a4, a5⟩))) (Nat.le_refl _) (Nat.le_refl _) ?_).cm
  rintro h' r ⟨z, e, ks', kg, hT', T', w', a1, a2, a3, a4, a5⟩
  exact ⟨⟨z, e⟩, T', w', a1, a2, ks', hT', kg.up o0, a3, a4, a5.trans (by rw [mm_nx, hl])⟩
theorem c_memo (B : LB T w tp n h) (hs : T.ns ≤ T.n) (hn : T.n < 23) (ok : FmOk T.n tp) : cM 89 7 3783 [.ref (0 + 1), .int (-1)] h (fun h' r => (∃ z, r = some (.int z)) ∧ ∃ T' w', T'.n = T.n + 1 ∧ T'.ns = T.ns ∧ LB T' w' [] (n + 12) h') := by
  obtain ⟨ks, hT, o0, B, t, hl⟩ := B
  refine (yM.w (kPS_memo hT o0 (-1) (K := fun m' _ => ∃ T' w', T'.n = T.n + 1 ∧ T'.ns = T.ns ∧ Bd T' m' w' ∧ Tr m' [] ∧ m'.nx = (mm h).nx + 12) (aMemo B t hs hn ok (fun m' z T' w' a1 a2 a3 a4 a5 => ⟨T', w', a1, a2, a3, a4, a5⟩))) (Nat.le_refl _) (Nat.le_refl _) ?_).cm
  rintro h' r ⟨z, e, ks', kg, hT', T', w', a1, a2, a3, a4, a5⟩
  exact ⟨⟨z, e⟩, T', w', a1, a2, ks', hT', kg.up o0, a3, a4, a5.trans (by rw [mm_nx, hl])⟩
theorem c_effect (B : LB T w tp n h) (hs : T.ns ≤ T.n) (hn : T.n < 23) (ok : FmOk T.n tp) : cM 90 89 3783 [.ref (0 + 1), .int (-1)] h (fun h' r => (∃ z, r = some (.int z)) ∧ ∃ T' w', T'.n = T.n + 1 ∧ T'.ns = T.ns ∧ Ef T' ∧ LC T' w' 0 (n + 12) h') := by
  obtain ⟨ks, hT, o0, B, t, hl⟩ := B
  refine (yM.w (kPS_effect hT o0 (-1) (K := fun m' _ => ∃ T' w', T'.n = T.n + 1 ∧ T'.ns = T.ns ∧ Ef T' ∧ Act T' m' w' 0 ∧ m'.nx = (mm h).nx + 12) (aEffect B t hs hn ok (fun m' z T' w' a1 a2 a3 a4 a5 => ⟨T', w', a1, a2, a3, a4, a5⟩))) (Nat.le_refl _) (Nat.le_refl _) ?_).cm
  rintro h' r ⟨z, e, ks', kg, hT', T', w', a1, a2, a3, a4, a5⟩
  exact ⟨⟨z, e⟩, T', w', a1, a2, a3, ks', hT', kg.up o0, a4, a5.trans (by rw [mm_nx, hl])⟩
theorem c_status2 (B : LC T w b n h) : cM 99 1 0 [.ref (0 + 1), .int 2] h (fun h' r => r = some (.int (nI b)) ∧ LC T w b n h') := by
  obtain ⟨ks, hT, o0, A, hl⟩ := B
  refine (yM.w (kPS_status hT o0 2 (K := fun m' z => z = nI b ∧ m' = mm h) (aStatus2 A ⟨rfl, rfl⟩)) (Nat.le_refl _) (Nat.le_refl _) ?_).cm
  rintro h' r ⟨z, e, hT', rfl, a2⟩
  exact ⟨e, ks, hT', o0, by rw [a2]; exact A, (congrArg Mm.nx a2).trans hl⟩
theorem c_status3 (B : LC T w b n h) : cM 99 1 0 [.ref (0 + 1), .int 3] h (fun h' r => r = some (.int (nI w.qu.length)) ∧ LC T w b n h') := by
  obtain ⟨ks, hT, o0, A, hl⟩ := B
  refine (yM.w (kPS_status hT o0 3 (K := fun m' z => z = nI w.qu.length ∧ m' = mm h) (aStatus3 A ⟨rfl, rfl⟩)) (Nat.le_refl _) (Nat.le_refl _) ?_).cm
  rintro h' r ⟨z, e, hT', rfl, a2⟩
  exact ⟨e, ks, hT', o0, by rw [a2]; exact A, (congrArg Mm.nx a2).trans hl⟩
theorem c_status6 (B : LC T w b n h) : cM 99 1 0 [.ref (0 + 1), .int 6] h (fun h' r => r = some (.int (nI (rsm w.ru T.n))) ∧ LC T w b n h') := by
  obtain ⟨ks, hT, o0, A, hl⟩ := B
  refine (yM.w (kPS_status hT o0 6 (K := fun m' z => z = nI (rsm w.ru T.n) ∧ m' = mm h) (aStatus6 A ⟨rfl, rfl⟩)) (Nat.le_refl _) (Nat.le_refl _) ?_).cm
  rintro h' r ⟨z, e, hT', rfl, a2⟩
  exact ⟨e, ks, hT', o0, by rw [a2]; exact A, (congrArg Mm.nx a2).trans hl⟩
theorem c_kept (B : LC T w b n h) (hk : k < T.n) (hx : x.toInt = (k : Int)) : cM 96 1 0 [.ref (0 + 1), .int x] h (fun h' r => r = some (.long (w.ou k)) ∧ LC T w b n h') := by
  obtain ⟨ks, hT, o0, A, hl⟩ := B
  refine (yM.w (kPS_kept hT o0 x (K := fun m' z => z = w.ou k ∧ m' = mm h) (aKept A hk hx ⟨rfl, rfl⟩)) (Nat.le_refl _) (Nat.le_refl _) ?_).cm
  rintro h' r ⟨z, e, hT', rfl, a2⟩
  exact ⟨e, ks, hT', o0, by rw [a2]; exact A, (congrArg Mm.nx a2).trans hl⟩
theorem c_cellOf3 (B : LC T w b n h) (hk : k < T.n) (hx : x.toInt = (k : Int)) : cM 97 1 0 [.ref (0 + 1), .int x, .int 3] h (fun h' r => r = some (.int (w.co k)) ∧ LC T w b n h') := by
  obtain ⟨ks, hT, o0, A, hl⟩ := B
  refine (yM.w (kPS_cellOf hT o0 x 3 (K := fun m' z => z = w.co k ∧ m' = mm h) (aCellOf3 A hk hx ⟨rfl, rfl⟩)) (Nat.le_refl _) (Nat.le_refl _) ?_).cm
  rintro h' r ⟨z, e, hT', rfl, a2⟩
  exact ⟨e, ks, hT', o0, by rw [a2]; exact A, (congrArg Mm.nx a2).trans hl⟩
theorem c_cellOf4 (B : LC T w b n h) (hk : k < T.n) (hx : x.toInt = (k : Int)) : cM 97 1 0 [.ref (0 + 1), .int x, .int 4] h (fun h' r => (∃ z, r = some (.int z)) ∧ LC T w b n h') := by
  obtain ⟨ks, hT, o0, A, hl⟩ := B
  refine (yM.w (kPS_cellOf hT o0 x 4 (K := fun m' _ => m' = mm h) (aCellOf4 A hk hx (fun _ => rfl))) (Nat.le_refl _) (Nat.le_refl _) ?_).cm
  rintro h' r ⟨z, e, hT', a2⟩
  exact ⟨⟨z, e⟩, ks, hT', o0, by rw [a2]; exact A, (congrArg Mm.nx a2).trans hl⟩
theorem lc_len {ks : List Nat} {h' : List xE} (h1 : TT ks h) (h2 : TT ks h') (hl : h.length = n) : h'.length = n := by rw [h2.1, ← h1.1, hl]
theorem c_plain (S : Ef T) (B : LC T w b n h) (hk : k < T.n) (hx : x.toInt = (k : Int)) : cM 98 63 0 [.ref (0 + 1), .int x] h (fun h' r => r = some (.long (pl T w.ou k)) ∧ LC T w b n h') := by
  obtain ⟨ks, hT, o0, A, hl⟩ := B
  refine (yM.w (kPS_plain hT o0 x (K := fun m' z => z = pl T w.ou k ∧ Act T m' w b) (aPlain S A hk hx (fun m' A' => ⟨rfl, A'⟩))) (Nat.le_refl _) (Nat.le_refl _) ?_).cm
  rintro h' r ⟨z, e, hT', rfl, a2⟩
  exact ⟨e, ks, hT', o0, a2, lc_len hT hT' hl⟩
theorem c_begin (B : LC T w b n h) : cM 93 0 0 [.ref (0 + 1)] h (fun h' r => (∃ z, r = some (.int z)) ∧ LC T w (b + 1) n h') := by
  obtain ⟨ks, hT, o0, A, hl⟩ := B
  refine (yM.w (kPS_begin hT o0 (K := fun m' _ => Act T m' w (b + 1)) (aBegin A (fun m' z A' => A'))) (Nat.le_refl _) (Nat.le_refl _) ?_).cm
  rintro h' r ⟨z, e, hT', a2⟩
  exact ⟨⟨z, e⟩, ks, hT', o0, a2, lc_len hT hT' hl⟩
theorem c_end (S : Ef T) (B : LC T w (b + 1) n h) (hb : b < 2147483647) : cM 94 89 0 [.ref (0 + 1)] h (fun h' r => (∃ z, r = some (.int z)) ∧ ∃ w', AR T w w' ∧ LC T w' b n h') := by
  obtain ⟨ks, hT, o0, A, hl⟩ := B
  refine (yM.w (kPS_end hT o0 (K := fun m' _ => ∃ w', AR T w w' ∧ Act T m' w' b) (aEnd S A hb (fun m' w' z A' r' => ⟨w', r', A'⟩))) (Nat.le_refl _) (Nat.le_refl _) ?_).cm
  rintro h' r ⟨z, e, hT', w', a1, a2⟩
  exact ⟨⟨z, e⟩, w', a1, ks, hT', o0, a2, lc_len hT hT' hl⟩
theorem c_write (S : Ef T) (B : LC T w b n h) (hb : b < 2147483648) (hk : k < T.ns) (hx : x.toInt = (k : Int)) : cM 92 89 0 [.ref (0 + 1), .int x, .int v] h (fun h' r => (∃ z, r = some (.int z)) ∧ ∃ w', AR T w w' ∧ (0 < b → ∀ j, j < T.n → w'.ru j = w.ru j) ∧ LC T w' b n h') := by
  obtain ⟨ks, hT, o0, A, hl⟩ := B
  refine (yM.w (kPS_write hT o0 x v (K := fun m' _ => ∃ w', AR T w w' ∧ (0 < b → ∀ j, j < T.n → w'.ru j = w.ru j) ∧ Act T m' w' b) (aWrite S A hb hk hx (fun m' w' z A' r' e' => ⟨w', r', e', A'⟩))) (Nat.le_refl _) (Nat.le_refl _) ?_).cm
  rintro h' r ⟨z, e, hT', w', a1, a3, a2⟩
  exact ⟨⟨z, e⟩, w', a1, a3, ks, hT', o0, a2, lc_len hT hT' hl⟩
theorem c_read (S : Ef T) (B : LC T w b n h) (hb : b < 2147483648) (hk : k < T.n) (hx : x.toInt = (k : Int)) (he : k + 1 = T.n → b = 0) : cM 95 89 0 [.ref (0 + 1), .int x] h (fun h' r => r = some (.long (pl T w.ou k)) ∧ ∃ w', AR T w w' ∧ (∀ j, j < T.n → pl T w'.ou j = pl T w.ou j) ∧ LC T w' b n h') := by
  obtain ⟨ks, hT, o0, A, hl⟩ := B
  refine (yM.w (kPS_read hT o0 x (K := fun m' z => z = pl T w.ou k ∧ ∃ w', AR T w w' ∧ (∀ j, j < T.n → pl T w'.ou j = pl T w.ou j) ∧ Act T m' w' b) (aRead S A hb hk hx he (fun m' w' A' r' e' => ⟨rfl, w', r', e', A'⟩))) (Nat.le_refl _) (Nat.le_refl _) ?_).cm
  rintro h' r ⟨z, e, hT', rfl, w', a1, a3, a2⟩
  exact ⟨e, w', a1, a3, ks, hT', o0, a2, lc_len hT hT' hl⟩
end CL
