/-! every script of six numbers lies in one of the cases -/
def xHc (v : Nat → Int) : Nat → List (List (Int × Int)) → Prop
  | _, [] => True
  | i, l :: sp => (∃ q ∈ l, q.1 ≤ v i ∧ v i ≤ q.2) ∧ xHc v (i + 1) sp
theorem xprod_ok (v : Nat → Int) : ∀ (sp : List (List (Int × Int))) (i : Nat), xHc v i sp → ∃ r ∈ xprod sp, ∀ (j : Nat) (q : Int × Int), xnth r j = some q → q.1 ≤ v (i + j) ∧ v (i + j) ≤ q.2
  | [], i, _ => ⟨[], List.mem_singleton.mpr rfl, fun j q h => by cases j <;> cases h⟩
  | l :: sp, i, ⟨⟨q0, hq0, hb⟩, h⟩ => by
    obtain ⟨r, hr, hv⟩ := xprod_ok v sp (i + 1) h
    refine ⟨q0 :: r, List.mem_flatMap.mpr ⟨q0, hq0, List.mem_map.mpr ⟨r, hr, rfl⟩⟩, fun j q hq => ?_⟩
    cases j with
    | zero => cases hq; exact hb
    | succ j =>
      have := hv j q hq
      rw [show i + 1 + j = i + (j + 1) by omega] at this
      exact this
def xcovF (b : Int) : Int → List (Int × Int) → Bool
  | a, [] => decide (b < a)
  | a, q :: l => decide (q.1 ≤ a) && xcovF b (q.2 + 1) l
theorem xcovF_ok {b : Int} : ∀ (l : List (Int × Int)) (a v : Int), xcovF b a l = true → a ≤ v → v ≤ b → ∃ q ∈ l, q.1 ≤ v ∧ v ≤ q.2
  | [], a, v, h, h1, h2 => by
    have := of_decide_eq_true (show decide (b < a) = true from h)
    omega
  | q :: l, a, v, h, h1, h2 => by
    simp only [xcovF, Bool.and_eq_true, decide_eq_true_eq] at h
    by_cases hv : v ≤ q.2
    · exact ⟨q, List.mem_cons_self, by omega, hv⟩
    · obtain ⟨z, hz, hb⟩ := xcovF_ok l (q.2 + 1) v h.2 (by omega) h2
      exact ⟨z, List.mem_cons_of_mem _ hz, hb⟩
def xcov (l : List (Int × Int)) : Bool := xcovF 2147483647 (-2147483648) l
def xBd (v : Nat → Int) : Prop := ∀ j, -2147483648 ≤ v j ∧ v j ≤ 2147483647
theorem xHc_cov {v : Nat → Int} (hb : xBd v) {t : List (List (Int × Int))} : ∀ (l : List (List (Int × Int))) (i : Nat), l.all xcov = true → xHc v (i + l.length) t → xHc v i (l ++ t)
  | [], i, _, h => h
  | a :: l, i, hc, h => by
    rw [List.all_cons, Bool.and_eq_true] at hc
    refine ⟨xcovF_ok a _ _ hc.1 (hb i).1 (hb i).2, xHc_cov hb l (i + 1) hc.2 ?_⟩
    rw [show i + 1 + l.length = i + (a :: l).length by rw [List.length_cons]; omega]
    exact h
theorem xHc_F {v : Nat → Int} (hb : xBd v) {i : Nat} {sp : List (List (Int × Int))} (h : xHc v (i + 1) sp) : xHc v i (xvF :: sp) := ⟨⟨_, List.mem_cons_self, hb i⟩, h⟩
theorem xHc_1 {v : Nat → Int} {i : Nat} {n : Int} {sp : List (List (Int × Int))} (e : v i = n) (h : xHc v (i + 1) sp) : xHc v i ([xo n] :: sp) := ⟨⟨xo n, List.mem_cons_self, Int.le_of_eq e.symm, Int.le_of_eq e⟩, h⟩
theorem xHc_2 {v : Nat → Int} {i : Nat} {sp : List (List (Int × Int))} (e : v i = 0 ∨ v i = 1) (h : xHc v (i + 1) sp) : xHc v i ([xo 0, xo 1] :: sp) := by
  refine ⟨?_, h⟩
  rcases e with e | e
  · exact ⟨xo 0, List.mem_cons_self, Int.le_of_eq e.symm, Int.le_of_eq e⟩
  · exact ⟨xo 1, List.mem_cons_of_mem _ List.mem_cons_self, Int.le_of_eq e.symm, Int.le_of_eq e⟩
theorem xHc_c {v : Nat → Int} (hb : xBd v) {i : Nat} {l : List (Int × Int)} {sp : List (List (Int × Int))} (hc : xcov l = true) (h : xHc v (i + 1) sp) : xHc v i (l :: sp) := ⟨xcovF_ok l _ _ hc (hb i).1 (hb i).2, h⟩
theorem xHc_q {v : Nat → Int} {i : Nat} {q : Int × Int} {sp : List (List (Int × Int))} (e : q.1 ≤ v i ∧ v i ≤ q.2) (h : xHc v (i + 1) sp) : xHc v i ([q] :: sp) := ⟨⟨q, List.mem_cons_self, e⟩, h⟩
theorem xHc_b {v : Nat → Int} {i : Nat} (t : Bool) {l l' : List (Int × Int)} {sp : List (List (Int × Int))} (h : xHc v i (l :: sp)) (h' : xHc v i (l' :: sp)) : xHc v i ((bif t then l else l') :: sp) := by
  cases t with
  | true => exact h
  | false => exact h'
theorem xAr_ok : (List.range 64).all (fun k => Nat.beq (xAr k).length 5 && (xAr k).all xcov) = true := by decide +kernel
theorem xSp_hc {v : Nat → Int} (hb : xBd v) {k : Nat} (hk : k < 64) (h6 : v 6 = (k : Int)) : xHc v 0 (xSp k) := by
  have h := List.all_eq_true.mp xAr_ok k (List.mem_range.mpr hk)
  rw [Bool.and_eq_true] at h
  have hl : (xAr k).length = 5 := Nat.eq_of_beq_eq_true h.1
  refine xHc_F hb (xHc_cov hb (xAr k) 1 h.2 ?_)
  rw [hl]
  exact xHc_1 h6 trivial
theorem xSp0_hc {v : Nat → Int} (hb : xBd v) {q : Int × Int} (hq : q.1 ≤ v 1 ∧ v 1 ≤ q.2) (h6 : v 6 = 0) : xHc v 0 (xSp0 q) :=
  xHc_F hb (xHc_q hq (xHc_c hb (by decide +kernel) (xHc_c hb (by decide +kernel) (xHc_F hb (xHc_F hb (xHc_1 h6 trivial))))))
theorem xSg29_hc {v : Nat → Int} (hb : xBd v) {c z w : Int} (h6 : v 6 = 29) (f0 : v 30 = 0 ∨ v 30 = 1) (f1 : v 31 = 0 ∨ v 31 = 1) (f2 : v 32 = 0 ∨ v 32 = 1) (f3 : v 33 = 0 ∨ v 33 = 1) (f4 : v 34 = 0 ∨ v 34 = 1) (hc : v 36 = c) (hz : v 37 = z) (hw : v 38 = w) : xHc v 0 (xSg29 c z w) := by
  unfold xSg29
  refine xHc_F hb (xHc_F hb (xHc_F hb (xHc_F hb (xHc_F hb (xHc_F hb (xHc_1 h6 ?_))))))
  refine xHc_F hb (xHc_F hb (xHc_F hb (xHc_F hb (xHc_F hb (xHc_F hb (xHc_F hb (xHc_F hb (xHc_F hb (xHc_F hb ?_)))))))))
  refine xHc_F hb (xHc_F hb (xHc_F hb (xHc_F hb (xHc_F hb (xHc_F hb (xHc_F hb (xHc_F hb (xHc_F hb (xHc_F hb ?_)))))))))
  refine xHc_F hb (xHc_F hb (xHc_F hb ?_))
  refine xHc_2 f0 (xHc_2 f1 (xHc_2 f2 ?_))
  have t : xHc v 35 [xvF, [xo c], [xo z], [xo w]] := xHc_F hb (xHc_1 hc (xHc_1 hz (xHc_1 hw trivial)))
  exact xHc_b _ (xHc_F hb (xHc_b _ (xHc_2 f4 t) (xHc_F hb t))) (xHc_2 f3 (xHc_b _ (xHc_2 f4 t) (xHc_F hb t)))
theorem xSt39_hc {v : Nat → Int} (hb : xBd v) {a c : List (Int × Int)} (h6 : v 6 = 39) (h1 : ∃ q ∈ a, q.1 ≤ v 1 ∧ v 1 ≤ q.2) (h8 : ∃ q ∈ c, q.1 ≤ v 8 ∧ v 8 ≤ q.2) : xHc v 0 (xSt39 a c) :=
  xHc_F hb ⟨h1, xHc_F hb (xHc_F hb (xHc_F hb (xHc_F hb (xHc_1 h6 (xHc_F hb ⟨h8, trivial⟩)))))⟩
/-! the numbers of a script, and those that are made of them -/
def xRi (xs : Nat → Int32) (k : Nat) : Int32 := match k with
  | 6 => xs 0 &&& 63
  | 7 => 0
  | 8 => xs 1 - 12
  | 20 => xs 1 + xs 2
  | 21 => xs 1 - xs 2
  | 22 => xs 1 * xs 2
  | 23 => xs 1 / xs 2
  | 24 => xs 1 - xs 1 / xs 2 * xs 2
  | 30 => if xs 1 + xs 2 = xs 3 then 1 else 0
  | 31 => if xs 1 - xs 2 = xs 3 then 1 else 0
  | 32 => if xs 1 * xs 2 = xs 3 then 1 else 0
  | 33 => if xs 1 / xs 2 = xs 3 then 1 else 0
  | 34 => if xs 1 - xs 1 / xs 2 * xs 2 = xs 3 then 1 else 0
  | 36 => if xs 1 < xs 2 then -1 else if xs 1 = xs 2 then 0 else 1
  | 37 => if xs 2 = 0 then 0 else if xs 2 = -1 then -1 else 1
  | 38 => if xs 3 = 0 then 0 else if xs 3 = 1 then 1 else 2
  | 40 => lg_cmp (xs 1 + xs 2).toInt64 (xs 3).toInt64
  | 41 => lg_cmp (xs 1 - xs 2).toInt64 (xs 3).toInt64
  | 42 => lg_cmp (xs 1 * xs 2).toInt64 (xs 3).toInt64
  | 43 => lg_cmp (xs 1 / xs 2).toInt64 (xs 3).toInt64
  | 44 => lg_cmp (xs 1 - xs 1 / xs 2 * xs 2).toInt64 (xs 3).toInt64
  | 45 => lg_cmp 0 (xs 3).toInt64
  | 46 => lg_cmp 1 (xs 3).toInt64
  | n => xs n
def xRl (xs : Nat → Int32) (k : Nat) : Int64 := match k with
  | 1000 => (xs 3).toInt64 <<< ((32 : Int32).toInt64 &&& 63)
  | 1001 => (xs 4).toInt64 &&& 4294967295
  | 1002 => ((xs 3).toInt64 <<< ((32 : Int32).toInt64 &&& 63)) ||| ((xs 4).toInt64 &&& 4294967295)
  | _ => 0
def xRho (xs : Nat → Int32) (k : Nat) : Int32 × Int64 := (xRi xs k, bif Nat.blt k 1000 then (xRi xs k).toInt64 else xRl xs k)
theorem xBd_of (xs : Nat → Int32) : xBd (fun j => (xRho xs j).1.toInt) := fun j => by
  have h1 := Int32.le_toInt (xRho xs j).1
  have h2 := Int32.toInt_lt (xRho xs j).1
  exact ⟨by show -2147483648 ≤ (xRho xs j).1.toInt; omega, by show (xRho xs j).1.toInt ≤ 2147483647; omega⟩
theorem xSg_of (xs : Nat → Int32) : xSg (xRho xs) := by
  refine ⟨⟨rfl, rfl, rfl, rfl, rfl⟩, ?_, rfl, rfl, rfl, ?_, rfl, rfl⟩
  · intro n h1 h2
    rcases (show n = 20 ∨ n = 21 ∨ n = 22 ∨ n = 23 ∨ n = 24 by omega) with rfl | rfl | rfl | rfl | rfl <;> rfl
  · intro n h1 h2
    rcases (show n = 20 ∨ n = 21 ∨ n = 22 ∨ n = 23 ∨ n = 24 by omega) with rfl | rfl | rfl | rfl | rfl <;> rfl
theorem xIv_of {xs : Nat → Int32} {iv : List (Int × Int)} (h : ∀ (j : Nat) (q : Int × Int), xnth iv j = some q → q.1 ≤ (xRho xs j).1.toInt ∧ (xRho xs j).1.toInt ≤ q.2) : xIv (xRho xs) iv := by
  refine ⟨fun k => ?_, fun k hk => ?_, rfl, rfl, rfl, rfl, ?_, rfl, xSg_of xs⟩
  · unfold xiv
    cases hq : xnth iv k with
    | none => exact xBd_of xs k
    | some q => exact h k q hq
  · show (bif Nat.blt k 1000 then (xRi xs k).toInt64 else xRl xs k) = (xRi xs k).toInt64
    rw [show Nat.blt k 1000 = true from Nat.ble_eq_true_of_le hk]
    rfl
  · show ((0 : Int32), (bif Nat.blt 7 1000 then (0 : Int32).toInt64 else xRl xs 7)) = (0, 0)
    rw [show Nat.blt 7 1000 = true from rfl]
    rw [show (0 : Int32).toInt64 = 0 from by decide]
    rfl
theorem xIv_nil (xs : Nat → Int32) : xIv (xRho xs) [] := xIv_of (fun j q h => by cases j <;> cases h)
theorem xuse {xs : Nat → Int32} {sp : List (List (Int × Int))} (ha : xall sp = true) (hc : xHc (fun j => (xRho xs j).1.toInt) 0 sp) : ∃ iv, xIv (xRho xs) iv ∧ xfin (xB 7 iv) = true := by
  obtain ⟨r, hr, hv⟩ := xprod_ok _ sp 0 hc
  refine ⟨r, xIv_of (fun j q hq => ?_), List.all_eq_true.mp ha r hr⟩
  have := hv j q hq
  rw [Nat.zero_add] at this
  exact this
theorem xand63 (x : Int32) : ∃ k : Nat, k < 64 ∧ (x &&& 63).toInt = (k : Int) := by
  have e : (x &&& 63).toBitVec.toNat = x.toBitVec.toNat &&& 63 := by
    rw [Int32.toBitVec_and, BitVec.toNat_and]
    rfl
  have h : (x &&& 63).toBitVec.toNat ≤ 63 := by
    rw [e]
    exact Nat.and_le_right
  refine ⟨(x &&& 63).toBitVec.toNat, by omega, ?_⟩
  show (x &&& 63).toBitVec.toInt = _
  rw [BitVec.toInt_eq_toNat_of_lt]
  omega
theorem xsub12 (x : Int32) : (x - 12).toInt = if x.toInt < -2147483636 then x.toInt - 12 + 4294967296 else x.toInt - 12 := by
  have h1 := Int32.le_toInt x
  have h2 := Int32.toInt_lt x
  rw [Int32.toInt_sub, show (12 : Int32).toInt = 12 from by decide]
  by_cases hc : x.toInt < -2147483636
  · rw [if_pos hc]
    simp only [Int.bmod]
    omega
  · rw [if_neg hc]
    simp only [Int.bmod]
    omega
theorem x01 (P : Prop) [Decidable P] : (if P then (1 : Int32) else 0).toInt = 0 ∨ (if P then (1 : Int32) else 0).toInt = 1 := by
  by_cases h : P
  · rw [if_pos h]
    exact Or.inr (by decide)
  · rw [if_neg h]
    exact Or.inl (by decide)
theorem x3w (P P' : Prop) [Decidable P] [Decidable P'] (a c d : Int32) : (if P then a else if P' then c else d) = a ∨ (if P then a else if P' then c else d) = c ∨ (if P then a else if P' then c else d) = d := by
  by_cases h : P
  · rw [if_pos h]
    exact Or.inl rfl
  · rw [if_neg h]
    by_cases h' : P'
    · rw [if_pos h']
      exact Or.inr (Or.inl rfl)
    · rw [if_neg h']
      exact Or.inr (Or.inr rfl)
theorem xGr_ok : (List.range 64).all (fun k => List.elem k [0, 29, 39, 2, 5, 6, 9, 10, 34] || List.elem k xGr) = true := by decide +kernel
theorem xcase29 {xs : Nat → Int32} (h6 : (xRho xs 6).1.toInt = 29) : ∃ iv, xIv (xRho xs) iv ∧ xfin (xB 7 iv) = true := by
  have hb := xBd_of xs
  have em : (-1 : Int32).toInt = -1 := by decide
  have e0 : (0 : Int32).toInt = 0 := by decide
  have e1 : (1 : Int32).toInt = 1 := by decide
  have e2 : (2 : Int32).toInt = 2 := by decide
  have hc : (xRho xs 36).1 = -1 ∨ (xRho xs 36).1 = 0 ∨ (xRho xs 36).1 = 1 := x3w _ _ _ _ _
  have hz : (xRho xs 37).1 = 0 ∨ (xRho xs 37).1 = -1 ∨ (xRho xs 37).1 = 1 := x3w _ _ _ _ _
  have hw : (xRho xs 38).1 = 0 ∨ (xRho xs 38).1 = 1 ∨ (xRho xs 38).1 = 2 := x3w _ _ _ _ _
  have k : ∀ c z w : Int, (xRho xs 36).1.toInt = c → (xRho xs 37).1.toInt = z → (xRho xs 38).1.toInt = w → xHc (fun j => (xRho xs j).1.toInt) 0 (xSg29 c z w) := fun c z w q1 q2 q3 => xSg29_hc hb h6 (x01 _) (x01 _) (x01 _) (x01 _) (x01 _) q1 q2 q3
  rcases hc with hc | hc | hc <;> rcases hz with hz | hz | hz <;> rcases hw with hw | hw | hw
  · exact xuse t29_m00 (k _ _ _ (by rw [hc, em]) (by rw [hz, e0]) (by rw [hw, e0]))
  · exact xuse t29_m01 (k _ _ _ (by rw [hc, em]) (by rw [hz, e0]) (by rw [hw, e1]))
  · exact xuse t29_m02 (k _ _ _ (by rw [hc, em]) (by rw [hz, e0]) (by rw [hw, e2]))
  · exact xuse t29_mm0 (k _ _ _ (by rw [hc, em]) (by rw [hz, em]) (by rw [hw, e0]))
  · exact xuse t29_mm1 (k _ _ _ (by rw [hc, em]) (by rw [hz, em]) (by rw [hw, e1]))
  · exact xuse t29_mm2 (k _ _ _ (by rw [hc, em]) (by rw [hz, em]) (by rw [hw, e2]))
  · exact xuse t29_m10 (k _ _ _ (by rw [hc, em]) (by rw [hz, e1]) (by rw [hw, e0]))
  · exact xuse t29_m11 (k _ _ _ (by rw [hc, em]) (by rw [hz, e1]) (by rw [hw, e1]))
  · exact xuse t29_m12 (k _ _ _ (by rw [hc, em]) (by rw [hz, e1]) (by rw [hw, e2]))
  · exact xuse t29_000 (k _ _ _ (by rw [hc, e0]) (by rw [hz, e0]) (by rw [hw, e0]))
  · exact xuse t29_001 (k _ _ _ (by rw [hc, e0]) (by rw [hz, e0]) (by rw [hw, e1]))
  · exact xuse t29_002 (k _ _ _ (by rw [hc, e0]) (by rw [hz, e0]) (by rw [hw, e2]))
  · exact xuse t29_0m0 (k _ _ _ (by rw [hc, e0]) (by rw [hz, em]) (by rw [hw, e0]))
  · exact xuse t29_0m1 (k _ _ _ (by rw [hc, e0]) (by rw [hz, em]) (by rw [hw, e1]))
  · exact xuse t29_0m2 (k _ _ _ (by rw [hc, e0]) (by rw [hz, em]) (by rw [hw, e2]))
  · exact xuse t29_010 (k _ _ _ (by rw [hc, e0]) (by rw [hz, e1]) (by rw [hw, e0]))
  · exact xuse t29_011 (k _ _ _ (by rw [hc, e0]) (by rw [hz, e1]) (by rw [hw, e1]))
  · exact xuse t29_012 (k _ _ _ (by rw [hc, e0]) (by rw [hz, e1]) (by rw [hw, e2]))
  · exact xuse t29_100 (k _ _ _ (by rw [hc, e1]) (by rw [hz, e0]) (by rw [hw, e0]))
  · exact xuse t29_101 (k _ _ _ (by rw [hc, e1]) (by rw [hz, e0]) (by rw [hw, e1]))
  · exact xuse t29_102 (k _ _ _ (by rw [hc, e1]) (by rw [hz, e0]) (by rw [hw, e2]))
  · exact xuse t29_1m0 (k _ _ _ (by rw [hc, e1]) (by rw [hz, em]) (by rw [hw, e0]))
  · exact xuse t29_1m1 (k _ _ _ (by rw [hc, e1]) (by rw [hz, em]) (by rw [hw, e1]))
  · exact xuse t29_1m2 (k _ _ _ (by rw [hc, e1]) (by rw [hz, em]) (by rw [hw, e2]))
  · exact xuse t29_110 (k _ _ _ (by rw [hc, e1]) (by rw [hz, e1]) (by rw [hw, e0]))
  · exact xuse t29_111 (k _ _ _ (by rw [hc, e1]) (by rw [hz, e1]) (by rw [hw, e1]))
  · exact xuse t29_112 (k _ _ _ (by rw [hc, e1]) (by rw [hz, e1]) (by rw [hw, e2]))
theorem xcase39 {xs : Nat → Int32} (h6 : (xRho xs 6).1.toInt = 39) : ∃ iv, xIv (xRho xs) iv ∧ xfin (xB 7 iv) = true := by
  have hb := xBd_of xs
  have h8 : (xRho xs 8).1.toInt = if (xRho xs 1).1.toInt < -2147483636 then (xRho xs 1).1.toInt - 12 + 4294967296 else (xRho xs 1).1.toInt - 12 := xsub12 (xs 1)
  obtain ⟨b1, b2⟩ := hb 1
  by_cases c1 : (xRho xs 1).1.toInt < -2147483636
  · rw [if_pos c1] at h8
    exact xuse t39b (xSt39_hc hb h6 ⟨_, List.mem_cons_self, by dsimp only at b1 b2 ⊢; omega⟩ ⟨_, List.mem_cons_self, by dsimp only at b1 b2 ⊢; omega⟩)
  · rw [if_neg c1] at h8
    by_cases c2 : (xRho xs 1).1.toInt < 0
    · exact xuse t39c (xSt39_hc hb h6 ⟨_, List.mem_cons_self, by dsimp only at b1 b2 ⊢; omega⟩ ⟨_, List.mem_cons_self, by dsimp only at b1 b2 ⊢; omega⟩)
    · by_cases c3 : (xRho xs 1).1.toInt ≤ 16
      · exact xuse t39a (xSt39_hc hb h6 (xcovF_ok (b := 16) _ 0 _ (by decide +kernel) (by dsimp only at b1 b2 ⊢; omega) c3) ⟨_, List.mem_cons_self, hb 8⟩)
      · exact xuse t39d (xSt39_hc hb h6 ⟨_, List.mem_cons_self, by dsimp only at b1 b2 ⊢; omega⟩ ⟨_, List.mem_cons_self, by dsimp only at b1 b2 ⊢; omega⟩)
theorem xcase0 {xs : Nat → Int32} (h6 : (xRho xs 6).1.toInt = 0) : ∃ iv, xIv (xRho xs) iv ∧ xfin (xB 7 iv) = true := by
  have hb := xBd_of xs
  obtain ⟨q, hq, hv⟩ := xcovF_ok (b := 2147483647) xvS (-2147483648) _ (by decide +kernel) (hb 1).1 (hb 1).2
  have hq2 : q = (-2147483648, -1) ∨ q = xo 0 ∨ q = xo 1 ∨ q = xo 2 ∨ q = xo 3 ∨ q = xo 4 ∨ q = xo 5 ∨ q = xo 6 ∨ q = xo 7 ∨ q = (8, 2147483647) := by simpa [xvS] using hq
  rcases hq2 with rfl | rfl | rfl | rfl | rfl | rfl | rfl | rfl | rfl | rfl
  · exact xuse t0_0 (xSp0_hc hb hv h6)
  · exact xuse t0_1 (xSp0_hc hb hv h6)
  · exact xuse t0_2 (xSp0_hc hb hv h6)
  · exact xuse t0_3 (xSp0_hc hb hv h6)
  · exact xuse t0_4 (xSp0_hc hb hv h6)
  · exact xuse t0_5 (xSp0_hc hb hv h6)
  · exact xuse t0_6 (xSp0_hc hb hv h6)
  · exact xuse t0_7 (xSp0_hc hb hv h6)
  · exact xuse t0_8 (xSp0_hc hb hv h6)
  · exact xuse t0_9 (xSp0_hc hb hv h6)
theorem xcase (xs : Nat → Int32) : ∃ iv, xIv (xRho xs) iv ∧ xfin (xB 7 iv) = true := by
  have hb := xBd_of xs
  obtain ⟨k, hk, h6⟩ := xand63 (xs 0)
  have h6 : (xRho xs 6).1.toInt = (k : Int) := h6
  have hs := List.all_eq_true.mp xGr_ok k (List.mem_range.mpr hk)
  rw [Bool.or_eq_true] at hs
  rcases hs with hs | hs
  · have hs2 : k = 0 ∨ k = 29 ∨ k = 39 ∨ k = 2 ∨ k = 5 ∨ k = 6 ∨ k = 9 ∨ k = 10 ∨ k = 34 := by simpa using hs
    rcases hs2 with rfl | rfl | rfl | rfl | rfl | rfl | rfl | rfl | rfl
    · exact xcase0 h6
    · exact xcase29 h6
    · exact xcase39 h6
    · exact xuse t2 (xSp_hc hb (by decide) h6)
    · exact xuse t5 (xSp_hc hb (by decide) h6)
    · exact xuse t6 (xSp_hc hb (by decide) h6)
    · exact xuse t9 (xSp_hc hb (by decide) h6)
    · exact xuse t10 (xSp_hc hb (by decide) h6)
    · exact xuse t34 (xSp_hc hb (by decide) h6)
  · have hm : k ∈ xGr := List.elem_iff.mp hs
    exact xuse (List.all_eq_true.mp tGr k hm) (xSp_hc hb hk h6)
