/-! the six forms of a formula, and the effect's, are read -/
def goodB (k : Nat) : List Int32 → List Int32 → Bool
  | [], _ => true
  | s :: sl, d :: dl => !(decide (s = 12)) && (!(decide (s = 11)) || (decide (0 ≤ d.toInt) && decide (d.toInt < (k : Int)))) && goodB k sl dl
  | _ :: _, [] => false
def fmB (k : Nat) (tp : List Int32) : Bool := tp.all (fun z => !(decide (z.toInt = 126))) && (decide ((rAll (nI k) tp).fa = -1) && (decide ((rTake (nI k) tp).wp = 0) && ((rTake (nI k) tp).op.isEmpty && goodB k (rTake (nI k) tp).sl (rTake (nI k) tp).dl)))
def frm (f a b c n : Nat) : List Int32 := match f with
  | 0 => [nI (97 + a), 43, nI (97 + b)]
  | 1 => [nI (97 + a), 42, nI (97 + b), 45, nI (48 + n)]
  | 2 => [91, nI (97 + a), 60, nI (48 + n), 63, nI (97 + b), 58, nI (97 + c), 93]
  | 3 => [nI (97 + a), 47, nI (97 + b)]
  | 4 => [40, nI (97 + a), 45, nI (97 + b), 41, 42, 50]
  | _ => [94, 40, 45, nI (97 + a), 44, nI (97 + b), 37, nI (48 + n), 41]
section FR
variable {k a b c n : Nat} {tp : List Int32} {r : Rd}
theorem let_ok (ha : a < k) (hk : k ≤ 23) : rLet (nI k) (nI (97 + a)) := by
  have e97 : (97 : Int32).toInt = 97 := rfl
  refine ⟨?_, ?_⟩
  · rw [nI_toInt (by omega)]
    omega
  · rw [show (97 : Int32) + nI k = nI (97 + k) from nI_add 97 k, nI_toInt (by omega), nI_toInt (by omega)]
    omega
theorem let_sb : nI (97 + a) - (97 : Int32) = nI a := by
  rw [show nI (97 + a) = (97 : Int32) + nI a from (nI_add 97 a).symm, Int32.add_comm, Int32.add_sub_cancel]
theorem st_let (h : lat tp r.at = nI (97 + a)) (hw : r.wp = 1) (ha : a < k) (hk : k ≤ 23) : rStep (nI k) tp r = rWp (rEnd 250 (rPs (rPs (rAdd (rAt r (r.at + (1 : Int32))) 11 (nI a)) 1) 0)) 0 := by
  have ht : (nI (97 + a)).toInt = 97 + (a : Int) := by rw [nI_toInt (by omega)]; omega
  have e : rPart (nI k) tp r = rPs (rAdd (rAt r (r.at + (1 : Int32))) 11 (nI a)) 1 := by
    unfold rPart rPlain
    rw [h, if_neg (by omega), if_neg (by omega), if_neg (by omega), if_neg (by omega), if_pos (let_ok ha hk), let_sb]
  unfold rStep
  rw [hw, if_neg (show ¬ (1 : Int32) = 0 by decide), e]
  rfl
theorem st_dig (h : lat tp r.at = nI (48 + n)) (hw : r.wp = 1) (hn : n < 10) (hd : ¬ rDig (lat tp (r.at + (1 : Int32)))) (hk : k ≤ 23) : rStep (nI k) tp r = rWp (rEnd 250 (rPs (rPs (rAdd (rAt r (r.at + (1 : Int32))) 10 (nI n)) 1) 0)) 0 := by
  have ht : (nI (48 + n)).toInt = 48 + (n : Int) := by rw [nI_toInt (by omega)]; omega
  have e97 : (97 : Int32).toInt = 97 := rfl
  have e48 : (48 : Int32).toInt = 48 := rfl
  have e57 : (57 : Int32).toInt = 57 := rfl
  have e : rPart (nI k) tp r = rPs (rAdd (rAt r (r.at + (1 : Int32))) 10 (nI n)) 1 := by
    have d : rDig (nI (48 + n)) := ⟨by omega, by omega⟩
    have q : rNum tp 3 0 r = (nI n, rAt r (r.at + (1 : Int32))) := by
      unfold rNum
      rw [h, if_pos d]
      unfold rNum
      rw [show (rAt r (r.at + (1 : Int32))).at = r.at + (1 : Int32) from rfl, if_neg hd]
      refine Prod.ext ?_ rfl
      show (((0 : Int32) * 10) + nI (48 + n)) - 48 = nI n
      rw [show nI (48 + n) = (48 : Int32) + nI n from (nI_add 48 n).symm, show (0 : Int32) * 10 = 0 from rfl, Int32.zero_add, Int32.add_comm, Int32.add_sub_cancel]
    unfold rPart rPlain
    rw [h, if_neg (by omega), if_neg (by omega), if_neg (by omega), if_neg (by omega), if_neg (fun e => e.1 (by omega)), if_pos d, q]
  unfold rStep
  rw [hw, if_neg (show ¬ (1 : Int32) = 0 by decide), e]
  rfl
theorem lat_of {i : Nat} {x z : Int32} (hx : x.toInt = (i : Int)) (h : tp[i]? = some z) : lat tp x = z := by
  have hl : i < tp.length := (List.getElem?_eq_some_iff.mp h).1
  unfold lat
  rw [if_pos ⟨by omega, by omega⟩, show x.toInt.toNat = i by omega, h]
  rfl
theorem rEnd0 (h : llast r.op ≠ 9) : rEnd 250 r = r := by
  show rEnd (249 + 1) r = r
  rw [rEnd, if_neg h]
theorem rEnd1 (h : llast r.op = 9) (h2 : llast r.op.dropLast ≠ 9) : rEnd 250 r = rClose (rAdd r 9 0) := by
  show rEnd (248 + 1 + 1) r = _
  rw [rEnd, if_pos h, rEnd, if_neg (show llast (Rd.op (rClose (rAdd r 9 0))) ≠ 9 from h2)]
theorem st_let0 {i : Nat} (hx : r.at.toInt = (i : Int)) (h : tp[i]? = some (nI (97 + a))) (hw : r.wp = 1) (h9 : llast r.op ≠ 9) (ha : a < k) (hk : k ≤ 23) : rStep (nI k) tp r = (ladd 250 r.sl 11, ladd 250 r.dl (nI a), r.op, r.oj, r.at + (1 : Int32), r.fa, 0, 0) := by
  rw [st_let (lat_of hx h) hw ha hk, rEnd0 (show llast (Rd.op (rPs (rPs (rAdd (rAt r (r.at + (1 : Int32))) 11 (nI a)) 1) 0)) ≠ 9 from h9)]
  rfl
theorem st_let9 {i : Nat} (hx : r.at.toInt = (i : Int)) (h : tp[i]? = some (nI (97 + a))) (hw : r.wp = 1) (h9 : llast r.op = 9) (h92 : llast r.op.dropLast ≠ 9) (ha : a < k) (hk : k ≤ 23) : rStep (nI k) tp r = (ladd 250 (ladd 250 r.sl 11) 9, ladd 250 (ladd 250 r.dl (nI a)) 0, r.op.dropLast, r.oj.dropLast, r.at + (1 : Int32), r.fa, 0, 0) := by
  rw [st_let (lat_of hx h) hw ha hk, rEnd1 (show llast (Rd.op (rPs (rPs (rAdd (rAt r (r.at + (1 : Int32))) 11 (nI a)) 1) 0)) = 9 from h9) (show llast (Rd.op (rPs (rPs (rAdd (rAt r (r.at + (1 : Int32))) 11 (nI a)) 1) 0)).dropLast ≠ 9 from h92)]
  rfl
theorem st_dig0 {i : Nat} (hx : r.at.toInt = (i : Int)) (h : tp[i]? = some (nI (48 + n))) (hw : r.wp = 1) (h9 : llast r.op ≠ 9) (hn : n < 10) (hd : ¬ rDig (lat tp (r.at + (1 : Int32)))) (hk : k ≤ 23) : rStep (nI k) tp r = (ladd 250 r.sl 10, ladd 250 r.dl (nI n), r.op, r.oj, r.at + (1 : Int32), r.fa, 0, 0) := by
  rw [st_dig (lat_of hx h) hw hn hd hk, rEnd0 (show llast (Rd.op (rPs (rPs (rAdd (rAt r (r.at + (1 : Int32))) 10 (nI n)) 1) 0)) ≠ 9 from h9)]
  rfl
theorem lp_go {m : Nat} {r' r'' : Rd} (h1 : r.at.toInt < (tp.length : Int)) (h2 : r.fa = -1) (h : rStep (nI k) tp r = r') (h3 : rLoop (nI k) tp m r' = r'') : rLoop (nI k) tp (m + 1) r = r'' := by
  rw [rLoop, if_pos ⟨h1, h2⟩, h]
  exact h3
theorem lp_no {m : Nat} (h : ¬ r.at.toInt < (tp.length : Int)) : rLoop (nI k) tp m r = r := by
  cases m with
  | zero => rfl
  | succ m => rw [rLoop, if_neg (fun e => h e.1)]
theorem n126 {x : Nat} (h : x < 126) : (nI x).toInt ≠ 126 := by
  rw [nI_toInt (by omega)]
  omega
theorem no126 (h : ∀ z, z ∈ tp → z.toInt ≠ 126) : ∀ x, (lat tp x).toInt ≠ 126 := fun x => by
  unfold lat
  split
  · rename_i hx
    have hl : x.toInt.toNat < tp.length := by omega
    rw [List.getElem?_eq_getElem hl]
    exact h _ (List.getElem_mem hl)
  · decide
theorem nI_small (h : a < k) (hk : k ≤ 23) : 0 ≤ (nI a).toInt ∧ (nI a).toInt < (k : Int) := by
  rw [nI_toInt (by omega)]
  omega
theorem good_go {cap : Nat} : ∀ (sl dl : List Int32) (i : Nat), goodB k sl dl = true → (∀ z, sl[i]? = some z → z ≠ 12 ∧ (z = 11 → ∃ y, dl[i]? = some y ∧ 0 ≤ y.toInt ∧ y.toInt < (k : Int)))
  | [], _, _, _, _, h => by cases h
  | s :: sl, [], _, hb, _, _ => by cases hb
  | s :: sl, d :: dl, i, hb, z, hz => by
    rw [goodB] at hb
    simp only [Bool.and_eq_true, Bool.or_eq_true, Bool.not_eq_true', decide_eq_false_iff_not, decide_eq_true_eq] at hb
    obtain ⟨⟨b1, b2⟩, b3⟩ := hb
    cases i with
    | zero =>
      obtain rfl : s = z := Option.some.inj hz
      exact ⟨b1, fun e => ⟨d, rfl, b2.resolve_left (fun n => n e)⟩⟩
    | succ i => exact good_go (cap := cap) sl dl i b3 z hz
theorem good_of {cap : Nat} {sl dl : List Int32} (h : goodB k sl dl = true) : Good k (sl, dl, cap) := fun x => by
  show lat sl x ≠ 12 ∧ (lat sl x = 11 → 0 ≤ (lat dl x).toInt ∧ (lat dl x).toInt < (k : Int))
  by_cases hx : 0 ≤ x.toInt ∧ x.toInt < (sl.length : Int)
  · have hl : x.toInt.toNat < sl.length := by omega
    obtain ⟨g1, g2⟩ := good_go (cap := 0) sl dl x.toInt.toNat h _ (List.getElem?_eq_getElem hl)
    have e : lat sl x = sl[x.toInt.toNat] := lat_of (i := x.toInt.toNat) (by omega) (List.getElem?_eq_getElem hl)
    rw [e]
    refine ⟨g1, fun e2 => ?_⟩
    obtain ⟨y, h1, h2⟩ := g2 e2
    rw [lat_of (i := x.toInt.toNat) (by omega) h1]
    exact h2
  · have e : lat sl x = -1 := if_neg hx
    rw [e]
    exact ⟨by decide, fun e => absurd e (by decide)⟩
theorem st_c0 {i : Nat} {x : Int32} {r' : Rd} (hx : r.at.toInt = (i : Int)) (h : tp[i]? = some x) (hw : r.wp = 0) (e : rSg x r = r') (hp : r'.ps = 0) : rStep (nI k) tp r = r' := by
  unfold rStep
  rw [if_pos hw, lat_of hx h, e, if_pos hp]
theorem st_c1 {i : Nat} {x : Int32} {r' : Rd} (hx : r.at.toInt = (i : Int)) (h : tp[i]? = some x) (hw : r.wp = 0) (e : rSg x r = r') (hp : r'.ps = 1) (h9 : llast r'.op ≠ 9) : rStep (nI k) tp r = rWp (rPs r' 0) 0 := by
  unfold rStep
  rw [if_pos hw, lat_of hx h, e, if_neg (by rw [hp]; decide), rEnd0 (show llast (Rd.op (rPs r' 0)) ≠ 9 from h9)]
theorem st_p0 {i : Nat} {x : Int32} (hx : r.at.toInt = (i : Int)) (h : tp[i]? = some x) (hw : r.wp = 1) (e : x = 40 ∨ x = 45 ∨ x = 91) (hp : r.ps = 0) : rStep (nI k) tp r = rAt (rOpen r (if x = 40 then 20 else if x = 45 then 9 else 21)) (r.at + (1 : Int32)) := by
  have q : rPart (nI k) tp r = rAt (rOpen r (if x = 40 then 20 else if x = 45 then 9 else 21)) (r.at + (1 : Int32)) := by
    unfold rPart
    rw [lat_of hx h]
    rcases e with rfl | rfl | rfl <;> rfl
  have w0 : ¬ r.wp = 0 := by
    rw [hw]
    exact (by decide : ¬ (1 : Int32) = 0)
  have p0 : ∀ z y, (rAt (rOpen r z) y).ps = 0 := fun _ _ => hp
  unfold rStep
  rw [if_neg w0, q, if_pos (p0 _ _)]
theorem st_pg {i : Nat} (hx : r.at.toInt = (i : Int)) (h : tp[i]? = some 94) (h1 : lat tp (r.at + (1 : Int32)) = 40) (hw : r.wp = 1) (hp : r.ps = 0) : rStep (nI k) tp r = rAt (rOpen r 24) (r.at + (2 : Int32)) := by
  have q : rPart (nI k) tp r = rAt (rOpen r 24) (r.at + (2 : Int32)) := by
    unfold rPart
    rw [lat_of hx h]
    show rGre tp r = _
    unfold rGre
    rw [if_pos h1]
  have w0 : ¬ r.wp = 0 := by
    rw [hw]
    exact (by decide : ¬ (1 : Int32) = 0)
  have p0 : ∀ z y, (rAt (rOpen r z) y).ps = 0 := fun _ _ => hp
  unfold rStep
  rw [if_neg w0, q, if_pos (p0 _ _)]
theorem nI_s0 (h : a < k) (hk : k ≤ 23) : 0 ≤ (nI a).toInt := (nI_small h hk).1
theorem nI_s1 (h : a < k) (hk : k ≤ 23) : (nI a).toInt < (k : Int) := (nI_small h hk).2
theorem rGat0 {lv : Int32} (h : (rLev (llast r.op)).toInt < lv.toInt) : rGat lv 250 r = r := by
  show rGat lv (249 + 1) r = r
  rw [rGat, if_pos h]
theorem rGat1 {lv : Int32} (h0 : ¬ (rLev (llast r.op)).toInt < lv.toInt) (hw : r.wp = 0) (h : (rLev (llast r.op.dropLast)).toInt < lv.toInt) : rGat lv 250 r = rClose (rAdd r (llast r.op) 0) := by
  show rGat lv (248 + 1 + 1) r = _
  rw [rGat, if_neg h0, if_pos hw, rGat, if_pos (show (rLev (llast (Rd.op (rClose (rAdd r (llast r.op) 0))))).toInt < lv.toInt from h)]
theorem sg_j {x j lv gl : Int32} {r1 : Rd} (hj : rJoin x = j) (hj1 : j ≠ -1) (hl : rLev j = lv) (hg : (if lv < 2 then 2 else lv) = gl) (g : rGat gl 250 r = r1) (h1 : lv = 1 → rLev (llast r1.op) ≠ 1) : rSg x r = rSgJ j r1 := by
  unfold rSg
  rw [hj, if_neg hj1, hl, hg, g]
  unfold rSgK
  by_cases e : lv = 1
  · rw [if_pos e, if_neg (h1 e)]
  · rw [if_neg e]
theorem sg_b {x b : Int32} {r1 : Rd} (hj : rJoin x = -1) (g : rGat 1 250 r = r1) (hb : llast r1.op = b) (hb1 : b ≠ -1) (ha : x = rAw b) : rSg x r = rBrJ b (rAt r1 (r1.at + (1 : Int32))) := by
  unfold rSg
  rw [if_pos hj, g]
  unfold rBr
  rw [hb, if_neg hb1, if_pos ha]
theorem brJ21 : rBrJ 21 r = rCho 14 22 r := by
  unfold rBrJ
  rw [if_pos (by decide)]
theorem brJ22 : rBrJ 22 r = rCho 13 23 r := by
  unfold rBrJ
  rw [if_neg (by decide), if_pos (by decide)]
theorem brJ23 : rBrJ 23 r = rPs (rClose (rDl r (lput r.dl (llast r.oj) (Int32.ofNat r.sl.length)))) 1 := by
  unfold rBrJ
  rw [if_neg (by decide), if_neg (by decide), if_pos (by decide)]
theorem brJ24 : rBrJ 24 r = rWp (rOp r (lput r.op (Int32.ofNat r.op.length - (1 : Int32)) 25)) 1 := by
  unfold rBrJ
  rw [if_neg (by decide), if_neg (by decide), if_neg (by decide), if_pos (by decide)]
theorem brJ25 : rBrJ 25 r = rPs (rClose (rAdd r 8 0)) 1 := by
  unfold rBrJ
  rw [if_neg (by decide), if_neg (by decide), if_neg (by decide), if_neg (by decide), if_pos (by decide)]
theorem brJ20 : rBrJ 20 r = rPs (rClose r) 1 := by
  unfold rBrJ
  rw [if_neg (by decide), if_neg (by decide), if_neg (by decide), if_neg (by decide), if_neg (by decide)]
theorem lput_no {l : List Int32} {x y : Int32} (h : ¬ 0 ≤ x.toInt) : lput l x y = l := if_neg h
theorem lput_at {l : List Int32} {x y : Int32} {i : Nat} (h : x.toInt = (i : Int)) : lput l x y = l.set i y := by
  unfold lput
  rw [if_pos (by omega), show x.toInt.toNat = i by omega]
theorem cho_of {j b : Int32} {sl dl op oj sl' dl' op' oj' : List Int32} {a1 a2 a3 a4 : Int32} (h1 : ladd 250 sl j = sl') (h2 : lput (ladd 250 dl 0) (llast oj) (Int32.ofNat sl'.length) = dl') (h3 : lput op (Int32.ofNat op.length - (1 : Int32)) b = op') (h4 : lput oj (Int32.ofNat oj.length - (1 : Int32)) (Int32.ofNat sl'.length - (1 : Int32)) = oj') : rCho j b (sl, dl, op, oj, a1, a2, a3, a4) = (sl', dl', op', oj', a1, a2, 1, a4) := by
  subst h1 h2 h3 h4
  rfl
theorem b24_of {sl dl op oj op' : List Int32} {a1 a2 a3 a4 : Int32} (h : lput op (Int32.ofNat op.length - (1 : Int32)) 25 = op') : rBrJ 24 (sl, dl, op, oj, a1, a2, a3, a4) = (sl, dl, op', oj, a1, a2, 1, a4) := by
  subst h
  exact brJ24
--FORMS
theorem f0_0 (ha : a < k) (hb : b < k) (hk : k ≤ 23) : rStep (nI k) (frm 0 a b c n) r00 = ([11], [nI a], [], [], 1, -1, 0, 0) := (st_let0 (tp := frm 0 a b c n) (a := a) (i := 0) (r := r00) rfl rfl rfl (show llast [] ≠ 9 by decide) ha hk).trans rfl
theorem f0_1 (ha : a < k) (hb : b < k) (hk : k ≤ 23) : rStep (nI k) (frm 0 a b c n) ([11], [nI a], [], [], 1, -1, 0, 0) = ([11], [nI a], [0], [-1], 2, -1, 1, 0) := st_c0 (tp := frm 0 a b c n) (i := 1) (x := 43) (r := ([11], [nI a], [], [], 1, -1, 0, 0)) rfl rfl rfl ((sg_j (x := 43) (j := 0) (lv := 2) (gl := 2) (r := ([11], [nI a], [], [], 1, -1, 0, 0)) (r1 := ([11], [nI a], [], [], 1, -1, 0, 0)) (by decide) (by decide) (by decide) (by decide) (rGat0 (r := ([11], [nI a], [], [], 1, -1, 0, 0)) (lv := 2) (show (rLev (llast [])).toInt < (2 : Int32).toInt by decide)) (fun e => absurd e (by decide))).trans rfl) rfl
theorem f0_2 (ha : a < k) (hb : b < k) (hk : k ≤ 23) : rStep (nI k) (frm 0 a b c n) ([11], [nI a], [0], [-1], 2, -1, 1, 0) = ([11, 11], [nI a, nI b], [0], [-1], 3, -1, 0, 0) := (st_let0 (tp := frm 0 a b c n) (a := b) (i := 2) (r := ([11], [nI a], [0], [-1], 2, -1, 1, 0)) rfl rfl rfl (show llast [0] ≠ 9 by decide) hb hk).trans rfl
theorem f0_all (ha : a < k) (hb : b < k) (hk : k ≤ 23) : rAll (nI k) (frm 0 a b c n) = ([11, 11], [nI a, nI b], [0], [-1], 3, -1, 0, 0) := by
  show rLoop (nI k) (frm 0 a b c n) 3 r00 = _
  exact lp_go (m := 2) (by show (0 : Int) < 3; decide) rfl (f0_0 ha hb hk) (lp_go (m := 1) (by show (1 : Int) < 3; decide) rfl (f0_1 ha hb hk) (lp_go (m := 0) (by show (2 : Int) < 3; decide) rfl (f0_2 ha hb hk) (rfl)))
theorem f0_ok (ha : a < k) (hb : b < k) (hk : k ≤ 23) : FmOk k (frm 0 a b c n) := by
  have e := f0_all (c := c) (n := n) ha hb hk
  have e2 : rTake (nI k) (frm 0 a b c n) = ([11, 11, 0], [nI a, nI b, 0], [], [], 3, -1, 0, 0) := by
    unfold rTake
    rw [e]
    rfl
  refine ⟨no126 (fun z hz => ?_), by rw [e]; rfl, by rw [e2]; rfl, by rw [e2]; rfl, fun cap => ?_⟩
  · simp only [frm, List.mem_cons, List.not_mem_nil, or_false] at hz
    rcases hz with rfl | rfl | rfl
    all_goals first | decide | exact n126 (by omega)
  · rw [e2]
    refine good_of ?_
    simp [goodB, Rd.sl, Rd.dl, nI_s0 ha hk, nI_s1 ha hk, nI_s0 hb hk, nI_s1 hb hk]
theorem f1_0 (ha : a < k) (hb : b < k) (hn : n < 10) (hk : k ≤ 23) : rStep (nI k) (frm 1 a b c n) r00 = ([11], [nI a], [], [], 1, -1, 0, 0) := (st_let0 (tp := frm 1 a b c n) (a := a) (i := 0) (r := r00) rfl rfl rfl (show llast [] ≠ 9 by decide) ha hk).trans rfl
theorem f1_1 (ha : a < k) (hb : b < k) (hn : n < 10) (hk : k ≤ 23) : rStep (nI k) (frm 1 a b c n) ([11], [nI a], [], [], 1, -1, 0, 0) = ([11], [nI a], [2], [-1], 2, -1, 1, 0) := st_c0 (tp := frm 1 a b c n) (i := 1) (x := 42) (r := ([11], [nI a], [], [], 1, -1, 0, 0)) rfl rfl rfl ((sg_j (x := 42) (j := 2) (lv := 3) (gl := 3) (r := ([11], [nI a], [], [], 1, -1, 0, 0)) (r1 := ([11], [nI a], [], [], 1, -1, 0, 0)) (by decide) (by decide) (by decide) (by decide) (rGat0 (r := ([11], [nI a], [], [], 1, -1, 0, 0)) (lv := 3) (show (rLev (llast [])).toInt < (3 : Int32).toInt by decide)) (fun e => absurd e (by decide))).trans rfl) rfl
theorem f1_2 (ha : a < k) (hb : b < k) (hn : n < 10) (hk : k ≤ 23) : rStep (nI k) (frm 1 a b c n) ([11], [nI a], [2], [-1], 2, -1, 1, 0) = ([11, 11], [nI a, nI b], [2], [-1], 3, -1, 0, 0) := (st_let0 (tp := frm 1 a b c n) (a := b) (i := 2) (r := ([11], [nI a], [2], [-1], 2, -1, 1, 0)) rfl rfl rfl (show llast [2] ≠ 9 by decide) hb hk).trans rfl
theorem f1_3 (ha : a < k) (hb : b < k) (hn : n < 10) (hk : k ≤ 23) : rStep (nI k) (frm 1 a b c n) ([11, 11], [nI a, nI b], [2], [-1], 3, -1, 0, 0) = ([11, 11, 2], [nI a, nI b, 0], [1], [-1], 4, -1, 1, 0) := st_c0 (tp := frm 1 a b c n) (i := 3) (x := 45) (r := ([11, 11], [nI a, nI b], [2], [-1], 3, -1, 0, 0)) rfl rfl rfl ((sg_j (x := 45) (j := 1) (lv := 2) (gl := 2) (r := ([11, 11], [nI a, nI b], [2], [-1], 3, -1, 0, 0)) (r1 := ([11, 11, 2], [nI a, nI b, 0], [], [], 3, -1, 0, 0)) (by decide) (by decide) (by decide) (by decide) ((rGat1 (r := ([11, 11], [nI a, nI b], [2], [-1], 3, -1, 0, 0)) (lv := 2) (show ¬ (rLev (llast [2])).toInt < (2 : Int32).toInt by decide) rfl (show (rLev (llast [])).toInt < (2 : Int32).toInt by decide)).trans rfl) (fun e => absurd e (by decide))).trans rfl) rfl
theorem f1_4 (ha : a < k) (hb : b < k) (hn : n < 10) (hk : k ≤ 23) : rStep (nI k) (frm 1 a b c n) ([11, 11, 2], [nI a, nI b, 0], [1], [-1], 4, -1, 1, 0) = ([11, 11, 2, 10], [nI a, nI b, 0, nI n], [1], [-1], 5, -1, 0, 0) := (st_dig0 (tp := frm 1 a b c n) (n := n) (i := 4) (r := ([11, 11, 2], [nI a, nI b, 0], [1], [-1], 4, -1, 1, 0)) rfl rfl rfl (show llast [1] ≠ 9 by decide) hn (by rw [show lat (frm 1 a b c n) _ = -1 from if_neg (by show ¬ ((0 : Int) ≤ 5 ∧ (5 : Int) < 5); decide)]; decide) hk).trans rfl
theorem f1_all (ha : a < k) (hb : b < k) (hn : n < 10) (hk : k ≤ 23) : rAll (nI k) (frm 1 a b c n) = ([11, 11, 2, 10], [nI a, nI b, 0, nI n], [1], [-1], 5, -1, 0, 0) := by
  show rLoop (nI k) (frm 1 a b c n) 5 r00 = _
  exact lp_go (m := 4) (by show (0 : Int) < 5; decide) rfl (f1_0 ha hb hn hk) (lp_go (m := 3) (by show (1 : Int) < 5; decide) rfl (f1_1 ha hb hn hk) (lp_go (m := 2) (by show (2 : Int) < 5; decide) rfl (f1_2 ha hb hn hk) (lp_go (m := 1) (by show (3 : Int) < 5; decide) rfl (f1_3 ha hb hn hk) (lp_go (m := 0) (by show (4 : Int) < 5; decide) rfl (f1_4 ha hb hn hk) (rfl)))))
theorem f1_ok (ha : a < k) (hb : b < k) (hn : n < 10) (hk : k ≤ 23) : FmOk k (frm 1 a b c n) := by
  have e := f1_all (c := c) (n := n) ha hb hn hk
  have e2 : rTake (nI k) (frm 1 a b c n) = ([11, 11, 2, 10, 1], [nI a, nI b, 0, nI n, 0], [], [], 5, -1, 0, 0) := by
    unfold rTake
    rw [e]
    rfl
  refine ⟨no126 (fun z hz => ?_), by rw [e]; rfl, by rw [e2]; rfl, by rw [e2]; rfl, fun cap => ?_⟩
  · simp only [frm, List.mem_cons, List.not_mem_nil, or_false] at hz
    rcases hz with rfl | rfl | rfl | rfl | rfl
    all_goals first | decide | exact n126 (by omega)
  · rw [e2]
    refine good_of ?_
    simp [goodB, Rd.sl, Rd.dl, nI_s0 ha hk, nI_s1 ha hk, nI_s0 hb hk, nI_s1 hb hk]
theorem f2_0 (ha : a < k) (hb : b < k) (hc : c < k) (hn : n < 10) (hk : k ≤ 23) : rStep (nI k) (frm 2 a b c n) r00 = ([], [], [21], [-1], 1, -1, 1, 0) := (st_p0 (tp := frm 2 a b c n) (i := 0) (x := 91) (r := r00) rfl rfl rfl (by decide) rfl).trans rfl
theorem f2_1 (ha : a < k) (hb : b < k) (hc : c < k) (hn : n < 10) (hk : k ≤ 23) : rStep (nI k) (frm 2 a b c n) ([], [], [21], [-1], 1, -1, 1, 0) = ([11], [nI a], [21], [-1], 2, -1, 0, 0) := (st_let0 (tp := frm 2 a b c n) (a := a) (i := 1) (r := ([], [], [21], [-1], 1, -1, 1, 0)) rfl rfl rfl (show llast [21] ≠ 9 by decide) ha hk).trans rfl
theorem f2_2 (ha : a < k) (hb : b < k) (hc : c < k) (hn : n < 10) (hk : k ≤ 23) : rStep (nI k) (frm 2 a b c n) ([11], [nI a], [21], [-1], 2, -1, 0, 0) = ([11], [nI a], [21, 5], [-1, -1], 3, -1, 1, 0) := st_c0 (tp := frm 2 a b c n) (i := 2) (x := 60) (r := ([11], [nI a], [21], [-1], 2, -1, 0, 0)) rfl rfl rfl ((sg_j (x := 60) (j := 5) (lv := 1) (gl := 2) (r := ([11], [nI a], [21], [-1], 2, -1, 0, 0)) (r1 := ([11], [nI a], [21], [-1], 2, -1, 0, 0)) (by decide) (by decide) (by decide) (by decide) (rGat0 (r := ([11], [nI a], [21], [-1], 2, -1, 0, 0)) (lv := 2) (show (rLev (llast [21])).toInt < (2 : Int32).toInt by decide)) (fun _ => (show rLev (llast [21]) ≠ 1 by decide))).trans rfl) rfl
theorem f2_3 (ha : a < k) (hb : b < k) (hc : c < k) (hn : n < 10) (hk : k ≤ 23) : rStep (nI k) (frm 2 a b c n) ([11], [nI a], [21, 5], [-1, -1], 3, -1, 1, 0) = ([11, 10], [nI a, nI n], [21, 5], [-1, -1], 4, -1, 0, 0) := (st_dig0 (tp := frm 2 a b c n) (n := n) (i := 3) (r := ([11], [nI a], [21, 5], [-1, -1], 3, -1, 1, 0)) rfl rfl rfl (show llast [21, 5] ≠ 9 by decide) hn (by rw [show lat (frm 2 a b c n) _ = 63 from lat_of (i := 4) rfl rfl]; decide) hk).trans rfl
theorem f2_4 (ha : a < k) (hb : b < k) (hc : c < k) (hn : n < 10) (hk : k ≤ 23) : rStep (nI k) (frm 2 a b c n) ([11, 10], [nI a, nI n], [21, 5], [-1, -1], 4, -1, 0, 0) = ([11, 10, 5, 14], [nI a, nI n, 0, 0], [22], [3], 5, -1, 1, 0) := st_c0 (tp := frm 2 a b c n) (i := 4) (x := 63) (r := ([11, 10], [nI a, nI n], [21, 5], [-1, -1], 4, -1, 0, 0)) rfl rfl rfl ((sg_b (x := 63) (b := 21) (r := ([11, 10], [nI a, nI n], [21, 5], [-1, -1], 4, -1, 0, 0)) (r1 := ([11, 10, 5], [nI a, nI n, 0], [21], [-1], 4, -1, 0, 0)) (by decide) ((rGat1 (r := ([11, 10], [nI a, nI n], [21, 5], [-1, -1], 4, -1, 0, 0)) (lv := 1) (show ¬ (rLev (llast [21, 5])).toInt < (1 : Int32).toInt by decide) rfl (show (rLev (llast [21])).toInt < (1 : Int32).toInt by decide)).trans rfl) (show llast [21] = 21 by decide) (by decide) (by decide)).trans (brJ21.trans (cho_of rfl (lput_no (show ¬ 0 ≤ (llast [-1]).toInt by decide)) (show lput [21] (Int32.ofNat 1 - (1 : Int32)) 22 = [22] by decide) (show lput [-1] (Int32.ofNat 1 - (1 : Int32)) (Int32.ofNat 4 - (1 : Int32)) = [3] by decide)))) rfl
theorem f2_5 (ha : a < k) (hb : b < k) (hc : c < k) (hn : n < 10) (hk : k ≤ 23) : rStep (nI k) (frm 2 a b c n) ([11, 10, 5, 14], [nI a, nI n, 0, 0], [22], [3], 5, -1, 1, 0) = ([11, 10, 5, 14, 11], [nI a, nI n, 0, 0, nI b], [22], [3], 6, -1, 0, 0) := (st_let0 (tp := frm 2 a b c n) (a := b) (i := 5) (r := ([11, 10, 5, 14], [nI a, nI n, 0, 0], [22], [3], 5, -1, 1, 0)) rfl rfl rfl (show llast [22] ≠ 9 by decide) hb hk).trans rfl
theorem f2_6 (ha : a < k) (hb : b < k) (hc : c < k) (hn : n < 10) (hk : k ≤ 23) : rStep (nI k) (frm 2 a b c n) ([11, 10, 5, 14, 11], [nI a, nI n, 0, 0, nI b], [22], [3], 6, -1, 0, 0) = ([11, 10, 5, 14, 11, 13], [nI a, nI n, 0, 6, nI b, 0], [23], [5], 7, -1, 1, 0) := st_c0 (tp := frm 2 a b c n) (i := 6) (x := 58) (r := ([11, 10, 5, 14, 11], [nI a, nI n, 0, 0, nI b], [22], [3], 6, -1, 0, 0)) rfl rfl rfl ((sg_b (x := 58) (b := 22) (r := ([11, 10, 5, 14, 11], [nI a, nI n, 0, 0, nI b], [22], [3], 6, -1, 0, 0)) (r1 := ([11, 10, 5, 14, 11], [nI a, nI n, 0, 0, nI b], [22], [3], 6, -1, 0, 0)) (by decide) (rGat0 (r := ([11, 10, 5, 14, 11], [nI a, nI n, 0, 0, nI b], [22], [3], 6, -1, 0, 0)) (lv := 1) (show (rLev (llast [22])).toInt < (1 : Int32).toInt by decide)) (show llast [22] = 22 by decide) (by decide) (by decide)).trans (brJ22.trans (cho_of rfl ((lput_at (i := 3) (show (llast [3]).toInt = 3 by decide)).trans rfl) (show lput [22] (Int32.ofNat 1 - (1 : Int32)) 23 = [23] by decide) (show lput [3] (Int32.ofNat 1 - (1 : Int32)) (Int32.ofNat 6 - (1 : Int32)) = [5] by decide)))) rfl
theorem f2_7 (ha : a < k) (hb : b < k) (hc : c < k) (hn : n < 10) (hk : k ≤ 23) : rStep (nI k) (frm 2 a b c n) ([11, 10, 5, 14, 11, 13], [nI a, nI n, 0, 6, nI b, 0], [23], [5], 7, -1, 1, 0) = ([11, 10, 5, 14, 11, 13, 11], [nI a, nI n, 0, 6, nI b, 0, nI c], [23], [5], 8, -1, 0, 0) := (st_let0 (tp := frm 2 a b c n) (a := c) (i := 7) (r := ([11, 10, 5, 14, 11, 13], [nI a, nI n, 0, 6, nI b, 0], [23], [5], 7, -1, 1, 0)) rfl rfl rfl (show llast [23] ≠ 9 by decide) hc hk).trans rfl
theorem f2_8 (ha : a < k) (hb : b < k) (hc : c < k) (hn : n < 10) (hk : k ≤ 23) : rStep (nI k) (frm 2 a b c n) ([11, 10, 5, 14, 11, 13, 11], [nI a, nI n, 0, 6, nI b, 0, nI c], [23], [5], 8, -1, 0, 0) = ([11, 10, 5, 14, 11, 13, 11], [nI a, nI n, 0, 6, nI b, 7, nI c], [], [], 9, -1, 0, 0) := (st_c1 (tp := frm 2 a b c n) (i := 8) (x := 93) (r := ([11, 10, 5, 14, 11, 13, 11], [nI a, nI n, 0, 6, nI b, 0, nI c], [23], [5], 8, -1, 0, 0)) (r' := ([11, 10, 5, 14, 11, 13, 11], [nI a, nI n, 0, 6, nI b, 7, nI c], [], [], 9, -1, 0, 1)) rfl rfl rfl (((sg_b (x := 93) (b := 23) (r := ([11, 10, 5, 14, 11, 13, 11], [nI a, nI n, 0, 6, nI b, 0, nI c], [23], [5], 8, -1, 0, 0)) (r1 := ([11, 10, 5, 14, 11, 13, 11], [nI a, nI n, 0, 6, nI b, 0, nI c], [23], [5], 8, -1, 0, 0)) (by decide) (rGat0 (r := ([11, 10, 5, 14, 11, 13, 11], [nI a, nI n, 0, 6, nI b, 0, nI c], [23], [5], 8, -1, 0, 0)) (lv := 1) (show (rLev (llast [23])).toInt < (1 : Int32).toInt by decide)) (show llast [23] = 23 by decide) (by decide) (by decide)).trans (brJ23 (r := ([11, 10, 5, 14, 11, 13, 11], [nI a, nI n, 0, 6, nI b, 0, nI c], [23], [5], 9, -1, 0, 0)))).trans rfl) rfl (show llast [] ≠ 9 by decide)).trans rfl
theorem f2_all (ha : a < k) (hb : b < k) (hc : c < k) (hn : n < 10) (hk : k ≤ 23) : rAll (nI k) (frm 2 a b c n) = ([11, 10, 5, 14, 11, 13, 11], [nI a, nI n, 0, 6, nI b, 7, nI c], [], [], 9, -1, 0, 0) := by
  show rLoop (nI k) (frm 2 a b c n) 9 r00 = _
  exact lp_go (m := 8) (by show (0 : Int) < 9; decide) rfl (f2_0 ha hb hc hn hk) (lp_go (m := 7) (by show (1 : Int) < 9; decide) rfl (f2_1 ha hb hc hn hk) (lp_go (m := 6) (by show (2 : Int) < 9; decide) rfl (f2_2 ha hb hc hn hk) (lp_go (m := 5) (by show (3 : Int) < 9; decide) rfl (f2_3 ha hb hc hn hk) (lp_go (m := 4) (by show (4 : Int) < 9; decide) rfl (f2_4 ha hb hc hn hk) (lp_go (m := 3) (by show (5 : Int) < 9; decide) rfl (f2_5 ha hb hc hn hk) (lp_go (m := 2) (by show (6 : Int) < 9; decide) rfl (f2_6 ha hb hc hn hk) (lp_go (m := 1) (by show (7 : Int) < 9; decide) rfl (f2_7 ha hb hc hn hk) (lp_go (m := 0) (by show (8 : Int) < 9; decide) rfl (f2_8 ha hb hc hn hk) (rfl)))))))))
theorem f2_ok (ha : a < k) (hb : b < k) (hc : c < k) (hn : n < 10) (hk : k ≤ 23) : FmOk k (frm 2 a b c n) := by
  have e := f2_all (c := c) (n := n) ha hb hc hn hk
  have e2 : rTake (nI k) (frm 2 a b c n) = ([11, 10, 5, 14, 11, 13, 11], [nI a, nI n, 0, 6, nI b, 7, nI c], [], [], 9, -1, 0, 0) := by
    unfold rTake
    rw [e]
    rfl
  refine ⟨no126 (fun z hz => ?_), by rw [e]; rfl, by rw [e2]; rfl, by rw [e2]; rfl, fun cap => ?_⟩
  · simp only [frm, List.mem_cons, List.not_mem_nil, or_false] at hz
    rcases hz with rfl | rfl | rfl | rfl | rfl | rfl | rfl | rfl | rfl
    all_goals first | decide | exact n126 (by omega)
  · rw [e2]
    refine good_of ?_
    simp [goodB, Rd.sl, Rd.dl, nI_s0 ha hk, nI_s1 ha hk, nI_s0 hb hk, nI_s1 hb hk, nI_s0 hc hk, nI_s1 hc hk]
theorem f3_0 (ha : a < k) (hb : b < k) (hk : k ≤ 23) : rStep (nI k) (frm 3 a b c n) r00 = ([11], [nI a], [], [], 1, -1, 0, 0) := (st_let0 (tp := frm 3 a b c n) (a := a) (i := 0) (r := r00) rfl rfl rfl (show llast [] ≠ 9 by decide) ha hk).trans rfl
theorem f3_1 (ha : a < k) (hb : b < k) (hk : k ≤ 23) : rStep (nI k) (frm 3 a b c n) ([11], [nI a], [], [], 1, -1, 0, 0) = ([11], [nI a], [3], [-1], 2, -1, 1, 0) := st_c0 (tp := frm 3 a b c n) (i := 1) (x := 47) (r := ([11], [nI a], [], [], 1, -1, 0, 0)) rfl rfl rfl ((sg_j (x := 47) (j := 3) (lv := 3) (gl := 3) (r := ([11], [nI a], [], [], 1, -1, 0, 0)) (r1 := ([11], [nI a], [], [], 1, -1, 0, 0)) (by decide) (by decide) (by decide) (by decide) (rGat0 (r := ([11], [nI a], [], [], 1, -1, 0, 0)) (lv := 3) (show (rLev (llast [])).toInt < (3 : Int32).toInt by decide)) (fun e => absurd e (by decide))).trans rfl) rfl
theorem f3_2 (ha : a < k) (hb : b < k) (hk : k ≤ 23) : rStep (nI k) (frm 3 a b c n) ([11], [nI a], [3], [-1], 2, -1, 1, 0) = ([11, 11], [nI a, nI b], [3], [-1], 3, -1, 0, 0) := (st_let0 (tp := frm 3 a b c n) (a := b) (i := 2) (r := ([11], [nI a], [3], [-1], 2, -1, 1, 0)) rfl rfl rfl (show llast [3] ≠ 9 by decide) hb hk).trans rfl
theorem f3_all (ha : a < k) (hb : b < k) (hk : k ≤ 23) : rAll (nI k) (frm 3 a b c n) = ([11, 11], [nI a, nI b], [3], [-1], 3, -1, 0, 0) := by
  show rLoop (nI k) (frm 3 a b c n) 3 r00 = _
  exact lp_go (m := 2) (by show (0 : Int) < 3; decide) rfl (f3_0 ha hb hk) (lp_go (m := 1) (by show (1 : Int) < 3; decide) rfl (f3_1 ha hb hk) (lp_go (m := 0) (by show (2 : Int) < 3; decide) rfl (f3_2 ha hb hk) (rfl)))
theorem f3_ok (ha : a < k) (hb : b < k) (hk : k ≤ 23) : FmOk k (frm 3 a b c n) := by
  have e := f3_all (c := c) (n := n) ha hb hk
  have e2 : rTake (nI k) (frm 3 a b c n) = ([11, 11, 3], [nI a, nI b, 0], [], [], 3, -1, 0, 0) := by
    unfold rTake
    rw [e]
    rfl
  refine ⟨no126 (fun z hz => ?_), by rw [e]; rfl, by rw [e2]; rfl, by rw [e2]; rfl, fun cap => ?_⟩
  · simp only [frm, List.mem_cons, List.not_mem_nil, or_false] at hz
    rcases hz with rfl | rfl | rfl
    all_goals first | decide | exact n126 (by omega)
  · rw [e2]
    refine good_of ?_
    simp [goodB, Rd.sl, Rd.dl, nI_s0 ha hk, nI_s1 ha hk, nI_s0 hb hk, nI_s1 hb hk]
theorem f4_0 (ha : a < k) (hb : b < k) (hk : k ≤ 23) : rStep (nI k) (frm 4 a b c n) r00 = ([], [], [20], [-1], 1, -1, 1, 0) := (st_p0 (tp := frm 4 a b c n) (i := 0) (x := 40) (r := r00) rfl rfl rfl (by decide) rfl).trans rfl
theorem f4_1 (ha : a < k) (hb : b < k) (hk : k ≤ 23) : rStep (nI k) (frm 4 a b c n) ([], [], [20], [-1], 1, -1, 1, 0) = ([11], [nI a], [20], [-1], 2, -1, 0, 0) := (st_let0 (tp := frm 4 a b c n) (a := a) (i := 1) (r := ([], [], [20], [-1], 1, -1, 1, 0)) rfl rfl rfl (show llast [20] ≠ 9 by decide) ha hk).trans rfl
theorem f4_2 (ha : a < k) (hb : b < k) (hk : k ≤ 23) : rStep (nI k) (frm 4 a b c n) ([11], [nI a], [20], [-1], 2, -1, 0, 0) = ([11], [nI a], [20, 1], [-1, -1], 3, -1, 1, 0) := st_c0 (tp := frm 4 a b c n) (i := 2) (x := 45) (r := ([11], [nI a], [20], [-1], 2, -1, 0, 0)) rfl rfl rfl ((sg_j (x := 45) (j := 1) (lv := 2) (gl := 2) (r := ([11], [nI a], [20], [-1], 2, -1, 0, 0)) (r1 := ([11], [nI a], [20], [-1], 2, -1, 0, 0)) (by decide) (by decide) (by decide) (by decide) (rGat0 (r := ([11], [nI a], [20], [-1], 2, -1, 0, 0)) (lv := 2) (show (rLev (llast [20])).toInt < (2 : Int32).toInt by decide)) (fun e => absurd e (by decide))).trans rfl) rfl
theorem f4_3 (ha : a < k) (hb : b < k) (hk : k ≤ 23) : rStep (nI k) (frm 4 a b c n) ([11], [nI a], [20, 1], [-1, -1], 3, -1, 1, 0) = ([11, 11], [nI a, nI b], [20, 1], [-1, -1], 4, -1, 0, 0) := (st_let0 (tp := frm 4 a b c n) (a := b) (i := 3) (r := ([11], [nI a], [20, 1], [-1, -1], 3, -1, 1, 0)) rfl rfl rfl (show llast [20, 1] ≠ 9 by decide) hb hk).trans rfl
theorem f4_4 (ha : a < k) (hb : b < k) (hk : k ≤ 23) : rStep (nI k) (frm 4 a b c n) ([11, 11], [nI a, nI b], [20, 1], [-1, -1], 4, -1, 0, 0) = ([11, 11, 1], [nI a, nI b, 0], [], [], 5, -1, 0, 0) := (st_c1 (tp := frm 4 a b c n) (i := 4) (x := 41) (r := ([11, 11], [nI a, nI b], [20, 1], [-1, -1], 4, -1, 0, 0)) (r' := ([11, 11, 1], [nI a, nI b, 0], [], [], 5, -1, 0, 1)) rfl rfl rfl (((sg_b (x := 41) (b := 20) (r := ([11, 11], [nI a, nI b], [20, 1], [-1, -1], 4, -1, 0, 0)) (r1 := ([11, 11, 1], [nI a, nI b, 0], [20], [-1], 4, -1, 0, 0)) (by decide) ((rGat1 (r := ([11, 11], [nI a, nI b], [20, 1], [-1, -1], 4, -1, 0, 0)) (lv := 1) (show ¬ (rLev (llast [20, 1])).toInt < (1 : Int32).toInt by decide) rfl (show (rLev (llast [20])).toInt < (1 : Int32).toInt by decide)).trans rfl) (show llast [20] = 20 by decide) (by decide) (by decide)).trans (brJ20 (r := ([11, 11, 1], [nI a, nI b, 0], [20], [-1], 5, -1, 0, 0)))).trans rfl) rfl (show llast [] ≠ 9 by decide)).trans rfl
theorem f4_5 (ha : a < k) (hb : b < k) (hk : k ≤ 23) : rStep (nI k) (frm 4 a b c n) ([11, 11, 1], [nI a, nI b, 0], [], [], 5, -1, 0, 0) = ([11, 11, 1], [nI a, nI b, 0], [2], [-1], 6, -1, 1, 0) := st_c0 (tp := frm 4 a b c n) (i := 5) (x := 42) (r := ([11, 11, 1], [nI a, nI b, 0], [], [], 5, -1, 0, 0)) rfl rfl rfl ((sg_j (x := 42) (j := 2) (lv := 3) (gl := 3) (r := ([11, 11, 1], [nI a, nI b, 0], [], [], 5, -1, 0, 0)) (r1 := ([11, 11, 1], [nI a, nI b, 0], [], [], 5, -1, 0, 0)) (by decide) (by decide) (by decide) (by decide) (rGat0 (r := ([11, 11, 1], [nI a, nI b, 0], [], [], 5, -1, 0, 0)) (lv := 3) (show (rLev (llast [])).toInt < (3 : Int32).toInt by decide)) (fun e => absurd e (by decide))).trans rfl) rfl
theorem f4_6 (ha : a < k) (hb : b < k) (hk : k ≤ 23) : rStep (nI k) (frm 4 a b c n) ([11, 11, 1], [nI a, nI b, 0], [2], [-1], 6, -1, 1, 0) = ([11, 11, 1, 10], [nI a, nI b, 0, nI 2], [2], [-1], 7, -1, 0, 0) := (st_dig0 (tp := frm 4 a b c n) (n := 2) (i := 6) (r := ([11, 11, 1], [nI a, nI b, 0], [2], [-1], 6, -1, 1, 0)) rfl rfl rfl (show llast [2] ≠ 9 by decide) (by decide) (by rw [show lat (frm 4 a b c n) _ = -1 from if_neg (by show ¬ ((0 : Int) ≤ 7 ∧ (7 : Int) < 7); decide)]; decide) hk).trans rfl
theorem f4_all (ha : a < k) (hb : b < k) (hk : k ≤ 23) : rAll (nI k) (frm 4 a b c n) = ([11, 11, 1, 10], [nI a, nI b, 0, nI 2], [2], [-1], 7, -1, 0, 0) := by
  show rLoop (nI k) (frm 4 a b c n) 7 r00 = _
  exact lp_go (m := 6) (by show (0 : Int) < 7; decide) rfl (f4_0 ha hb hk) (lp_go (m := 5) (by show (1 : Int) < 7; decide) rfl (f4_1 ha hb hk) (lp_go (m := 4) (by show (2 : Int) < 7; decide) rfl (f4_2 ha hb hk) (lp_go (m := 3) (by show (3 : Int) < 7; decide) rfl (f4_3 ha hb hk) (lp_go (m := 2) (by show (4 : Int) < 7; decide) rfl (f4_4 ha hb hk) (lp_go (m := 1) (by show (5 : Int) < 7; decide) rfl (f4_5 ha hb hk) (lp_go (m := 0) (by show (6 : Int) < 7; decide) rfl (f4_6 ha hb hk) (rfl)))))))
theorem f4_ok (ha : a < k) (hb : b < k) (hk : k ≤ 23) : FmOk k (frm 4 a b c n) := by
  have e := f4_all (c := c) (n := n) ha hb hk
  have e2 : rTake (nI k) (frm 4 a b c n) = ([11, 11, 1, 10, 2], [nI a, nI b, 0, nI 2, 0], [], [], 7, -1, 0, 0) := by
    unfold rTake
    rw [e]
    rfl
  refine ⟨no126 (fun z hz => ?_), by rw [e]; rfl, by rw [e2]; rfl, by rw [e2]; rfl, fun cap => ?_⟩
  · simp only [frm, List.mem_cons, List.not_mem_nil, or_false] at hz
    rcases hz with rfl | rfl | rfl | rfl | rfl | rfl | rfl
    all_goals first | decide | exact n126 (by omega)
  · rw [e2]
    refine good_of ?_
    simp [goodB, Rd.sl, Rd.dl, nI_s0 ha hk, nI_s1 ha hk, nI_s0 hb hk, nI_s1 hb hk]
theorem f5_0 (ha : a < k) (hb : b < k) (hn : n < 10) (hk : k ≤ 23) : rStep (nI k) (frm 5 a b c n) r00 = ([], [], [24], [-1], 2, -1, 1, 0) := (st_pg (tp := frm 5 a b c n) (i := 0) (r := r00) rfl rfl (lat_of (i := 1) rfl rfl) rfl rfl).trans rfl
theorem f5_1 (ha : a < k) (hb : b < k) (hn : n < 10) (hk : k ≤ 23) : rStep (nI k) (frm 5 a b c n) ([], [], [24], [-1], 2, -1, 1, 0) = ([], [], [24, 9], [-1, -1], 3, -1, 1, 0) := (st_p0 (tp := frm 5 a b c n) (i := 2) (x := 45) (r := ([], [], [24], [-1], 2, -1, 1, 0)) rfl rfl rfl (by decide) rfl).trans rfl
theorem f5_2 (ha : a < k) (hb : b < k) (hn : n < 10) (hk : k ≤ 23) : rStep (nI k) (frm 5 a b c n) ([], [], [24, 9], [-1, -1], 3, -1, 1, 0) = ([11, 9], [nI a, 0], [24], [-1], 4, -1, 0, 0) := (st_let9 (tp := frm 5 a b c n) (a := a) (i := 3) (r := ([], [], [24, 9], [-1, -1], 3, -1, 1, 0)) rfl rfl rfl (show llast [24, 9] = 9 by decide) (show llast [24] ≠ 9 by decide) ha hk).trans rfl
theorem f5_3 (ha : a < k) (hb : b < k) (hn : n < 10) (hk : k ≤ 23) : rStep (nI k) (frm 5 a b c n) ([11, 9], [nI a, 0], [24], [-1], 4, -1, 0, 0) = ([11, 9], [nI a, 0], [25], [-1], 5, -1, 1, 0) := st_c0 (tp := frm 5 a b c n) (i := 4) (x := 44) (r := ([11, 9], [nI a, 0], [24], [-1], 4, -1, 0, 0)) rfl rfl rfl ((sg_b (x := 44) (b := 24) (r := ([11, 9], [nI a, 0], [24], [-1], 4, -1, 0, 0)) (r1 := ([11, 9], [nI a, 0], [24], [-1], 4, -1, 0, 0)) (by decide) (rGat0 (r := ([11, 9], [nI a, 0], [24], [-1], 4, -1, 0, 0)) (lv := 1) (show (rLev (llast [24])).toInt < (1 : Int32).toInt by decide)) (show llast [24] = 24 by decide) (by decide) (by decide)).trans (b24_of (show lput [24] (Int32.ofNat 1 - (1 : Int32)) 25 = [25] by decide))) rfl
theorem f5_4 (ha : a < k) (hb : b < k) (hn : n < 10) (hk : k ≤ 23) : rStep (nI k) (frm 5 a b c n) ([11, 9], [nI a, 0], [25], [-1], 5, -1, 1, 0) = ([11, 9, 11], [nI a, 0, nI b], [25], [-1], 6, -1, 0, 0) := (st_let0 (tp := frm 5 a b c n) (a := b) (i := 5) (r := ([11, 9], [nI a, 0], [25], [-1], 5, -1, 1, 0)) rfl rfl rfl (show llast [25] ≠ 9 by decide) hb hk).trans rfl
theorem f5_5 (ha : a < k) (hb : b < k) (hn : n < 10) (hk : k ≤ 23) : rStep (nI k) (frm 5 a b c n) ([11, 9, 11], [nI a, 0, nI b], [25], [-1], 6, -1, 0, 0) = ([11, 9, 11], [nI a, 0, nI b], [25, 4], [-1, -1], 7, -1, 1, 0) := st_c0 (tp := frm 5 a b c n) (i := 6) (x := 37) (r := ([11, 9, 11], [nI a, 0, nI b], [25], [-1], 6, -1, 0, 0)) rfl rfl rfl ((sg_j (x := 37) (j := 4) (lv := 3) (gl := 3) (r := ([11, 9, 11], [nI a, 0, nI b], [25], [-1], 6, -1, 0, 0)) (r1 := ([11, 9, 11], [nI a, 0, nI b], [25], [-1], 6, -1, 0, 0)) (by decide) (by decide) (by decide) (by decide) (rGat0 (r := ([11, 9, 11], [nI a, 0, nI b], [25], [-1], 6, -1, 0, 0)) (lv := 3) (show (rLev (llast [25])).toInt < (3 : Int32).toInt by decide)) (fun e => absurd e (by decide))).trans rfl) rfl
theorem f5_6 (ha : a < k) (hb : b < k) (hn : n < 10) (hk : k ≤ 23) : rStep (nI k) (frm 5 a b c n) ([11, 9, 11], [nI a, 0, nI b], [25, 4], [-1, -1], 7, -1, 1, 0) = ([11, 9, 11, 10], [nI a, 0, nI b, nI n], [25, 4], [-1, -1], 8, -1, 0, 0) := (st_dig0 (tp := frm 5 a b c n) (n := n) (i := 7) (r := ([11, 9, 11], [nI a, 0, nI b], [25, 4], [-1, -1], 7, -1, 1, 0)) rfl rfl rfl (show llast [25, 4] ≠ 9 by decide) hn (by rw [show lat (frm 5 a b c n) _ = 41 from lat_of (i := 8) rfl rfl]; decide) hk).trans rfl
theorem f5_7 (ha : a < k) (hb : b < k) (hn : n < 10) (hk : k ≤ 23) : rStep (nI k) (frm 5 a b c n) ([11, 9, 11, 10], [nI a, 0, nI b, nI n], [25, 4], [-1, -1], 8, -1, 0, 0) = ([11, 9, 11, 10, 4, 8], [nI a, 0, nI b, nI n, 0, 0], [], [], 9, -1, 0, 0) := (st_c1 (tp := frm 5 a b c n) (i := 8) (x := 41) (r := ([11, 9, 11, 10], [nI a, 0, nI b, nI n], [25, 4], [-1, -1], 8, -1, 0, 0)) (r' := ([11, 9, 11, 10, 4, 8], [nI a, 0, nI b, nI n, 0, 0], [], [], 9, -1, 0, 1)) rfl rfl rfl (((sg_b (x := 41) (b := 25) (r := ([11, 9, 11, 10], [nI a, 0, nI b, nI n], [25, 4], [-1, -1], 8, -1, 0, 0)) (r1 := ([11, 9, 11, 10, 4], [nI a, 0, nI b, nI n, 0], [25], [-1], 8, -1, 0, 0)) (by decide) ((rGat1 (r := ([11, 9, 11, 10], [nI a, 0, nI b, nI n], [25, 4], [-1, -1], 8, -1, 0, 0)) (lv := 1) (show ¬ (rLev (llast [25, 4])).toInt < (1 : Int32).toInt by decide) rfl (show (rLev (llast [25])).toInt < (1 : Int32).toInt by decide)).trans rfl) (show llast [25] = 25 by decide) (by decide) (by decide)).trans (brJ25 (r := ([11, 9, 11, 10, 4], [nI a, 0, nI b, nI n, 0], [25], [-1], 9, -1, 0, 0)))).trans rfl) rfl (show llast [] ≠ 9 by decide)).trans rfl
theorem f5_all (ha : a < k) (hb : b < k) (hn : n < 10) (hk : k ≤ 23) : rAll (nI k) (frm 5 a b c n) = ([11, 9, 11, 10, 4, 8], [nI a, 0, nI b, nI n, 0, 0], [], [], 9, -1, 0, 0) := by
  show rLoop (nI k) (frm 5 a b c n) 9 r00 = _
  exact lp_go (m := 8) (by show (0 : Int) < 9; decide) rfl (f5_0 ha hb hn hk) (lp_go (m := 7) (by show (2 : Int) < 9; decide) rfl (f5_1 ha hb hn hk) (lp_go (m := 6) (by show (3 : Int) < 9; decide) rfl (f5_2 ha hb hn hk) (lp_go (m := 5) (by show (4 : Int) < 9; decide) rfl (f5_3 ha hb hn hk) (lp_go (m := 4) (by show (5 : Int) < 9; decide) rfl (f5_4 ha hb hn hk) (lp_go (m := 3) (by show (6 : Int) < 9; decide) rfl (f5_5 ha hb hn hk) (lp_go (m := 2) (by show (7 : Int) < 9; decide) rfl (f5_6 ha hb hn hk) (lp_go (m := 1) (by show (8 : Int) < 9; decide) rfl (f5_7 ha hb hn hk) (lp_no (m := 1) (by show ¬ (9 : Int) < 9; decide)))))))))
theorem f5_ok (ha : a < k) (hb : b < k) (hn : n < 10) (hk : k ≤ 23) : FmOk k (frm 5 a b c n) := by
  have e := f5_all (c := c) (n := n) ha hb hn hk
  have e2 : rTake (nI k) (frm 5 a b c n) = ([11, 9, 11, 10, 4, 8], [nI a, 0, nI b, nI n, 0, 0], [], [], 9, -1, 0, 0) := by
    unfold rTake
    rw [e]
    rfl
  refine ⟨no126 (fun z hz => ?_), by rw [e]; rfl, by rw [e2]; rfl, by rw [e2]; rfl, fun cap => ?_⟩
  · simp only [frm, List.mem_cons, List.not_mem_nil, or_false] at hz
    rcases hz with rfl | rfl | rfl | rfl | rfl | rfl | rfl | rfl | rfl
    all_goals first | decide | exact n126 (by omega)
  · rw [e2]
    refine good_of ?_
    simp [goodB, Rd.sl, Rd.dl, nI_s0 ha hk, nI_s1 ha hk, nI_s0 hb hk, nI_s1 hb hk]
end FR
