/-! the reader: parts, signs, brackets -/
abbrev rDig (x : Int32) : Prop := ¬ x.toInt < (48 : Int32).toInt ∧ ¬ (57 : Int32).toInt < x.toInt
abbrev rLet (cs x : Int32) : Prop := ¬ x.toInt < (97 : Int32).toInt ∧ x.toInt < ((97 : Int32) + cs).toInt
def rNum (tp : List Int32) : Nat → Int32 → Rd → Int32 × Rd
  | 0, v, r => (v, r)
  | n + 1, v, r => if rDig (lat tp r.at) then rNum tp n (((v * (10 : Int32)) + lat tp r.at) - (48 : Int32)) (rAt r (r.at + (1 : Int32))) else (v, r)
def rPlain (cs : Int32) (tp : List Int32) (x : Int32) (r : Rd) : Rd := if rLet cs x then rPs (rAdd (rAt r (r.at + (1 : Int32))) 11 (x - (97 : Int32))) 1 else if rDig x then rPs (rAdd (rNum tp 3 0 r).2 10 (rNum tp 3 0 r).1) 1 else rFa r r.at
def rGre (tp : List Int32) (r : Rd) : Rd := if lat tp (r.at + (1 : Int32)) = 40 then rAt (rOpen r 24) (r.at + (2 : Int32)) else rFa r (r.at + (1 : Int32))
def rPart (cs : Int32) (tp : List Int32) (r : Rd) : Rd := if (lat tp r.at).toInt = 40 then rAt (rOpen r 20) (r.at + (1 : Int32)) else if (lat tp r.at).toInt = 45 then rAt (rOpen r 9) (r.at + (1 : Int32)) else if (lat tp r.at).toInt = 91 then rAt (rOpen r 21) (r.at + (1 : Int32)) else if (lat tp r.at).toInt = 94 then rGre tp r else rPlain cs tp (lat tp r.at) r
def rCho (j b : Int32) (r : Rd) : Rd :=
  let r1 := rAdd r j 0
  let r2 := rDl r1 (lput r1.dl (llast r1.oj) (Int32.ofNat r1.sl.length))
  let r3 := rOj r2 (lput r2.oj (Int32.ofNat r2.oj.length - (1 : Int32)) (Int32.ofNat r2.sl.length - (1 : Int32)))
  rWp (rOp r3 (lput r3.op (Int32.ofNat r3.op.length - (1 : Int32)) b)) 1
def rBrJ (b : Int32) (r : Rd) : Rd := if b.toInt = 21 then rCho 14 22 r else if b.toInt = 22 then rCho 13 23 r else if b.toInt = 23 then rPs (rClose (rDl r (lput r.dl (llast r.oj) (Int32.ofNat r.sl.length)))) 1 else if b.toInt = 24 then rWp (rOp r (lput r.op (Int32.ofNat r.op.length - (1 : Int32)) 25)) 1 else if b.toInt = 25 then rPs (rClose (rAdd r 8 0)) 1 else rPs (rClose r) 1
def rBr (x : Int32) (r : Rd) : Rd := if llast r.op = -1 then rFa r r.at else if x = rAw (llast r.op) then rBrJ (llast r.op) (rAt r (r.at + (1 : Int32))) else rFa r r.at
def rSgJ (j : Int32) (r : Rd) : Rd := rWp (rAt (rOpen r j) (r.at + (1 : Int32))) 1
def rSgK (j lv : Int32) (r : Rd) : Rd := if lv = 1 then (if rLev (llast r.op) = 1 then rFa r r.at else rSgJ j r) else rSgJ j r
def rSg (x : Int32) (r : Rd) : Rd := if rJoin x = -1 then rBr x (rGat 1 250 r) else rSgK (rJoin x) (rLev (rJoin x)) (rGat (if rLev (rJoin x) < 2 then 2 else rLev (rJoin x)) 250 r)
section RB
variable {m m' : Mm} {cs x y : Int32} {r : Rd} {l tp : List Int32} {p c : Nat} {v : Value}
theorem tape_fr (h : NumAt m 40 41 250 tp) (f : FrP DZ m m') : NumAt m' 40 41 250 tp := h.fr f (by unfold DZ; omega) (by unfold DZ; omega) (fun c => by unfold DZ; omega)
theorem sRe_isDigit {K : Mm → Int32 → Prop} (k1 : rDig x → K m 1) (k0 : ¬ rDig x → K m 0) : WRe_isDigit x m K :=
  ⟨fun c => k0 (fun e => e.1 c), fun c => ⟨fun c2 => k0 (fun e => e.2 c2), fun c2 => k1 ⟨c, c2⟩⟩⟩
theorem sRe_isLetter {K : Mm → Int32 → Prop} (h : RA m cs r) (k1 : rLet cs x → K m 1) (k0 : ¬ rLet cs x → K m 0) : WRe_isLetter 25 x m K := by
  have e := h.2.2.2.1
  unfold WRe_isLetter
  rw [e]
  exact ⟨fun c => k0 (fun e => e.1 c), fun c => ⟨fun c2 => k1 ⟨c, c2⟩, fun c2 => k0 (fun e => c2 e.2)⟩⟩
theorem sRe_readNumber {K : Mm → Int32 → Prop} (h : RA m cs r) (t : NumAt m 40 41 250 tp) (k : ∀ m', RA m' cs (rNum tp 3 0 r).2 → FrP DZ m m' → K m' (rNum tp 3 0 r).1) : WRe_readNumber 25 40 m K := by
  have e3 : (3 : Int32).toInt = 3 := rfl
  have e1 : (1 : Int32).toInt = 1 := rfl
  have Lp : ∀ (n : Nat) (v y : Int32) (m1 : Mm) (r1 : Rd), n ≤ 3 → y.toInt = 3 - (n : Int) → RA m1 cs r1 → NumAt m1 40 41 250 tp → (∀ m', RA m' cs (rNum tp n v r1).2 → FrP DZ m1 m' → K m' (rNum tp n v r1).1) → WRe_readNumber_L4 25 40 K (n + 1) v y m1 := by
    intro n
    induction n with
    | zero =>
      intro v y m1 r1 hn hy h1 t1 k1
      exact WRe_readNumber_L4_i ⟨fun c => by omega, fun c => k1 m1 h1 frf⟩
    | succ n ih =>
      intro v y m1 r1 hn hy h1 t1 k1
      rw [rNum] at k1
      have ha := h1.2.2.2.2.1
      refine WRe_readNumber_L4_i ⟨fun c => sNu_at t1 (sRe_isDigit (fun d => ⟨fun c2 => absurd c2 (by decide), fun _ => sNu_at t1 ?_⟩) (fun d => ⟨fun _ => ?_, fun c2 => absurd rfl c2⟩)), fun c => by omega⟩
      · rw [ha] at d ⊢
        rw [if_pos d] at k1
        obtain ⟨l3, n3⟩ := h1.1.2.2.1
        refine ⟨30, h1.2.1.2.2.1, sNu_at t1 (sNu_add n3 (fun m2 n2 f2 m3 e3 => ?_))⟩
        have h2 := h1.n3 n2 f2
        have ha2 := h2.2.2.2.2.1
        rw [ha2] at e3
        exact ih _ (y + 1) m3 _ (by omega) (by rw [i32_add rfl e1 (by omega)]; omega) (h2.sat e3) (tape_fr t1 (ftr (dz3 f2) (dr_at e3))) (fun m' h' f' => k1 m' h' (ftr (dz3 f2) (ftr (dr_at e3) f')))
      · rw [ha] at d
        rw [if_neg d] at k1
        exact k1 m1 h1 frf
  exact ⟨4, Lp 3 0 0 m r (Nat.le_refl _) rfl h t k⟩
theorem sRe_readPlainPart {K : Mm → Prop} (h : RA m cs r) (t : NumAt m 40 41 250 tp) (k : ∀ m', RA m' cs (rPlain cs tp x r) → FrP DZ m m' → K m') : WRe_readPlainPart 25 40 x m K := by
  unfold rPlain at k
  have ha := h.2.2.2.2.1
  refine sRe_isLetter h (fun c1 => ⟨fun c => absurd c (by decide), fun _ => ?_⟩) (fun c1 => ⟨fun _ => ?_, fun c => absurd rfl c⟩)
  · rw [if_pos c1] at k
    obtain ⟨l7, n7⟩ := h.1.2.2.2.2.2.2
    obtain ⟨l3, n3⟩ := h.1.2.2.1
    refine ⟨38, h.2.1.2.2.2.2.2.2, 30, h.2.1.2.2.1, sNu_size n3 (sNu_add n7 (fun m1 n1 f1 => ?_))⟩
    have h1 := h.n7 n1 f1
    obtain ⟨l3', n3'⟩ := h1.1.2.2.1
    refine ⟨30, h1.2.1.2.2.1, sNu_add n3' (fun m2 n2 f2 m3 e3 => ?_)⟩
    have h2 := h1.n3 n2 f2
    rw [h2.2.2.2.2.1] at e3
    have h3 := h2.sat e3
    exact sRe_addStep h3 (fun m4 h4 f4 m5 e5 => k m5 (h4.sps e5) (ftr (dz7 f1) (ftr (dz3 f2) (ftr (dr_at e3) (ftr f4 (dr_ps e5))))))
  · rw [if_neg c1] at k
    refine sRe_isDigit (fun c2 => ⟨fun c => absurd c (by decide), fun _ => ?_⟩) (fun c2 => ⟨fun _ m2 e2 => ?_, fun c => absurd rfl c⟩)
    · rw [if_pos c2] at k
      obtain ⟨l7, n7⟩ := h.1.2.2.2.2.2.2
      obtain ⟨l3, n3⟩ := h.1.2.2.1
      refine ⟨38, h.2.1.2.2.2.2.2.2, 30, h.2.1.2.2.1, sNu_size n3 (sNu_add n7 (fun m1 n1 f1 => ?_))⟩
      have h1 := h.n7 n1 f1
      exact sRe_readNumber h1 (tape_fr t (dz7 f1)) (fun m2 h2 f2 => sRe_addStep h2 (fun m4 h4 f4 m5 e5 => k m5 (h4.sps e5) (ftr (dz7 f1) (ftr f2 (ftr f4 (dr_ps e5))))))
    · rw [if_neg c2] at k
      rw [ha] at e2
      exact k m2 (h.sfa e2) (dr_fa e2)
theorem sRe_readGreater {K : Mm → Prop} (h : RA m cs r) (t : NumAt m 40 41 250 tp) (k : ∀ m', RA m' cs (rGre tp r) → FrP DZ m m' → K m') : WRe_readGreater 25 40 m K := by
  unfold rGre at k
  have ha := h.2.2.2.2.1
  unfold WRe_readGreater
  rw [ha]
  refine sNu_at t ⟨fun c => ?_, fun c m2 e2 => ?_⟩
  · rw [if_pos c] at k
    refine sRe_openUp h (fun m1 h1 f1 => ?_)
    obtain ⟨l3, n3⟩ := h1.1.2.2.1
    refine ⟨30, h1.2.1.2.2.1, sNu_add n3 (fun m2 n2 f2 => ?_)⟩
    have h2 := h1.n3 n2 f2
    refine ⟨30, h2.2.1.2.2.1, sNu_add n2 (fun m3 n3 f3 m4 e4 => ?_)⟩
    have h3 := h2.n3 n3 f3
    rw [h3.2.2.2.2.1] at e4
    exact k m4 (h3.sat e4) (ftr f1 (ftr (dz3 f2) (ftr (dz3 f3) (dr_at e4))))
  · rw [if_neg c] at k
    rw [ha] at e2
    exact k m2 (h.sfa e2) (dr_fa e2)
theorem sRe_readPart {K : Mm → Prop} (h : RA m cs r) (t : NumAt m 40 41 250 tp) (ht : ∀ x, (lat tp x).toInt ≠ 126) (k : ∀ m', RA m' cs (rPart cs tp r) → FrP DZ m m' → K m') : WRe_readPart 25 40 m K := by
  unfold rPart at k
  have ha := h.2.2.2.2.1
  unfold WRe_readPart
  rw [ha]
  refine sNu_at t ⟨fun c => ?_, fun c => ⟨fun c2 => ?_, fun c2 => ⟨fun c3 => ?_, fun c3 => ⟨fun c4 => ?_, fun c4 => ⟨fun c5 => absurd c5 (ht _), fun c5 => ?_⟩⟩⟩⟩⟩
  · rw [if_pos c] at k
    refine sRe_openUp h (fun m1 h1 f1 m2 e2 => ?_)
    rw [h1.2.2.2.2.1] at e2
    exact k m2 (h1.sat e2) (ftr f1 (dr_at e2))
  · rw [if_neg c, if_pos c2] at k
    refine sRe_openUp h (fun m1 h1 f1 => ?_)
    obtain ⟨l3, n3⟩ := h1.1.2.2.1
    refine ⟨30, h1.2.1.2.2.1, sNu_add n3 (fun m2 n2 f2 => ?_)⟩
    have h2 := h1.n3 n2 f2
    refine ⟨30, h2.2.1.2.2.1, sNu_add n2 (fun m3 n3 f3 m4 e4 => ?_)⟩
    have h3 := h2.n3 n3 f3
    rw [h3.2.2.2.2.1] at e4
    exact k m4 (h3.sat e4) (ftr f1 (ftr (dz3 f2) (ftr (dz3 f3) (dr_at e4))))
  · rw [if_neg c, if_neg c2, if_pos c3] at k
    refine sRe_openUp h (fun m1 h1 f1 => ?_)
    obtain ⟨l3, n3⟩ := h1.1.2.2.1
    refine ⟨30, h1.2.1.2.2.1, sNu_add n3 (fun m2 n2 f2 m4 e4 => ?_)⟩
    have h2 := h1.n3 n2 f2
    rw [h2.2.2.2.2.1] at e4
    exact k m4 (h2.sat e4) (ftr f1 (ftr (dz3 f2) (dr_at e4)))
  · rw [if_neg c, if_neg c2, if_neg c3, if_pos c4] at k
    exact sRe_readGreater h t k
  · rw [if_neg c, if_neg c2, if_neg c3, if_neg c4] at k
    exact sRe_readPlainPart h t k
theorem sRe_choose {K : Mm → Prop} (h : RA m cs r) (k : ∀ m', RA m' cs (rCho x y r) → FrP DZ m m' → K m') : WRe_choose 25 x y m K := by
  obtain ⟨l7, n7⟩ := h.1.2.2.2.2.2.2
  refine ⟨38, h.2.1.2.2.2.2.2.2, sNu_dropLast n7 (fun m1 n1 f1 => sRe_addStep (h.n7 n1 f1) (fun m2 h2 f2 => ?_))⟩
  refine ⟨28, h2.2.1.2.1, 36, h2.2.1.2.2.2.2.2.1, sNu_last h2.1.2.2.2.2.2.1 ⟨26, h2.2.1.1, sNu_size h2.1.1 (sNu_put h2.1.2.1 (fun m3 n3 f3 => ?_))⟩⟩
  have h3 := h2.n2 n3 f3
  refine ⟨36, h3.2.1.2.2.2.2.2.1, sNu_size h3.1.2.2.2.2.2.1 ⟨26, h3.2.1.1, sNu_size h3.1.1 (sNu_put h3.1.2.2.2.2.2.1 (fun m4 n4 f4 => ?_))⟩⟩
  have h4 := h3.n6 n4 f4
  refine ⟨32, h4.2.1.2.2.2.1, sNu_size h4.1.2.2.2.1 (sNu_put h4.1.2.2.2.1 (fun m5 n5 f5 m6 e6 => ?_))⟩
  exact k m6 ((h4.n4 n5 f5).swp e6) (ftr (dz7 f1) (ftr f2 (ftr (dz2 f3) (ftr (dz6 f4) (ftr (dz4 f5) (dr_wp e6))))))
theorem sRe_brJ {K : Mm → Prop} (h : RA m cs r) (k : ∀ m', RA m' cs (rBrJ x r) → FrP DZ m m' → K m') : WRe_readBracketSign_J54 25 x K m := by
  unfold rBrJ at k
  refine WRe_readBracketSign_J54_i ⟨fun c => ?_, fun c => ⟨fun c2 => ?_, fun c2 => ⟨fun c3 => ?_, fun c3 => ⟨fun c4 => ?_, fun c4 => ⟨fun c5 => ?_, fun c5 => ?_⟩⟩⟩⟩⟩
  · rw [if_pos c] at k
    exact sRe_choose h k
  · rw [if_neg c, if_pos c2] at k
    exact sRe_choose h k
  · rw [if_neg c, if_neg c2, if_pos c3] at k
    refine ⟨28, h.2.1.2.1, 36, h.2.1.2.2.2.2.2.1, sNu_last h.1.2.2.2.2.2.1 ⟨26, h.2.1.1, sNu_size h.1.1 (sNu_put h.1.2.1 (fun m3 n3 f3 => ?_))⟩⟩
    exact sRe_closeWithPart (h.n2 n3 f3) (fun m4 h4 f4 m5 e5 => k m5 (h4.sps e5) (ftr (dz2 f3) (ftr f4 (dr_ps e5))))
  · rw [if_neg c, if_neg c2, if_neg c3, if_pos c4] at k
    exact ⟨32, h.2.1.2.2.2.1, sNu_size h.1.2.2.2.1 (sNu_put h.1.2.2.2.1 (fun m5 n5 f5 m6 e6 => k m6 ((h.n4 n5 f5).swp e6) (ftr (dz4 f5) (dr_wp e6))))⟩
  · rw [if_neg c, if_neg c2, if_neg c3, if_neg c4, if_pos c5] at k
    refine sRe_addStep h (fun m2 h2 f2 => ?_)
    obtain ⟨l7, n7⟩ := h2.1.2.2.2.2.2.2
    exact ⟨38, h2.2.1.2.2.2.2.2.2, sNu_dropLast n7 (fun m1 n1 f1 => sRe_closeWithPart (h2.n7 n1 f1) (fun m4 h4 f4 m5 e5 => k m5 (h4.sps e5) (ftr f2 (ftr (dz7 f1) (ftr f4 (dr_ps e5))))))⟩
  · rw [if_neg c, if_neg c2, if_neg c3, if_neg c4, if_neg c5] at k
    exact sRe_closeDown h (fun m4 h4 f4 m5 e5 => k m5 (h4.sps e5) (ftr f4 (dr_ps e5)))
theorem sRe_br {K : Mm → Prop} (h : RA m cs r) (k : ∀ m', RA m' cs (rBr x r) → FrP DZ m m' → K m') : WRe_readBracketSign 25 x m K := by
  unfold rBr at k
  have ha := h.2.2.2.2.1
  refine ⟨32, h.2.1.2.2.2.1, sNu_last h.1.2.2.2.1 ⟨fun c m2 e2 => ?_, fun c => sRe_awaited ⟨fun c2 m2 e2 => ?_, fun c2 m2 e2 => ?_⟩⟩⟩
  · rw [if_pos c] at k
    rw [ha] at e2
    exact k m2 (h.sfa e2) (dr_fa e2)
  · rw [if_neg c, if_pos c2] at k
    rw [ha] at e2
    have h2 := h.sat e2
    refine ⟨fun _ => sRe_brJ h2 (fun m' h' f' => k m' h' (ftr (dr_at e2) f')), fun _ => ?_⟩
    obtain ⟨l3, n3⟩ := h2.1.2.2.1
    exact ⟨30, h2.2.1.2.2.1, sNu_add n3 (fun m3 n3 f3 => sRe_brJ (h2.n3 n3 f3) (fun m' h' f' => k m' h' (ftr (dr_at e2) (ftr (dz3 f3) f'))))⟩
  · rw [if_neg c, if_neg c2] at k
    rw [ha] at e2
    exact k m2 (h.sfa e2) (dr_fa e2)
theorem sRe_sgJ {K : Mm → Prop} (h : RA m cs r) (k : ∀ m', RA m' cs (rSgJ y r) → FrP DZ m m' → K m') : WRe_readSign_J63 25 x y K m := by
  refine WRe_readSign_J63_i (sRe_openUp h (fun m1 h1 f1 => ?_))
  obtain ⟨l3, n3⟩ := h1.1.2.2.1
  refine ⟨30, h1.2.1.2.2.1, sNu_add n3 (fun m2 n2 f2 m4 e4 m5 e5 => ?_)⟩
  have h2 := h1.n3 n2 f2
  rw [h2.2.2.2.2.1] at e4
  exact k m5 ((h2.sat e4).swp e5) (ftr f1 (ftr (dz3 f2) (ftr (dr_at e4) (dr_wp e5))))
theorem sRe_sg {K : Mm → Prop} (h : RA m cs r) (k : ∀ m', RA m' cs (rSg x r) → FrP DZ m m' → K m') : WRe_readSign 25 x m K := by
  unfold rSg at k
  refine sRe_joiningSign ⟨fun c => ?_, fun c => sRe_level ?_⟩
  · rw [if_pos c] at k
    exact sRe_gather h (fun m1 h1 f1 => sRe_br h1 (fun m' h' f' => k m' h' (ftr f1 f')))
  · rw [if_neg c] at k
    refine sRe_gather h (fun m1 h1 f1 => ?_)
    unfold rSgK at k
    refine ⟨fun c2 => ?_, fun c2 => ?_⟩
    · rw [if_pos c2] at k
      refine ⟨32, h1.2.1.2.2.2.1, sNu_last h1.1.2.2.2.1 (sRe_level ⟨fun c3 m2 e2 => ?_, fun c3 => ?_⟩)⟩
      · rw [if_pos c3] at k
        rw [h1.2.2.2.2.1] at e2
        exact k m2 (h1.sfa e2) (ftr f1 (dr_fa e2))
      · rw [if_neg c3] at k
        exact sRe_sgJ h1 (fun m' h' f' => k m' h' (ftr f1 f'))
    · rw [if_neg c2] at k
      exact sRe_sgJ h1 (fun m' h' f' => k m' h' (ftr f1 f'))
end RB
