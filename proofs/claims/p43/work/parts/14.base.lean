theorem xset_eq {α β : Type} : ∀ {l : List α} {i : Nat} {a : α} {k : List α → Option β}, i < l.length → xset l i a k = k (l.set i a)
  | [], _, _, _, h => by simp at h
  | _ :: _, 0, _, _, _ => rfl
  | b :: l, i + 1, a, k, h => xset_eq (l := l) (k := fun l' => k (b :: l')) (by simpa using h)
theorem xrun_S {L : Nat} {iv : List (Int × Int)} {Ms : List xM} {C : xCT} {M : xM} {n pc len a b sl fr : Nat} {ins : Instr} {lv : xLv} {st : List Value} {h : List xE} {O O' : xO} {S' : xS} (hf : xfet (xMt M) pc = some (ins, len, a, b)) (hr : xisr ins = false)
    (hs : xstep L iv Ms C M ins len a b pc lv st h sl fr O = some (S', O')) : xrun L iv Ms C M (n + 1) (pc, lv, st, h, sl, fr) O = xrun L iv Ms C M n S' O' := by
  show (match xfet (xMt M) pc with
    | none => none
    | some (ins, len, a, b) => bif xisr ins then some ((pc, lv, st, h, sl, fr), O) else match xstep L iv Ms C M ins len a b pc lv st h sl fr O with
      | none => none
      | some (S', O') => xrun L iv Ms C M n S' O') = _
  rw [hf]
  show (bif xisr ins then some ((pc, lv, st, h, sl, fr), O) else match xstep L iv Ms C M ins len a b pc lv st h sl fr O with
      | none => none
      | some (S', O') => xrun L iv Ms C M n S' O') = _
  rw [hr]
  show (match xstep L iv Ms C M ins len a b pc lv st h sl fr O with
      | none => none
      | some (S', O') => xrun L iv Ms C M n S' O') = _
  rw [hs]
/-! nothing is taken as paid ahead -/
def xBt : xCT := fun _ _ _ _ => none
theorem xBt_ok {D : va_G} {ca : Nat → ClassId} {b : Nat} {o : Nat → Nat} {ρ : Nat → Int32 × Int64} : xCsnd D ca b o ρ xMs xBt := fun _ _ _ _ _ _ _ _ h => by cases h
