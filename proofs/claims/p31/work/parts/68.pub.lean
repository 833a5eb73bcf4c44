/-! what calls need of all that stands -/
theorem mnI {x y z : Int32} {X Y : Int} (h : z = if y < x then y else x) (ex : x.toInt = X) (ey : y.toInt = Y) : (z.toInt = X ∧ X ≤ Y) ∨ (z.toInt = Y ∧ Y < X) := by
  subst h ex ey
  by_cases c : y < x
  · rw [if_pos c]
    exact Or.inr ⟨rfl, Int32.lt_iff_toInt_lt.mp c⟩
  · rw [if_neg c]
    exact Or.inl ⟨rfl, Int.not_lt.mp (fun k => c (Int32.lt_iff_toInt_lt.mpr k))⟩
/-- what the shelves hold -/
def SH (σ : sg) : Prop := ∀ s, s < 8 → (-1 ≤ (σ 76 s).toInt ∧ ((σ 76 s).toInt ≤ 4 ∨ 10 ≤ (σ 76 s).toInt) ∧ (σ 76 s).toInt ≤ 33) ∧ 0 ≤ (σ 77 s).toInt ∧ (σ 77 s).toInt ≤ 40
