/-! what was true of the law's start, and where it lies: compact strings, Integer's digits, the constants' Strings -/
section SF
variable {o : Nat} {s : State} {args : Array Value}
theorem zCompact (hN : xNX o s) (hbig : ∀ w ∈ xBig, w.before args s = true) : ∃ st, st < o ∧ Jvm.Free.SB.CompactAt s st 1 := by
  obtain ⟨-, U0, a0, hgv, htb, hs0, hW, hh⟩ := hN
  have fl0 := flat_of_before _ hgv
  have f1 : (Cond.eq (.static "java/lang/String" "COMPACT_STRINGS" "Z") (.int 1)).before a0 (U0.setVm s.vm) = true := Cond.pre_warmed hW (by decide +kernel) (fl0 _ (by decide +kernel))
  have hal : (U0.setVm s.vm).vm.Alike s.vm := Vm.Alike.refl _
  have hl : (Cond.laysStatic "java/lang/String" "COMPACT_STRINGS" "Z").before a0 (U0.setVm s.vm) = true := Cond.pre_warmed hW (by decide +kernel) (htb _ (List.mem_append_right _ (tIn (by decide +kernel))))
  have hz : va_Z "java/lang/String" "COMPACT_STRINGS" "Z" (.int 1) (fun _ => False) (U0.setVm s.vm) (U0.setVm s.vm).heap := va_Zof hl (va_tabs (A := args) (u := s) (U := U0.setVm s.vm) rfl rfl (hbig _ (wIn (by decide +kernel)))) (wEqI f1) (fun _ _ => id)
  obtain ⟨cf, kf, fi, f, a, cell, h1, h2, h3, h4, h5, h6, h7, -⟩ := hz.moved hal
  have hlt : a < o := by
    rw [← hs0]
    exact (Array.getElem?_eq_some_iff.mp h5).1
  exact ⟨a, hlt, cf, fi, kf, f, cell, h1, h2, h3, h4, (hh a hlt).trans h5, (fun q => by rw [q] at h6; cases h6), h7⟩
/-- how long an array is, where a word says so -/
theorem zLen {U : State} {a0 : Array Value} {t : Term} {n : Nat} (hn : n < 2147483648) (h : (Cond.eq (.length t) (.int (Int32.ofNat n))).before a0 U = true) : ∃ a cell, t.eval a0 U none [] U = some (.ref a) ∧ U.arrayAt? a = some cell ∧ cell.slots.size = n := by
  have hv := wEqI h
  obtain ⟨a, cell, h1, h2, -⟩ := Term.length_spec hv
  refine ⟨a, cell, h1, h2, ?_⟩
  simp only [Term.eval, h1, h2, Option.bind_eq_bind, Option.bind_some] at hv
  by_cases hlt : cell.slots.size < 2147483648
  · rw [if_pos hlt] at hv
    have e : cell.slots.size.toInt32 = Int32.ofNat n := by
      have := Option.some.inj hv
      exact Value.int.inj this
    have e1 : (Int32.ofNat cell.slots.size).toInt = (cell.slots.size : Int) := nI_toInt hlt
    have e2 : (Int32.ofNat n).toInt = (n : Int) := nI_toInt hn
    have e3 : (Int32.ofNat cell.slots.size).toInt = (Int32.ofNat n).toInt := congrArg Int32.toInt e
    omega
  · rw [if_neg hlt] at hv
    cases hv
/-- what an array holds, where a word says so -/
theorem zEl {U : State} {a0 : Array Value} {t : Term} {a : Addr} {cell : Cell} {i : Nat} {v : Int32} (hi : i < 2147483648) (h1 : t.eval a0 U none [] U = some (.ref a)) (h2 : U.arrayAt? a = some cell) (h : (Cond.eq (.elem t (.int (Int32.ofNat i))) (.int v)).before a0 U = true) : cell.slots[i]? = some (.int v) := by
  obtain ⟨a', j', cell', m1, m2, m3, m4, m5⟩ := Term.elem_spec (wEqI h)
  cases h1.symm.trans m1
  cases h2.symm.trans m3
  cases (show some (Value.int (Int32.ofNat i)) = some (Value.int j') from m2)
  rw [show (Int32.ofNat i).toNatClampNeg = i from nI_clamp hi] at m5
  exact m5
def dgL (nm : String) : List (Int32 × Int32) := (flatC (Jvm.Cond.and given_1 narrow_1)).filterMap (fun w => match w with
  | .eq (.elem (.static c f d) (.int j)) (.int v) => if c = "java/lang/Integer" ∧ f = nm ∧ d = "[B" then some (j, v) else none
  | _ => none)
theorem dgOnes_ok : dgL "DigitOnes" = (List.range 100).map (fun r => (Int32.ofNat r, Int32.ofNat (48 + r % 10))) := by decide +kernel
theorem dgTens_ok : dgL "DigitTens" = (List.range 100).map (fun r => (Int32.ofNat r, Int32.ofNat (48 + r / 10))) := by decide +kernel
theorem dg_in {nm : String} {j v : Int32} (h : (j, v) ∈ dgL nm) : Cond.eq (.elem (.static "java/lang/Integer" nm "[B") (.int j)) (.int v) ∈ flatC (Jvm.Cond.and given_1 narrow_1) := by
  unfold dgL at h
  rw [List.mem_filterMap] at h
  obtain ⟨w, hw, hf⟩ := h
  split at hf
  · rename_i c f d j' v'
    split at hf
    · rename_i hc
      obtain ⟨rfl, rfl, rfl⟩ := hc
      cases hf
      exact hw
    · cases hf
  · cases hf
theorem zTbl {nm : String} {g : Nat → Nat} (hN : xNX o s) (hbig : ∀ w ∈ xBig, w.before args s = true) (hdg : dgL nm = (List.range 100).map (fun r => (Int32.ofNat r, Int32.ofNat (g r))))
    (w1 : Cond.arrayOf (.static "java/lang/Integer" nm "[B") .byte ∈ flatC (Jvm.Cond.and given_1 narrow_1)) (w2 : Cond.eq (.length (.static "java/lang/Integer" nm "[B")) (.int (Int32.ofNat 100)) ∈ flatC (Jvm.Cond.and given_1 narrow_1)) (w3 : Cond.laysStatic "java/lang/Integer" nm "[B" ∈ tables_1) (w4 : Cond.initialized "java/lang/Integer" ∈ xBig)
    (k : ∀ w : Cond, w = .arrayOf (.static "java/lang/Integer" nm "[B") .byte ∨ w = .laysStatic "java/lang/Integer" nm "[B" ∨ (∃ t v, w = .eq t (.int v) ∧ (t = .length (.static "java/lang/Integer" nm "[B") ∨ ∃ j, t = .elem (.static "java/lang/Integer" nm "[B") (.int j))) → w.warmB w.codeNames = true) :
    ∃ ist d D, ist < o ∧ d < o ∧ Jvm.Free.SBG.Tbl s nm ist d D ∧ ∀ r, r < 100 → D.slots[r]? = some (.int (Int32.ofNat (g r))) := by
  obtain ⟨-, U0, a0, hgv, htb, hs0, hW, hh⟩ := hN
  have fl0 := flat_of_before _ hgv
  have hal : (U0.setVm s.vm).vm.Alike s.vm := Vm.Alike.refl _
  have f1 := Cond.pre_warmed hW (k _ (Or.inl rfl)) (fl0 _ w1)
  have f2 := Cond.pre_warmed hW (k _ (Or.inr (Or.inr ⟨_, _, rfl, Or.inl rfl⟩))) (fl0 _ w2)
  have hl : (Cond.laysStatic "java/lang/Integer" nm "[B").before a0 (U0.setVm s.vm) = true := Cond.pre_warmed hW (k _ (Or.inr (Or.inl rfl))) (htb _ (List.mem_append_right _ w3))
  obtain ⟨d, D, e1, e2, e3⟩ := zLen (by omega) f2
  obtain ⟨hD, hkn, -, -⟩ := State.arrayAt?_spec e2
  have hof := (Cond.arrayOf_spec f1 e1 hD).1
  have hel : ∀ r, r < 100 → D.slots[r]? = some (.int (Int32.ofNat (g r))) := fun r hr => by
    have hm : (Int32.ofNat r, Int32.ofNat (g r)) ∈ dgL nm := by
      rw [hdg]
      exact List.mem_map.mpr ⟨r, List.mem_range.mpr hr, rfl⟩
    exact zEl (by omega) e1 e2 (Cond.pre_warmed hW (k _ (Or.inr (Or.inr ⟨_, _, rfl, Or.inr ⟨_, rfl⟩⟩))) (fl0 _ (dg_in hm)))
  have hz : va_Z "java/lang/Integer" nm "[B" (.ref d) (fun _ => False) (U0.setVm s.vm) (U0.setVm s.vm).heap := va_Zof hl (va_tabs (A := args) (u := s) (U := U0.setVm s.vm) rfl rfl (hbig _ w4)) e1 (fun _ _ => id)
  obtain ⟨cf, kf, fi, f, a, cell, h1, h2, h3, h4, h5, h6, h7, -⟩ := hz.moved hal
  have hlt : a < o := by
    rw [← hs0]
    exact (Array.getElem?_eq_some_iff.mp h5).1
  have hD0 : U0.heap[d]? = some D := hD
  have hld : d < o := by
    rw [← hs0]
    exact (Array.getElem?_eq_some_iff.mp hD0).1
  refine ⟨a, d, D, hlt, hld, ⟨cf, fi, kf, f, cell, h1, h2, h3, h4, (hh a hlt).trans h5, (fun q => by rw [q] at h6; cases h6), h7, (hh d hld).trans hD0, State.isArrayOf_alike hal hof, hkn, e3, fun r hr => ?_⟩, hel⟩
  have e := hel r hr
  rw [e]
  have e5 : Jvm.Free.SBG.iAt D r = Int32.ofNat (g r) := by
    unfold Jvm.Free.SBG.iAt
    rw [Jvm.Free.SBG.getD_of e]
  rw [e5]
theorem zOnes (hN : xNX o s) (hbig : ∀ w ∈ xBig, w.before args s = true) : ∃ ist d D, ist < o ∧ d < o ∧ Jvm.Free.SBG.Tbl s "DigitOnes" ist d D ∧ ∀ r, r < 100 → D.slots[r]? = some (.int (Int32.ofNat (48 + r % 10))) :=
  zTbl hN hbig dgOnes_ok (by decide +kernel) (by decide +kernel) (tIn (by decide +kernel)) (wIn (by decide +kernel)) (fun w h => by
    rcases h with rfl | rfl | ⟨t, v, rfl, rfl | ⟨j, rfl⟩⟩ <;> rfl)
theorem zTens (hN : xNX o s) (hbig : ∀ w ∈ xBig, w.before args s = true) : ∃ ist d D, ist < o ∧ d < o ∧ Jvm.Free.SBG.Tbl s "DigitTens" ist d D ∧ ∀ r, r < 100 → D.slots[r]? = some (.int (Int32.ofNat (48 + r / 10))) :=
  zTbl hN hbig dgTens_ok (by decide +kernel) (by decide +kernel) (tIn (by decide +kernel)) (wIn (by decide +kernel)) (fun w h => by
    rcases h with rfl | rfl | ⟨t, v, rfl, rfl | ⟨j, rfl⟩⟩ <;> rfl)
end SF
