/-! what was true of the law's start: compact strings, the formatter -/
theorem tIn {w : Cond} (h : tables_1.any (fun v => decide (v = w)) = true) : w ∈ tables_1 := by
  simp only [List.any_eq_true, decide_eq_true_eq] at h
  obtain ⟨v, h1, rfl⟩ := h
  exact h1
theorem wEqI {args : Array Value} {s : State} {t : Term} {n : Int32} (h : (Cond.eq t (.int n)).before args s = true) : t.eval args s none [] s = some (.int n) := by
  simp only [Cond.before, Cond.holds, Cond.value] at h
  cases ht : t.eval args s none [] s with
  | none => simp [ht] at h
  | some v => cases v <;> simp [ht, Term.eval] at h ⊢ <;> exact h
theorem wStatZ {s : State} {C n d : String} {v : Value} (h : va_Z C n d v (fun _ => False) s s.heap) : Cold.StaticIs s C n d v := by
  obtain ⟨cf, kf, fi, f, a, cell, h1, h2, h3, h4, h5, h6, h7, -⟩ := h
  exact ⟨cf, fi, kf, f, a, cell, h1, h2, h3, h4, h5, (fun q => by rw [q] at h6; cases h6), h7⟩
theorem wStats {o : Nat} {s : State} {args : Array Value} (hN : xNX o s) (hbig : ∀ w ∈ xBig, w.before args s = true) : Cold.StaticIs s "java/lang/String" "COMPACT_STRINGS" "Z" (.int 1) ∧ ∃ fmt : Value, fmt.isRef = true ∧ Cold.StaticIs s "jdk/internal/util/Preconditions" "SIOOBE_FORMATTER" "Ljava/util/function/BiFunction;" fmt := by
  obtain ⟨-, U0, a0, hgv, htb, hs0, hW, hh⟩ := hN
  have fl0 := flat_of_before _ hgv
  have fl : ∀ w : Cond, w ∈ flatC (Jvm.Cond.and given_1 narrow_1) → w.warmB w.codeNames = true → w.before a0 (U0.setVm s.vm) = true := fun w h1 h2 => Cond.pre_warmed hW h2 (fl0 w h1)
  have f1 : (Cond.eq (.static "java/lang/String" "COMPACT_STRINGS" "Z") (.int 1)).before a0 (U0.setVm s.vm) = true := fl _ (by decide +kernel) (by decide +kernel)
  have f2 : (Cond.isRef (.static "jdk/internal/util/Preconditions" "SIOOBE_FORMATTER" "Ljava/util/function/BiFunction;")).before a0 (U0.setVm s.vm) = true := fl _ (by decide +kernel) (by decide +kernel)
  have hal : (U0.setVm s.vm).vm.Alike s.vm := Vm.Alike.refl _
  have hzk : ∀ a : Nat, a < (U0.setVm s.vm).heap.size → ¬ False → s.heap[a]? = (U0.setVm s.vm).heap[a]? := fun a ha _ => hh a (by rw [← hs0]; exact ha)
  refine ⟨?_, ?_⟩
  · have hl : (Cond.laysStatic "java/lang/String" "COMPACT_STRINGS" "Z").before a0 (U0.setVm s.vm) = true := Cond.pre_warmed hW (by decide +kernel) (htb _ (List.mem_append_right _ (tIn (by decide +kernel))))
    have hz : va_Z "java/lang/String" "COMPACT_STRINGS" "Z" (.int 1) (fun _ => False) (U0.setVm s.vm) (U0.setVm s.vm).heap := va_Zof hl (va_tabs (A := args) (u := s) (U := U0.setVm s.vm) rfl rfl (hbig _ (wIn (by decide +kernel)))) (wEqI f1) (fun _ _ => id)
    exact wStatZ ((hz.moved hal).kept hzk)
  · obtain ⟨f, hf, hfr⟩ : ∃ f, (Term.static "jdk/internal/util/Preconditions" "SIOOBE_FORMATTER" "Ljava/util/function/BiFunction;").eval a0 (U0.setVm s.vm) none [] (U0.setVm s.vm) = some f ∧ f.isRef = true := by
      have hrF := f2
      simp only [Cond.before, Cond.holds, Cond.value] at hrF
      cases hh : (Term.static "jdk/internal/util/Preconditions" "SIOOBE_FORMATTER" "Ljava/util/function/BiFunction;").eval a0 (U0.setVm s.vm) none [] (U0.setVm s.vm) with
      | none => simp [hh] at hrF
      | some u => cases u <;> simp [hh] at hrF <;> exact ⟨_, rfl, rfl⟩
    have hl : (Cond.laysStatic "jdk/internal/util/Preconditions" "SIOOBE_FORMATTER" "Ljava/util/function/BiFunction;").before a0 (U0.setVm s.vm) = true := Cond.pre_warmed hW (by decide +kernel) (htb _ (List.mem_append_right _ (tIn (by decide +kernel))))
    have hi : (Cond.initialized "jdk/internal/util/Preconditions").before a0 (U0.setVm s.vm) = true := va_tabs (A := args) (u := s) (U := U0.setVm s.vm) rfl rfl (hbig _ (wIn (by decide +kernel)))
    exact ⟨f, hfr, wStatZ (((va_Zof hl hi hf (fun _ _ => id)).moved hal).kept hzk)⟩
