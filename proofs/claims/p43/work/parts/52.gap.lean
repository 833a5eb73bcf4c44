/-! another map of places to addresses, where foreign cells lie between -/
section GP
variable {ks : List Nat} {h : List xE} {b : Nat} {o o1 : Nat → Nat} {ρ : Nat → Int32 × Int64} {ca : Nat → ClassId} {D : va_G} {H : Heap}
theorem xAd_eq {k : Nat} (e : ∀ q, q < h.length → o q = o1 q) (hk : k = 0 ∨ ∃ p, k = p + 1 ∧ p < h.length) : xAd b o k = xAd b o1 k := by
  rcases hk with rfl | ⟨p, rfl, hp⟩
  · rfl
  · exact e p hp
theorem xSh_eq {v : Value} {c : Nat × Nat} (hT : TT ks h) (e : ∀ q, q < h.length → o q = o1 q) (hv : gV ks c v) : xSh b o ρ v = xSh b o1 ρ v := by
  obtain ⟨c1, c2⟩ := c
  unfold gV at hv
  split at hv
  · obtain ⟨x, rfl⟩ := hv
    rfl
  · obtain ⟨x, rfl, -⟩ := hv
    rfl
  · obtain ⟨x, rfl⟩ := hv
    rfl
  · rcases hv with rfl | ⟨p, rfl, hp⟩
    · rfl
    · show Value.ref (xAd b o (p + 1)) = Value.ref (xAd b o1 (p + 1))
      rw [xAd_eq e (Or.inr ⟨p, rfl, by rw [hT.1]; exact xnth_lt hp⟩)]
  · exact absurd hv id
theorem xarr_q {cA : ClassId} {n : Nat} {f g : Nat → Option Nat} (h : ∀ j, j < n → f j = g j) : vp_cell cA (n, .inr (.inr (.inr (.inr f)))) = vp_cell cA (n, .inr (.inr (.inr (.inr g)))) := by
  rw [vp_cell_q, vp_cell_q]
  unfold arrV
  have e1 : (fun j : Fin n => va_rf (f j.val)) = (fun j : Fin n => va_rf (g j.val)) := funext fun j => by rw [h j.val j.isLt]
  rw [e1]
theorem xAt_mv {a t : Nat} {x : xE} (hT : TT ks h) (e : ∀ q, q < h.length → o q = o1 q) (hx : gE ks t x) (k : va_at D vwCl (a, xCv b o ρ ca x) H) : va_at D vwCl (a, xCv b o1 ρ ca x) H := by
  unfold gE at hx
  have arr : ∀ (t n : Nat) (f : Nat → Option Nat), (∀ i, i < n → f i = none ∨ ∃ p, f i = some (p + 1) ∧ p < h.length) → va_at D vwCl (a, xCv b o ρ ca (.inl (t, n, .inr (.inr (.inr (.inr f)))))) H → va_at D vwCl (a, xCv b o1 ρ ca (.inl (t, n, .inr (.inr (.inr (.inr f)))))) H := by
    intro t n f hf k
    have k : H[a]? = some (vp_cell (ca t) (n, .inr (.inr (.inr (.inr (fun j => (f j).map (xAd b o))))))) := k
    show H[a]? = some (vp_cell (ca t) (n, .inr (.inr (.inr (.inr (fun j => (f j).map (xAd b o1)))))))
    rw [k, xarr_q (fun j hj => ?_)]
    rcases hf j hj with e2 | ⟨p, e2, hp⟩
    · rw [e2]
      rfl
    · rw [e2]
      show some (xAd b o (p + 1)) = some (xAd b o1 (p + 1))
      rw [xAd_eq e (Or.inr ⟨p, rfl, hp⟩)]
  split at hx
  · obtain ⟨fs, rfl, hl, hf⟩ := hx
    have : xCv b o ρ ca (.inr (t - 10, fs)) = xCv b o1 ρ ca (.inr (t - 10, fs)) := by
      show (Sum.inr (t - 10, fs.map (xSh b o ρ)) : va_E) = Sum.inr (t - 10, fs.map (xSh b o1 ρ))
      rw [List.map_congr_left (fun v hv => ?_)]
      obtain ⟨s, hs, es⟩ := List.getElem_of_mem hv
      obtain ⟨v', h1, h2⟩ := hf s (by omega)
      rw [xnth_eq, List.getElem?_eq_getElem hs] at h1
      obtain rfl : v = v' := es.symm.trans (Option.some.inj h1)
      exact xSh_eq hT e h2
    rw [← this]
    exact k
  · split at hx
    · obtain ⟨n, f, rfl⟩ := hx
      exact k
    · obtain ⟨n, f, rfl⟩ := hx
      exact k
    · obtain ⟨n, f, rfl, hf⟩ := hx
      exact arr 3 n f (fun i hi => (hf i hi).imp id (fun ⟨p, e1, e2⟩ => ⟨p, e1, by rw [hT.1]; exact xnth_lt e2⟩)) k
    · obtain ⟨n, f, rfl, hf⟩ := hx
      exact arr 4 n f (fun i hi => (hf i hi).imp id (fun ⟨p, e1, e2⟩ => ⟨p, e1, by rw [hT.1]; exact xnth_lt e2⟩)) k
    · exact absurd hx id
theorem xWs_mv (hT : TT ks h) (e : ∀ q, q < h.length → o q = o1 q) (k : va_P D vwCl (xWs b o ρ ca h) H) : va_P D vwCl (xWs b o1 ρ ca h) H := by
  intro i q hq
  obtain ⟨x, hx, rfl⟩ := xWs_at hq
  have hl : i < h.length := (List.getElem?_eq_some_iff.mp hx).1
  obtain ⟨t, ht⟩ : ∃ t, xnth ks i = some t := ⟨ks[i]'(by rw [← hT.1]; exact hl), by rw [xnth_eq]; exact List.getElem?_eq_getElem _⟩
  obtain ⟨x', h1, h2⟩ := hT.2 i t ht
  rw [xnth_eq, hx] at h1
  obtain rfl : x = x' := Option.some.inj h1
  have k2 := k _ _ (xWs_get (b := b) (o := o) (ρ := ρ) (ca := ca) hx)
  rw [e i hl] at k2
  exact xAt_mv hT e h2 k2
/-- from place n on, the addresses from k on -/
def rmp (o : Nat → Nat) (n k : Nat) : Nat → Nat := fun q => if q < n then o q else k + (q - n)
theorem rmp_lo {n k q : Nat} (hq : q < n) : rmp o n k q = o q := if_pos hq
theorem rmp_hi {n k i : Nat} : rmp o n k (n + i) = k + i := by
  unfold rmp
  rw [if_neg (by omega), Nat.add_sub_cancel_left]
theorem rmp_up {n k : Nat} (hu : xUp o) (hk : ∀ q, q < n → o q < k) : xUp (rmp o n k) := fun i j hij => by
  unfold rmp
  by_cases h1 : i < n
  · rw [if_pos h1]
    by_cases h2 : j < n
    · rw [if_pos h2]
      exact hu i j hij
    · rw [if_neg h2]
      have := hk i h1
      omega
  · rw [if_neg h1, if_neg (by omega)]
    omega
end GP
