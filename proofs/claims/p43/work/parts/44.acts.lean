/-! the law's acts -/
def Ps (m : Mm) : Prop := m.rv 0 0 = 2 ∧ m.rv 0 3 = 22 ∧ m.rv 0 4 = 23
/-- between two acts: b batches are begun -/
def Act (T : Tp) (m : Mm) (w : Ws) (b : Nat) : Prop := Ps m ∧ Wb T m w ∧ Inv T w ∧ (∀ j, j < T.n → w.bu j = 0) ∧ w.qu = qof T w ∧ m.iv 1 7 = nI b ∧ (b = 0 → w.co (T.n - 1) = 0)
def AR (T : Tp) (w w' : Ws) : Prop := ∀ j, j < T.n → w.ru j ≤ w'.ru j ∧ w'.ru j ≤ w.ru j + (if j < T.ns then 0 else 1)
def rsm (f : Nat → Nat) : Nat → Nat
  | 0 => 0
  | n + 1 => rsm f n + f n
section AC
variable {T : Tp} {m m' : Mm} {w w' w1 : Ws} {x y v : Int32} {i j k b q : Nat}
theorem dy_low (L : Lay T) {p c a : Nat} (hp : p < 60) (hn : ¬ (3 ≤ p ∧ p ≤ 8)) : ¬ Dy T a p c := by
  obtain ⟨l1, l2, l3, l4, l5⟩ := L
  rintro (⟨i, hi, hd⟩ | hd | hd | hd | hd | hd | hd | ⟨i, hi, hs, hb, hd⟩)
  · have := (l2 i hi).1
    omega
  · omega
  · omega
  · omega
  · omega
  · omega
  · omega
  · have := (l2 i hi).2 hs
    unfold DF at hd
    omega
theorem db_low (L : Lay T) {p c a : Nat} (hp : p < 60) (hn : ¬ (22 ≤ p ∧ p ≤ 24)) : ¬ DB T a p c := by
  obtain ⟨l1, l2, l3, l4, l5⟩ := L
  rintro (⟨i, hi, hs, hb, hd⟩ | hd | hd | hd)
  · have := (l2 i hi).2 hs
    unfold DF at hd
    omega
  · omega
  · omega
  · omega
theorem Ps.dy (L : Lay T) {a : Nat} (h : Ps m) (f : FrP (Dy T a) m m') : Ps m' := ⟨(frv f (dy_low L (by omega) (by omega))).trans h.1, (frv f (dy_low L (by omega) (by omega))).trans h.2.1, (frv f (dy_low L (by omega) (by omega))).trans h.2.2⟩
theorem Ps.db (L : Lay T) {a : Nat} (h : Ps m) (f : FrP (DB T a) m m') : Ps m' := ⟨(frv f (db_low L (by omega) (by omega))).trans h.1, (frv f (db_low L (by omega) (by omega))).trans h.2.1, (frv f (db_low L (by omega) (by omega))).trans h.2.2⟩
/-- batches are begun or ended -/
theorem Wb.bat {c : Value} (h : Wb T m w) (e : m' = m.st 1 7 c) : Wb T m' w := by
  obtain ⟨L, hF, hC, r1, r2, r3, lg, r4⟩ := h
  have L' := L
  obtain ⟨l1, l2, l3, l4, l5⟩ := L
  have f : FrP (fun p c => p = 1 ∧ c = 7) m m' := fste e ⟨rfl, rfl⟩
  refine ⟨L', hF.fr f (fun p c hp hd => by omega), fun i hi => (hC i hi).fr f (by omega) (fun c _ => by have := (l2 i hi).1; omega) (fun hs p c p1 p2 hd => by have := (l2 i hi).2 hs; omega), fun i hi => ?_, fun j hj i hi => ?_, r3.fr f (by omega) (by omega) (fun c => by omega), lg, r4.fr f (by omega) (by omega) (fun c => by omega)⟩
  · have := (l2 i hi).1
    exact (r1 i hi).fr f (fun c _ _ => by omega) (by omega) (by omega) (fun c => by omega)
  · rw [fiv f (by omega)]
    exact r2 j hj i hi
theorem ar_rf : AR T w w := fun _ _ => ⟨Nat.le_refl _, Nat.le_add_right _ _⟩
theorem ar_of (I : Inv T w) (h : Rl T w w') : AR T w w' := fun j hj => by
  obtain ⟨a1, a2⟩ := h.2 j hj
  refine ⟨a1, ?_⟩
  by_cases hs : j < T.ns
  · rw [(I.2.1 j hj hs).1] at a2
    have : nzc 0 = 0 := rfl
    omega
  · rw [if_neg hs]
    have : nzc (w.co j) ≤ 1 := by unfold nzc; split <;> omega
    omega
theorem aStatus2 {K : Mm → Int32 → Prop} (A : Act T m w b) (k : K m (nI b)) : WPS_status 0 2 m K := by
  rw [← A.2.2.2.2.2.1] at k
  exact ⟨fun c => absurd c (by decide), fun _ => ⟨fun c => absurd c (by decide), fun _ => ⟨fun _ => ⟨1, A.1.1, k⟩, fun c => absurd rfl c⟩⟩⟩
theorem aStatus3 {K : Mm → Int32 → Prop} (A : Act T m w b) (k : K m (nI w.qu.length)) : WPS_status 0 3 m K := by
  refine ⟨fun c => absurd c (by decide), fun _ => ⟨fun c => absurd c (by decide), fun _ => ⟨fun c => absurd c (by decide), fun _ => ⟨fun _ => ⟨1, A.1.1, 4, A.2.1.2.1.2.2.1, sNu_size A.2.1.2.2.2.2.2.1 ?_⟩, fun c => absurd rfl c⟩⟩⟩⟩
  rw [List.length_map]
  exact k
theorem sWe_allRuns {K : Mm → Int32 → Prop} (h : Wb T m w) (kk : K m (nI (rsm w.ru T.n))) : WWe_allRuns 1 m K := by
  obtain ⟨L, hF, hC, r1, -⟩ := h
  have hn := L.1
  have e1 : (1 : Int32).toInt = 1 := rfl
  have c1 : (m.iv 1 2).toInt = (T.n : Int) := by rw [hF.1.2.2]; exact nI_toInt (by omega)
  have l2 : m.ln 2 = 24 := hF.1.2.1
  have e2 : (Int32.ofNat (m.ln 2)).toInt = 24 := by rw [l2]; rfl
  have Lp : ∀ (q i : Nat) (z : Int32), z.toInt = (i : Int) → i ≤ T.n → T.n - i < q → WWe_allRuns_L4 1 K q (nI (rsm w.ru i)) z m := by
    intro q
    induction q with
    | zero => intro i z _ _ hq; exact absurd hq (Nat.not_lt_zero _)
    | succ q ih =>
      intro i z hz hi hq
      refine WWe_allRuns_L4_i ⟨fun c => ⟨2, hF.1.1, fun c2 => ⟨⟨by omega, by omega⟩, fun c3 => ?_, fun p c3 => ?_⟩, fun c2 => by omega⟩, fun c => ?_⟩
      · rw [show z.toInt.toNat = i by omega, (hC i (by omega)).1] at c3
        omega
      · rw [show z.toInt.toNat = i by omega, (hC i (by omega)).1] at c3
        obtain rfl : T.A i = p := by omega
        rw [(r1 i (by omega)).2.1, nI_add]
        exact ih (i + 1) (z + 1) (by rw [i32_add hz e1 (by omega)]; omega) (by omega) (by omega)
      · obtain rfl : i = T.n := by omega
        exact kk
  exact ⟨T.n + 1, Lp _ 0 0 rfl (Nat.zero_le _) (by omega)⟩
theorem aStatus6 {K : Mm → Int32 → Prop} (A : Act T m w b) (k : K m (nI (rsm w.ru T.n))) : WPS_status 0 6 m K :=
  ⟨fun c => absurd c (by decide), fun _ => ⟨fun c => absurd c (by decide), fun _ => ⟨fun c => absurd c (by decide), fun _ => ⟨fun c => absurd c (by decide), fun _ => ⟨fun c => absurd c (by decide), fun _ => ⟨fun c => absurd c (by decide), fun _ => ⟨fun _ => ⟨1, A.1.1, sWe_allRuns A.2.1 k⟩, fun c => absurd rfl c⟩⟩⟩⟩⟩⟩⟩
theorem kd_ne5 (h : Wb T m w) (hk : k < T.n) : ¬ m.iv (T.A k) 0 = 5 := by
  obtain ⟨-, b2, -, -, -, b6, b7⟩ := h.2.2.1 k hk
  rw [b2]
  by_cases hs : k < T.ns
  · rw [b6 hs]
    decide
  · rcases (b7 (by omega)).1 with e | e <;> rw [e] <;> decide
theorem aKept {K : Mm → Int64 → Prop} (A : Act T m w b) (hk : k < T.n) (hx : x.toInt = (k : Int)) (kk : K m (w.ou k)) : WPS_kept 0 x m K := by
  have h := A.2.1
  refine ⟨1, A.1.1, sWe_cell h hx hk (nn_ref ⟨fun c => absurd c (kd_ne5 h hk), fun _ => ?_⟩)⟩
  rw [(h.2.2.2.1 k hk).2.2.1]
  exact kk
theorem aCellOf3 {K : Mm → Int32 → Prop} (A : Act T m w b) (hk : k < T.n) (hx : x.toInt = (k : Int)) (kk : K m (w.co k)) : WPS_cellOf 0 x 3 m K := by
  have h := A.2.1
  refine ⟨1, A.1.1, sWe_cell h hx hk (nn_ref ⟨fun c => absurd c (by decide), fun _ => ⟨fun c => absurd c (by decide), fun _ => ⟨fun c => absurd c (by decide), fun _ => ⟨fun _ => ?_, fun c => absurd rfl c⟩⟩⟩⟩)⟩
  rw [(h.2.2.2.1 k hk).1]
  exact kk
theorem aCellOf4 {K : Mm → Int32 → Prop} (A : Act T m w b) (hk : k < T.n) (hx : x.toInt = (k : Int)) (kk : ∀ z, K m z) : WPS_cellOf 0 x 4 m K := by
  have h := A.2.1
  exact ⟨1, A.1.1, sWe_cell h hx hk (nn_ref ⟨fun c => absurd c (by decide), fun _ => ⟨fun c => absurd c (by decide), fun _ => ⟨fun c => absurd c (by decide), fun _ => ⟨fun c => absurd c (by decide), fun _ => ⟨fun _ => kk _, fun c => absurd rfl c⟩⟩⟩⟩⟩)⟩
theorem aPlain {K : Mm → Int64 → Prop} (S : Ef T) (A : Act T m w b) (hk : k < T.n) (hx : x.toInt = (k : Int)) (kk : ∀ m', Act T m' w b → K m' (pl T w.ou k)) : WPS_plain 0 x m K := by
  obtain ⟨P, h, I, bu0, hq, hb, h0⟩ := A
  have go : ((1 : Int32) = 0 → False) ∧ (¬ (1 : Int32) = 0 → ∃ p6, m.rv 0 4 = p6 + 1 ∧ WBe_outcomeNow p6 x m (fun m9 z11 => K m9 z11)) := ⟨fun c => absurd c (by decide), fun _ => ⟨22, P.2.2, sBe_outcomeNow S.1 S.2.1 h hk hx (fun m' h' f' => kk m' ⟨P.db h.1 f', h', I, bu0, hq, (fiv f' (db_low h.1 (by omega) (by omega))).trans hb, h0⟩)⟩⟩
  exact ⟨1, P.1, sWe_cell h hx hk (nn_ref ⟨fun c => absurd c (kd_ne5 h hk), fun _ => go⟩)⟩
/-- behind a change of the web: the flush, if no batch is begun -/
theorem aFlush {K : Mm → Prop} (S : Ef T) (P : Ps m) (h : Wb T m w) (I : Inv T w) (bu0 : ∀ j, j < T.n → w.bu j = 0) (hqu : w.qu = qof T w) (hb : m.iv 1 7 = nI b) (hb31 : b < 2147483648) (kk : ∀ m' w', Act T m' w' b → Rl T w w' → (0 < b → w' = w) → (w.co (T.n - 1) = 0 → w' = w) → m'.nx = m.nx → K m') : WPu_flushUnlessBatch 21 m K := by
  refine sPu_flush S h I bu0 hqu hb hb31 (fun b1 => kk m w ⟨P, h, I, bu0, hqu, hb, fun e => by omega⟩ Rl.rf (fun _ => rfl) (fun _ => rfl) rfl) (fun b0 m' w' a1 a2 a3 a4 a5 a6 a7 a8 => ?_)
  refine kk m' w' ⟨P.dy h.1 a8, a1, a2, a3, ?_, (fiv a8 (dy_low h.1 (by omega) (by omega))).trans hb, fun _ => a5⟩ a7 (fun e => by omega) (fun c => a6 ?_) (fnx a8)
  · rw [a4]
    exact (if_pos a5).symm
  · rw [hqu]
    exact if_pos c
theorem aBegin {K : Mm → Int32 → Prop} (A : Act T m w b) (kk : ∀ m' z, Act T m' w (b + 1) → K m' z) : WPS_begin 0 m K := by
  obtain ⟨P, h, I, bu0, hq, hb, h0⟩ := A
  refine ⟨1, P.1, fun m4 e4 => ?_⟩
  have P4 : Ps m4 := by
    obtain ⟨p1, p2, p3⟩ := P
    exact ⟨by rw [e4, sr_ne (by omega)]; exact p1, by rw [e4, sr_ne (by omega)]; exact p2, by rw [e4, sr_ne (by omega)]; exact p3⟩
  exact ⟨1, P4.1, kk m4 _ ⟨P4, h.bat e4, I, bu0, hq, by rw [e4, si_eq, hb]; exact nI_1 _, fun e => by omega⟩⟩
theorem aEnd {K : Mm → Int32 → Prop} (S : Ef T) (A : Act T m w (b + 1)) (hb31 : b < 2147483647) (kk : ∀ m' w' z, Act T m' w' b → AR T w w' → K m' z) : WPS_end 0 m K := by
  obtain ⟨P, h, I, bu0, hq, hb, h0⟩ := A
  refine ⟨1, P.1, fun _ m5 e5 => ?_, fun c => ?_⟩
  · have P5 : Ps m5 := by
      obtain ⟨p1, p2, p3⟩ := P
      exact ⟨by rw [e5, sr_ne (by omega)]; exact p1, by rw [e5, sr_ne (by omega)]; exact p2, by rw [e5, sr_ne (by omega)]; exact p3⟩
    refine ⟨21, P5.2.1, aFlush S P5 (h.bat e5) I bu0 hq (by rw [e5, si_eq, hb]; exact nI_pred b) (by omega) (fun m' w' A' r' _ _ _ => ⟨1, A'.1.1, kk m' w' _ A' (ar_of I r')⟩)⟩
  · exfalso
    rw [hb, nI_toInt (by omega)] at c
    omega
theorem aWrite {K : Mm → Int32 → Prop} (S : Ef T) (A : Act T m w b) (hb31 : b < 2147483648) (hk : k < T.ns) (hx : x.toInt = (k : Int)) (kk : ∀ m' w' z, Act T m' w' b → AR T w w' → (0 < b → ∀ j, j < T.n → w'.ru j = w.ru j) → K m' z) : WPS_write 0 x v m K := by
  obtain ⟨P, h, I, bu0, hq, hb, h0⟩ := A
  have hkn : k < T.n := by have := S.2.2.1; omega
  have st := h.2.2.1 k hkn
  refine ⟨1, P.1, sWe_cell h hx hkn (nn_ref ⟨fun _ _ => ⟨fun _ => ⟨21, P.2.1, ?_⟩, fun c => absurd st.2.2.2.1 c⟩, fun c => ?_⟩)⟩
  · refine sPu_writeTo S h I hq hk hx ?_ (fun m' w' a1 a2 a3 a4 a5 a6 => ?_)
    · exact ⟨21, P.2.1, aFlush S P h I bu0 hq hb hb31 (fun m' w' A' r' e1 _ _ => kk m' w' _ A' (ar_of I r') (fun hb0 j _ => by rw [e1 hb0]))⟩
    · have P' := P.dy h.1 a6
      refine ⟨21, P'.2.1, aFlush S P' a1 a2 (fun j hj => (a3 j hj).trans (bu0 j hj)) a4 ((fiv a6 (dy_low h.1 (by omega) (by omega))).trans hb) hb31 (fun m2 w2 A2 r2 e2 _ _ => kk m2 w2 _ A2 (fun j hj => ?_) (fun hb0 j hj => by rw [e2 hb0]; exact a5 j hj))⟩
      have := ar_of a2 r2 j hj
      rw [a5 j hj] at this
      exact this
  · rw [st.2.1, st.2.2.2.2.2.1 hk] at c
    exact absurd rfl c
theorem pl_src (S : Ef T) (hn : T.n ≤ 23) {s1 s2 : Nat → Int64} (h : ∀ j, j < T.ns → s1 j = s2 j) : ∀ k, k < T.n → pl T s1 k = pl T s2 k := by
  intro k
  induction k using Nat.strongRecOn with
  | _ k ih =>
    intro hk
    rw [pl_eq S.1 hn hk, pl_eq S.1 hn hk]
    by_cases hs : k < T.ns
    · rw [if_pos hs, if_pos hs]
      exact h k hs
    · rw [if_neg hs, if_neg hs]
      refine congrArg Prod.fst (evP_congr (fun i hi => ?_))
      have := evP_lt (S.1 k hk (by omega)) i hi
      exact ih i this (by omega)
theorem clean_is (S : Ef T) (A : Act T m w b) (hk : k < T.n) (hc : w.co k = 0) : w.ou k = pl T w.ou k := clean_pl A.2.2.1 S.1 24 k hk (by have := A.2.1.1.1; omega) hc
/-- a read tells what plain tells, ahead and behind; the effect's, where no batch is begun -/
theorem aRead {K : Mm → Int64 → Prop} (S : Ef T) (A : Act T m w b) (hb31 : b < 2147483648) (hk : k < T.n) (hx : x.toInt = (k : Int)) (he : k + 1 = T.n → b = 0) (kk : ∀ m' w', Act T m' w' b → AR T w w' → (∀ j, j < T.n → pl T w'.ou j = pl T w.ou j) → K m' (pl T w.ou k)) : WPS_read 0 x m K := by
  have A0 := A
  obtain ⟨P, h, I, bu0, hq, hb, h0⟩ := A
  have hn := h.1.1
  have st := h.2.2.1 k hk
  refine ⟨1, P.1, sWe_cell h hx hk (nn_ref ⟨fun c => absurd c (kd_ne5 h hk), fun _ _ => ⟨fun _ => ⟨fun c => ⟨21, P.2.1, ?_⟩, fun c => ⟨21, P.2.1, ?_⟩⟩, fun c => absurd st.2.2.2.1 c⟩⟩)⟩
  · rw [st.2.1] at c
    have hke : k + 1 ≠ T.n := fun e => by
      have := S.2.2.2
      rw [show T.n - 1 = k by omega, c] at this
      exact absurd this (by decide)
    have hke' : k < T.n - 1 := by omega
    have qlen : w.qu.length < 24 := by
      rw [hq]
      unfold qof
      split
      · exact (by show 0 < 24; omega)
      · exact (by show 1 < 24; omega)
    refine sPu_pull S.1 S.2.1 h I qlen hk hx (fun j hj => bu0 j (by omega)) (fun m16 w16 a1 a2 a3 a4 a5 => ?_)
    have P16 := P.dy h.1 a5
    have le := a4.2.1 (T.n - 1) (by omega) hke'
    have q16 : w16.qu = qof T w16 := by
      rw [a4.2.2.2.1, hq]
      unfold qof
      rcases le.2.2 with e | ⟨e1, e2⟩
      · rw [e]
      · rw [e1, e2]
        rfl
    have src : ∀ j, j < T.n → pl T w16.ou j = pl T w.ou j := pl_src S hn (fun j hj => (a4.1 j (by have := S.2.2.1; omega) (I.2.1 j (by have := S.2.2.1; omega) hj).1).2.1)
    refine ⟨21, P16.2.1, aFlush S P16 a1 a2 (fun j hj => (a4.2.2.1 j hj).trans (bu0 j hj)) q16 ((fiv a5 (dy_low h.1 (by omega) (by omega))).trans hb) hb31 (fun m' w' A' r' e1 e2 _ => ?_)⟩
    have ew : w' = w16 := by
      by_cases b0 : b = 0
      · refine e2 ?_
        have c0 := h0 b0
        exact (a4.1 _ (by omega) c0).1
      · exact e1 (by omega)
    subst ew
    have vk : m16.lg (T.A k) 7 = pl T w.ou k := by
      rw [(a1.2.2.2.1 k hk).2.2.1, ← src k hk]
      exact clean_pl a2 S.1 24 k hk (by omega) a3
    rw [vk]
    exact kk m' w' A' (ar_of I (Rl.of a4)) src
  · rw [st.2.1] at c
    refine aFlush S P h I bu0 hq hb hb31 (fun m' w' A' r' e1 e2 _ => ?_)
    have ck : w.co k = 0 := by
      by_cases hs : k < T.ns
      · exact (I.2.1 k hk hs).1
      · rcases (st.2.2.2.2.2.2 (by omega)).1 with e | e
        · exact absurd e c
        · have hl := S.2.1 k hk e
          have := h0 (he hl)
          rw [show T.n - 1 = k by omega] at this
          exact this
    have ew : w' = w := by
      by_cases b0 : b = 0
      · exact e2 (h0 b0)
      · exact e1 (by omega)
    subst ew
    rw [(h.2.2.2.1 k hk).2.2.1, clean_is S A0 hk ck]
    exact kk m' w' A' ar_rf (fun _ _ => rfl)
end AC
