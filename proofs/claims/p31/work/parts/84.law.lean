/-! the law's walk -/
section LWS
variable {L : Nat} {iv : List (Int × Int)} {M : xM} {F G G2 pc pc' len a b : Nat} {lv : xLv} {h : List xE} {Q : yQ} {st r rest : List Value} {x : Int32} {ks : List cT} {ρ : Nat → xE} {P : sg → Value → Prop}
theorem kLQ (c : yC L iv M F G pc lv st h Q (LQ ks ρ P) G2 pc' rest) (k : ∀ h' ks' σ' v, KE ks ks' 72 → HT ks' σ' ρ h' → P σ' v → yT L iv M F G2 pc' lv (v :: rest) h' Q) : yT L iv M F G pc lv st h Q :=
  c (fun h' r ⟨ks', σ', v, e1, e2, e3, e4⟩ => by subst e3; exact k h' ks' σ' v e1 e2 e4)
theorem kLM (c : yC L iv M F G pc lv st h Q (LM ks ρ P) G2 pc' rest) (k : ∀ h' σ' v, HT ks σ' ρ h' → P σ' v → yT L iv M F G2 pc' lv (v :: rest) h' Q) : yT L iv M F G pc lv st h Q :=
  c (fun h' r ⟨σ', v, e2, e3, e4⟩ => by subst e3; exact k h' σ' v e2 e4)
theorem yT.sia {z : Int} {j : Nat} (hv : xfl iv (j + 2000) = some z) (px : x.toInt = (j : Int)) (hj : j < L - 1) (hL : L - 1 ≤ 60000) (hf : xfet (xMt M) pc = some (.iaload, len, a, b)) (hp : pc + len = pc') (k : yT L iv M F G pc' lv (.int (Int32.ofInt z) :: r) h Q) : yT L iv M F G pc lv (.int x :: .ref 0 :: r) h Q := by
  subst hp
  refine yT.p hf rfl (fun C cs sl fr => ?_) k
  show (bif xin x (L - 1) then (match xfl iv (x.toNatClampNeg + 2000) with
      | some z => some ((pc + len, lv, Value.int (Int32.ofInt z) :: r, h, sl, fr), (([], cs) : xO))
      | none => none) else none) = _
  have hx : x.toNatClampNeg = j := by
    show x.toInt.toNat = j
    omega
  rw [xin_of (n := L - 1) px ⟨by omega, by omega⟩, hx, hv]
  rfl
theorem yT.sal {N : Nat} (hL : L = N + 1) (hN : N ≤ 60000) (hf : xfet (xMt M) pc = some (.arraylength, len, a, b)) (hp : pc + len = pc') (k : ∀ z : Int32, z.toInt = (N : Int) → yT L iv M F G pc' lv (.int z :: r) h Q) : yT L iv M F G pc lv (.ref 0 :: r) h Q := by
  subst hp
  subst hL
  exact yT.p hf rfl (fun C cs sl fr => rfl) (k (Int32.ofNat N) (i32_nat (by omega)))
end LWS
set_option maxRecDepth 100000 in
set_option maxHeartbeats 4000000 in
theorem l_0 {L : Nat} {iv : List (Int × Int)} {zz : Nat → Int32} {ρ : Nat → xE} {ks : List cT} {B0 : Nat} {σ : sg} {h : List xE} {lv : xLv} {k n N : Nat} {Q : yQ} {x : Int32} (hL : L = N + 1) (hN : N ≤ 3072) (hV : ∀ j, j < N → xfl iv (j + 2000) = some (zz j).toInt) (K : KE KS0 ks B0) (hT : HT ks σ ρ h) (R : RI k σ) (E : EQ σ) (hk : k ≤ 511) (g0 : xget lv 0 = some (.ref 0)) (g1 : xget lv 1 = some (.ref (0 + 1))) (g2 : xget lv 2 = some (.ref (60 + 1))) (g3 : xget lv 3 = some (.int x)) (ex : x.toInt = ((6 * k : Nat) : Int)) (hi : 6 * k + 6 ≤ N)
    (next : ∀ (ks' : List cT) (σ' : sg) (h' : List xE), KE KS0 ks' (B0 + 72) → HT ks' σ' ρ h' → RI (k + 1) σ' → EQ σ' → yT L iv rL_law 1700 (3783 * n + 763 * nz σ') 1358 lv [] h' Q) : yT L iv rL_law 1700 (3783 * (n + 1) + 763 * nz σ) 208 lv [] h Q := by
  refine yT.aan (pc' := 209) g1 rfl rfl rfl ?_
  refine yT.aan (pc' := 210) g0 rfl rfl rfl ?_
  refine yT.iln (pc' := 211) g3 rfl rfl ?_
  refine yT.kI (pc' := 212) rfl rfl (by decide) (fun c1 e2 => ?_)
  refine yT.ad2 (pc' := 213) (Z := ((6 * k : Nat) : Int) + 1) ex e2 rfl rfl (by omega) (fun z3 e4 => ?_)
  refine yT.sia (j := 6 * k + 1) (pc' := 214) (hV _ (by omega)) (by omega) (by omega) (by omega) rfl rfl ?_
  refine yT.aan (pc' := 215) g0 rfl rfl rfl ?_
  refine yT.iln (pc' := 216) g3 rfl rfl ?_
  refine yT.kI (pc' := 217) rfl rfl (by decide) (fun c5 e6 => ?_)
  refine yT.ad2 (pc' := 218) (Z := ((6 * k : Nat) : Int) + 2) ex e6 rfl rfl (by omega) (fun z7 e8 => ?_)
  refine yT.sia (j := 6 * k + 2) (pc' := 219) (hV _ (by omega)) (by omega) (by omega) (by omega) rfl rfl ?_
  refine yT.aan (pc' := 220) g0 rfl rfl rfl ?_
  refine yT.iln (pc' := 221) g3 rfl rfl ?_
  refine yT.kI (pc' := 222) rfl rfl (by decide) (fun c9 e10 => ?_)
  refine yT.ad2 (pc' := 223) (Z := ((6 * k : Nat) : Int) + 3) ex e10 rfl rfl (by omega) (fun z11 e12 => ?_)
  refine yT.sia (j := 6 * k + 3) (pc' := 224) (hV _ (by omega)) (by omega) (by omega) (by omega) rfl rfl ?_
  obtain ⟨G, m, hG, w⟩ := w_0 hT K R E hk (Int32.ofInt (zz (6 * k + 1)).toInt) (Int32.ofInt (zz (6 * k + 2)).toInt) (Int32.ofInt (zz (6 * k + 3)).toInt)
  refine kLQ (yT.cc (G2 := 3783 * n + 763 * m) (pc' := 227) rfl rfl rfl hT (K.up rfl : xnth ks 0 = some (18, 0)) xM_107 w rfl (by decide) (by omega) rfl) (fun h1 ks1 σ1 v1 ke1 hT1 P1 => ?_)
  have K1 := K.tr ke1
  obtain ⟨y1, hv1⟩ := (P1.2.2.2.imp (fun _ h => h.1))
  subst hv1
  refine yT.p (pc' := 228) rfl rfl (fun _ _ _ _ => rfl) ?_
  refine yT.aan (pc' := 229) g2 rfl rfl rfl ?_
  refine yT.aan (pc' := 230) g0 rfl rfl rfl ?_
  refine yT.iln (pc' := 231) g3 rfl rfl ?_
  refine yT.kI (pc' := 232) rfl rfl (by decide) (fun c13 e14 => ?_)
  refine yT.ad2 (pc' := 233) (Z := ((6 * k : Nat) : Int) + 1) ex e14 rfl rfl (by omega) (fun z15 e16 => ?_)
  refine yT.sia (j := 6 * k + 1) (pc' := 234) (hV _ (by omega)) (by omega) (by omega) (by omega) rfl rfl ?_
  refine yT.aan (pc' := 235) g0 rfl rfl rfl ?_
  refine yT.iln (pc' := 236) g3 rfl rfl ?_
  refine yT.kI (pc' := 237) rfl rfl (by decide) (fun c17 e18 => ?_)
  refine yT.ad2 (pc' := 238) (Z := ((6 * k : Nat) : Int) + 2) ex e18 rfl rfl (by omega) (fun z19 e20 => ?_)
  refine yT.sia (j := 6 * k + 2) (pc' := 239) (hV _ (by omega)) (by omega) (by omega) (by omega) rfl rfl ?_
  refine yT.aan (pc' := 240) g0 rfl rfl rfl ?_
  refine yT.iln (pc' := 241) g3 rfl rfl ?_
  refine yT.kI (pc' := 242) rfl rfl (by decide) (fun c21 e22 => ?_)
  refine yT.ad2 (pc' := 243) (Z := ((6 * k : Nat) : Int) + 3) ex e22 rfl rfl (by omega) (fun z23 e24 => ?_)
  refine yT.sia (j := 6 * k + 3) (pc' := 244) (hV _ (by omega)) (by omega) (by omega) (by omega) rfl rfl ?_
  refine kLM (yT.cc (G2 := 3783 * n + 763 * m) (pc' := 247) rfl rfl rfl hT1 (K1.up rfl : xnth ks1 60 = some (19, 0)) xM_212 (m_0 hT1 K1 hk (Int32.ofInt (zz (6 * k + 1)).toInt) (Int32.ofInt (zz (6 * k + 2)).toInt) (Int32.ofInt (zz (6 * k + 3)).toInt) P1) rfl (by decide) (by omega) rfl) (fun h2 σ2 v2 hT2 P2 => ?_)
  have hv2 := P2.2.2.2
  subst hv2
  have hnz := P2.2.2.1
  refine yT.p (pc' := 248) rfl rfl (fun _ _ _ _ => rfl) ?_
  refine yT.p (pc' := 1358) rfl rfl (fun _ _ _ _ => rfl) ?_
  exact yT.w (next ks1 σ2 h2 K1 hT2 P2.1 P2.2.1) (Nat.le_refl _) (by omega) (fun _ _ h => h)

set_option maxRecDepth 100000 in
set_option maxHeartbeats 4000000 in
theorem l_1 {L : Nat} {iv : List (Int × Int)} {zz : Nat → Int32} {ρ : Nat → xE} {ks : List cT} {B0 : Nat} {σ : sg} {h : List xE} {lv : xLv} {k n N : Nat} {Q : yQ} {x : Int32} (hL : L = N + 1) (hN : N ≤ 3072) (hV : ∀ j, j < N → xfl iv (j + 2000) = some (zz j).toInt) (K : KE KS0 ks B0) (hT : HT ks σ ρ h) (R : RI k σ) (E : EQ σ) (hk : k ≤ 511) (g0 : xget lv 0 = some (.ref 0)) (g1 : xget lv 1 = some (.ref (0 + 1))) (g2 : xget lv 2 = some (.ref (60 + 1))) (g3 : xget lv 3 = some (.int x)) (ex : x.toInt = ((6 * k : Nat) : Int)) (hi : 6 * k + 6 ≤ N)
    (next : ∀ (ks' : List cT) (σ' : sg) (h' : List xE), KE KS0 ks' (B0 + 72) → HT ks' σ' ρ h' → RI (k + 1) σ' → EQ σ' → yT L iv rL_law 1700 (3783 * n + 763 * nz σ') 1358 lv [] h' Q) : yT L iv rL_law 1700 (3783 * (n + 1) + 763 * nz σ) 251 lv [] h Q := by
  refine yT.aan (pc' := 252) g1 rfl rfl rfl ?_
  refine yT.aan (pc' := 253) g0 rfl rfl rfl ?_
  refine yT.iln (pc' := 254) g3 rfl rfl ?_
  refine yT.kI (pc' := 255) rfl rfl (by decide) (fun c1 e2 => ?_)
  refine yT.ad2 (pc' := 256) (Z := ((6 * k : Nat) : Int) + 1) ex e2 rfl rfl (by omega) (fun z3 e4 => ?_)
  refine yT.sia (j := 6 * k + 1) (pc' := 257) (hV _ (by omega)) (by omega) (by omega) (by omega) rfl rfl ?_
  refine yT.aan (pc' := 258) g0 rfl rfl rfl ?_
  refine yT.iln (pc' := 259) g3 rfl rfl ?_
  refine yT.kI (pc' := 260) rfl rfl (by decide) (fun c5 e6 => ?_)
  refine yT.ad2 (pc' := 261) (Z := ((6 * k : Nat) : Int) + 2) ex e6 rfl rfl (by omega) (fun z7 e8 => ?_)
  refine yT.sia (j := 6 * k + 2) (pc' := 262) (hV _ (by omega)) (by omega) (by omega) (by omega) rfl rfl ?_
  refine yT.aan (pc' := 263) g0 rfl rfl rfl ?_
  refine yT.iln (pc' := 264) g3 rfl rfl ?_
  refine yT.kI (pc' := 265) rfl rfl (by decide) (fun c9 e10 => ?_)
  refine yT.ad2 (pc' := 266) (Z := ((6 * k : Nat) : Int) + 3) ex e10 rfl rfl (by omega) (fun z11 e12 => ?_)
  refine yT.sia (j := 6 * k + 3) (pc' := 267) (hV _ (by omega)) (by omega) (by omega) (by omega) rfl rfl ?_
  refine yT.fl (pc' := 268) rfl rfl (fun _ _ _ _ => rfl) (fun y13 => ?_)
  refine yT.kb (pc' := 270) rfl rfl (by decide) (fun c14 e15 => ?_)
  refine yT.fl (pc' := 271) rfl rfl (fun _ _ _ _ => rfl) (fun y16 => ?_)
  refine yT.aan (pc' := 272) g0 rfl rfl rfl ?_
  refine yT.iln (pc' := 273) g3 rfl rfl ?_
  refine yT.kI (pc' := 274) rfl rfl (by decide) (fun c17 e18 => ?_)
  refine yT.ad2 (pc' := 275) (Z := ((6 * k : Nat) : Int) + 4) ex e18 rfl rfl (by omega) (fun z19 e20 => ?_)
  refine yT.sia (j := 6 * k + 4) (pc' := 276) (hV _ (by omega)) (by omega) (by omega) (by omega) rfl rfl ?_
  refine yT.fl (pc' := 277) rfl rfl (fun _ _ _ _ => rfl) (fun y21 => ?_)
  refine yT.fl (pc' := 280) rfl rfl (fun _ _ _ _ => rfl) (fun y22 => ?_)
  refine yT.fl (pc' := 281) rfl rfl (fun _ _ _ _ => rfl) (fun y23 => ?_)
  refine yT.fl (pc' := 282) rfl rfl (fun _ _ _ _ => rfl) (fun y24 => ?_)
  obtain ⟨G, m, hG, w⟩ := w_1 hT K R E hk (Int32.ofInt (zz (6 * k + 1)).toInt) (Int32.ofInt (zz (6 * k + 2)).toInt) y24
  refine kLQ (yT.cc (G2 := 3783 * n + 763 * m) (pc' := 285) rfl rfl rfl hT (K.up rfl : xnth ks 0 = some (18, 0)) xM_108 w rfl (by decide) (by omega) rfl) (fun h1 ks1 σ1 v1 ke1 hT1 P1 => ?_)
  have K1 := K.tr ke1
  obtain ⟨y1, hv1⟩ := P1.2.2.2
  subst hv1
  refine yT.p (pc' := 286) rfl rfl (fun _ _ _ _ => rfl) ?_
  refine yT.aan (pc' := 287) g2 rfl rfl rfl ?_
  refine yT.aan (pc' := 288) g0 rfl rfl rfl ?_
  refine yT.iln (pc' := 289) g3 rfl rfl ?_
  refine yT.kI (pc' := 290) rfl rfl (by decide) (fun c25 e26 => ?_)
  refine yT.ad2 (pc' := 291) (Z := ((6 * k : Nat) : Int) + 1) ex e26 rfl rfl (by omega) (fun z27 e28 => ?_)
  refine yT.sia (j := 6 * k + 1) (pc' := 292) (hV _ (by omega)) (by omega) (by omega) (by omega) rfl rfl ?_
  refine yT.aan (pc' := 293) g0 rfl rfl rfl ?_
  refine yT.iln (pc' := 294) g3 rfl rfl ?_
  refine yT.kI (pc' := 295) rfl rfl (by decide) (fun c29 e30 => ?_)
  refine yT.ad2 (pc' := 296) (Z := ((6 * k : Nat) : Int) + 2) ex e30 rfl rfl (by omega) (fun z31 e32 => ?_)
  refine yT.sia (j := 6 * k + 2) (pc' := 297) (hV _ (by omega)) (by omega) (by omega) (by omega) rfl rfl ?_
  refine yT.aan (pc' := 298) g0 rfl rfl rfl ?_
  refine yT.iln (pc' := 299) g3 rfl rfl ?_
  refine yT.kI (pc' := 300) rfl rfl (by decide) (fun c33 e34 => ?_)
  refine yT.ad2 (pc' := 301) (Z := ((6 * k : Nat) : Int) + 3) ex e34 rfl rfl (by omega) (fun z35 e36 => ?_)
  refine yT.sia (j := 6 * k + 3) (pc' := 302) (hV _ (by omega)) (by omega) (by omega) (by omega) rfl rfl ?_
  refine yT.fl (pc' := 303) rfl rfl (fun _ _ _ _ => rfl) (fun y37 => ?_)
  refine yT.kb (pc' := 305) rfl rfl (by decide) (fun c38 e39 => ?_)
  refine yT.fl (pc' := 306) rfl rfl (fun _ _ _ _ => rfl) (fun y40 => ?_)
  refine yT.aan (pc' := 307) g0 rfl rfl rfl ?_
  refine yT.iln (pc' := 308) g3 rfl rfl ?_
  refine yT.kI (pc' := 309) rfl rfl (by decide) (fun c41 e42 => ?_)
  refine yT.ad2 (pc' := 310) (Z := ((6 * k : Nat) : Int) + 4) ex e42 rfl rfl (by omega) (fun z43 e44 => ?_)
  refine yT.sia (j := 6 * k + 4) (pc' := 311) (hV _ (by omega)) (by omega) (by omega) (by omega) rfl rfl ?_
  refine yT.fl (pc' := 312) rfl rfl (fun _ _ _ _ => rfl) (fun y45 => ?_)
  refine yT.fl (pc' := 315) rfl rfl (fun _ _ _ _ => rfl) (fun y46 => ?_)
  refine yT.fl (pc' := 316) rfl rfl (fun _ _ _ _ => rfl) (fun y47 => ?_)
  refine yT.fl (pc' := 317) rfl rfl (fun _ _ _ _ => rfl) (fun y48 => ?_)
  refine kLM (yT.cc (G2 := 3783 * n + 763 * m) (pc' := 320) rfl rfl rfl hT1 (K1.up rfl : xnth ks1 60 = some (19, 0)) xM_214 (m_1 hT1 K1 hk (Int32.ofInt (zz (6 * k + 1)).toInt) (Int32.ofInt (zz (6 * k + 2)).toInt) y48 P1) rfl (by decide) (by omega) rfl) (fun h2 σ2 v2 hT2 P2 => ?_)
  obtain ⟨y2, hv2⟩ := P2.2.2.2
  subst hv2
  have hnz := P2.2.2.1
  refine yT.p (pc' := 321) rfl rfl (fun _ _ _ _ => rfl) ?_
  refine yT.p (pc' := 1358) rfl rfl (fun _ _ _ _ => rfl) ?_
  exact yT.w (next ks1 σ2 h2 K1 hT2 P2.1 P2.2.1) (Nat.le_refl _) (by omega) (fun _ _ h => h)

set_option maxRecDepth 100000 in
set_option maxHeartbeats 4000000 in
theorem l_2 {L : Nat} {iv : List (Int × Int)} {zz : Nat → Int32} {ρ : Nat → xE} {ks : List cT} {B0 : Nat} {σ : sg} {h : List xE} {lv : xLv} {k n N : Nat} {Q : yQ} {x : Int32} (hL : L = N + 1) (hN : N ≤ 3072) (hV : ∀ j, j < N → xfl iv (j + 2000) = some (zz j).toInt) (K : KE KS0 ks B0) (hT : HT ks σ ρ h) (R : RI k σ) (E : EQ σ) (hk : k ≤ 511) (g0 : xget lv 0 = some (.ref 0)) (g1 : xget lv 1 = some (.ref (0 + 1))) (g2 : xget lv 2 = some (.ref (60 + 1))) (g3 : xget lv 3 = some (.int x)) (ex : x.toInt = ((6 * k : Nat) : Int)) (hi : 6 * k + 6 ≤ N)
    (next : ∀ (ks' : List cT) (σ' : sg) (h' : List xE), KE KS0 ks' (B0 + 72) → HT ks' σ' ρ h' → RI (k + 1) σ' → EQ σ' → yT L iv rL_law 1700 (3783 * n + 763 * nz σ') 1358 lv [] h' Q) : yT L iv rL_law 1700 (3783 * (n + 1) + 763 * nz σ) 324 lv [] h Q := by
  refine yT.aan (pc' := 325) g1 rfl rfl rfl ?_
  refine yT.aan (pc' := 326) g0 rfl rfl rfl ?_
  refine yT.iln (pc' := 327) g3 rfl rfl ?_
  refine yT.kI (pc' := 328) rfl rfl (by decide) (fun c1 e2 => ?_)
  refine yT.ad2 (pc' := 329) (Z := ((6 * k : Nat) : Int) + 1) ex e2 rfl rfl (by omega) (fun z3 e4 => ?_)
  refine yT.sia (j := 6 * k + 1) (pc' := 330) (hV _ (by omega)) (by omega) (by omega) (by omega) rfl rfl ?_
  refine yT.aan (pc' := 331) g0 rfl rfl rfl ?_
  refine yT.iln (pc' := 332) g3 rfl rfl ?_
  refine yT.kI (pc' := 333) rfl rfl (by decide) (fun c5 e6 => ?_)
  refine yT.ad2 (pc' := 334) (Z := ((6 * k : Nat) : Int) + 2) ex e6 rfl rfl (by omega) (fun z7 e8 => ?_)
  refine yT.sia (j := 6 * k + 2) (pc' := 335) (hV _ (by omega)) (by omega) (by omega) (by omega) rfl rfl ?_
  refine yT.aan (pc' := 336) g0 rfl rfl rfl ?_
  refine yT.iln (pc' := 337) g3 rfl rfl ?_
  refine yT.kI (pc' := 338) rfl rfl (by decide) (fun c9 e10 => ?_)
  refine yT.ad2 (pc' := 339) (Z := ((6 * k : Nat) : Int) + 3) ex e10 rfl rfl (by omega) (fun z11 e12 => ?_)
  refine yT.sia (j := 6 * k + 3) (pc' := 340) (hV _ (by omega)) (by omega) (by omega) (by omega) rfl rfl ?_
  refine yT.aan (pc' := 341) g0 rfl rfl rfl ?_
  refine yT.iln (pc' := 342) g3 rfl rfl ?_
  refine yT.kI (pc' := 343) rfl rfl (by decide) (fun c13 e14 => ?_)
  refine yT.ad2 (pc' := 344) (Z := ((6 * k : Nat) : Int) + 4) ex e14 rfl rfl (by omega) (fun z15 e16 => ?_)
  refine yT.sia (j := 6 * k + 4) (pc' := 345) (hV _ (by omega)) (by omega) (by omega) (by omega) rfl rfl ?_
  refine yT.aan (pc' := 346) g0 rfl rfl rfl ?_
  refine yT.iln (pc' := 347) g3 rfl rfl ?_
  refine yT.kI (pc' := 348) rfl rfl (by decide) (fun c17 e18 => ?_)
  refine yT.ad2 (pc' := 349) (Z := ((6 * k : Nat) : Int) + 5) ex e18 rfl rfl (by omega) (fun z19 e20 => ?_)
  refine yT.sia (j := 6 * k + 5) (pc' := 350) (hV _ (by omega)) (by omega) (by omega) (by omega) rfl rfl ?_
  obtain ⟨G, m, hG, w⟩ := w_2 hT K R E hk (Int32.ofInt (zz (6 * k + 1)).toInt) (Int32.ofInt (zz (6 * k + 2)).toInt) (Int32.ofInt (zz (6 * k + 3)).toInt) (Int32.ofInt (zz (6 * k + 4)).toInt) (Int32.ofInt (zz (6 * k + 5)).toInt)
  refine kLQ (yT.cc (G2 := 3783 * n + 763 * m) (pc' := 353) rfl rfl rfl hT (K.up rfl : xnth ks 0 = some (18, 0)) xM_109 w rfl (by decide) (by omega) rfl) (fun h1 ks1 σ1 v1 ke1 hT1 P1 => ?_)
  have K1 := K.tr ke1
  obtain ⟨y1, hv1⟩ := P1.2.2.2
  subst hv1
  refine yT.p (pc' := 354) rfl rfl (fun _ _ _ _ => rfl) ?_
  refine yT.aan (pc' := 355) g2 rfl rfl rfl ?_
  refine yT.aan (pc' := 356) g0 rfl rfl rfl ?_
  refine yT.iln (pc' := 357) g3 rfl rfl ?_
  refine yT.kI (pc' := 358) rfl rfl (by decide) (fun c21 e22 => ?_)
  refine yT.ad2 (pc' := 359) (Z := ((6 * k : Nat) : Int) + 1) ex e22 rfl rfl (by omega) (fun z23 e24 => ?_)
  refine yT.sia (j := 6 * k + 1) (pc' := 360) (hV _ (by omega)) (by omega) (by omega) (by omega) rfl rfl ?_
  refine yT.aan (pc' := 361) g0 rfl rfl rfl ?_
  refine yT.iln (pc' := 362) g3 rfl rfl ?_
  refine yT.kI (pc' := 363) rfl rfl (by decide) (fun c25 e26 => ?_)
  refine yT.ad2 (pc' := 364) (Z := ((6 * k : Nat) : Int) + 2) ex e26 rfl rfl (by omega) (fun z27 e28 => ?_)
  refine yT.sia (j := 6 * k + 2) (pc' := 365) (hV _ (by omega)) (by omega) (by omega) (by omega) rfl rfl ?_
  refine yT.aan (pc' := 366) g0 rfl rfl rfl ?_
  refine yT.iln (pc' := 367) g3 rfl rfl ?_
  refine yT.kI (pc' := 368) rfl rfl (by decide) (fun c29 e30 => ?_)
  refine yT.ad2 (pc' := 369) (Z := ((6 * k : Nat) : Int) + 3) ex e30 rfl rfl (by omega) (fun z31 e32 => ?_)
  refine yT.sia (j := 6 * k + 3) (pc' := 370) (hV _ (by omega)) (by omega) (by omega) (by omega) rfl rfl ?_
  refine yT.aan (pc' := 371) g0 rfl rfl rfl ?_
  refine yT.iln (pc' := 372) g3 rfl rfl ?_
  refine yT.kI (pc' := 373) rfl rfl (by decide) (fun c33 e34 => ?_)
  refine yT.ad2 (pc' := 374) (Z := ((6 * k : Nat) : Int) + 4) ex e34 rfl rfl (by omega) (fun z35 e36 => ?_)
  refine yT.sia (j := 6 * k + 4) (pc' := 375) (hV _ (by omega)) (by omega) (by omega) (by omega) rfl rfl ?_
  refine yT.aan (pc' := 376) g0 rfl rfl rfl ?_
  refine yT.iln (pc' := 377) g3 rfl rfl ?_
  refine yT.kI (pc' := 378) rfl rfl (by decide) (fun c37 e38 => ?_)
  refine yT.ad2 (pc' := 379) (Z := ((6 * k : Nat) : Int) + 5) ex e38 rfl rfl (by omega) (fun z39 e40 => ?_)
  refine yT.sia (j := 6 * k + 5) (pc' := 380) (hV _ (by omega)) (by omega) (by omega) (by omega) rfl rfl ?_
  refine kLM (yT.cc (G2 := 3783 * n + 763 * m) (pc' := 383) rfl rfl rfl hT1 (K1.up rfl : xnth ks1 60 = some (19, 0)) xM_215 (m_2 hT1 K1 hk (Int32.ofInt (zz (6 * k + 1)).toInt) (Int32.ofInt (zz (6 * k + 2)).toInt) (Int32.ofInt (zz (6 * k + 3)).toInt) (Int32.ofInt (zz (6 * k + 4)).toInt) (Int32.ofInt (zz (6 * k + 5)).toInt) P1) rfl (by decide) (by omega) rfl) (fun h2 σ2 v2 hT2 P2 => ?_)
  obtain ⟨y2, hv2⟩ := P2.2.2.2
  subst hv2
  have hnz := P2.2.2.1
  refine yT.p (pc' := 384) rfl rfl (fun _ _ _ _ => rfl) ?_
  refine yT.p (pc' := 1358) rfl rfl (fun _ _ _ _ => rfl) ?_
  exact yT.w (next ks1 σ2 h2 K1 hT2 P2.1 P2.2.1) (Nat.le_refl _) (by omega) (fun _ _ h => h)

set_option maxRecDepth 100000 in
set_option maxHeartbeats 4000000 in
theorem l_3 {L : Nat} {iv : List (Int × Int)} {zz : Nat → Int32} {ρ : Nat → xE} {ks : List cT} {B0 : Nat} {σ : sg} {h : List xE} {lv : xLv} {k n N : Nat} {Q : yQ} {x : Int32} (hL : L = N + 1) (hN : N ≤ 3072) (hV : ∀ j, j < N → xfl iv (j + 2000) = some (zz j).toInt) (K : KE KS0 ks B0) (hT : HT ks σ ρ h) (R : RI k σ) (E : EQ σ) (hk : k ≤ 511) (g0 : xget lv 0 = some (.ref 0)) (g1 : xget lv 1 = some (.ref (0 + 1))) (g2 : xget lv 2 = some (.ref (60 + 1))) (g3 : xget lv 3 = some (.int x)) (ex : x.toInt = ((6 * k : Nat) : Int)) (hi : 6 * k + 6 ≤ N)
    (next : ∀ (ks' : List cT) (σ' : sg) (h' : List xE), KE KS0 ks' (B0 + 72) → HT ks' σ' ρ h' → RI (k + 1) σ' → EQ σ' → yT L iv rL_law 1700 (3783 * n + 763 * nz σ') 1358 lv [] h' Q) : yT L iv rL_law 1700 (3783 * (n + 1) + 763 * nz σ) 387 lv [] h Q := by
  refine yT.aan (pc' := 388) g1 rfl rfl rfl ?_
  refine yT.aan (pc' := 389) g0 rfl rfl rfl ?_
  refine yT.iln (pc' := 390) g3 rfl rfl ?_
  refine yT.kI (pc' := 391) rfl rfl (by decide) (fun c1 e2 => ?_)
  refine yT.ad2 (pc' := 392) (Z := ((6 * k : Nat) : Int) + 1) ex e2 rfl rfl (by omega) (fun z3 e4 => ?_)
  refine yT.sia (j := 6 * k + 1) (pc' := 393) (hV _ (by omega)) (by omega) (by omega) (by omega) rfl rfl ?_
  refine yT.aan (pc' := 394) g0 rfl rfl rfl ?_
  refine yT.iln (pc' := 395) g3 rfl rfl ?_
  refine yT.kI (pc' := 396) rfl rfl (by decide) (fun c5 e6 => ?_)
  refine yT.ad2 (pc' := 397) (Z := ((6 * k : Nat) : Int) + 2) ex e6 rfl rfl (by omega) (fun z7 e8 => ?_)
  refine yT.sia (j := 6 * k + 2) (pc' := 398) (hV _ (by omega)) (by omega) (by omega) (by omega) rfl rfl ?_
  obtain ⟨G, m, hG, w⟩ := w_3 hT K R E hk (Int32.ofInt (zz (6 * k + 1)).toInt) (Int32.ofInt (zz (6 * k + 2)).toInt)
  refine kLQ (yT.cc (G2 := 3783 * n + 763 * m) (pc' := 401) rfl rfl rfl hT (K.up rfl : xnth ks 0 = some (18, 0)) xM_110 w rfl (by decide) (by omega) rfl) (fun h1 ks1 σ1 v1 ke1 hT1 P1 => ?_)
  have K1 := K.tr ke1
  obtain ⟨y1, hv1⟩ := P1.2.2.2
  subst hv1
  refine yT.p (pc' := 402) rfl rfl (fun _ _ _ _ => rfl) ?_
  refine yT.aan (pc' := 403) g2 rfl rfl rfl ?_
  refine yT.aan (pc' := 404) g0 rfl rfl rfl ?_
  refine yT.iln (pc' := 405) g3 rfl rfl ?_
  refine yT.kI (pc' := 406) rfl rfl (by decide) (fun c9 e10 => ?_)
  refine yT.ad2 (pc' := 407) (Z := ((6 * k : Nat) : Int) + 1) ex e10 rfl rfl (by omega) (fun z11 e12 => ?_)
  refine yT.sia (j := 6 * k + 1) (pc' := 408) (hV _ (by omega)) (by omega) (by omega) (by omega) rfl rfl ?_
  refine yT.aan (pc' := 409) g0 rfl rfl rfl ?_
  refine yT.iln (pc' := 410) g3 rfl rfl ?_
  refine yT.kI (pc' := 411) rfl rfl (by decide) (fun c13 e14 => ?_)
  refine yT.ad2 (pc' := 412) (Z := ((6 * k : Nat) : Int) + 2) ex e14 rfl rfl (by omega) (fun z15 e16 => ?_)
  refine yT.sia (j := 6 * k + 2) (pc' := 413) (hV _ (by omega)) (by omega) (by omega) (by omega) rfl rfl ?_
  refine kLM (yT.cc (G2 := 3783 * n + 763 * m) (pc' := 416) rfl rfl rfl hT1 (K1.up rfl : xnth ks1 60 = some (19, 0)) xM_216 (m_3 hT1 K1 hk (Int32.ofInt (zz (6 * k + 1)).toInt) (Int32.ofInt (zz (6 * k + 2)).toInt) P1) rfl (by decide) (by omega) rfl) (fun h2 σ2 v2 hT2 P2 => ?_)
  obtain ⟨y2, hv2⟩ := P2.2.2.2
  subst hv2
  have hnz := P2.2.2.1
  refine yT.p (pc' := 417) rfl rfl (fun _ _ _ _ => rfl) ?_
  refine yT.p (pc' := 1358) rfl rfl (fun _ _ _ _ => rfl) ?_
  exact yT.w (next ks1 σ2 h2 K1 hT2 P2.1 P2.2.1) (Nat.le_refl _) (by omega) (fun _ _ h => h)

set_option maxRecDepth 100000 in
set_option maxHeartbeats 4000000 in
theorem l_4 {L : Nat} {iv : List (Int × Int)} {zz : Nat → Int32} {ρ : Nat → xE} {ks : List cT} {B0 : Nat} {σ : sg} {h : List xE} {lv : xLv} {k n N : Nat} {Q : yQ} {x : Int32} (hL : L = N + 1) (hN : N ≤ 3072) (hV : ∀ j, j < N → xfl iv (j + 2000) = some (zz j).toInt) (K : KE KS0 ks B0) (hT : HT ks σ ρ h) (R : RI k σ) (E : EQ σ) (hk : k ≤ 511) (g0 : xget lv 0 = some (.ref 0)) (g1 : xget lv 1 = some (.ref (0 + 1))) (g2 : xget lv 2 = some (.ref (60 + 1))) (g3 : xget lv 3 = some (.int x)) (ex : x.toInt = ((6 * k : Nat) : Int)) (hi : 6 * k + 6 ≤ N)
    (next : ∀ (ks' : List cT) (σ' : sg) (h' : List xE), KE KS0 ks' (B0 + 72) → HT ks' σ' ρ h' → RI (k + 1) σ' → EQ σ' → yT L iv rL_law 1700 (3783 * n + 763 * nz σ') 1358 lv [] h' Q) : yT L iv rL_law 1700 (3783 * (n + 1) + 763 * nz σ) 420 lv [] h Q := by
  refine yT.aan (pc' := 421) g1 rfl rfl rfl ?_
  refine yT.aan (pc' := 422) g0 rfl rfl rfl ?_
  refine yT.iln (pc' := 423) g3 rfl rfl ?_
  refine yT.kI (pc' := 424) rfl rfl (by decide) (fun c1 e2 => ?_)
  refine yT.ad2 (pc' := 425) (Z := ((6 * k : Nat) : Int) + 1) ex e2 rfl rfl (by omega) (fun z3 e4 => ?_)
  refine yT.sia (j := 6 * k + 1) (pc' := 426) (hV _ (by omega)) (by omega) (by omega) (by omega) rfl rfl ?_
  obtain ⟨G, m, hG, w⟩ := w_4 hT K R E hk (Int32.ofInt (zz (6 * k + 1)).toInt)
  refine kLQ (yT.cc (G2 := 3783 * n + 763 * m) (pc' := 429) rfl rfl rfl hT (K.up rfl : xnth ks 0 = some (18, 0)) xM_111 w rfl (by decide) (by omega) rfl) (fun h1 ks1 σ1 v1 ke1 hT1 P1 => ?_)
  have K1 := K.tr ke1
  obtain ⟨y1, hv1⟩ := P1.2.2.2
  subst hv1
  refine yT.p (pc' := 430) rfl rfl (fun _ _ _ _ => rfl) ?_
  refine yT.aan (pc' := 431) g2 rfl rfl rfl ?_
  refine yT.aan (pc' := 432) g0 rfl rfl rfl ?_
  refine yT.iln (pc' := 433) g3 rfl rfl ?_
  refine yT.kI (pc' := 434) rfl rfl (by decide) (fun c5 e6 => ?_)
  refine yT.ad2 (pc' := 435) (Z := ((6 * k : Nat) : Int) + 1) ex e6 rfl rfl (by omega) (fun z7 e8 => ?_)
  refine yT.sia (j := 6 * k + 1) (pc' := 436) (hV _ (by omega)) (by omega) (by omega) (by omega) rfl rfl ?_
  refine kLM (yT.cc (G2 := 3783 * n + 763 * m) (pc' := 439) rfl rfl rfl hT1 (K1.up rfl : xnth ks1 60 = some (19, 0)) xM_217 (m_4 hT1 K1 hk (Int32.ofInt (zz (6 * k + 1)).toInt) P1) rfl (by decide) (by omega) rfl) (fun h2 σ2 v2 hT2 P2 => ?_)
  obtain ⟨y2, hv2⟩ := P2.2.2.2
  subst hv2
  have hnz := P2.2.2.1
  refine yT.p (pc' := 440) rfl rfl (fun _ _ _ _ => rfl) ?_
  refine yT.p (pc' := 1358) rfl rfl (fun _ _ _ _ => rfl) ?_
  exact yT.w (next ks1 σ2 h2 K1 hT2 P2.1 P2.2.1) (Nat.le_refl _) (by omega) (fun _ _ h => h)

set_option maxRecDepth 100000 in
set_option maxHeartbeats 4000000 in
theorem l_5 {L : Nat} {iv : List (Int × Int)} {zz : Nat → Int32} {ρ : Nat → xE} {ks : List cT} {B0 : Nat} {σ : sg} {h : List xE} {lv : xLv} {k n N : Nat} {Q : yQ} {x : Int32} (hL : L = N + 1) (hN : N ≤ 3072) (hV : ∀ j, j < N → xfl iv (j + 2000) = some (zz j).toInt) (K : KE KS0 ks B0) (hT : HT ks σ ρ h) (R : RI k σ) (E : EQ σ) (hk : k ≤ 511) (g0 : xget lv 0 = some (.ref 0)) (g1 : xget lv 1 = some (.ref (0 + 1))) (g2 : xget lv 2 = some (.ref (60 + 1))) (g3 : xget lv 3 = some (.int x)) (ex : x.toInt = ((6 * k : Nat) : Int)) (hi : 6 * k + 6 ≤ N)
    (next : ∀ (ks' : List cT) (σ' : sg) (h' : List xE), KE KS0 ks' (B0 + 72) → HT ks' σ' ρ h' → RI (k + 1) σ' → EQ σ' → yT L iv rL_law 1700 (3783 * n + 763 * nz σ') 1358 lv [] h' Q) : yT L iv rL_law 1700 (3783 * (n + 1) + 763 * nz σ) 443 lv [] h Q := by
  refine yT.aan (pc' := 444) g1 rfl rfl rfl ?_
  refine yT.aan (pc' := 445) g0 rfl rfl rfl ?_
  refine yT.iln (pc' := 446) g3 rfl rfl ?_
  refine yT.kI (pc' := 447) rfl rfl (by decide) (fun c1 e2 => ?_)
  refine yT.ad2 (pc' := 448) (Z := ((6 * k : Nat) : Int) + 1) ex e2 rfl rfl (by omega) (fun z3 e4 => ?_)
  refine yT.sia (j := 6 * k + 1) (pc' := 449) (hV _ (by omega)) (by omega) (by omega) (by omega) rfl rfl ?_
  refine yT.aan (pc' := 450) g0 rfl rfl rfl ?_
  refine yT.iln (pc' := 451) g3 rfl rfl ?_
  refine yT.kI (pc' := 452) rfl rfl (by decide) (fun c5 e6 => ?_)
  refine yT.ad2 (pc' := 453) (Z := ((6 * k : Nat) : Int) + 2) ex e6 rfl rfl (by omega) (fun z7 e8 => ?_)
  refine yT.sia (j := 6 * k + 2) (pc' := 454) (hV _ (by omega)) (by omega) (by omega) (by omega) rfl rfl ?_
  obtain ⟨G, m, hG, w⟩ := w_5 hT K R E hk (Int32.ofInt (zz (6 * k + 1)).toInt) (Int32.ofInt (zz (6 * k + 2)).toInt)
  refine kLQ (yT.cc (G2 := 3783 * n + 763 * m) (pc' := 457) rfl rfl rfl hT (K.up rfl : xnth ks 0 = some (18, 0)) xM_112 w rfl (by decide) (by omega) rfl) (fun h1 ks1 σ1 v1 ke1 hT1 P1 => ?_)
  have K1 := K.tr ke1
  obtain ⟨y1, hv1⟩ := P1.2.2.2
  subst hv1
  refine yT.p (pc' := 458) rfl rfl (fun _ _ _ _ => rfl) ?_
  refine yT.aan (pc' := 459) g2 rfl rfl rfl ?_
  refine yT.aan (pc' := 460) g0 rfl rfl rfl ?_
  refine yT.iln (pc' := 461) g3 rfl rfl ?_
  refine yT.kI (pc' := 462) rfl rfl (by decide) (fun c9 e10 => ?_)
  refine yT.ad2 (pc' := 463) (Z := ((6 * k : Nat) : Int) + 1) ex e10 rfl rfl (by omega) (fun z11 e12 => ?_)
  refine yT.sia (j := 6 * k + 1) (pc' := 464) (hV _ (by omega)) (by omega) (by omega) (by omega) rfl rfl ?_
  refine yT.aan (pc' := 465) g0 rfl rfl rfl ?_
  refine yT.iln (pc' := 466) g3 rfl rfl ?_
  refine yT.kI (pc' := 467) rfl rfl (by decide) (fun c13 e14 => ?_)
  refine yT.ad2 (pc' := 468) (Z := ((6 * k : Nat) : Int) + 2) ex e14 rfl rfl (by omega) (fun z15 e16 => ?_)
  refine yT.sia (j := 6 * k + 2) (pc' := 469) (hV _ (by omega)) (by omega) (by omega) (by omega) rfl rfl ?_
  refine kLM (yT.cc (G2 := 3783 * n + 763 * m) (pc' := 472) rfl rfl rfl hT1 (K1.up rfl : xnth ks1 60 = some (19, 0)) xM_218 (m_5 hT1 K1 hk (Int32.ofInt (zz (6 * k + 1)).toInt) (Int32.ofInt (zz (6 * k + 2)).toInt) P1) rfl (by decide) (by omega) rfl) (fun h2 σ2 v2 hT2 P2 => ?_)
  obtain ⟨y2, hv2⟩ := P2.2.2.2
  subst hv2
  have hnz := P2.2.2.1
  refine yT.p (pc' := 473) rfl rfl (fun _ _ _ _ => rfl) ?_
  refine yT.p (pc' := 1358) rfl rfl (fun _ _ _ _ => rfl) ?_
  exact yT.w (next ks1 σ2 h2 K1 hT2 P2.1 P2.2.1) (Nat.le_refl _) (by omega) (fun _ _ h => h)

set_option maxRecDepth 100000 in
set_option maxHeartbeats 4000000 in
theorem l_6 {L : Nat} {iv : List (Int × Int)} {zz : Nat → Int32} {ρ : Nat → xE} {ks : List cT} {B0 : Nat} {σ : sg} {h : List xE} {lv : xLv} {k n N : Nat} {Q : yQ} {x : Int32} (hL : L = N + 1) (hN : N ≤ 3072) (hV : ∀ j, j < N → xfl iv (j + 2000) = some (zz j).toInt) (K : KE KS0 ks B0) (hT : HT ks σ ρ h) (R : RI k σ) (E : EQ σ) (hk : k ≤ 511) (g0 : xget lv 0 = some (.ref 0)) (g1 : xget lv 1 = some (.ref (0 + 1))) (g2 : xget lv 2 = some (.ref (60 + 1))) (g3 : xget lv 3 = some (.int x)) (ex : x.toInt = ((6 * k : Nat) : Int)) (hi : 6 * k + 6 ≤ N)
    (next : ∀ (ks' : List cT) (σ' : sg) (h' : List xE), KE KS0 ks' (B0 + 72) → HT ks' σ' ρ h' → RI (k + 1) σ' → EQ σ' → yT L iv rL_law 1700 (3783 * n + 763 * nz σ') 1358 lv [] h' Q) : yT L iv rL_law 1700 (3783 * (n + 1) + 763 * nz σ) 476 lv [] h Q := by
  refine yT.aan (pc' := 477) g1 rfl rfl rfl ?_
  refine yT.aan (pc' := 478) g0 rfl rfl rfl ?_
  refine yT.iln (pc' := 479) g3 rfl rfl ?_
  refine yT.kI (pc' := 480) rfl rfl (by decide) (fun c1 e2 => ?_)
  refine yT.ad2 (pc' := 481) (Z := ((6 * k : Nat) : Int) + 1) ex e2 rfl rfl (by omega) (fun z3 e4 => ?_)
  refine yT.sia (j := 6 * k + 1) (pc' := 482) (hV _ (by omega)) (by omega) (by omega) (by omega) rfl rfl ?_
  refine yT.aan (pc' := 483) g0 rfl rfl rfl ?_
  refine yT.iln (pc' := 484) g3 rfl rfl ?_
  refine yT.kI (pc' := 485) rfl rfl (by decide) (fun c5 e6 => ?_)
  refine yT.ad2 (pc' := 486) (Z := ((6 * k : Nat) : Int) + 2) ex e6 rfl rfl (by omega) (fun z7 e8 => ?_)
  refine yT.sia (j := 6 * k + 2) (pc' := 487) (hV _ (by omega)) (by omega) (by omega) (by omega) rfl rfl ?_
  obtain ⟨G, m, hG, w⟩ := w_6 hT K R E hk (Int32.ofInt (zz (6 * k + 1)).toInt) (Int32.ofInt (zz (6 * k + 2)).toInt)
  refine kLQ (yT.cc (G2 := 3783 * n + 763 * m) (pc' := 490) rfl rfl rfl hT (K.up rfl : xnth ks 0 = some (18, 0)) xM_113 w rfl (by decide) (by omega) rfl) (fun h1 ks1 σ1 v1 ke1 hT1 P1 => ?_)
  have K1 := K.tr ke1
  obtain ⟨y1, hv1⟩ := P1.2.2.2
  subst hv1
  refine yT.p (pc' := 491) rfl rfl (fun _ _ _ _ => rfl) ?_
  refine yT.aan (pc' := 492) g2 rfl rfl rfl ?_
  refine yT.aan (pc' := 493) g0 rfl rfl rfl ?_
  refine yT.iln (pc' := 494) g3 rfl rfl ?_
  refine yT.kI (pc' := 495) rfl rfl (by decide) (fun c9 e10 => ?_)
  refine yT.ad2 (pc' := 496) (Z := ((6 * k : Nat) : Int) + 1) ex e10 rfl rfl (by omega) (fun z11 e12 => ?_)
  refine yT.sia (j := 6 * k + 1) (pc' := 497) (hV _ (by omega)) (by omega) (by omega) (by omega) rfl rfl ?_
  refine yT.aan (pc' := 498) g0 rfl rfl rfl ?_
  refine yT.iln (pc' := 499) g3 rfl rfl ?_
  refine yT.kI (pc' := 500) rfl rfl (by decide) (fun c13 e14 => ?_)
  refine yT.ad2 (pc' := 501) (Z := ((6 * k : Nat) : Int) + 2) ex e14 rfl rfl (by omega) (fun z15 e16 => ?_)
  refine yT.sia (j := 6 * k + 2) (pc' := 502) (hV _ (by omega)) (by omega) (by omega) (by omega) rfl rfl ?_
  refine kLM (yT.cc (G2 := 3783 * n + 763 * m) (pc' := 505) rfl rfl rfl hT1 (K1.up rfl : xnth ks1 60 = some (19, 0)) xM_221 (m_6 hT1 K1 hk (Int32.ofInt (zz (6 * k + 1)).toInt) (Int32.ofInt (zz (6 * k + 2)).toInt) P1) rfl (by decide) (by omega) rfl) (fun h2 σ2 v2 hT2 P2 => ?_)
  obtain ⟨y2, hv2⟩ := P2.2.2.2
  subst hv2
  have hnz := P2.2.2.1
  refine yT.p (pc' := 506) rfl rfl (fun _ _ _ _ => rfl) ?_
  refine yT.p (pc' := 1358) rfl rfl (fun _ _ _ _ => rfl) ?_
  exact yT.w (next ks1 σ2 h2 K1 hT2 P2.1 P2.2.1) (Nat.le_refl _) (by omega) (fun _ _ h => h)

set_option maxRecDepth 100000 in
set_option maxHeartbeats 4000000 in
theorem l_7 {L : Nat} {iv : List (Int × Int)} {zz : Nat → Int32} {ρ : Nat → xE} {ks : List cT} {B0 : Nat} {σ : sg} {h : List xE} {lv : xLv} {k n N : Nat} {Q : yQ} {x : Int32} (hL : L = N + 1) (hN : N ≤ 3072) (hV : ∀ j, j < N → xfl iv (j + 2000) = some (zz j).toInt) (K : KE KS0 ks B0) (hT : HT ks σ ρ h) (R : RI k σ) (E : EQ σ) (hk : k ≤ 511) (g0 : xget lv 0 = some (.ref 0)) (g1 : xget lv 1 = some (.ref (0 + 1))) (g2 : xget lv 2 = some (.ref (60 + 1))) (g3 : xget lv 3 = some (.int x)) (ex : x.toInt = ((6 * k : Nat) : Int)) (hi : 6 * k + 6 ≤ N)
    (next : ∀ (ks' : List cT) (σ' : sg) (h' : List xE), KE KS0 ks' (B0 + 72) → HT ks' σ' ρ h' → RI (k + 1) σ' → EQ σ' → yT L iv rL_law 1700 (3783 * n + 763 * nz σ') 1358 lv [] h' Q) : yT L iv rL_law 1700 (3783 * (n + 1) + 763 * nz σ) 509 lv [] h Q := by
  refine yT.aan (pc' := 510) g1 rfl rfl rfl ?_
  refine yT.aan (pc' := 511) g0 rfl rfl rfl ?_
  refine yT.iln (pc' := 512) g3 rfl rfl ?_
  refine yT.kI (pc' := 513) rfl rfl (by decide) (fun c1 e2 => ?_)
  refine yT.ad2 (pc' := 514) (Z := ((6 * k : Nat) : Int) + 1) ex e2 rfl rfl (by omega) (fun z3 e4 => ?_)
  refine yT.sia (j := 6 * k + 1) (pc' := 515) (hV _ (by omega)) (by omega) (by omega) (by omega) rfl rfl ?_
  obtain ⟨G, m, hG, w⟩ := w_7 hT K R E hk (Int32.ofInt (zz (6 * k + 1)).toInt)
  refine kLQ (yT.cc (G2 := 3783 * n + 763 * m) (pc' := 518) rfl rfl rfl hT (K.up rfl : xnth ks 0 = some (18, 0)) xM_115 w rfl (by decide) (by omega) rfl) (fun h1 ks1 σ1 v1 ke1 hT1 P1 => ?_)
  have K1 := K.tr ke1
  obtain ⟨y1, hv1⟩ := (P1.2.2.2.2.imp (fun _ h => h.1))
  subst hv1
  refine yT.p (pc' := 519) rfl rfl (fun _ _ _ _ => rfl) ?_
  refine yT.aan (pc' := 520) g2 rfl rfl rfl ?_
  refine yT.aan (pc' := 521) g0 rfl rfl rfl ?_
  refine yT.iln (pc' := 522) g3 rfl rfl ?_
  refine yT.kI (pc' := 523) rfl rfl (by decide) (fun c5 e6 => ?_)
  refine yT.ad2 (pc' := 524) (Z := ((6 * k : Nat) : Int) + 1) ex e6 rfl rfl (by omega) (fun z7 e8 => ?_)
  refine yT.sia (j := 6 * k + 1) (pc' := 525) (hV _ (by omega)) (by omega) (by omega) (by omega) rfl rfl ?_
  refine kLM (yT.cc (G2 := 3783 * n + 763 * m) (pc' := 528) rfl rfl rfl hT1 (K1.up rfl : xnth ks1 60 = some (19, 0)) xM_222 (m_7 hT1 K1 hk (Int32.ofInt (zz (6 * k + 1)).toInt) P1) rfl (by decide) (by omega) rfl) (fun h2 σ2 v2 hT2 P2 => ?_)
  have hv2 := P2.2.2.2
  subst hv2
  have hnz := P2.2.2.1
  refine yT.p (pc' := 529) rfl rfl (fun _ _ _ _ => rfl) ?_
  refine yT.p (pc' := 1358) rfl rfl (fun _ _ _ _ => rfl) ?_
  exact yT.w (next ks1 σ2 h2 K1 hT2 P2.1 P2.2.1) (Nat.le_refl _) (by omega) (fun _ _ h => h)

set_option maxRecDepth 100000 in
set_option maxHeartbeats 4000000 in
theorem l_8 {L : Nat} {iv : List (Int × Int)} {zz : Nat → Int32} {ρ : Nat → xE} {ks : List cT} {B0 : Nat} {σ : sg} {h : List xE} {lv : xLv} {k n N : Nat} {Q : yQ} {x : Int32} (hL : L = N + 1) (hN : N ≤ 3072) (hV : ∀ j, j < N → xfl iv (j + 2000) = some (zz j).toInt) (K : KE KS0 ks B0) (hT : HT ks σ ρ h) (R : RI k σ) (E : EQ σ) (hk : k ≤ 511) (g0 : xget lv 0 = some (.ref 0)) (g1 : xget lv 1 = some (.ref (0 + 1))) (g2 : xget lv 2 = some (.ref (60 + 1))) (g3 : xget lv 3 = some (.int x)) (ex : x.toInt = ((6 * k : Nat) : Int)) (hi : 6 * k + 6 ≤ N)
    (next : ∀ (ks' : List cT) (σ' : sg) (h' : List xE), KE KS0 ks' (B0 + 72) → HT ks' σ' ρ h' → RI (k + 1) σ' → EQ σ' → yT L iv rL_law 1700 (3783 * n + 763 * nz σ') 1358 lv [] h' Q) : yT L iv rL_law 1700 (3783 * (n + 1) + 763 * nz σ) 532 lv [] h Q := by
  refine yT.aan (pc' := 533) g1 rfl rfl rfl ?_
  obtain ⟨G, m, hG, w⟩ := w_8 hT K R E hk 
  refine kLQ (yT.cc (G2 := 3783 * n + 763 * m) (pc' := 536) rfl rfl rfl hT (K.up rfl : xnth ks 0 = some (18, 0)) xM_116 w rfl (by decide) (by omega) rfl) (fun h1 ks1 σ1 v1 ke1 hT1 P1 => ?_)
  have K1 := K.tr ke1
  obtain ⟨y1, hv1⟩ := (⟨_, P1.2.2.2.2⟩ : ∃ y, v1 = Value.int y)
  subst hv1
  refine yT.p (pc' := 537) rfl rfl (fun _ _ _ _ => rfl) ?_
  refine yT.aan (pc' := 538) g2 rfl rfl rfl ?_
  refine kLM (yT.cc (G2 := 3783 * n + 763 * m) (pc' := 541) rfl rfl rfl hT1 (K1.up rfl : xnth ks1 60 = some (19, 0)) xM_223 (m_8 hT1 K1 hk  P1) rfl (by decide) (by omega) rfl) (fun h2 σ2 v2 hT2 P2 => ?_)
  have hv2 := P2.2.2.2
  subst hv2
  have hnz := P2.2.2.1
  refine yT.p (pc' := 542) rfl rfl (fun _ _ _ _ => rfl) ?_
  refine yT.p (pc' := 1358) rfl rfl (fun _ _ _ _ => rfl) ?_
  exact yT.w (next ks1 σ2 h2 K1 hT2 P2.1 P2.2.1) (Nat.le_refl _) (by omega) (fun _ _ h => h)

set_option maxRecDepth 100000 in
set_option maxHeartbeats 4000000 in
theorem l_9 {L : Nat} {iv : List (Int × Int)} {zz : Nat → Int32} {ρ : Nat → xE} {ks : List cT} {B0 : Nat} {σ : sg} {h : List xE} {lv : xLv} {k n N : Nat} {Q : yQ} {x : Int32} (hL : L = N + 1) (hN : N ≤ 3072) (hV : ∀ j, j < N → xfl iv (j + 2000) = some (zz j).toInt) (K : KE KS0 ks B0) (hT : HT ks σ ρ h) (R : RI k σ) (E : EQ σ) (hk : k ≤ 511) (g0 : xget lv 0 = some (.ref 0)) (g1 : xget lv 1 = some (.ref (0 + 1))) (g2 : xget lv 2 = some (.ref (60 + 1))) (g3 : xget lv 3 = some (.int x)) (ex : x.toInt = ((6 * k : Nat) : Int)) (hi : 6 * k + 6 ≤ N)
    (next : ∀ (ks' : List cT) (σ' : sg) (h' : List xE), KE KS0 ks' (B0 + 72) → HT ks' σ' ρ h' → RI (k + 1) σ' → EQ σ' → yT L iv rL_law 1700 (3783 * n + 763 * nz σ') 1358 lv [] h' Q) : yT L iv rL_law 1700 (3783 * (n + 1) + 763 * nz σ) 545 lv [] h Q := by
  refine yT.aan (pc' := 546) g1 rfl rfl rfl ?_
  refine yT.aan (pc' := 547) g0 rfl rfl rfl ?_
  refine yT.iln (pc' := 548) g3 rfl rfl ?_
  refine yT.kI (pc' := 549) rfl rfl (by decide) (fun c1 e2 => ?_)
  refine yT.ad2 (pc' := 550) (Z := ((6 * k : Nat) : Int) + 1) ex e2 rfl rfl (by omega) (fun z3 e4 => ?_)
  refine yT.sia (j := 6 * k + 1) (pc' := 551) (hV _ (by omega)) (by omega) (by omega) (by omega) rfl rfl ?_
  refine yT.aan (pc' := 552) g0 rfl rfl rfl ?_
  refine yT.iln (pc' := 553) g3 rfl rfl ?_
  refine yT.kI (pc' := 554) rfl rfl (by decide) (fun c5 e6 => ?_)
  refine yT.ad2 (pc' := 555) (Z := ((6 * k : Nat) : Int) + 2) ex e6 rfl rfl (by omega) (fun z7 e8 => ?_)
  refine yT.sia (j := 6 * k + 2) (pc' := 556) (hV _ (by omega)) (by omega) (by omega) (by omega) rfl rfl ?_
  obtain ⟨G, m, hG, w⟩ := w_9 hT K R E hk (Int32.ofInt (zz (6 * k + 1)).toInt) (Int32.ofInt (zz (6 * k + 2)).toInt)
  refine kLQ (yT.cc (G2 := 3783 * n + 763 * m) (pc' := 559) rfl rfl rfl hT (K.up rfl : xnth ks 0 = some (18, 0)) xM_117 w rfl (by decide) (by omega) rfl) (fun h1 ks1 σ1 v1 ke1 hT1 P1 => ?_)
  have K1 := K.tr ke1
  obtain ⟨y1, hv1⟩ := P1.2.2.2
  subst hv1
  refine yT.p (pc' := 560) rfl rfl (fun _ _ _ _ => rfl) ?_
  refine yT.aan (pc' := 561) g2 rfl rfl rfl ?_
  refine yT.aan (pc' := 562) g0 rfl rfl rfl ?_
  refine yT.iln (pc' := 563) g3 rfl rfl ?_
  refine yT.kI (pc' := 564) rfl rfl (by decide) (fun c9 e10 => ?_)
  refine yT.ad2 (pc' := 565) (Z := ((6 * k : Nat) : Int) + 1) ex e10 rfl rfl (by omega) (fun z11 e12 => ?_)
  refine yT.sia (j := 6 * k + 1) (pc' := 566) (hV _ (by omega)) (by omega) (by omega) (by omega) rfl rfl ?_
  refine yT.aan (pc' := 567) g0 rfl rfl rfl ?_
  refine yT.iln (pc' := 568) g3 rfl rfl ?_
  refine yT.kI (pc' := 569) rfl rfl (by decide) (fun c13 e14 => ?_)
  refine yT.ad2 (pc' := 570) (Z := ((6 * k : Nat) : Int) + 2) ex e14 rfl rfl (by omega) (fun z15 e16 => ?_)
  refine yT.sia (j := 6 * k + 2) (pc' := 571) (hV _ (by omega)) (by omega) (by omega) (by omega) rfl rfl ?_
  refine kLM (yT.cc (G2 := 3783 * n + 763 * m) (pc' := 574) rfl rfl rfl hT1 (K1.up rfl : xnth ks1 60 = some (19, 0)) xM_227 (m_9 hT1 K1 hk (Int32.ofInt (zz (6 * k + 1)).toInt) (Int32.ofInt (zz (6 * k + 2)).toInt) P1) rfl (by decide) (by omega) rfl) (fun h2 σ2 v2 hT2 P2 => ?_)
  obtain ⟨y2, hv2⟩ := P2.2.2.2
  subst hv2
  have hnz := P2.2.2.1
  refine yT.p (pc' := 575) rfl rfl (fun _ _ _ _ => rfl) ?_
  refine yT.p (pc' := 1358) rfl rfl (fun _ _ _ _ => rfl) ?_
  exact yT.w (next ks1 σ2 h2 K1 hT2 P2.1 P2.2.1) (Nat.le_refl _) (by omega) (fun _ _ h => h)

set_option maxRecDepth 100000 in
set_option maxHeartbeats 4000000 in
theorem l_10 {L : Nat} {iv : List (Int × Int)} {zz : Nat → Int32} {ρ : Nat → xE} {ks : List cT} {B0 : Nat} {σ : sg} {h : List xE} {lv : xLv} {k n N : Nat} {Q : yQ} {x : Int32} (hL : L = N + 1) (hN : N ≤ 3072) (hV : ∀ j, j < N → xfl iv (j + 2000) = some (zz j).toInt) (K : KE KS0 ks B0) (hT : HT ks σ ρ h) (R : RI k σ) (E : EQ σ) (hk : k ≤ 511) (g0 : xget lv 0 = some (.ref 0)) (g1 : xget lv 1 = some (.ref (0 + 1))) (g2 : xget lv 2 = some (.ref (60 + 1))) (g3 : xget lv 3 = some (.int x)) (ex : x.toInt = ((6 * k : Nat) : Int)) (hi : 6 * k + 6 ≤ N)
    (next : ∀ (ks' : List cT) (σ' : sg) (h' : List xE), KE KS0 ks' (B0 + 72) → HT ks' σ' ρ h' → RI (k + 1) σ' → EQ σ' → yT L iv rL_law 1700 (3783 * n + 763 * nz σ') 1358 lv [] h' Q) : yT L iv rL_law 1700 (3783 * (n + 1) + 763 * nz σ) 578 lv [] h Q := by
  refine yT.aan (pc' := 579) g1 rfl rfl rfl ?_
  refine yT.aan (pc' := 580) g0 rfl rfl rfl ?_
  refine yT.iln (pc' := 581) g3 rfl rfl ?_
  refine yT.kI (pc' := 582) rfl rfl (by decide) (fun c1 e2 => ?_)
  refine yT.ad2 (pc' := 583) (Z := ((6 * k : Nat) : Int) + 1) ex e2 rfl rfl (by omega) (fun z3 e4 => ?_)
  refine yT.sia (j := 6 * k + 1) (pc' := 584) (hV _ (by omega)) (by omega) (by omega) (by omega) rfl rfl ?_
  obtain ⟨G, m, hG, w⟩ := w_10 hT K R E hk (Int32.ofInt (zz (6 * k + 1)).toInt)
  refine kLQ (yT.cc (G2 := 3783 * n + 763 * m) (pc' := 587) rfl rfl rfl hT (K.up rfl : xnth ks 0 = some (18, 0)) xM_118 w rfl (by decide) (by omega) rfl) (fun h1 ks1 σ1 v1 ke1 hT1 P1 => ?_)
  have K1 := K.tr ke1
  obtain ⟨y1, hv1⟩ := P1.2.2.2
  subst hv1
  refine yT.p (pc' := 588) rfl rfl (fun _ _ _ _ => rfl) ?_
  refine yT.aan (pc' := 589) g2 rfl rfl rfl ?_
  refine yT.aan (pc' := 590) g0 rfl rfl rfl ?_
  refine yT.iln (pc' := 591) g3 rfl rfl ?_
  refine yT.kI (pc' := 592) rfl rfl (by decide) (fun c5 e6 => ?_)
  refine yT.ad2 (pc' := 593) (Z := ((6 * k : Nat) : Int) + 1) ex e6 rfl rfl (by omega) (fun z7 e8 => ?_)
  refine yT.sia (j := 6 * k + 1) (pc' := 594) (hV _ (by omega)) (by omega) (by omega) (by omega) rfl rfl ?_
  refine kLM (yT.cc (G2 := 3783 * n + 763 * m) (pc' := 597) rfl rfl rfl hT1 (K1.up rfl : xnth ks1 60 = some (19, 0)) xM_228 (m_10 hT1 K1 hk (Int32.ofInt (zz (6 * k + 1)).toInt) P1) rfl (by decide) (by omega) rfl) (fun h2 σ2 v2 hT2 P2 => ?_)
  obtain ⟨y2, hv2⟩ := P2.2.2.2
  subst hv2
  have hnz := P2.2.2.1
  refine yT.p (pc' := 598) rfl rfl (fun _ _ _ _ => rfl) ?_
  refine yT.p (pc' := 1358) rfl rfl (fun _ _ _ _ => rfl) ?_
  exact yT.w (next ks1 σ2 h2 K1 hT2 P2.1 P2.2.1) (Nat.le_refl _) (by omega) (fun _ _ h => h)

set_option maxRecDepth 100000 in
set_option maxHeartbeats 4000000 in
theorem l_11 {L : Nat} {iv : List (Int × Int)} {zz : Nat → Int32} {ρ : Nat → xE} {ks : List cT} {B0 : Nat} {σ : sg} {h : List xE} {lv : xLv} {k n N : Nat} {Q : yQ} {x : Int32} (hL : L = N + 1) (hN : N ≤ 3072) (hV : ∀ j, j < N → xfl iv (j + 2000) = some (zz j).toInt) (K : KE KS0 ks B0) (hT : HT ks σ ρ h) (R : RI k σ) (E : EQ σ) (hk : k ≤ 511) (g0 : xget lv 0 = some (.ref 0)) (g1 : xget lv 1 = some (.ref (0 + 1))) (g2 : xget lv 2 = some (.ref (60 + 1))) (g3 : xget lv 3 = some (.int x)) (ex : x.toInt = ((6 * k : Nat) : Int)) (hi : 6 * k + 6 ≤ N)
    (next : ∀ (ks' : List cT) (σ' : sg) (h' : List xE), KE KS0 ks' (B0 + 72) → HT ks' σ' ρ h' → RI (k + 1) σ' → EQ σ' → yT L iv rL_law 1700 (3783 * n + 763 * nz σ') 1358 lv [] h' Q) : yT L iv rL_law 1700 (3783 * (n + 1) + 763 * nz σ) 601 lv [] h Q := by
  refine yT.aan (pc' := 602) g1 rfl rfl rfl ?_
  refine yT.aan (pc' := 603) g0 rfl rfl rfl ?_
  refine yT.iln (pc' := 604) g3 rfl rfl ?_
  refine yT.kI (pc' := 605) rfl rfl (by decide) (fun c1 e2 => ?_)
  refine yT.ad2 (pc' := 606) (Z := ((6 * k : Nat) : Int) + 1) ex e2 rfl rfl (by omega) (fun z3 e4 => ?_)
  refine yT.sia (j := 6 * k + 1) (pc' := 607) (hV _ (by omega)) (by omega) (by omega) (by omega) rfl rfl ?_
  obtain ⟨G, m, hG, w⟩ := w_11 hT K R E hk (Int32.ofInt (zz (6 * k + 1)).toInt)
  refine kLQ (yT.cc (G2 := 3783 * n + 763 * m) (pc' := 610) rfl rfl rfl hT (K.up rfl : xnth ks 0 = some (18, 0)) xM_120 w rfl (by decide) (by omega) rfl) (fun h1 ks1 σ1 v1 ke1 hT1 P1 => ?_)
  have K1 := K.tr ke1
  obtain ⟨y1, hv1⟩ := P1.2.2.2.2
  subst hv1
  refine yT.p (pc' := 611) rfl rfl (fun _ _ _ _ => rfl) ?_
  refine yT.aan (pc' := 612) g2 rfl rfl rfl ?_
  refine yT.aan (pc' := 613) g0 rfl rfl rfl ?_
  refine yT.iln (pc' := 614) g3 rfl rfl ?_
  refine yT.kI (pc' := 615) rfl rfl (by decide) (fun c5 e6 => ?_)
  refine yT.ad2 (pc' := 616) (Z := ((6 * k : Nat) : Int) + 1) ex e6 rfl rfl (by omega) (fun z7 e8 => ?_)
  refine yT.sia (j := 6 * k + 1) (pc' := 617) (hV _ (by omega)) (by omega) (by omega) (by omega) rfl rfl ?_
  refine kLM (yT.cc (G2 := 3783 * n + 763 * m) (pc' := 620) rfl rfl rfl hT1 (K1.up rfl : xnth ks1 60 = some (19, 0)) xM_231 (m_11 hT1 K1 hk (Int32.ofInt (zz (6 * k + 1)).toInt) P1) rfl (by decide) (by omega) rfl) (fun h2 σ2 v2 hT2 P2 => ?_)
  obtain ⟨y2, hv2⟩ := P2.2.2.2
  subst hv2
  have hnz := P2.2.2.1
  refine yT.p (pc' := 621) rfl rfl (fun _ _ _ _ => rfl) ?_
  refine yT.p (pc' := 1358) rfl rfl (fun _ _ _ _ => rfl) ?_
  exact yT.w (next ks1 σ2 h2 K1 hT2 P2.1 P2.2.1) (Nat.le_refl _) (by omega) (fun _ _ h => h)

set_option maxRecDepth 100000 in
set_option maxHeartbeats 4000000 in
theorem l_12 {L : Nat} {iv : List (Int × Int)} {zz : Nat → Int32} {ρ : Nat → xE} {ks : List cT} {B0 : Nat} {σ : sg} {h : List xE} {lv : xLv} {k n N : Nat} {Q : yQ} {x : Int32} (hL : L = N + 1) (hN : N ≤ 3072) (hV : ∀ j, j < N → xfl iv (j + 2000) = some (zz j).toInt) (K : KE KS0 ks B0) (hT : HT ks σ ρ h) (R : RI k σ) (E : EQ σ) (hk : k ≤ 511) (g0 : xget lv 0 = some (.ref 0)) (g1 : xget lv 1 = some (.ref (0 + 1))) (g2 : xget lv 2 = some (.ref (60 + 1))) (g3 : xget lv 3 = some (.int x)) (ex : x.toInt = ((6 * k : Nat) : Int)) (hi : 6 * k + 6 ≤ N)
    (next : ∀ (ks' : List cT) (σ' : sg) (h' : List xE), KE KS0 ks' (B0 + 72) → HT ks' σ' ρ h' → RI (k + 1) σ' → EQ σ' → yT L iv rL_law 1700 (3783 * n + 763 * nz σ') 1358 lv [] h' Q) : yT L iv rL_law 1700 (3783 * (n + 1) + 763 * nz σ) 624 lv [] h Q := by
  refine yT.aan (pc' := 625) g1 rfl rfl rfl ?_
  refine yT.aan (pc' := 626) g0 rfl rfl rfl ?_
  refine yT.iln (pc' := 627) g3 rfl rfl ?_
  refine yT.kI (pc' := 628) rfl rfl (by decide) (fun c1 e2 => ?_)
  refine yT.ad2 (pc' := 629) (Z := ((6 * k : Nat) : Int) + 1) ex e2 rfl rfl (by omega) (fun z3 e4 => ?_)
  refine yT.sia (j := 6 * k + 1) (pc' := 630) (hV _ (by omega)) (by omega) (by omega) (by omega) rfl rfl ?_
  obtain ⟨G, m, hG, w⟩ := w_12 hT K R E hk (Int32.ofInt (zz (6 * k + 1)).toInt)
  refine kLQ (yT.cc (G2 := 3783 * n + 763 * m) (pc' := 633) rfl rfl rfl hT (K.up rfl : xnth ks 0 = some (18, 0)) xM_121 w rfl (by decide) (by omega) rfl) (fun h1 ks1 σ1 v1 ke1 hT1 P1 => ?_)
  have K1 := K.tr ke1
  obtain ⟨y1, hv1⟩ := P1.2.2.2.2
  subst hv1
  refine yT.p (pc' := 634) rfl rfl (fun _ _ _ _ => rfl) ?_
  refine yT.aan (pc' := 635) g2 rfl rfl rfl ?_
  refine yT.aan (pc' := 636) g0 rfl rfl rfl ?_
  refine yT.iln (pc' := 637) g3 rfl rfl ?_
  refine yT.kI (pc' := 638) rfl rfl (by decide) (fun c5 e6 => ?_)
  refine yT.ad2 (pc' := 639) (Z := ((6 * k : Nat) : Int) + 1) ex e6 rfl rfl (by omega) (fun z7 e8 => ?_)
  refine yT.sia (j := 6 * k + 1) (pc' := 640) (hV _ (by omega)) (by omega) (by omega) (by omega) rfl rfl ?_
  refine kLM (yT.cc (G2 := 3783 * n + 763 * m) (pc' := 643) rfl rfl rfl hT1 (K1.up rfl : xnth ks1 60 = some (19, 0)) xM_232 (m_12 hT1 K1 hk (Int32.ofInt (zz (6 * k + 1)).toInt) P1) rfl (by decide) (by omega) rfl) (fun h2 σ2 v2 hT2 P2 => ?_)
  obtain ⟨y2, hv2⟩ := P2.2.2.2
  subst hv2
  have hnz := P2.2.2.1
  refine yT.p (pc' := 644) rfl rfl (fun _ _ _ _ => rfl) ?_
  refine yT.p (pc' := 1358) rfl rfl (fun _ _ _ _ => rfl) ?_
  exact yT.w (next ks1 σ2 h2 K1 hT2 P2.1 P2.2.1) (Nat.le_refl _) (by omega) (fun _ _ h => h)

set_option maxRecDepth 100000 in
set_option maxHeartbeats 4000000 in
theorem l_13 {L : Nat} {iv : List (Int × Int)} {zz : Nat → Int32} {ρ : Nat → xE} {ks : List cT} {B0 : Nat} {σ : sg} {h : List xE} {lv : xLv} {k n N : Nat} {Q : yQ} {x : Int32} (hL : L = N + 1) (hN : N ≤ 3072) (hV : ∀ j, j < N → xfl iv (j + 2000) = some (zz j).toInt) (K : KE KS0 ks B0) (hT : HT ks σ ρ h) (R : RI k σ) (E : EQ σ) (hk : k ≤ 511) (g0 : xget lv 0 = some (.ref 0)) (g1 : xget lv 1 = some (.ref (0 + 1))) (g2 : xget lv 2 = some (.ref (60 + 1))) (g3 : xget lv 3 = some (.int x)) (ex : x.toInt = ((6 * k : Nat) : Int)) (hi : 6 * k + 6 ≤ N)
    (next : ∀ (ks' : List cT) (σ' : sg) (h' : List xE), KE KS0 ks' (B0 + 72) → HT ks' σ' ρ h' → RI (k + 1) σ' → EQ σ' → yT L iv rL_law 1700 (3783 * n + 763 * nz σ') 1358 lv [] h' Q) : yT L iv rL_law 1700 (3783 * (n + 1) + 763 * nz σ) 647 lv [] h Q := by
  refine yT.aan (pc' := 648) g1 rfl rfl rfl ?_
  refine yT.aan (pc' := 649) g0 rfl rfl rfl ?_
  refine yT.iln (pc' := 650) g3 rfl rfl ?_
  refine yT.kI (pc' := 651) rfl rfl (by decide) (fun c1 e2 => ?_)
  refine yT.ad2 (pc' := 652) (Z := ((6 * k : Nat) : Int) + 1) ex e2 rfl rfl (by omega) (fun z3 e4 => ?_)
  refine yT.sia (j := 6 * k + 1) (pc' := 653) (hV _ (by omega)) (by omega) (by omega) (by omega) rfl rfl ?_
  obtain ⟨G, m, hG, w⟩ := w_13 hT K R E hk (Int32.ofInt (zz (6 * k + 1)).toInt)
  refine kLQ (yT.cc (G2 := 3783 * n + 763 * m) (pc' := 656) rfl rfl rfl hT (K.up rfl : xnth ks 0 = some (18, 0)) xM_123 w rfl (by decide) (by omega) rfl) (fun h1 ks1 σ1 v1 ke1 hT1 P1 => ?_)
  have K1 := K.tr ke1
  obtain ⟨y1, hv1⟩ := P1.2.2.2.2
  subst hv1
  refine yT.p (pc' := 657) rfl rfl (fun _ _ _ _ => rfl) ?_
  refine yT.aan (pc' := 658) g2 rfl rfl rfl ?_
  refine yT.aan (pc' := 659) g0 rfl rfl rfl ?_
  refine yT.iln (pc' := 660) g3 rfl rfl ?_
  refine yT.kI (pc' := 661) rfl rfl (by decide) (fun c5 e6 => ?_)
  refine yT.ad2 (pc' := 662) (Z := ((6 * k : Nat) : Int) + 1) ex e6 rfl rfl (by omega) (fun z7 e8 => ?_)
  refine yT.sia (j := 6 * k + 1) (pc' := 663) (hV _ (by omega)) (by omega) (by omega) (by omega) rfl rfl ?_
  refine kLM (yT.cc (G2 := 3783 * n + 763 * m) (pc' := 666) rfl rfl rfl hT1 (K1.up rfl : xnth ks1 60 = some (19, 0)) xM_233 (m_13 hT1 K1 hk (Int32.ofInt (zz (6 * k + 1)).toInt) P1) rfl (by decide) (by omega) rfl) (fun h2 σ2 v2 hT2 P2 => ?_)
  obtain ⟨y2, hv2⟩ := P2.2.2.2
  subst hv2
  have hnz := P2.2.2.1
  refine yT.p (pc' := 667) rfl rfl (fun _ _ _ _ => rfl) ?_
  refine yT.p (pc' := 1358) rfl rfl (fun _ _ _ _ => rfl) ?_
  exact yT.w (next ks1 σ2 h2 K1 hT2 P2.1 P2.2.1) (Nat.le_refl _) (by omega) (fun _ _ h => h)

set_option maxRecDepth 100000 in
set_option maxHeartbeats 4000000 in
theorem l_14 {L : Nat} {iv : List (Int × Int)} {zz : Nat → Int32} {ρ : Nat → xE} {ks : List cT} {B0 : Nat} {σ : sg} {h : List xE} {lv : xLv} {k n N : Nat} {Q : yQ} {x : Int32} (hL : L = N + 1) (hN : N ≤ 3072) (hV : ∀ j, j < N → xfl iv (j + 2000) = some (zz j).toInt) (K : KE KS0 ks B0) (hT : HT ks σ ρ h) (R : RI k σ) (E : EQ σ) (hk : k ≤ 511) (g0 : xget lv 0 = some (.ref 0)) (g1 : xget lv 1 = some (.ref (0 + 1))) (g2 : xget lv 2 = some (.ref (60 + 1))) (g3 : xget lv 3 = some (.int x)) (ex : x.toInt = ((6 * k : Nat) : Int)) (hi : 6 * k + 6 ≤ N)
    (next : ∀ (ks' : List cT) (σ' : sg) (h' : List xE), KE KS0 ks' (B0 + 72) → HT ks' σ' ρ h' → RI (k + 1) σ' → EQ σ' → yT L iv rL_law 1700 (3783 * n + 763 * nz σ') 1358 lv [] h' Q) : yT L iv rL_law 1700 (3783 * (n + 1) + 763 * nz σ) 670 lv [] h Q := by
  refine yT.aan (pc' := 671) g1 rfl rfl rfl ?_
  refine yT.aan (pc' := 672) g0 rfl rfl rfl ?_
  refine yT.iln (pc' := 673) g3 rfl rfl ?_
  refine yT.kI (pc' := 674) rfl rfl (by decide) (fun c1 e2 => ?_)
  refine yT.ad2 (pc' := 675) (Z := ((6 * k : Nat) : Int) + 1) ex e2 rfl rfl (by omega) (fun z3 e4 => ?_)
  refine yT.sia (j := 6 * k + 1) (pc' := 676) (hV _ (by omega)) (by omega) (by omega) (by omega) rfl rfl ?_
  refine yT.aan (pc' := 677) g0 rfl rfl rfl ?_
  refine yT.iln (pc' := 678) g3 rfl rfl ?_
  refine yT.kI (pc' := 679) rfl rfl (by decide) (fun c5 e6 => ?_)
  refine yT.ad2 (pc' := 680) (Z := ((6 * k : Nat) : Int) + 2) ex e6 rfl rfl (by omega) (fun z7 e8 => ?_)
  refine yT.sia (j := 6 * k + 2) (pc' := 681) (hV _ (by omega)) (by omega) (by omega) (by omega) rfl rfl ?_
  obtain ⟨G, m, hG, w⟩ := w_14 hT K R E hk (Int32.ofInt (zz (6 * k + 1)).toInt) (Int32.ofInt (zz (6 * k + 2)).toInt)
  refine kLQ (yT.cc (G2 := 3783 * n + 763 * m) (pc' := 684) rfl rfl rfl hT (K.up rfl : xnth ks 0 = some (18, 0)) xM_125 w rfl (by decide) (by omega) rfl) (fun h1 ks1 σ1 v1 ke1 hT1 P1 => ?_)
  have K1 := K.tr ke1
  obtain ⟨y1, hv1⟩ := P1.2.2.2
  subst hv1
  refine yT.p (pc' := 685) rfl rfl (fun _ _ _ _ => rfl) ?_
  refine yT.aan (pc' := 686) g2 rfl rfl rfl ?_
  refine yT.aan (pc' := 687) g0 rfl rfl rfl ?_
  refine yT.iln (pc' := 688) g3 rfl rfl ?_
  refine yT.kI (pc' := 689) rfl rfl (by decide) (fun c9 e10 => ?_)
  refine yT.ad2 (pc' := 690) (Z := ((6 * k : Nat) : Int) + 1) ex e10 rfl rfl (by omega) (fun z11 e12 => ?_)
  refine yT.sia (j := 6 * k + 1) (pc' := 691) (hV _ (by omega)) (by omega) (by omega) (by omega) rfl rfl ?_
  refine yT.aan (pc' := 692) g0 rfl rfl rfl ?_
  refine yT.iln (pc' := 693) g3 rfl rfl ?_
  refine yT.kI (pc' := 694) rfl rfl (by decide) (fun c13 e14 => ?_)
  refine yT.ad2 (pc' := 695) (Z := ((6 * k : Nat) : Int) + 2) ex e14 rfl rfl (by omega) (fun z15 e16 => ?_)
  refine yT.sia (j := 6 * k + 2) (pc' := 696) (hV _ (by omega)) (by omega) (by omega) (by omega) rfl rfl ?_
  refine kLM (yT.cc (G2 := 3783 * n + 763 * m) (pc' := 699) rfl rfl rfl hT1 (K1.up rfl : xnth ks1 60 = some (19, 0)) xM_236 (m_14 hT1 K1 hk (Int32.ofInt (zz (6 * k + 1)).toInt) (Int32.ofInt (zz (6 * k + 2)).toInt) P1) rfl (by decide) (by omega) rfl) (fun h2 σ2 v2 hT2 P2 => ?_)
  obtain ⟨y2, hv2⟩ := P2.2.2.2
  subst hv2
  have hnz := P2.2.2.1
  refine yT.p (pc' := 700) rfl rfl (fun _ _ _ _ => rfl) ?_
  refine yT.p (pc' := 1358) rfl rfl (fun _ _ _ _ => rfl) ?_
  exact yT.w (next ks1 σ2 h2 K1 hT2 P2.1 P2.2.1) (Nat.le_refl _) (by omega) (fun _ _ h => h)

set_option maxRecDepth 100000 in
set_option maxHeartbeats 4000000 in
theorem l_15 {L : Nat} {iv : List (Int × Int)} {zz : Nat → Int32} {ρ : Nat → xE} {ks : List cT} {B0 : Nat} {σ : sg} {h : List xE} {lv : xLv} {k n N : Nat} {Q : yQ} {x : Int32} (hL : L = N + 1) (hN : N ≤ 3072) (hV : ∀ j, j < N → xfl iv (j + 2000) = some (zz j).toInt) (K : KE KS0 ks B0) (hT : HT ks σ ρ h) (R : RI k σ) (E : EQ σ) (hk : k ≤ 511) (g0 : xget lv 0 = some (.ref 0)) (g1 : xget lv 1 = some (.ref (0 + 1))) (g2 : xget lv 2 = some (.ref (60 + 1))) (g3 : xget lv 3 = some (.int x)) (ex : x.toInt = ((6 * k : Nat) : Int)) (hi : 6 * k + 6 ≤ N)
    (next : ∀ (ks' : List cT) (σ' : sg) (h' : List xE), KE KS0 ks' (B0 + 72) → HT ks' σ' ρ h' → RI (k + 1) σ' → EQ σ' → yT L iv rL_law 1700 (3783 * n + 763 * nz σ') 1358 lv [] h' Q) : yT L iv rL_law 1700 (3783 * (n + 1) + 763 * nz σ) 703 lv [] h Q := by
  refine yT.aan (pc' := 704) g1 rfl rfl rfl ?_
  obtain ⟨G, m, hG, w⟩ := w_15 hT K R E hk 
  refine kLQ (yT.cc (G2 := 3783 * n + 763 * m) (pc' := 707) rfl rfl rfl hT (K.up rfl : xnth ks 0 = some (18, 0)) xM_126 w rfl (by decide) (by omega) rfl) (fun h1 ks1 σ1 v1 ke1 hT1 P1 => ?_)
  have K1 := K.tr ke1
  obtain ⟨y1, hv1⟩ := (P1.2.2.2.2.2.imp (fun _ h => h.1))
  subst hv1
  refine yT.p (pc' := 708) rfl rfl (fun _ _ _ _ => rfl) ?_
  refine yT.aan (pc' := 709) g2 rfl rfl rfl ?_
  refine kLM (yT.cc (G2 := 3783 * n + 763 * m) (pc' := 712) rfl rfl rfl hT1 (K1.up rfl : xnth ks1 60 = some (19, 0)) xM_237 (m_15 hT1 K1 hk  P1) rfl (by decide) (by omega) rfl) (fun h2 σ2 v2 hT2 P2 => ?_)
  have hv2 := P2.2.2.2
  subst hv2
  have hnz := P2.2.2.1
  refine yT.p (pc' := 713) rfl rfl (fun _ _ _ _ => rfl) ?_
  refine yT.p (pc' := 1358) rfl rfl (fun _ _ _ _ => rfl) ?_
  exact yT.w (next ks1 σ2 h2 K1 hT2 P2.1 P2.2.1) (Nat.le_refl _) (by omega) (fun _ _ h => h)

set_option maxRecDepth 100000 in
set_option maxHeartbeats 4000000 in
theorem l_16 {L : Nat} {iv : List (Int × Int)} {zz : Nat → Int32} {ρ : Nat → xE} {ks : List cT} {B0 : Nat} {σ : sg} {h : List xE} {lv : xLv} {k n N : Nat} {Q : yQ} {x : Int32} (hL : L = N + 1) (hN : N ≤ 3072) (hV : ∀ j, j < N → xfl iv (j + 2000) = some (zz j).toInt) (K : KE KS0 ks B0) (hT : HT ks σ ρ h) (R : RI k σ) (E : EQ σ) (hk : k ≤ 511) (g0 : xget lv 0 = some (.ref 0)) (g1 : xget lv 1 = some (.ref (0 + 1))) (g2 : xget lv 2 = some (.ref (60 + 1))) (g3 : xget lv 3 = some (.int x)) (ex : x.toInt = ((6 * k : Nat) : Int)) (hi : 6 * k + 6 ≤ N)
    (next : ∀ (ks' : List cT) (σ' : sg) (h' : List xE), KE KS0 ks' (B0 + 72) → HT ks' σ' ρ h' → RI (k + 1) σ' → EQ σ' → yT L iv rL_law 1700 (3783 * n + 763 * nz σ') 1358 lv [] h' Q) : yT L iv rL_law 1700 (3783 * (n + 1) + 763 * nz σ) 716 lv [] h Q := by
  refine yT.aan (pc' := 717) g1 rfl rfl rfl ?_
  obtain ⟨G, m, hG, w⟩ := w_16 hT K R E hk 
  refine kLQ (yT.cc (G2 := 3783 * n + 763 * m) (pc' := 720) rfl rfl rfl hT (K.up rfl : xnth ks 0 = some (18, 0)) xM_127 w rfl (by decide) (by omega) rfl) (fun h1 ks1 σ1 v1 ke1 hT1 P1 => ?_)
  have K1 := K.tr ke1
  obtain ⟨y1, hv1⟩ := (P1.2.2.2.2.2.imp (fun _ h => h.1))
  subst hv1
  refine yT.p (pc' := 721) rfl rfl (fun _ _ _ _ => rfl) ?_
  refine yT.aan (pc' := 722) g2 rfl rfl rfl ?_
  refine kLM (yT.cc (G2 := 3783 * n + 763 * m) (pc' := 725) rfl rfl rfl hT1 (K1.up rfl : xnth ks1 60 = some (19, 0)) xM_238 (m_16 hT1 K1 hk  P1) rfl (by decide) (by omega) rfl) (fun h2 σ2 v2 hT2 P2 => ?_)
  have hv2 := P2.2.2.2
  subst hv2
  have hnz := P2.2.2.1
  refine yT.p (pc' := 726) rfl rfl (fun _ _ _ _ => rfl) ?_
  refine yT.p (pc' := 1358) rfl rfl (fun _ _ _ _ => rfl) ?_
  exact yT.w (next ks1 σ2 h2 K1 hT2 P2.1 P2.2.1) (Nat.le_refl _) (by omega) (fun _ _ h => h)

set_option maxRecDepth 100000 in
set_option maxHeartbeats 4000000 in
theorem l_17 {L : Nat} {iv : List (Int × Int)} {zz : Nat → Int32} {ρ : Nat → xE} {ks : List cT} {B0 : Nat} {σ : sg} {h : List xE} {lv : xLv} {k n N : Nat} {Q : yQ} {x : Int32} (hL : L = N + 1) (hN : N ≤ 3072) (hV : ∀ j, j < N → xfl iv (j + 2000) = some (zz j).toInt) (K : KE KS0 ks B0) (hT : HT ks σ ρ h) (R : RI k σ) (E : EQ σ) (hk : k ≤ 511) (g0 : xget lv 0 = some (.ref 0)) (g1 : xget lv 1 = some (.ref (0 + 1))) (g2 : xget lv 2 = some (.ref (60 + 1))) (g3 : xget lv 3 = some (.int x)) (ex : x.toInt = ((6 * k : Nat) : Int)) (hi : 6 * k + 6 ≤ N)
    (next : ∀ (ks' : List cT) (σ' : sg) (h' : List xE), KE KS0 ks' (B0 + 72) → HT ks' σ' ρ h' → RI (k + 1) σ' → EQ σ' → yT L iv rL_law 1700 (3783 * n + 763 * nz σ') 1358 lv [] h' Q) : yT L iv rL_law 1700 (3783 * (n + 1) + 763 * nz σ) 729 lv [] h Q := by
  refine yT.aan (pc' := 730) g1 rfl rfl rfl ?_
  refine yT.aan (pc' := 731) g0 rfl rfl rfl ?_
  refine yT.iln (pc' := 732) g3 rfl rfl ?_
  refine yT.kI (pc' := 733) rfl rfl (by decide) (fun c1 e2 => ?_)
  refine yT.ad2 (pc' := 734) (Z := ((6 * k : Nat) : Int) + 1) ex e2 rfl rfl (by omega) (fun z3 e4 => ?_)
  refine yT.sia (j := 6 * k + 1) (pc' := 735) (hV _ (by omega)) (by omega) (by omega) (by omega) rfl rfl ?_
  obtain ⟨G, m, hG, w⟩ := w_17 hT K R E hk (Int32.ofInt (zz (6 * k + 1)).toInt)
  refine kLQ (yT.cc (G2 := 3783 * n + 763 * m) (pc' := 738) rfl rfl rfl hT (K.up rfl : xnth ks 0 = some (18, 0)) xM_128 w rfl (by decide) (by omega) rfl) (fun h1 ks1 σ1 v1 ke1 hT1 P1 => ?_)
  have K1 := K.tr ke1
  obtain ⟨y1, hv1⟩ := P1.2.2.2
  subst hv1
  refine yT.p (pc' := 739) rfl rfl (fun _ _ _ _ => rfl) ?_
  refine yT.aan (pc' := 740) g2 rfl rfl rfl ?_
  refine yT.aan (pc' := 741) g0 rfl rfl rfl ?_
  refine yT.iln (pc' := 742) g3 rfl rfl ?_
  refine yT.kI (pc' := 743) rfl rfl (by decide) (fun c5 e6 => ?_)
  refine yT.ad2 (pc' := 744) (Z := ((6 * k : Nat) : Int) + 1) ex e6 rfl rfl (by omega) (fun z7 e8 => ?_)
  refine yT.sia (j := 6 * k + 1) (pc' := 745) (hV _ (by omega)) (by omega) (by omega) (by omega) rfl rfl ?_
  refine kLM (yT.cc (G2 := 3783 * n + 763 * m) (pc' := 748) rfl rfl rfl hT1 (K1.up rfl : xnth ks1 60 = some (19, 0)) xM_239 (m_17 hT1 K1 hk (Int32.ofInt (zz (6 * k + 1)).toInt) P1) rfl (by decide) (by omega) rfl) (fun h2 σ2 v2 hT2 P2 => ?_)
  obtain ⟨y2, hv2⟩ := P2.2.2.2
  subst hv2
  have hnz := P2.2.2.1
  refine yT.p (pc' := 749) rfl rfl (fun _ _ _ _ => rfl) ?_
  refine yT.p (pc' := 1358) rfl rfl (fun _ _ _ _ => rfl) ?_
  exact yT.w (next ks1 σ2 h2 K1 hT2 P2.1 P2.2.1) (Nat.le_refl _) (by omega) (fun _ _ h => h)

set_option maxRecDepth 100000 in
set_option maxHeartbeats 4000000 in
theorem l_18 {L : Nat} {iv : List (Int × Int)} {zz : Nat → Int32} {ρ : Nat → xE} {ks : List cT} {B0 : Nat} {σ : sg} {h : List xE} {lv : xLv} {k n N : Nat} {Q : yQ} {x : Int32} (hL : L = N + 1) (hN : N ≤ 3072) (hV : ∀ j, j < N → xfl iv (j + 2000) = some (zz j).toInt) (K : KE KS0 ks B0) (hT : HT ks σ ρ h) (R : RI k σ) (E : EQ σ) (hk : k ≤ 511) (g0 : xget lv 0 = some (.ref 0)) (g1 : xget lv 1 = some (.ref (0 + 1))) (g2 : xget lv 2 = some (.ref (60 + 1))) (g3 : xget lv 3 = some (.int x)) (ex : x.toInt = ((6 * k : Nat) : Int)) (hi : 6 * k + 6 ≤ N)
    (next : ∀ (ks' : List cT) (σ' : sg) (h' : List xE), KE KS0 ks' (B0 + 72) → HT ks' σ' ρ h' → RI (k + 1) σ' → EQ σ' → yT L iv rL_law 1700 (3783 * n + 763 * nz σ') 1358 lv [] h' Q) : yT L iv rL_law 1700 (3783 * (n + 1) + 763 * nz σ) 752 lv [] h Q := by
  refine yT.aan (pc' := 753) g1 rfl rfl rfl ?_
  refine yT.aan (pc' := 754) g0 rfl rfl rfl ?_
  refine yT.iln (pc' := 755) g3 rfl rfl ?_
  refine yT.kI (pc' := 756) rfl rfl (by decide) (fun c1 e2 => ?_)
  refine yT.ad2 (pc' := 757) (Z := ((6 * k : Nat) : Int) + 1) ex e2 rfl rfl (by omega) (fun z3 e4 => ?_)
  refine yT.sia (j := 6 * k + 1) (pc' := 758) (hV _ (by omega)) (by omega) (by omega) (by omega) rfl rfl ?_
  obtain ⟨G, m, hG, w⟩ := w_18 hT K R E hk (Int32.ofInt (zz (6 * k + 1)).toInt)
  refine kLQ (yT.cc (G2 := 3783 * n + 763 * m) (pc' := 761) rfl rfl rfl hT (K.up rfl : xnth ks 0 = some (18, 0)) xM_129 w rfl (by decide) (by omega) rfl) (fun h1 ks1 σ1 v1 ke1 hT1 P1 => ?_)
  have K1 := K.tr ke1
  obtain ⟨y1, hv1⟩ := P1.2.2.2
  subst hv1
  refine yT.p (pc' := 762) rfl rfl (fun _ _ _ _ => rfl) ?_
  refine yT.aan (pc' := 763) g2 rfl rfl rfl ?_
  refine yT.aan (pc' := 764) g0 rfl rfl rfl ?_
  refine yT.iln (pc' := 765) g3 rfl rfl ?_
  refine yT.kI (pc' := 766) rfl rfl (by decide) (fun c5 e6 => ?_)
  refine yT.ad2 (pc' := 767) (Z := ((6 * k : Nat) : Int) + 1) ex e6 rfl rfl (by omega) (fun z7 e8 => ?_)
  refine yT.sia (j := 6 * k + 1) (pc' := 768) (hV _ (by omega)) (by omega) (by omega) (by omega) rfl rfl ?_
  refine kLM (yT.cc (G2 := 3783 * n + 763 * m) (pc' := 771) rfl rfl rfl hT1 (K1.up rfl : xnth ks1 60 = some (19, 0)) xM_241 (m_18 hT1 K1 hk (Int32.ofInt (zz (6 * k + 1)).toInt) P1) rfl (by decide) (by omega) rfl) (fun h2 σ2 v2 hT2 P2 => ?_)
  obtain ⟨y2, hv2⟩ := P2.2.2.2
  subst hv2
  have hnz := P2.2.2.1
  refine yT.p (pc' := 772) rfl rfl (fun _ _ _ _ => rfl) ?_
  refine yT.p (pc' := 1358) rfl rfl (fun _ _ _ _ => rfl) ?_
  exact yT.w (next ks1 σ2 h2 K1 hT2 P2.1 P2.2.1) (Nat.le_refl _) (by omega) (fun _ _ h => h)

set_option maxRecDepth 100000 in
set_option maxHeartbeats 4000000 in
theorem l_19 {L : Nat} {iv : List (Int × Int)} {zz : Nat → Int32} {ρ : Nat → xE} {ks : List cT} {B0 : Nat} {σ : sg} {h : List xE} {lv : xLv} {k n N : Nat} {Q : yQ} {x : Int32} (hL : L = N + 1) (hN : N ≤ 3072) (hV : ∀ j, j < N → xfl iv (j + 2000) = some (zz j).toInt) (K : KE KS0 ks B0) (hT : HT ks σ ρ h) (R : RI k σ) (E : EQ σ) (hk : k ≤ 511) (g0 : xget lv 0 = some (.ref 0)) (g1 : xget lv 1 = some (.ref (0 + 1))) (g2 : xget lv 2 = some (.ref (60 + 1))) (g3 : xget lv 3 = some (.int x)) (ex : x.toInt = ((6 * k : Nat) : Int)) (hi : 6 * k + 6 ≤ N)
    (next : ∀ (ks' : List cT) (σ' : sg) (h' : List xE), KE KS0 ks' (B0 + 72) → HT ks' σ' ρ h' → RI (k + 1) σ' → EQ σ' → yT L iv rL_law 1700 (3783 * n + 763 * nz σ') 1358 lv [] h' Q) : yT L iv rL_law 1700 (3783 * (n + 1) + 763 * nz σ) 775 lv [] h Q := by
  refine yT.aan (pc' := 776) g1 rfl rfl rfl ?_
  refine yT.aan (pc' := 777) g0 rfl rfl rfl ?_
  refine yT.iln (pc' := 778) g3 rfl rfl ?_
  refine yT.kI (pc' := 779) rfl rfl (by decide) (fun c1 e2 => ?_)
  refine yT.ad2 (pc' := 780) (Z := ((6 * k : Nat) : Int) + 1) ex e2 rfl rfl (by omega) (fun z3 e4 => ?_)
  refine yT.sia (j := 6 * k + 1) (pc' := 781) (hV _ (by omega)) (by omega) (by omega) (by omega) rfl rfl ?_
  obtain ⟨G, m, hG, w⟩ := w_19 hT K R E hk (Int32.ofInt (zz (6 * k + 1)).toInt)
  refine kLQ (yT.cc (G2 := 3783 * n + 763 * m) (pc' := 784) rfl rfl rfl hT (K.up rfl : xnth ks 0 = some (18, 0)) xM_130 w rfl (by decide) (by omega) rfl) (fun h1 ks1 σ1 v1 ke1 hT1 P1 => ?_)
  have K1 := K.tr ke1
  obtain ⟨y1, hv1⟩ := P1.2.2.2
  subst hv1
  refine yT.p (pc' := 785) rfl rfl (fun _ _ _ _ => rfl) ?_
  refine yT.aan (pc' := 786) g2 rfl rfl rfl ?_
  refine yT.aan (pc' := 787) g0 rfl rfl rfl ?_
  refine yT.iln (pc' := 788) g3 rfl rfl ?_
  refine yT.kI (pc' := 789) rfl rfl (by decide) (fun c5 e6 => ?_)
  refine yT.ad2 (pc' := 790) (Z := ((6 * k : Nat) : Int) + 1) ex e6 rfl rfl (by omega) (fun z7 e8 => ?_)
  refine yT.sia (j := 6 * k + 1) (pc' := 791) (hV _ (by omega)) (by omega) (by omega) (by omega) rfl rfl ?_
  refine kLM (yT.cc (G2 := 3783 * n + 763 * m) (pc' := 794) rfl rfl rfl hT1 (K1.up rfl : xnth ks1 60 = some (19, 0)) xM_242 (m_19 hT1 K1 hk (Int32.ofInt (zz (6 * k + 1)).toInt) P1) rfl (by decide) (by omega) rfl) (fun h2 σ2 v2 hT2 P2 => ?_)
  obtain ⟨y2, hv2⟩ := P2.2.2.2
  subst hv2
  have hnz := P2.2.2.1
  refine yT.p (pc' := 795) rfl rfl (fun _ _ _ _ => rfl) ?_
  refine yT.p (pc' := 1358) rfl rfl (fun _ _ _ _ => rfl) ?_
  exact yT.w (next ks1 σ2 h2 K1 hT2 P2.1 P2.2.1) (Nat.le_refl _) (by omega) (fun _ _ h => h)

set_option maxRecDepth 100000 in
set_option maxHeartbeats 4000000 in
theorem l_20 {L : Nat} {iv : List (Int × Int)} {zz : Nat → Int32} {ρ : Nat → xE} {ks : List cT} {B0 : Nat} {σ : sg} {h : List xE} {lv : xLv} {k n N : Nat} {Q : yQ} {x : Int32} (hL : L = N + 1) (hN : N ≤ 3072) (hV : ∀ j, j < N → xfl iv (j + 2000) = some (zz j).toInt) (K : KE KS0 ks B0) (hT : HT ks σ ρ h) (R : RI k σ) (E : EQ σ) (hk : k ≤ 511) (g0 : xget lv 0 = some (.ref 0)) (g1 : xget lv 1 = some (.ref (0 + 1))) (g2 : xget lv 2 = some (.ref (60 + 1))) (g3 : xget lv 3 = some (.int x)) (ex : x.toInt = ((6 * k : Nat) : Int)) (hi : 6 * k + 6 ≤ N)
    (next : ∀ (ks' : List cT) (σ' : sg) (h' : List xE), KE KS0 ks' (B0 + 72) → HT ks' σ' ρ h' → RI (k + 1) σ' → EQ σ' → yT L iv rL_law 1700 (3783 * n + 763 * nz σ') 1358 lv [] h' Q) : yT L iv rL_law 1700 (3783 * (n + 1) + 763 * nz σ) 798 lv [] h Q := by
  refine yT.aan (pc' := 799) g1 rfl rfl rfl ?_
  refine yT.aan (pc' := 800) g0 rfl rfl rfl ?_
  refine yT.iln (pc' := 801) g3 rfl rfl ?_
  refine yT.kI (pc' := 802) rfl rfl (by decide) (fun c1 e2 => ?_)
  refine yT.ad2 (pc' := 803) (Z := ((6 * k : Nat) : Int) + 1) ex e2 rfl rfl (by omega) (fun z3 e4 => ?_)
  refine yT.sia (j := 6 * k + 1) (pc' := 804) (hV _ (by omega)) (by omega) (by omega) (by omega) rfl rfl ?_
  refine yT.aan (pc' := 805) g0 rfl rfl rfl ?_
  refine yT.iln (pc' := 806) g3 rfl rfl ?_
  refine yT.kI (pc' := 807) rfl rfl (by decide) (fun c5 e6 => ?_)
  refine yT.ad2 (pc' := 808) (Z := ((6 * k : Nat) : Int) + 2) ex e6 rfl rfl (by omega) (fun z7 e8 => ?_)
  refine yT.sia (j := 6 * k + 2) (pc' := 809) (hV _ (by omega)) (by omega) (by omega) (by omega) rfl rfl ?_
  obtain ⟨G, m, hG, w⟩ := w_20 hT K R E hk (Int32.ofInt (zz (6 * k + 1)).toInt) (Int32.ofInt (zz (6 * k + 2)).toInt)
  refine kLQ (yT.cc (G2 := 3783 * n + 763 * m) (pc' := 812) rfl rfl rfl hT (K.up rfl : xnth ks 0 = some (18, 0)) xM_131 w rfl (by decide) (by omega) rfl) (fun h1 ks1 σ1 v1 ke1 hT1 P1 => ?_)
  have K1 := K.tr ke1
  obtain ⟨y1, hv1⟩ := P1.2.2.2
  subst hv1
  refine yT.p (pc' := 813) rfl rfl (fun _ _ _ _ => rfl) ?_
  refine yT.aan (pc' := 814) g2 rfl rfl rfl ?_
  refine yT.aan (pc' := 815) g0 rfl rfl rfl ?_
  refine yT.iln (pc' := 816) g3 rfl rfl ?_
  refine yT.kI (pc' := 817) rfl rfl (by decide) (fun c9 e10 => ?_)
  refine yT.ad2 (pc' := 818) (Z := ((6 * k : Nat) : Int) + 1) ex e10 rfl rfl (by omega) (fun z11 e12 => ?_)
  refine yT.sia (j := 6 * k + 1) (pc' := 819) (hV _ (by omega)) (by omega) (by omega) (by omega) rfl rfl ?_
  refine yT.aan (pc' := 820) g0 rfl rfl rfl ?_
  refine yT.iln (pc' := 821) g3 rfl rfl ?_
  refine yT.kI (pc' := 822) rfl rfl (by decide) (fun c13 e14 => ?_)
  refine yT.ad2 (pc' := 823) (Z := ((6 * k : Nat) : Int) + 2) ex e14 rfl rfl (by omega) (fun z15 e16 => ?_)
  refine yT.sia (j := 6 * k + 2) (pc' := 824) (hV _ (by omega)) (by omega) (by omega) (by omega) rfl rfl ?_
  refine kLM (yT.cc (G2 := 3783 * n + 763 * m) (pc' := 827) rfl rfl rfl hT1 (K1.up rfl : xnth ks1 60 = some (19, 0)) xM_246 (m_20 hT1 K1 hk (Int32.ofInt (zz (6 * k + 1)).toInt) (Int32.ofInt (zz (6 * k + 2)).toInt) P1) rfl (by decide) (by omega) rfl) (fun h2 σ2 v2 hT2 P2 => ?_)
  obtain ⟨y2, hv2⟩ := P2.2.2.2
  subst hv2
  have hnz := P2.2.2.1
  refine yT.p (pc' := 828) rfl rfl (fun _ _ _ _ => rfl) ?_
  refine yT.p (pc' := 1358) rfl rfl (fun _ _ _ _ => rfl) ?_
  exact yT.w (next ks1 σ2 h2 K1 hT2 P2.1 P2.2.1) (Nat.le_refl _) (by omega) (fun _ _ h => h)

set_option maxRecDepth 100000 in
set_option maxHeartbeats 4000000 in
theorem l_21 {L : Nat} {iv : List (Int × Int)} {zz : Nat → Int32} {ρ : Nat → xE} {ks : List cT} {B0 : Nat} {σ : sg} {h : List xE} {lv : xLv} {k n N : Nat} {Q : yQ} {x : Int32} (hL : L = N + 1) (hN : N ≤ 3072) (hV : ∀ j, j < N → xfl iv (j + 2000) = some (zz j).toInt) (K : KE KS0 ks B0) (hT : HT ks σ ρ h) (R : RI k σ) (E : EQ σ) (hk : k ≤ 511) (g0 : xget lv 0 = some (.ref 0)) (g1 : xget lv 1 = some (.ref (0 + 1))) (g2 : xget lv 2 = some (.ref (60 + 1))) (g3 : xget lv 3 = some (.int x)) (ex : x.toInt = ((6 * k : Nat) : Int)) (hi : 6 * k + 6 ≤ N)
    (next : ∀ (ks' : List cT) (σ' : sg) (h' : List xE), KE KS0 ks' (B0 + 72) → HT ks' σ' ρ h' → RI (k + 1) σ' → EQ σ' → yT L iv rL_law 1700 (3783 * n + 763 * nz σ') 1358 lv [] h' Q) : yT L iv rL_law 1700 (3783 * (n + 1) + 763 * nz σ) 831 lv [] h Q := by
  refine yT.aan (pc' := 832) g1 rfl rfl rfl ?_
  refine yT.aan (pc' := 833) g0 rfl rfl rfl ?_
  refine yT.iln (pc' := 834) g3 rfl rfl ?_
  refine yT.kI (pc' := 835) rfl rfl (by decide) (fun c1 e2 => ?_)
  refine yT.ad2 (pc' := 836) (Z := ((6 * k : Nat) : Int) + 1) ex e2 rfl rfl (by omega) (fun z3 e4 => ?_)
  refine yT.sia (j := 6 * k + 1) (pc' := 837) (hV _ (by omega)) (by omega) (by omega) (by omega) rfl rfl ?_
  refine yT.aan (pc' := 838) g0 rfl rfl rfl ?_
  refine yT.iln (pc' := 839) g3 rfl rfl ?_
  refine yT.kI (pc' := 840) rfl rfl (by decide) (fun c5 e6 => ?_)
  refine yT.ad2 (pc' := 841) (Z := ((6 * k : Nat) : Int) + 2) ex e6 rfl rfl (by omega) (fun z7 e8 => ?_)
  refine yT.sia (j := 6 * k + 2) (pc' := 842) (hV _ (by omega)) (by omega) (by omega) (by omega) rfl rfl ?_
  obtain ⟨G, m, hG, w⟩ := w_21 hT K R E hk (Int32.ofInt (zz (6 * k + 1)).toInt) (Int32.ofInt (zz (6 * k + 2)).toInt)
  refine kLQ (yT.cc (G2 := 3783 * n + 763 * m) (pc' := 845) rfl rfl rfl hT (K.up rfl : xnth ks 0 = some (18, 0)) xM_132 w rfl (by decide) (by omega) rfl) (fun h1 ks1 σ1 v1 ke1 hT1 P1 => ?_)
  have K1 := K.tr ke1
  obtain ⟨y1, hv1⟩ := P1.2.2.2
  subst hv1
  refine yT.p (pc' := 846) rfl rfl (fun _ _ _ _ => rfl) ?_
  refine yT.aan (pc' := 847) g2 rfl rfl rfl ?_
  refine yT.aan (pc' := 848) g0 rfl rfl rfl ?_
  refine yT.iln (pc' := 849) g3 rfl rfl ?_
  refine yT.kI (pc' := 850) rfl rfl (by decide) (fun c9 e10 => ?_)
  refine yT.ad2 (pc' := 851) (Z := ((6 * k : Nat) : Int) + 1) ex e10 rfl rfl (by omega) (fun z11 e12 => ?_)
  refine yT.sia (j := 6 * k + 1) (pc' := 852) (hV _ (by omega)) (by omega) (by omega) (by omega) rfl rfl ?_
  refine yT.aan (pc' := 853) g0 rfl rfl rfl ?_
  refine yT.iln (pc' := 854) g3 rfl rfl ?_
  refine yT.kI (pc' := 855) rfl rfl (by decide) (fun c13 e14 => ?_)
  refine yT.ad2 (pc' := 856) (Z := ((6 * k : Nat) : Int) + 2) ex e14 rfl rfl (by omega) (fun z15 e16 => ?_)
  refine yT.sia (j := 6 * k + 2) (pc' := 857) (hV _ (by omega)) (by omega) (by omega) (by omega) rfl rfl ?_
  refine kLM (yT.cc (G2 := 3783 * n + 763 * m) (pc' := 860) rfl rfl rfl hT1 (K1.up rfl : xnth ks1 60 = some (19, 0)) xM_247 (m_21 hT1 K1 hk (Int32.ofInt (zz (6 * k + 1)).toInt) (Int32.ofInt (zz (6 * k + 2)).toInt) P1) rfl (by decide) (by omega) rfl) (fun h2 σ2 v2 hT2 P2 => ?_)
  obtain ⟨y2, hv2⟩ := P2.2.2.2
  subst hv2
  have hnz := P2.2.2.1
  refine yT.p (pc' := 861) rfl rfl (fun _ _ _ _ => rfl) ?_
  refine yT.p (pc' := 1358) rfl rfl (fun _ _ _ _ => rfl) ?_
  exact yT.w (next ks1 σ2 h2 K1 hT2 P2.1 P2.2.1) (Nat.le_refl _) (by omega) (fun _ _ h => h)

set_option maxRecDepth 100000 in
set_option maxHeartbeats 4000000 in
theorem l_22 {L : Nat} {iv : List (Int × Int)} {zz : Nat → Int32} {ρ : Nat → xE} {ks : List cT} {B0 : Nat} {σ : sg} {h : List xE} {lv : xLv} {k n N : Nat} {Q : yQ} {x : Int32} (hL : L = N + 1) (hN : N ≤ 3072) (hV : ∀ j, j < N → xfl iv (j + 2000) = some (zz j).toInt) (K : KE KS0 ks B0) (hT : HT ks σ ρ h) (R : RI k σ) (E : EQ σ) (hk : k ≤ 511) (g0 : xget lv 0 = some (.ref 0)) (g1 : xget lv 1 = some (.ref (0 + 1))) (g2 : xget lv 2 = some (.ref (60 + 1))) (g3 : xget lv 3 = some (.int x)) (ex : x.toInt = ((6 * k : Nat) : Int)) (hi : 6 * k + 6 ≤ N)
    (next : ∀ (ks' : List cT) (σ' : sg) (h' : List xE), KE KS0 ks' (B0 + 72) → HT ks' σ' ρ h' → RI (k + 1) σ' → EQ σ' → yT L iv rL_law 1700 (3783 * n + 763 * nz σ') 1358 lv [] h' Q) : yT L iv rL_law 1700 (3783 * (n + 1) + 763 * nz σ) 864 lv [] h Q := by
  refine yT.aan (pc' := 865) g1 rfl rfl rfl ?_
  refine yT.aan (pc' := 866) g0 rfl rfl rfl ?_
  refine yT.iln (pc' := 867) g3 rfl rfl ?_
  refine yT.kI (pc' := 868) rfl rfl (by decide) (fun c1 e2 => ?_)
  refine yT.ad2 (pc' := 869) (Z := ((6 * k : Nat) : Int) + 1) ex e2 rfl rfl (by omega) (fun z3 e4 => ?_)
  refine yT.sia (j := 6 * k + 1) (pc' := 870) (hV _ (by omega)) (by omega) (by omega) (by omega) rfl rfl ?_
  refine yT.aan (pc' := 871) g0 rfl rfl rfl ?_
  refine yT.iln (pc' := 872) g3 rfl rfl ?_
  refine yT.kI (pc' := 873) rfl rfl (by decide) (fun c5 e6 => ?_)
  refine yT.ad2 (pc' := 874) (Z := ((6 * k : Nat) : Int) + 2) ex e6 rfl rfl (by omega) (fun z7 e8 => ?_)
  refine yT.sia (j := 6 * k + 2) (pc' := 875) (hV _ (by omega)) (by omega) (by omega) (by omega) rfl rfl ?_
  obtain ⟨G, m, hG, w⟩ := w_22 hT K R E hk (Int32.ofInt (zz (6 * k + 1)).toInt) (Int32.ofInt (zz (6 * k + 2)).toInt)
  refine kLQ (yT.cc (G2 := 3783 * n + 763 * m) (pc' := 878) rfl rfl rfl hT (K.up rfl : xnth ks 0 = some (18, 0)) xM_133 w rfl (by decide) (by omega) rfl) (fun h1 ks1 σ1 v1 ke1 hT1 P1 => ?_)
  have K1 := K.tr ke1
  obtain ⟨y1, hv1⟩ := P1.2.2.2
  subst hv1
  refine yT.p (pc' := 879) rfl rfl (fun _ _ _ _ => rfl) ?_
  refine yT.aan (pc' := 880) g2 rfl rfl rfl ?_
  refine yT.aan (pc' := 881) g0 rfl rfl rfl ?_
  refine yT.iln (pc' := 882) g3 rfl rfl ?_
  refine yT.kI (pc' := 883) rfl rfl (by decide) (fun c9 e10 => ?_)
  refine yT.ad2 (pc' := 884) (Z := ((6 * k : Nat) : Int) + 1) ex e10 rfl rfl (by omega) (fun z11 e12 => ?_)
  refine yT.sia (j := 6 * k + 1) (pc' := 885) (hV _ (by omega)) (by omega) (by omega) (by omega) rfl rfl ?_
  refine yT.aan (pc' := 886) g0 rfl rfl rfl ?_
  refine yT.iln (pc' := 887) g3 rfl rfl ?_
  refine yT.kI (pc' := 888) rfl rfl (by decide) (fun c13 e14 => ?_)
  refine yT.ad2 (pc' := 889) (Z := ((6 * k : Nat) : Int) + 2) ex e14 rfl rfl (by omega) (fun z15 e16 => ?_)
  refine yT.sia (j := 6 * k + 2) (pc' := 890) (hV _ (by omega)) (by omega) (by omega) (by omega) rfl rfl ?_
  refine kLM (yT.cc (G2 := 3783 * n + 763 * m) (pc' := 893) rfl rfl rfl hT1 (K1.up rfl : xnth ks1 60 = some (19, 0)) xM_210 (m_22 hT1 K1 hk (Int32.ofInt (zz (6 * k + 1)).toInt) (Int32.ofInt (zz (6 * k + 2)).toInt) P1) rfl (by decide) (by omega) rfl) (fun h2 σ2 v2 hT2 P2 => ?_)
  obtain ⟨y2, hv2⟩ := P2.2.2.2
  subst hv2
  have hnz := P2.2.2.1
  refine yT.p (pc' := 894) rfl rfl (fun _ _ _ _ => rfl) ?_
  refine yT.p (pc' := 1358) rfl rfl (fun _ _ _ _ => rfl) ?_
  exact yT.w (next ks1 σ2 h2 K1 hT2 P2.1 P2.2.1) (Nat.le_refl _) (by omega) (fun _ _ h => h)

set_option maxRecDepth 100000 in
set_option maxHeartbeats 4000000 in
theorem l_23 {L : Nat} {iv : List (Int × Int)} {zz : Nat → Int32} {ρ : Nat → xE} {ks : List cT} {B0 : Nat} {σ : sg} {h : List xE} {lv : xLv} {k n N : Nat} {Q : yQ} {x : Int32} (hL : L = N + 1) (hN : N ≤ 3072) (hV : ∀ j, j < N → xfl iv (j + 2000) = some (zz j).toInt) (K : KE KS0 ks B0) (hT : HT ks σ ρ h) (R : RI k σ) (E : EQ σ) (hk : k ≤ 511) (g0 : xget lv 0 = some (.ref 0)) (g1 : xget lv 1 = some (.ref (0 + 1))) (g2 : xget lv 2 = some (.ref (60 + 1))) (g3 : xget lv 3 = some (.int x)) (ex : x.toInt = ((6 * k : Nat) : Int)) (hi : 6 * k + 6 ≤ N)
    (next : ∀ (ks' : List cT) (σ' : sg) (h' : List xE), KE KS0 ks' (B0 + 72) → HT ks' σ' ρ h' → RI (k + 1) σ' → EQ σ' → yT L iv rL_law 1700 (3783 * n + 763 * nz σ') 1358 lv [] h' Q) : yT L iv rL_law 1700 (3783 * (n + 1) + 763 * nz σ) 897 lv [] h Q := by
  refine yT.aan (pc' := 898) g1 rfl rfl rfl ?_
  refine yT.aan (pc' := 899) g0 rfl rfl rfl ?_
  refine yT.iln (pc' := 900) g3 rfl rfl ?_
  refine yT.kI (pc' := 901) rfl rfl (by decide) (fun c1 e2 => ?_)
  refine yT.ad2 (pc' := 902) (Z := ((6 * k : Nat) : Int) + 1) ex e2 rfl rfl (by omega) (fun z3 e4 => ?_)
  refine yT.sia (j := 6 * k + 1) (pc' := 903) (hV _ (by omega)) (by omega) (by omega) (by omega) rfl rfl ?_
  obtain ⟨G, m, hG, w⟩ := w_23 hT K R E hk (Int32.ofInt (zz (6 * k + 1)).toInt)
  refine kLQ (yT.cc (G2 := 3783 * n + 763 * m) (pc' := 906) rfl rfl rfl hT (K.up rfl : xnth ks 0 = some (18, 0)) xM_134 w rfl (by decide) (by omega) rfl) (fun h1 ks1 σ1 v1 ke1 hT1 P1 => ?_)
  have K1 := K.tr ke1
  obtain ⟨y1, hv1⟩ := P1.2.2.2
  subst hv1
  refine yT.p (pc' := 907) rfl rfl (fun _ _ _ _ => rfl) ?_
  refine yT.aan (pc' := 908) g2 rfl rfl rfl ?_
  refine yT.aan (pc' := 909) g0 rfl rfl rfl ?_
  refine yT.iln (pc' := 910) g3 rfl rfl ?_
  refine yT.kI (pc' := 911) rfl rfl (by decide) (fun c5 e6 => ?_)
  refine yT.ad2 (pc' := 912) (Z := ((6 * k : Nat) : Int) + 1) ex e6 rfl rfl (by omega) (fun z7 e8 => ?_)
  refine yT.sia (j := 6 * k + 1) (pc' := 913) (hV _ (by omega)) (by omega) (by omega) (by omega) rfl rfl ?_
  refine kLM (yT.cc (G2 := 3783 * n + 763 * m) (pc' := 916) rfl rfl rfl hT1 (K1.up rfl : xnth ks1 60 = some (19, 0)) xM_248 (m_23 hT1 K1 hk (Int32.ofInt (zz (6 * k + 1)).toInt) P1) rfl (by decide) (by omega) rfl) (fun h2 σ2 v2 hT2 P2 => ?_)
  obtain ⟨y2, hv2⟩ := P2.2.2.2
  subst hv2
  have hnz := P2.2.2.1
  refine yT.p (pc' := 917) rfl rfl (fun _ _ _ _ => rfl) ?_
  refine yT.p (pc' := 1358) rfl rfl (fun _ _ _ _ => rfl) ?_
  exact yT.w (next ks1 σ2 h2 K1 hT2 P2.1 P2.2.1) (Nat.le_refl _) (by omega) (fun _ _ h => h)

set_option maxRecDepth 100000 in
set_option maxHeartbeats 4000000 in
theorem l_24 {L : Nat} {iv : List (Int × Int)} {zz : Nat → Int32} {ρ : Nat → xE} {ks : List cT} {B0 : Nat} {σ : sg} {h : List xE} {lv : xLv} {k n N : Nat} {Q : yQ} {x : Int32} (hL : L = N + 1) (hN : N ≤ 3072) (hV : ∀ j, j < N → xfl iv (j + 2000) = some (zz j).toInt) (K : KE KS0 ks B0) (hT : HT ks σ ρ h) (R : RI k σ) (E : EQ σ) (hk : k ≤ 511) (g0 : xget lv 0 = some (.ref 0)) (g1 : xget lv 1 = some (.ref (0 + 1))) (g2 : xget lv 2 = some (.ref (60 + 1))) (g3 : xget lv 3 = some (.int x)) (ex : x.toInt = ((6 * k : Nat) : Int)) (hi : 6 * k + 6 ≤ N)
    (next : ∀ (ks' : List cT) (σ' : sg) (h' : List xE), KE KS0 ks' (B0 + 72) → HT ks' σ' ρ h' → RI (k + 1) σ' → EQ σ' → yT L iv rL_law 1700 (3783 * n + 763 * nz σ') 1358 lv [] h' Q) : yT L iv rL_law 1700 (3783 * (n + 1) + 763 * nz σ) 920 lv [] h Q := by
  refine yT.aan (pc' := 921) g1 rfl rfl rfl ?_
  refine yT.aan (pc' := 922) g0 rfl rfl rfl ?_
  refine yT.iln (pc' := 923) g3 rfl rfl ?_
  refine yT.kI (pc' := 924) rfl rfl (by decide) (fun c1 e2 => ?_)
  refine yT.ad2 (pc' := 925) (Z := ((6 * k : Nat) : Int) + 1) ex e2 rfl rfl (by omega) (fun z3 e4 => ?_)
  refine yT.sia (j := 6 * k + 1) (pc' := 926) (hV _ (by omega)) (by omega) (by omega) (by omega) rfl rfl ?_
  refine yT.aan (pc' := 927) g0 rfl rfl rfl ?_
  refine yT.iln (pc' := 928) g3 rfl rfl ?_
  refine yT.kI (pc' := 929) rfl rfl (by decide) (fun c5 e6 => ?_)
  refine yT.ad2 (pc' := 930) (Z := ((6 * k : Nat) : Int) + 2) ex e6 rfl rfl (by omega) (fun z7 e8 => ?_)
  refine yT.sia (j := 6 * k + 2) (pc' := 931) (hV _ (by omega)) (by omega) (by omega) (by omega) rfl rfl ?_
  refine yT.aan (pc' := 932) g0 rfl rfl rfl ?_
  refine yT.iln (pc' := 933) g3 rfl rfl ?_
  refine yT.kI (pc' := 934) rfl rfl (by decide) (fun c9 e10 => ?_)
  refine yT.ad2 (pc' := 935) (Z := ((6 * k : Nat) : Int) + 3) ex e10 rfl rfl (by omega) (fun z11 e12 => ?_)
  refine yT.sia (j := 6 * k + 3) (pc' := 936) (hV _ (by omega)) (by omega) (by omega) (by omega) rfl rfl ?_
  obtain ⟨G, m, hG, w⟩ := w_24 hT K R E hk (Int32.ofInt (zz (6 * k + 1)).toInt) (Int32.ofInt (zz (6 * k + 2)).toInt) (Int32.ofInt (zz (6 * k + 3)).toInt)
  refine kLQ (yT.cc (G2 := 3783 * n + 763 * m) (pc' := 939) rfl rfl rfl hT (K.up rfl : xnth ks 0 = some (18, 0)) xM_135 w rfl (by decide) (by omega) rfl) (fun h1 ks1 σ1 v1 ke1 hT1 P1 => ?_)
  have K1 := K.tr ke1
  obtain ⟨y1, hv1⟩ := P1.2.2.2
  subst hv1
  refine yT.p (pc' := 940) rfl rfl (fun _ _ _ _ => rfl) ?_
  refine yT.aan (pc' := 941) g2 rfl rfl rfl ?_
  refine yT.aan (pc' := 942) g0 rfl rfl rfl ?_
  refine yT.iln (pc' := 943) g3 rfl rfl ?_
  refine yT.kI (pc' := 944) rfl rfl (by decide) (fun c13 e14 => ?_)
  refine yT.ad2 (pc' := 945) (Z := ((6 * k : Nat) : Int) + 1) ex e14 rfl rfl (by omega) (fun z15 e16 => ?_)
  refine yT.sia (j := 6 * k + 1) (pc' := 946) (hV _ (by omega)) (by omega) (by omega) (by omega) rfl rfl ?_
  refine yT.aan (pc' := 947) g0 rfl rfl rfl ?_
  refine yT.iln (pc' := 948) g3 rfl rfl ?_
  refine yT.kI (pc' := 949) rfl rfl (by decide) (fun c17 e18 => ?_)
  refine yT.ad2 (pc' := 950) (Z := ((6 * k : Nat) : Int) + 2) ex e18 rfl rfl (by omega) (fun z19 e20 => ?_)
  refine yT.sia (j := 6 * k + 2) (pc' := 951) (hV _ (by omega)) (by omega) (by omega) (by omega) rfl rfl ?_
  refine yT.aan (pc' := 952) g0 rfl rfl rfl ?_
  refine yT.iln (pc' := 953) g3 rfl rfl ?_
  refine yT.kI (pc' := 954) rfl rfl (by decide) (fun c21 e22 => ?_)
  refine yT.ad2 (pc' := 955) (Z := ((6 * k : Nat) : Int) + 3) ex e22 rfl rfl (by omega) (fun z23 e24 => ?_)
  refine yT.sia (j := 6 * k + 3) (pc' := 956) (hV _ (by omega)) (by omega) (by omega) (by omega) rfl rfl ?_
  refine kLM (yT.cc (G2 := 3783 * n + 763 * m) (pc' := 959) rfl rfl rfl hT1 (K1.up rfl : xnth ks1 60 = some (19, 0)) xM_249 (m_24 hT1 K1 hk (Int32.ofInt (zz (6 * k + 1)).toInt) (Int32.ofInt (zz (6 * k + 2)).toInt) (Int32.ofInt (zz (6 * k + 3)).toInt) P1) rfl (by decide) (by omega) rfl) (fun h2 σ2 v2 hT2 P2 => ?_)
  obtain ⟨y2, hv2⟩ := P2.2.2.2
  subst hv2
  have hnz := P2.2.2.1
  refine yT.p (pc' := 960) rfl rfl (fun _ _ _ _ => rfl) ?_
  refine yT.p (pc' := 1358) rfl rfl (fun _ _ _ _ => rfl) ?_
  exact yT.w (next ks1 σ2 h2 K1 hT2 P2.1 P2.2.1) (Nat.le_refl _) (by omega) (fun _ _ h => h)

set_option maxRecDepth 100000 in
set_option maxHeartbeats 4000000 in
theorem l_25 {L : Nat} {iv : List (Int × Int)} {zz : Nat → Int32} {ρ : Nat → xE} {ks : List cT} {B0 : Nat} {σ : sg} {h : List xE} {lv : xLv} {k n N : Nat} {Q : yQ} {x : Int32} (hL : L = N + 1) (hN : N ≤ 3072) (hV : ∀ j, j < N → xfl iv (j + 2000) = some (zz j).toInt) (K : KE KS0 ks B0) (hT : HT ks σ ρ h) (R : RI k σ) (E : EQ σ) (hk : k ≤ 511) (g0 : xget lv 0 = some (.ref 0)) (g1 : xget lv 1 = some (.ref (0 + 1))) (g2 : xget lv 2 = some (.ref (60 + 1))) (g3 : xget lv 3 = some (.int x)) (ex : x.toInt = ((6 * k : Nat) : Int)) (hi : 6 * k + 6 ≤ N)
    (next : ∀ (ks' : List cT) (σ' : sg) (h' : List xE), KE KS0 ks' (B0 + 72) → HT ks' σ' ρ h' → RI (k + 1) σ' → EQ σ' → yT L iv rL_law 1700 (3783 * n + 763 * nz σ') 1358 lv [] h' Q) : yT L iv rL_law 1700 (3783 * (n + 1) + 763 * nz σ) 963 lv [] h Q := by
  refine yT.aan (pc' := 964) g1 rfl rfl rfl ?_
  refine yT.aan (pc' := 965) g0 rfl rfl rfl ?_
  refine yT.iln (pc' := 966) g3 rfl rfl ?_
  refine yT.kI (pc' := 967) rfl rfl (by decide) (fun c1 e2 => ?_)
  refine yT.ad2 (pc' := 968) (Z := ((6 * k : Nat) : Int) + 1) ex e2 rfl rfl (by omega) (fun z3 e4 => ?_)
  refine yT.sia (j := 6 * k + 1) (pc' := 969) (hV _ (by omega)) (by omega) (by omega) (by omega) rfl rfl ?_
  refine yT.aan (pc' := 970) g0 rfl rfl rfl ?_
  refine yT.iln (pc' := 971) g3 rfl rfl ?_
  refine yT.kI (pc' := 972) rfl rfl (by decide) (fun c5 e6 => ?_)
  refine yT.ad2 (pc' := 973) (Z := ((6 * k : Nat) : Int) + 2) ex e6 rfl rfl (by omega) (fun z7 e8 => ?_)
  refine yT.sia (j := 6 * k + 2) (pc' := 974) (hV _ (by omega)) (by omega) (by omega) (by omega) rfl rfl ?_
  refine yT.aan (pc' := 975) g0 rfl rfl rfl ?_
  refine yT.iln (pc' := 976) g3 rfl rfl ?_
  refine yT.kI (pc' := 977) rfl rfl (by decide) (fun c9 e10 => ?_)
  refine yT.ad2 (pc' := 978) (Z := ((6 * k : Nat) : Int) + 3) ex e10 rfl rfl (by omega) (fun z11 e12 => ?_)
  refine yT.sia (j := 6 * k + 3) (pc' := 979) (hV _ (by omega)) (by omega) (by omega) (by omega) rfl rfl ?_
  obtain ⟨G, m, hG, w⟩ := w_25 hT K R E hk (Int32.ofInt (zz (6 * k + 1)).toInt) (Int32.ofInt (zz (6 * k + 2)).toInt) (Int32.ofInt (zz (6 * k + 3)).toInt)
  refine kLQ (yT.cc (G2 := 3783 * n + 763 * m) (pc' := 982) rfl rfl rfl hT (K.up rfl : xnth ks 0 = some (18, 0)) xM_136 w rfl (by decide) (by omega) rfl) (fun h1 ks1 σ1 v1 ke1 hT1 P1 => ?_)
  have K1 := K.tr ke1
  obtain ⟨y1, hv1⟩ := P1.2.2.2
  subst hv1
  refine yT.p (pc' := 983) rfl rfl (fun _ _ _ _ => rfl) ?_
  refine yT.aan (pc' := 984) g2 rfl rfl rfl ?_
  refine yT.aan (pc' := 985) g0 rfl rfl rfl ?_
  refine yT.iln (pc' := 986) g3 rfl rfl ?_
  refine yT.kI (pc' := 987) rfl rfl (by decide) (fun c13 e14 => ?_)
  refine yT.ad2 (pc' := 988) (Z := ((6 * k : Nat) : Int) + 1) ex e14 rfl rfl (by omega) (fun z15 e16 => ?_)
  refine yT.sia (j := 6 * k + 1) (pc' := 989) (hV _ (by omega)) (by omega) (by omega) (by omega) rfl rfl ?_
  refine yT.aan (pc' := 990) g0 rfl rfl rfl ?_
  refine yT.iln (pc' := 991) g3 rfl rfl ?_
  refine yT.kI (pc' := 992) rfl rfl (by decide) (fun c17 e18 => ?_)
  refine yT.ad2 (pc' := 993) (Z := ((6 * k : Nat) : Int) + 2) ex e18 rfl rfl (by omega) (fun z19 e20 => ?_)
  refine yT.sia (j := 6 * k + 2) (pc' := 994) (hV _ (by omega)) (by omega) (by omega) (by omega) rfl rfl ?_
  refine yT.aan (pc' := 995) g0 rfl rfl rfl ?_
  refine yT.iln (pc' := 996) g3 rfl rfl ?_
  refine yT.kI (pc' := 997) rfl rfl (by decide) (fun c21 e22 => ?_)
  refine yT.ad2 (pc' := 998) (Z := ((6 * k : Nat) : Int) + 3) ex e22 rfl rfl (by omega) (fun z23 e24 => ?_)
  refine yT.sia (j := 6 * k + 3) (pc' := 999) (hV _ (by omega)) (by omega) (by omega) (by omega) rfl rfl ?_
  refine kLM (yT.cc (G2 := 3783 * n + 763 * m) (pc' := 1002) rfl rfl rfl hT1 (K1.up rfl : xnth ks1 60 = some (19, 0)) xM_250 (m_25 hT1 K1 hk (Int32.ofInt (zz (6 * k + 1)).toInt) (Int32.ofInt (zz (6 * k + 2)).toInt) (Int32.ofInt (zz (6 * k + 3)).toInt) P1) rfl (by decide) (by omega) rfl) (fun h2 σ2 v2 hT2 P2 => ?_)
  obtain ⟨y2, hv2⟩ := P2.2.2.2
  subst hv2
  have hnz := P2.2.2.1
  refine yT.p (pc' := 1003) rfl rfl (fun _ _ _ _ => rfl) ?_
  refine yT.p (pc' := 1358) rfl rfl (fun _ _ _ _ => rfl) ?_
  exact yT.w (next ks1 σ2 h2 K1 hT2 P2.1 P2.2.1) (Nat.le_refl _) (by omega) (fun _ _ h => h)

set_option maxRecDepth 100000 in
set_option maxHeartbeats 4000000 in
theorem l_26 {L : Nat} {iv : List (Int × Int)} {zz : Nat → Int32} {ρ : Nat → xE} {ks : List cT} {B0 : Nat} {σ : sg} {h : List xE} {lv : xLv} {k n N : Nat} {Q : yQ} {x : Int32} (hL : L = N + 1) (hN : N ≤ 3072) (hV : ∀ j, j < N → xfl iv (j + 2000) = some (zz j).toInt) (K : KE KS0 ks B0) (hT : HT ks σ ρ h) (R : RI k σ) (E : EQ σ) (hk : k ≤ 511) (g0 : xget lv 0 = some (.ref 0)) (g1 : xget lv 1 = some (.ref (0 + 1))) (g2 : xget lv 2 = some (.ref (60 + 1))) (g3 : xget lv 3 = some (.int x)) (ex : x.toInt = ((6 * k : Nat) : Int)) (hi : 6 * k + 6 ≤ N)
    (next : ∀ (ks' : List cT) (σ' : sg) (h' : List xE), KE KS0 ks' (B0 + 72) → HT ks' σ' ρ h' → RI (k + 1) σ' → EQ σ' → yT L iv rL_law 1700 (3783 * n + 763 * nz σ') 1358 lv [] h' Q) : yT L iv rL_law 1700 (3783 * (n + 1) + 763 * nz σ) 1006 lv [] h Q := by
  refine yT.aan (pc' := 1007) g1 rfl rfl rfl ?_
  refine yT.aan (pc' := 1008) g0 rfl rfl rfl ?_
  refine yT.iln (pc' := 1009) g3 rfl rfl ?_
  refine yT.kI (pc' := 1010) rfl rfl (by decide) (fun c1 e2 => ?_)
  refine yT.ad2 (pc' := 1011) (Z := ((6 * k : Nat) : Int) + 1) ex e2 rfl rfl (by omega) (fun z3 e4 => ?_)
  refine yT.sia (j := 6 * k + 1) (pc' := 1012) (hV _ (by omega)) (by omega) (by omega) (by omega) rfl rfl ?_
  refine yT.aan (pc' := 1013) g0 rfl rfl rfl ?_
  refine yT.iln (pc' := 1014) g3 rfl rfl ?_
  refine yT.kI (pc' := 1015) rfl rfl (by decide) (fun c5 e6 => ?_)
  refine yT.ad2 (pc' := 1016) (Z := ((6 * k : Nat) : Int) + 2) ex e6 rfl rfl (by omega) (fun z7 e8 => ?_)
  refine yT.sia (j := 6 * k + 2) (pc' := 1017) (hV _ (by omega)) (by omega) (by omega) (by omega) rfl rfl ?_
  obtain ⟨G, m, hG, w⟩ := w_26 hT K R E hk (Int32.ofInt (zz (6 * k + 1)).toInt) (Int32.ofInt (zz (6 * k + 2)).toInt)
  refine kLQ (yT.cc (G2 := 3783 * n + 763 * m) (pc' := 1020) rfl rfl rfl hT (K.up rfl : xnth ks 0 = some (18, 0)) xM_137 w rfl (by decide) (by omega) rfl) (fun h1 ks1 σ1 v1 ke1 hT1 P1 => ?_)
  have K1 := K.tr ke1
  obtain ⟨y1, hv1⟩ := P1.2.2.2
  subst hv1
  refine yT.p (pc' := 1021) rfl rfl (fun _ _ _ _ => rfl) ?_
  refine yT.aan (pc' := 1022) g2 rfl rfl rfl ?_
  refine yT.aan (pc' := 1023) g0 rfl rfl rfl ?_
  refine yT.iln (pc' := 1024) g3 rfl rfl ?_
  refine yT.kI (pc' := 1025) rfl rfl (by decide) (fun c9 e10 => ?_)
  refine yT.ad2 (pc' := 1026) (Z := ((6 * k : Nat) : Int) + 1) ex e10 rfl rfl (by omega) (fun z11 e12 => ?_)
  refine yT.sia (j := 6 * k + 1) (pc' := 1027) (hV _ (by omega)) (by omega) (by omega) (by omega) rfl rfl ?_
  refine yT.aan (pc' := 1028) g0 rfl rfl rfl ?_
  refine yT.iln (pc' := 1029) g3 rfl rfl ?_
  refine yT.kI (pc' := 1030) rfl rfl (by decide) (fun c13 e14 => ?_)
  refine yT.ad2 (pc' := 1031) (Z := ((6 * k : Nat) : Int) + 2) ex e14 rfl rfl (by omega) (fun z15 e16 => ?_)
  refine yT.sia (j := 6 * k + 2) (pc' := 1032) (hV _ (by omega)) (by omega) (by omega) (by omega) rfl rfl ?_
  refine kLM (yT.cc (G2 := 3783 * n + 763 * m) (pc' := 1035) rfl rfl rfl hT1 (K1.up rfl : xnth ks1 60 = some (19, 0)) xM_251 (m_26 hT1 K1 hk (Int32.ofInt (zz (6 * k + 1)).toInt) (Int32.ofInt (zz (6 * k + 2)).toInt) P1) rfl (by decide) (by omega) rfl) (fun h2 σ2 v2 hT2 P2 => ?_)
  obtain ⟨y2, hv2⟩ := P2.2.2.2
  subst hv2
  have hnz := P2.2.2.1
  refine yT.p (pc' := 1036) rfl rfl (fun _ _ _ _ => rfl) ?_
  refine yT.p (pc' := 1358) rfl rfl (fun _ _ _ _ => rfl) ?_
  exact yT.w (next ks1 σ2 h2 K1 hT2 P2.1 P2.2.1) (Nat.le_refl _) (by omega) (fun _ _ h => h)

set_option maxRecDepth 100000 in
set_option maxHeartbeats 4000000 in
theorem l_27 {L : Nat} {iv : List (Int × Int)} {zz : Nat → Int32} {ρ : Nat → xE} {ks : List cT} {B0 : Nat} {σ : sg} {h : List xE} {lv : xLv} {k n N : Nat} {Q : yQ} {x : Int32} (hL : L = N + 1) (hN : N ≤ 3072) (hV : ∀ j, j < N → xfl iv (j + 2000) = some (zz j).toInt) (K : KE KS0 ks B0) (hT : HT ks σ ρ h) (R : RI k σ) (E : EQ σ) (hk : k ≤ 511) (g0 : xget lv 0 = some (.ref 0)) (g1 : xget lv 1 = some (.ref (0 + 1))) (g2 : xget lv 2 = some (.ref (60 + 1))) (g3 : xget lv 3 = some (.int x)) (ex : x.toInt = ((6 * k : Nat) : Int)) (hi : 6 * k + 6 ≤ N)
    (next : ∀ (ks' : List cT) (σ' : sg) (h' : List xE), KE KS0 ks' (B0 + 72) → HT ks' σ' ρ h' → RI (k + 1) σ' → EQ σ' → yT L iv rL_law 1700 (3783 * n + 763 * nz σ') 1358 lv [] h' Q) : yT L iv rL_law 1700 (3783 * (n + 1) + 763 * nz σ) 1039 lv [] h Q := by
  refine yT.aan (pc' := 1040) g1 rfl rfl rfl ?_
  refine yT.aan (pc' := 1041) g0 rfl rfl rfl ?_
  refine yT.iln (pc' := 1042) g3 rfl rfl ?_
  refine yT.kI (pc' := 1043) rfl rfl (by decide) (fun c1 e2 => ?_)
  refine yT.ad2 (pc' := 1044) (Z := ((6 * k : Nat) : Int) + 1) ex e2 rfl rfl (by omega) (fun z3 e4 => ?_)
  refine yT.sia (j := 6 * k + 1) (pc' := 1045) (hV _ (by omega)) (by omega) (by omega) (by omega) rfl rfl ?_
  refine yT.aan (pc' := 1046) g0 rfl rfl rfl ?_
  refine yT.iln (pc' := 1047) g3 rfl rfl ?_
  refine yT.kI (pc' := 1048) rfl rfl (by decide) (fun c5 e6 => ?_)
  refine yT.ad2 (pc' := 1049) (Z := ((6 * k : Nat) : Int) + 2) ex e6 rfl rfl (by omega) (fun z7 e8 => ?_)
  refine yT.sia (j := 6 * k + 2) (pc' := 1050) (hV _ (by omega)) (by omega) (by omega) (by omega) rfl rfl ?_
  obtain ⟨G, m, hG, w⟩ := w_27 hT K R E hk (Int32.ofInt (zz (6 * k + 1)).toInt) (Int32.ofInt (zz (6 * k + 2)).toInt)
  refine kLQ (yT.cc (G2 := 3783 * n + 763 * m) (pc' := 1053) rfl rfl rfl hT (K.up rfl : xnth ks 0 = some (18, 0)) xM_138 w rfl (by decide) (by omega) rfl) (fun h1 ks1 σ1 v1 ke1 hT1 P1 => ?_)
  have K1 := K.tr ke1
  obtain ⟨y1, hv1⟩ := P1.2.2.2
  subst hv1
  refine yT.p (pc' := 1054) rfl rfl (fun _ _ _ _ => rfl) ?_
  refine yT.aan (pc' := 1055) g2 rfl rfl rfl ?_
  refine yT.aan (pc' := 1056) g0 rfl rfl rfl ?_
  refine yT.iln (pc' := 1057) g3 rfl rfl ?_
  refine yT.kI (pc' := 1058) rfl rfl (by decide) (fun c9 e10 => ?_)
  refine yT.ad2 (pc' := 1059) (Z := ((6 * k : Nat) : Int) + 1) ex e10 rfl rfl (by omega) (fun z11 e12 => ?_)
  refine yT.sia (j := 6 * k + 1) (pc' := 1060) (hV _ (by omega)) (by omega) (by omega) (by omega) rfl rfl ?_
  refine yT.aan (pc' := 1061) g0 rfl rfl rfl ?_
  refine yT.iln (pc' := 1062) g3 rfl rfl ?_
  refine yT.kI (pc' := 1063) rfl rfl (by decide) (fun c13 e14 => ?_)
  refine yT.ad2 (pc' := 1064) (Z := ((6 * k : Nat) : Int) + 2) ex e14 rfl rfl (by omega) (fun z15 e16 => ?_)
  refine yT.sia (j := 6 * k + 2) (pc' := 1065) (hV _ (by omega)) (by omega) (by omega) (by omega) rfl rfl ?_
  refine kLM (yT.cc (G2 := 3783 * n + 763 * m) (pc' := 1068) rfl rfl rfl hT1 (K1.up rfl : xnth ks1 60 = some (19, 0)) xM_252 (m_27 hT1 K1 hk (Int32.ofInt (zz (6 * k + 1)).toInt) (Int32.ofInt (zz (6 * k + 2)).toInt) P1) rfl (by decide) (by omega) rfl) (fun h2 σ2 v2 hT2 P2 => ?_)
  obtain ⟨y2, hv2⟩ := P2.2.2.2
  subst hv2
  have hnz := P2.2.2.1
  refine yT.p (pc' := 1069) rfl rfl (fun _ _ _ _ => rfl) ?_
  refine yT.p (pc' := 1358) rfl rfl (fun _ _ _ _ => rfl) ?_
  exact yT.w (next ks1 σ2 h2 K1 hT2 P2.1 P2.2.1) (Nat.le_refl _) (by omega) (fun _ _ h => h)

set_option maxRecDepth 100000 in
set_option maxHeartbeats 4000000 in
theorem l_28 {L : Nat} {iv : List (Int × Int)} {zz : Nat → Int32} {ρ : Nat → xE} {ks : List cT} {B0 : Nat} {σ : sg} {h : List xE} {lv : xLv} {k n N : Nat} {Q : yQ} {x : Int32} (hL : L = N + 1) (hN : N ≤ 3072) (hV : ∀ j, j < N → xfl iv (j + 2000) = some (zz j).toInt) (K : KE KS0 ks B0) (hT : HT ks σ ρ h) (R : RI k σ) (E : EQ σ) (hk : k ≤ 511) (g0 : xget lv 0 = some (.ref 0)) (g1 : xget lv 1 = some (.ref (0 + 1))) (g2 : xget lv 2 = some (.ref (60 + 1))) (g3 : xget lv 3 = some (.int x)) (ex : x.toInt = ((6 * k : Nat) : Int)) (hi : 6 * k + 6 ≤ N)
    (next : ∀ (ks' : List cT) (σ' : sg) (h' : List xE), KE KS0 ks' (B0 + 72) → HT ks' σ' ρ h' → RI (k + 1) σ' → EQ σ' → yT L iv rL_law 1700 (3783 * n + 763 * nz σ') 1358 lv [] h' Q) : yT L iv rL_law 1700 (3783 * (n + 1) + 763 * nz σ) 1072 lv [] h Q := by
  refine yT.aan (pc' := 1073) g1 rfl rfl rfl ?_
  refine yT.aan (pc' := 1074) g0 rfl rfl rfl ?_
  refine yT.iln (pc' := 1075) g3 rfl rfl ?_
  refine yT.kI (pc' := 1076) rfl rfl (by decide) (fun c1 e2 => ?_)
  refine yT.ad2 (pc' := 1077) (Z := ((6 * k : Nat) : Int) + 1) ex e2 rfl rfl (by omega) (fun z3 e4 => ?_)
  refine yT.sia (j := 6 * k + 1) (pc' := 1078) (hV _ (by omega)) (by omega) (by omega) (by omega) rfl rfl ?_
  obtain ⟨G, m, hG, w⟩ := w_28 hT K R E hk (Int32.ofInt (zz (6 * k + 1)).toInt)
  refine kLQ (yT.cc (G2 := 3783 * n + 763 * m) (pc' := 1081) rfl rfl rfl hT (K.up rfl : xnth ks 0 = some (18, 0)) xM_139 w rfl (by decide) (by omega) rfl) (fun h1 ks1 σ1 v1 ke1 hT1 P1 => ?_)
  have K1 := K.tr ke1
  obtain ⟨y1, hv1⟩ := P1.2.2.2
  subst hv1
  refine yT.p (pc' := 1082) rfl rfl (fun _ _ _ _ => rfl) ?_
  refine yT.aan (pc' := 1083) g2 rfl rfl rfl ?_
  refine yT.aan (pc' := 1084) g0 rfl rfl rfl ?_
  refine yT.iln (pc' := 1085) g3 rfl rfl ?_
  refine yT.kI (pc' := 1086) rfl rfl (by decide) (fun c5 e6 => ?_)
  refine yT.ad2 (pc' := 1087) (Z := ((6 * k : Nat) : Int) + 1) ex e6 rfl rfl (by omega) (fun z7 e8 => ?_)
  refine yT.sia (j := 6 * k + 1) (pc' := 1088) (hV _ (by omega)) (by omega) (by omega) (by omega) rfl rfl ?_
  refine kLM (yT.cc (G2 := 3783 * n + 763 * m) (pc' := 1091) rfl rfl rfl hT1 (K1.up rfl : xnth ks1 60 = some (19, 0)) xM_253 (m_28 hT1 K1 hk (Int32.ofInt (zz (6 * k + 1)).toInt) P1) rfl (by decide) (by omega) rfl) (fun h2 σ2 v2 hT2 P2 => ?_)
  obtain ⟨y2, hv2⟩ := P2.2.2.2
  subst hv2
  have hnz := P2.2.2.1
  refine yT.p (pc' := 1092) rfl rfl (fun _ _ _ _ => rfl) ?_
  refine yT.p (pc' := 1358) rfl rfl (fun _ _ _ _ => rfl) ?_
  exact yT.w (next ks1 σ2 h2 K1 hT2 P2.1 P2.2.1) (Nat.le_refl _) (by omega) (fun _ _ h => h)

set_option maxRecDepth 100000 in
set_option maxHeartbeats 4000000 in
theorem l_29 {L : Nat} {iv : List (Int × Int)} {zz : Nat → Int32} {ρ : Nat → xE} {ks : List cT} {B0 : Nat} {σ : sg} {h : List xE} {lv : xLv} {k n N : Nat} {Q : yQ} {x : Int32} (hL : L = N + 1) (hN : N ≤ 3072) (hV : ∀ j, j < N → xfl iv (j + 2000) = some (zz j).toInt) (K : KE KS0 ks B0) (hT : HT ks σ ρ h) (R : RI k σ) (E : EQ σ) (hk : k ≤ 511) (g0 : xget lv 0 = some (.ref 0)) (g1 : xget lv 1 = some (.ref (0 + 1))) (g2 : xget lv 2 = some (.ref (60 + 1))) (g3 : xget lv 3 = some (.int x)) (ex : x.toInt = ((6 * k : Nat) : Int)) (hi : 6 * k + 6 ≤ N)
    (next : ∀ (ks' : List cT) (σ' : sg) (h' : List xE), KE KS0 ks' (B0 + 72) → HT ks' σ' ρ h' → RI (k + 1) σ' → EQ σ' → yT L iv rL_law 1700 (3783 * n + 763 * nz σ') 1358 lv [] h' Q) : yT L iv rL_law 1700 (3783 * (n + 1) + 763 * nz σ) 1095 lv [] h Q := by
  refine yT.aan (pc' := 1096) g1 rfl rfl rfl ?_
  refine yT.aan (pc' := 1097) g0 rfl rfl rfl ?_
  refine yT.iln (pc' := 1098) g3 rfl rfl ?_
  refine yT.kI (pc' := 1099) rfl rfl (by decide) (fun c1 e2 => ?_)
  refine yT.ad2 (pc' := 1100) (Z := ((6 * k : Nat) : Int) + 1) ex e2 rfl rfl (by omega) (fun z3 e4 => ?_)
  refine yT.sia (j := 6 * k + 1) (pc' := 1101) (hV _ (by omega)) (by omega) (by omega) (by omega) rfl rfl ?_
  refine yT.aan (pc' := 1102) g0 rfl rfl rfl ?_
  refine yT.iln (pc' := 1103) g3 rfl rfl ?_
  refine yT.kI (pc' := 1104) rfl rfl (by decide) (fun c5 e6 => ?_)
  refine yT.ad2 (pc' := 1105) (Z := ((6 * k : Nat) : Int) + 2) ex e6 rfl rfl (by omega) (fun z7 e8 => ?_)
  refine yT.sia (j := 6 * k + 2) (pc' := 1106) (hV _ (by omega)) (by omega) (by omega) (by omega) rfl rfl ?_
  refine yT.aan (pc' := 1107) g0 rfl rfl rfl ?_
  refine yT.iln (pc' := 1108) g3 rfl rfl ?_
  refine yT.kI (pc' := 1109) rfl rfl (by decide) (fun c9 e10 => ?_)
  refine yT.ad2 (pc' := 1110) (Z := ((6 * k : Nat) : Int) + 3) ex e10 rfl rfl (by omega) (fun z11 e12 => ?_)
  refine yT.sia (j := 6 * k + 3) (pc' := 1111) (hV _ (by omega)) (by omega) (by omega) (by omega) rfl rfl ?_
  obtain ⟨G, m, hG, w⟩ := w_29x hT K R E hk (Int32.ofInt (zz (6 * k + 1)).toInt) (Int32.ofInt (zz (6 * k + 2)).toInt) (Int32.ofInt (zz (6 * k + 3)).toInt)
  refine kLQ (yT.cc (G2 := 3783 * n + 763 * m) (pc' := 1114) rfl rfl rfl hT (K.up rfl : xnth ks 0 = some (18, 0)) xM_140 w rfl (by decide) (by omega) rfl) (fun h1 ks1 σ1 v1 ke1 hT1 P1 => ?_)
  have K1 := K.tr ke1
  obtain ⟨y1, hv1⟩ := (P1.2.2.2.imp (fun _ h => h.1))
  subst hv1
  refine yT.aan (pc' := 1115) g2 rfl rfl rfl ?_
  refine yT.aan (pc' := 1116) g0 rfl rfl rfl ?_
  refine yT.iln (pc' := 1117) g3 rfl rfl ?_
  refine yT.kI (pc' := 1118) rfl rfl (by decide) (fun c13 e14 => ?_)
  refine yT.ad2 (pc' := 1119) (Z := ((6 * k : Nat) : Int) + 1) ex e14 rfl rfl (by omega) (fun z15 e16 => ?_)
  refine yT.sia (j := 6 * k + 1) (pc' := 1120) (hV _ (by omega)) (by omega) (by omega) (by omega) rfl rfl ?_
  refine yT.aan (pc' := 1121) g0 rfl rfl rfl ?_
  refine yT.iln (pc' := 1122) g3 rfl rfl ?_
  refine yT.kI (pc' := 1123) rfl rfl (by decide) (fun c17 e18 => ?_)
  refine yT.ad2 (pc' := 1124) (Z := ((6 * k : Nat) : Int) + 2) ex e18 rfl rfl (by omega) (fun z19 e20 => ?_)
  refine yT.sia (j := 6 * k + 2) (pc' := 1125) (hV _ (by omega)) (by omega) (by omega) (by omega) rfl rfl ?_
  refine yT.aan (pc' := 1126) g0 rfl rfl rfl ?_
  refine yT.iln (pc' := 1127) g3 rfl rfl ?_
  refine yT.kI (pc' := 1128) rfl rfl (by decide) (fun c21 e22 => ?_)
  refine yT.ad2 (pc' := 1129) (Z := ((6 * k : Nat) : Int) + 3) ex e22 rfl rfl (by omega) (fun z23 e24 => ?_)
  refine yT.sia (j := 6 * k + 3) (pc' := 1130) (hV _ (by omega)) (by omega) (by omega) (by omega) rfl rfl ?_
  refine kLM (yT.cc (G2 := 3783 * n + 763 * m) (pc' := 1133) rfl rfl rfl hT1 (K1.up rfl : xnth ks1 60 = some (19, 0)) xM_255 (m_29x hT1 K1 hk (Int32.ofInt (zz (6 * k + 1)).toInt) (Int32.ofInt (zz (6 * k + 2)).toInt) (Int32.ofInt (zz (6 * k + 3)).toInt) P1) rfl (by decide) (by omega) rfl) (fun h2 σ2 v2 hT2 P2 => ?_)
  have hv2 := P2.2.2.2
  subst hv2
  have hnz := P2.2.2.1
  refine yT.if2 (t := 1358) (pc' := 1136) rfl rfl rfl (c2_eq rfl rfl) (fun _ => ?_) (fun c => absurd rfl c)
  exact yT.w (next ks1 σ2 h2 K1 hT2 P2.1 P2.2.1) (Nat.le_refl _) (by omega) (fun _ _ h => h)

set_option maxRecDepth 100000 in
set_option maxHeartbeats 4000000 in
theorem l_30 {L : Nat} {iv : List (Int × Int)} {zz : Nat → Int32} {ρ : Nat → xE} {ks : List cT} {B0 : Nat} {σ : sg} {h : List xE} {lv : xLv} {k n N : Nat} {Q : yQ} {x : Int32} (hL : L = N + 1) (hN : N ≤ 3072) (hV : ∀ j, j < N → xfl iv (j + 2000) = some (zz j).toInt) (K : KE KS0 ks B0) (hT : HT ks σ ρ h) (R : RI k σ) (E : EQ σ) (hk : k ≤ 511) (g0 : xget lv 0 = some (.ref 0)) (g1 : xget lv 1 = some (.ref (0 + 1))) (g2 : xget lv 2 = some (.ref (60 + 1))) (g3 : xget lv 3 = some (.int x)) (ex : x.toInt = ((6 * k : Nat) : Int)) (hi : 6 * k + 6 ≤ N)
    (next : ∀ (ks' : List cT) (σ' : sg) (h' : List xE), KE KS0 ks' (B0 + 72) → HT ks' σ' ρ h' → RI (k + 1) σ' → EQ σ' → yT L iv rL_law 1700 (3783 * n + 763 * nz σ') 1358 lv [] h' Q) : yT L iv rL_law 1700 (3783 * (n + 1) + 763 * nz σ) 1138 lv [] h Q := by
  refine yT.aan (pc' := 1139) g1 rfl rfl rfl ?_
  refine yT.aan (pc' := 1140) g0 rfl rfl rfl ?_
  refine yT.iln (pc' := 1141) g3 rfl rfl ?_
  refine yT.kI (pc' := 1142) rfl rfl (by decide) (fun c1 e2 => ?_)
  refine yT.ad2 (pc' := 1143) (Z := ((6 * k : Nat) : Int) + 1) ex e2 rfl rfl (by omega) (fun z3 e4 => ?_)
  refine yT.sia (j := 6 * k + 1) (pc' := 1144) (hV _ (by omega)) (by omega) (by omega) (by omega) rfl rfl ?_
  obtain ⟨G, m, hG, w⟩ := w_30 hT K R E hk (Int32.ofInt (zz (6 * k + 1)).toInt)
  refine kLQ (yT.cc (G2 := 3783 * n + 763 * m) (pc' := 1147) rfl rfl rfl hT (K.up rfl : xnth ks 0 = some (18, 0)) xM_141 w rfl (by decide) (by omega) rfl) (fun h1 ks1 σ1 v1 ke1 hT1 P1 => ?_)
  have K1 := K.tr ke1
  obtain ⟨y1, hv1⟩ := P1.2.2.2
  subst hv1
  refine yT.p (pc' := 1148) rfl rfl (fun _ _ _ _ => rfl) ?_
  refine yT.aan (pc' := 1149) g2 rfl rfl rfl ?_
  refine yT.aan (pc' := 1150) g0 rfl rfl rfl ?_
  refine yT.iln (pc' := 1151) g3 rfl rfl ?_
  refine yT.kI (pc' := 1152) rfl rfl (by decide) (fun c5 e6 => ?_)
  refine yT.ad2 (pc' := 1153) (Z := ((6 * k : Nat) : Int) + 1) ex e6 rfl rfl (by omega) (fun z7 e8 => ?_)
  refine yT.sia (j := 6 * k + 1) (pc' := 1154) (hV _ (by omega)) (by omega) (by omega) (by omega) rfl rfl ?_
  refine kLM (yT.cc (G2 := 3783 * n + 763 * m) (pc' := 1157) rfl rfl rfl hT1 (K1.up rfl : xnth ks1 60 = some (19, 0)) xM_256 (m_30 hT1 K1 hk (Int32.ofInt (zz (6 * k + 1)).toInt) P1) rfl (by decide) (by omega) rfl) (fun h2 σ2 v2 hT2 P2 => ?_)
  obtain ⟨y2, hv2⟩ := P2.2.2.2
  subst hv2
  have hnz := P2.2.2.1
  refine yT.p (pc' := 1158) rfl rfl (fun _ _ _ _ => rfl) ?_
  refine yT.p (pc' := 1358) rfl rfl (fun _ _ _ _ => rfl) ?_
  exact yT.w (next ks1 σ2 h2 K1 hT2 P2.1 P2.2.1) (Nat.le_refl _) (by omega) (fun _ _ h => h)

set_option maxRecDepth 100000 in
set_option maxHeartbeats 4000000 in
theorem l_31 {L : Nat} {iv : List (Int × Int)} {zz : Nat → Int32} {ρ : Nat → xE} {ks : List cT} {B0 : Nat} {σ : sg} {h : List xE} {lv : xLv} {k n N : Nat} {Q : yQ} {x : Int32} (hL : L = N + 1) (hN : N ≤ 3072) (hV : ∀ j, j < N → xfl iv (j + 2000) = some (zz j).toInt) (K : KE KS0 ks B0) (hT : HT ks σ ρ h) (R : RI k σ) (E : EQ σ) (hk : k ≤ 511) (g0 : xget lv 0 = some (.ref 0)) (g1 : xget lv 1 = some (.ref (0 + 1))) (g2 : xget lv 2 = some (.ref (60 + 1))) (g3 : xget lv 3 = some (.int x)) (ex : x.toInt = ((6 * k : Nat) : Int)) (hi : 6 * k + 6 ≤ N)
    (next : ∀ (ks' : List cT) (σ' : sg) (h' : List xE), KE KS0 ks' (B0 + 72) → HT ks' σ' ρ h' → RI (k + 1) σ' → EQ σ' → yT L iv rL_law 1700 (3783 * n + 763 * nz σ') 1358 lv [] h' Q) : yT L iv rL_law 1700 (3783 * (n + 1) + 763 * nz σ) 1161 lv [] h Q := by
  refine yT.aan (pc' := 1162) g1 rfl rfl rfl ?_
  refine yT.aan (pc' := 1163) g0 rfl rfl rfl ?_
  refine yT.iln (pc' := 1164) g3 rfl rfl ?_
  refine yT.kI (pc' := 1165) rfl rfl (by decide) (fun c1 e2 => ?_)
  refine yT.ad2 (pc' := 1166) (Z := ((6 * k : Nat) : Int) + 1) ex e2 rfl rfl (by omega) (fun z3 e4 => ?_)
  refine yT.sia (j := 6 * k + 1) (pc' := 1167) (hV _ (by omega)) (by omega) (by omega) (by omega) rfl rfl ?_
  obtain ⟨G, m, hG, w⟩ := w_31 hT K R E hk (Int32.ofInt (zz (6 * k + 1)).toInt)
  refine kLQ (yT.cc (G2 := 3783 * n + 763 * m) (pc' := 1170) rfl rfl rfl hT (K.up rfl : xnth ks 0 = some (18, 0)) xM_142 w rfl (by decide) (by omega) rfl) (fun h1 ks1 σ1 v1 ke1 hT1 P1 => ?_)
  have K1 := K.tr ke1
  obtain ⟨y1, hv1⟩ := P1.2.2.2
  subst hv1
  refine yT.p (pc' := 1171) rfl rfl (fun _ _ _ _ => rfl) ?_
  refine yT.aan (pc' := 1172) g2 rfl rfl rfl ?_
  refine yT.aan (pc' := 1173) g0 rfl rfl rfl ?_
  refine yT.iln (pc' := 1174) g3 rfl rfl ?_
  refine yT.kI (pc' := 1175) rfl rfl (by decide) (fun c5 e6 => ?_)
  refine yT.ad2 (pc' := 1176) (Z := ((6 * k : Nat) : Int) + 1) ex e6 rfl rfl (by omega) (fun z7 e8 => ?_)
  refine yT.sia (j := 6 * k + 1) (pc' := 1177) (hV _ (by omega)) (by omega) (by omega) (by omega) rfl rfl ?_
  refine kLM (yT.cc (G2 := 3783 * n + 763 * m) (pc' := 1180) rfl rfl rfl hT1 (K1.up rfl : xnth ks1 60 = some (19, 0)) xM_257 (m_31 hT1 K1 hk (Int32.ofInt (zz (6 * k + 1)).toInt) P1) rfl (by decide) (by omega) rfl) (fun h2 σ2 v2 hT2 P2 => ?_)
  obtain ⟨y2, hv2⟩ := P2.2.2.2
  subst hv2
  have hnz := P2.2.2.1
  refine yT.p (pc' := 1181) rfl rfl (fun _ _ _ _ => rfl) ?_
  refine yT.p (pc' := 1358) rfl rfl (fun _ _ _ _ => rfl) ?_
  exact yT.w (next ks1 σ2 h2 K1 hT2 P2.1 P2.2.1) (Nat.le_refl _) (by omega) (fun _ _ h => h)

set_option maxRecDepth 100000 in
set_option maxHeartbeats 4000000 in
theorem l_32 {L : Nat} {iv : List (Int × Int)} {zz : Nat → Int32} {ρ : Nat → xE} {ks : List cT} {B0 : Nat} {σ : sg} {h : List xE} {lv : xLv} {k n N : Nat} {Q : yQ} {x : Int32} (hL : L = N + 1) (hN : N ≤ 3072) (hV : ∀ j, j < N → xfl iv (j + 2000) = some (zz j).toInt) (K : KE KS0 ks B0) (hT : HT ks σ ρ h) (R : RI k σ) (E : EQ σ) (hk : k ≤ 511) (g0 : xget lv 0 = some (.ref 0)) (g1 : xget lv 1 = some (.ref (0 + 1))) (g2 : xget lv 2 = some (.ref (60 + 1))) (g3 : xget lv 3 = some (.int x)) (ex : x.toInt = ((6 * k : Nat) : Int)) (hi : 6 * k + 6 ≤ N)
    (next : ∀ (ks' : List cT) (σ' : sg) (h' : List xE), KE KS0 ks' (B0 + 72) → HT ks' σ' ρ h' → RI (k + 1) σ' → EQ σ' → yT L iv rL_law 1700 (3783 * n + 763 * nz σ') 1358 lv [] h' Q) : yT L iv rL_law 1700 (3783 * (n + 1) + 763 * nz σ) 1184 lv [] h Q := by
  refine yT.aan (pc' := 1185) g1 rfl rfl rfl ?_
  refine yT.aan (pc' := 1186) g0 rfl rfl rfl ?_
  refine yT.iln (pc' := 1187) g3 rfl rfl ?_
  refine yT.kI (pc' := 1188) rfl rfl (by decide) (fun c1 e2 => ?_)
  refine yT.ad2 (pc' := 1189) (Z := ((6 * k : Nat) : Int) + 1) ex e2 rfl rfl (by omega) (fun z3 e4 => ?_)
  refine yT.sia (j := 6 * k + 1) (pc' := 1190) (hV _ (by omega)) (by omega) (by omega) (by omega) rfl rfl ?_
  obtain ⟨G, m, hG, w⟩ := w_32 hT K R E hk (Int32.ofInt (zz (6 * k + 1)).toInt)
  refine kLQ (yT.cc (G2 := 3783 * n + 763 * m) (pc' := 1193) rfl rfl rfl hT (K.up rfl : xnth ks 0 = some (18, 0)) xM_143 w rfl (by decide) (by omega) rfl) (fun h1 ks1 σ1 v1 ke1 hT1 P1 => ?_)
  have K1 := K.tr ke1
  obtain ⟨y1, hv1⟩ := P1.2.2.2
  subst hv1
  refine yT.p (pc' := 1194) rfl rfl (fun _ _ _ _ => rfl) ?_
  refine yT.aan (pc' := 1195) g2 rfl rfl rfl ?_
  refine yT.aan (pc' := 1196) g0 rfl rfl rfl ?_
  refine yT.iln (pc' := 1197) g3 rfl rfl ?_
  refine yT.kI (pc' := 1198) rfl rfl (by decide) (fun c5 e6 => ?_)
  refine yT.ad2 (pc' := 1199) (Z := ((6 * k : Nat) : Int) + 1) ex e6 rfl rfl (by omega) (fun z7 e8 => ?_)
  refine yT.sia (j := 6 * k + 1) (pc' := 1200) (hV _ (by omega)) (by omega) (by omega) (by omega) rfl rfl ?_
  refine kLM (yT.cc (G2 := 3783 * n + 763 * m) (pc' := 1203) rfl rfl rfl hT1 (K1.up rfl : xnth ks1 60 = some (19, 0)) xM_258 (m_32 hT1 K1 hk (Int32.ofInt (zz (6 * k + 1)).toInt) P1) rfl (by decide) (by omega) rfl) (fun h2 σ2 v2 hT2 P2 => ?_)
  obtain ⟨y2, hv2⟩ := P2.2.2.2
  subst hv2
  have hnz := P2.2.2.1
  refine yT.p (pc' := 1204) rfl rfl (fun _ _ _ _ => rfl) ?_
  refine yT.p (pc' := 1358) rfl rfl (fun _ _ _ _ => rfl) ?_
  exact yT.w (next ks1 σ2 h2 K1 hT2 P2.1 P2.2.1) (Nat.le_refl _) (by omega) (fun _ _ h => h)

set_option maxRecDepth 100000 in
set_option maxHeartbeats 4000000 in
theorem l_33 {L : Nat} {iv : List (Int × Int)} {zz : Nat → Int32} {ρ : Nat → xE} {ks : List cT} {B0 : Nat} {σ : sg} {h : List xE} {lv : xLv} {k n N : Nat} {Q : yQ} {x : Int32} (hL : L = N + 1) (hN : N ≤ 3072) (hV : ∀ j, j < N → xfl iv (j + 2000) = some (zz j).toInt) (K : KE KS0 ks B0) (hT : HT ks σ ρ h) (R : RI k σ) (E : EQ σ) (hk : k ≤ 511) (g0 : xget lv 0 = some (.ref 0)) (g1 : xget lv 1 = some (.ref (0 + 1))) (g2 : xget lv 2 = some (.ref (60 + 1))) (g3 : xget lv 3 = some (.int x)) (ex : x.toInt = ((6 * k : Nat) : Int)) (hi : 6 * k + 6 ≤ N)
    (next : ∀ (ks' : List cT) (σ' : sg) (h' : List xE), KE KS0 ks' (B0 + 72) → HT ks' σ' ρ h' → RI (k + 1) σ' → EQ σ' → yT L iv rL_law 1700 (3783 * n + 763 * nz σ') 1358 lv [] h' Q) : yT L iv rL_law 1700 (3783 * (n + 1) + 763 * nz σ) 1207 lv [] h Q := by
  refine yT.aan (pc' := 1208) g1 rfl rfl rfl ?_
  refine yT.aan (pc' := 1209) g0 rfl rfl rfl ?_
  refine yT.iln (pc' := 1210) g3 rfl rfl ?_
  refine yT.kI (pc' := 1211) rfl rfl (by decide) (fun c1 e2 => ?_)
  refine yT.ad2 (pc' := 1212) (Z := ((6 * k : Nat) : Int) + 1) ex e2 rfl rfl (by omega) (fun z3 e4 => ?_)
  refine yT.sia (j := 6 * k + 1) (pc' := 1213) (hV _ (by omega)) (by omega) (by omega) (by omega) rfl rfl ?_
  obtain ⟨G, m, hG, w⟩ := w_33 hT K R E hk (Int32.ofInt (zz (6 * k + 1)).toInt)
  refine kLQ (yT.cc (G2 := 3783 * n + 763 * m) (pc' := 1216) rfl rfl rfl hT (K.up rfl : xnth ks 0 = some (18, 0)) xM_144 w rfl (by decide) (by omega) rfl) (fun h1 ks1 σ1 v1 ke1 hT1 P1 => ?_)
  have K1 := K.tr ke1
  obtain ⟨y1, hv1⟩ := P1.2.2.2
  subst hv1
  refine yT.p (pc' := 1217) rfl rfl (fun _ _ _ _ => rfl) ?_
  refine yT.aan (pc' := 1218) g2 rfl rfl rfl ?_
  refine yT.aan (pc' := 1219) g0 rfl rfl rfl ?_
  refine yT.iln (pc' := 1220) g3 rfl rfl ?_
  refine yT.kI (pc' := 1221) rfl rfl (by decide) (fun c5 e6 => ?_)
  refine yT.ad2 (pc' := 1222) (Z := ((6 * k : Nat) : Int) + 1) ex e6 rfl rfl (by omega) (fun z7 e8 => ?_)
  refine yT.sia (j := 6 * k + 1) (pc' := 1223) (hV _ (by omega)) (by omega) (by omega) (by omega) rfl rfl ?_
  refine kLM (yT.cc (G2 := 3783 * n + 763 * m) (pc' := 1226) rfl rfl rfl hT1 (K1.up rfl : xnth ks1 60 = some (19, 0)) xM_259 (m_33 hT1 K1 hk (Int32.ofInt (zz (6 * k + 1)).toInt) P1) rfl (by decide) (by omega) rfl) (fun h2 σ2 v2 hT2 P2 => ?_)
  obtain ⟨y2, hv2⟩ := P2.2.2.2
  subst hv2
  have hnz := P2.2.2.1
  refine yT.p (pc' := 1227) rfl rfl (fun _ _ _ _ => rfl) ?_
  refine yT.p (pc' := 1358) rfl rfl (fun _ _ _ _ => rfl) ?_
  exact yT.w (next ks1 σ2 h2 K1 hT2 P2.1 P2.2.1) (Nat.le_refl _) (by omega) (fun _ _ h => h)

set_option maxRecDepth 100000 in
set_option maxHeartbeats 4000000 in
theorem l_34 {L : Nat} {iv : List (Int × Int)} {zz : Nat → Int32} {ρ : Nat → xE} {ks : List cT} {B0 : Nat} {σ : sg} {h : List xE} {lv : xLv} {k n N : Nat} {Q : yQ} {x : Int32} (hL : L = N + 1) (hN : N ≤ 3072) (hV : ∀ j, j < N → xfl iv (j + 2000) = some (zz j).toInt) (K : KE KS0 ks B0) (hT : HT ks σ ρ h) (R : RI k σ) (E : EQ σ) (hk : k ≤ 511) (g0 : xget lv 0 = some (.ref 0)) (g1 : xget lv 1 = some (.ref (0 + 1))) (g2 : xget lv 2 = some (.ref (60 + 1))) (g3 : xget lv 3 = some (.int x)) (ex : x.toInt = ((6 * k : Nat) : Int)) (hi : 6 * k + 6 ≤ N)
    (next : ∀ (ks' : List cT) (σ' : sg) (h' : List xE), KE KS0 ks' (B0 + 72) → HT ks' σ' ρ h' → RI (k + 1) σ' → EQ σ' → yT L iv rL_law 1700 (3783 * n + 763 * nz σ') 1358 lv [] h' Q) : yT L iv rL_law 1700 (3783 * (n + 1) + 763 * nz σ) 1230 lv [] h Q := by
  refine yT.aan (pc' := 1231) g1 rfl rfl rfl ?_
  refine yT.aan (pc' := 1232) g0 rfl rfl rfl ?_
  refine yT.iln (pc' := 1233) g3 rfl rfl ?_
  refine yT.kI (pc' := 1234) rfl rfl (by decide) (fun c1 e2 => ?_)
  refine yT.ad2 (pc' := 1235) (Z := ((6 * k : Nat) : Int) + 1) ex e2 rfl rfl (by omega) (fun z3 e4 => ?_)
  refine yT.sia (j := 6 * k + 1) (pc' := 1236) (hV _ (by omega)) (by omega) (by omega) (by omega) rfl rfl ?_
  refine yT.aan (pc' := 1237) g0 rfl rfl rfl ?_
  refine yT.iln (pc' := 1238) g3 rfl rfl ?_
  refine yT.kI (pc' := 1239) rfl rfl (by decide) (fun c5 e6 => ?_)
  refine yT.ad2 (pc' := 1240) (Z := ((6 * k : Nat) : Int) + 2) ex e6 rfl rfl (by omega) (fun z7 e8 => ?_)
  refine yT.sia (j := 6 * k + 2) (pc' := 1241) (hV _ (by omega)) (by omega) (by omega) (by omega) rfl rfl ?_
  obtain ⟨G, m, hG, w⟩ := w_34 hT K R E hk (Int32.ofInt (zz (6 * k + 1)).toInt) (Int32.ofInt (zz (6 * k + 2)).toInt)
  refine kLQ (yT.cc (G2 := 3783 * n + 763 * m) (pc' := 1244) rfl rfl rfl hT (K.up rfl : xnth ks 0 = some (18, 0)) xM_145 w rfl (by decide) (by omega) rfl) (fun h1 ks1 σ1 v1 ke1 hT1 P1 => ?_)
  have K1 := K.tr ke1
  obtain ⟨y1, hv1⟩ := P1.2.2.2
  subst hv1
  refine yT.p (pc' := 1245) rfl rfl (fun _ _ _ _ => rfl) ?_
  refine yT.aan (pc' := 1246) g2 rfl rfl rfl ?_
  refine yT.aan (pc' := 1247) g0 rfl rfl rfl ?_
  refine yT.iln (pc' := 1248) g3 rfl rfl ?_
  refine yT.kI (pc' := 1249) rfl rfl (by decide) (fun c9 e10 => ?_)
  refine yT.ad2 (pc' := 1250) (Z := ((6 * k : Nat) : Int) + 1) ex e10 rfl rfl (by omega) (fun z11 e12 => ?_)
  refine yT.sia (j := 6 * k + 1) (pc' := 1251) (hV _ (by omega)) (by omega) (by omega) (by omega) rfl rfl ?_
  refine yT.aan (pc' := 1252) g0 rfl rfl rfl ?_
  refine yT.iln (pc' := 1253) g3 rfl rfl ?_
  refine yT.kI (pc' := 1254) rfl rfl (by decide) (fun c13 e14 => ?_)
  refine yT.ad2 (pc' := 1255) (Z := ((6 * k : Nat) : Int) + 2) ex e14 rfl rfl (by omega) (fun z15 e16 => ?_)
  refine yT.sia (j := 6 * k + 2) (pc' := 1256) (hV _ (by omega)) (by omega) (by omega) (by omega) rfl rfl ?_
  refine kLM (yT.cc (G2 := 3783 * n + 763 * m) (pc' := 1259) rfl rfl rfl hT1 (K1.up rfl : xnth ks1 60 = some (19, 0)) xM_260 (m_34 hT1 K1 hk (Int32.ofInt (zz (6 * k + 1)).toInt) (Int32.ofInt (zz (6 * k + 2)).toInt) P1) rfl (by decide) (by omega) rfl) (fun h2 σ2 v2 hT2 P2 => ?_)
  obtain ⟨y2, hv2⟩ := P2.2.2.2
  subst hv2
  have hnz := P2.2.2.1
  refine yT.p (pc' := 1260) rfl rfl (fun _ _ _ _ => rfl) ?_
  refine yT.p (pc' := 1358) rfl rfl (fun _ _ _ _ => rfl) ?_
  exact yT.w (next ks1 σ2 h2 K1 hT2 P2.1 P2.2.1) (Nat.le_refl _) (by omega) (fun _ _ h => h)

set_option maxRecDepth 100000 in
set_option maxHeartbeats 4000000 in
theorem l_35 {L : Nat} {iv : List (Int × Int)} {zz : Nat → Int32} {ρ : Nat → xE} {ks : List cT} {B0 : Nat} {σ : sg} {h : List xE} {lv : xLv} {k n N : Nat} {Q : yQ} {x : Int32} (hL : L = N + 1) (hN : N ≤ 3072) (hV : ∀ j, j < N → xfl iv (j + 2000) = some (zz j).toInt) (K : KE KS0 ks B0) (hT : HT ks σ ρ h) (R : RI k σ) (E : EQ σ) (hk : k ≤ 511) (g0 : xget lv 0 = some (.ref 0)) (g1 : xget lv 1 = some (.ref (0 + 1))) (g2 : xget lv 2 = some (.ref (60 + 1))) (g3 : xget lv 3 = some (.int x)) (ex : x.toInt = ((6 * k : Nat) : Int)) (hi : 6 * k + 6 ≤ N)
    (next : ∀ (ks' : List cT) (σ' : sg) (h' : List xE), KE KS0 ks' (B0 + 72) → HT ks' σ' ρ h' → RI (k + 1) σ' → EQ σ' → yT L iv rL_law 1700 (3783 * n + 763 * nz σ') 1358 lv [] h' Q) : yT L iv rL_law 1700 (3783 * (n + 1) + 763 * nz σ) 1263 lv [] h Q := by
  refine yT.aan (pc' := 1264) g1 rfl rfl rfl ?_
  refine yT.aan (pc' := 1265) g0 rfl rfl rfl ?_
  refine yT.iln (pc' := 1266) g3 rfl rfl ?_
  refine yT.kI (pc' := 1267) rfl rfl (by decide) (fun c1 e2 => ?_)
  refine yT.ad2 (pc' := 1268) (Z := ((6 * k : Nat) : Int) + 1) ex e2 rfl rfl (by omega) (fun z3 e4 => ?_)
  refine yT.sia (j := 6 * k + 1) (pc' := 1269) (hV _ (by omega)) (by omega) (by omega) (by omega) rfl rfl ?_
  obtain ⟨G, m, hG, w⟩ := w_35 hT K R E hk (Int32.ofInt (zz (6 * k + 1)).toInt)
  refine kLQ (yT.cc (G2 := 3783 * n + 763 * m) (pc' := 1272) rfl rfl rfl hT (K.up rfl : xnth ks 0 = some (18, 0)) xM_146 w rfl (by decide) (by omega) rfl) (fun h1 ks1 σ1 v1 ke1 hT1 P1 => ?_)
  have K1 := K.tr ke1
  obtain ⟨y1, hv1⟩ := P1.2.2.2
  subst hv1
  refine yT.p (pc' := 1273) rfl rfl (fun _ _ _ _ => rfl) ?_
  refine yT.aan (pc' := 1274) g2 rfl rfl rfl ?_
  refine yT.aan (pc' := 1275) g0 rfl rfl rfl ?_
  refine yT.iln (pc' := 1276) g3 rfl rfl ?_
  refine yT.kI (pc' := 1277) rfl rfl (by decide) (fun c5 e6 => ?_)
  refine yT.ad2 (pc' := 1278) (Z := ((6 * k : Nat) : Int) + 1) ex e6 rfl rfl (by omega) (fun z7 e8 => ?_)
  refine yT.sia (j := 6 * k + 1) (pc' := 1279) (hV _ (by omega)) (by omega) (by omega) (by omega) rfl rfl ?_
  refine kLM (yT.cc (G2 := 3783 * n + 763 * m) (pc' := 1282) rfl rfl rfl hT1 (K1.up rfl : xnth ks1 60 = some (19, 0)) xM_262 (m_35 hT1 K1 hk (Int32.ofInt (zz (6 * k + 1)).toInt) P1) rfl (by decide) (by omega) rfl) (fun h2 σ2 v2 hT2 P2 => ?_)
  obtain ⟨y2, hv2⟩ := P2.2.2.2
  subst hv2
  have hnz := P2.2.2.1
  refine yT.p (pc' := 1283) rfl rfl (fun _ _ _ _ => rfl) ?_
  refine yT.p (pc' := 1358) rfl rfl (fun _ _ _ _ => rfl) ?_
  exact yT.w (next ks1 σ2 h2 K1 hT2 P2.1 P2.2.1) (Nat.le_refl _) (by omega) (fun _ _ h => h)

set_option maxRecDepth 100000 in
set_option maxHeartbeats 4000000 in
theorem l_36 {L : Nat} {iv : List (Int × Int)} {zz : Nat → Int32} {ρ : Nat → xE} {ks : List cT} {B0 : Nat} {σ : sg} {h : List xE} {lv : xLv} {k n N : Nat} {Q : yQ} {x : Int32} (hL : L = N + 1) (hN : N ≤ 3072) (hV : ∀ j, j < N → xfl iv (j + 2000) = some (zz j).toInt) (K : KE KS0 ks B0) (hT : HT ks σ ρ h) (R : RI k σ) (E : EQ σ) (hk : k ≤ 511) (g0 : xget lv 0 = some (.ref 0)) (g1 : xget lv 1 = some (.ref (0 + 1))) (g2 : xget lv 2 = some (.ref (60 + 1))) (g3 : xget lv 3 = some (.int x)) (ex : x.toInt = ((6 * k : Nat) : Int)) (hi : 6 * k + 6 ≤ N)
    (next : ∀ (ks' : List cT) (σ' : sg) (h' : List xE), KE KS0 ks' (B0 + 72) → HT ks' σ' ρ h' → RI (k + 1) σ' → EQ σ' → yT L iv rL_law 1700 (3783 * n + 763 * nz σ') 1358 lv [] h' Q) : yT L iv rL_law 1700 (3783 * (n + 1) + 763 * nz σ) 1286 lv [] h Q := by
  refine yT.aan (pc' := 1287) g1 rfl rfl rfl ?_
  refine yT.aan (pc' := 1288) g0 rfl rfl rfl ?_
  refine yT.iln (pc' := 1289) g3 rfl rfl ?_
  refine yT.kI (pc' := 1290) rfl rfl (by decide) (fun c1 e2 => ?_)
  refine yT.ad2 (pc' := 1291) (Z := ((6 * k : Nat) : Int) + 1) ex e2 rfl rfl (by omega) (fun z3 e4 => ?_)
  refine yT.sia (j := 6 * k + 1) (pc' := 1292) (hV _ (by omega)) (by omega) (by omega) (by omega) rfl rfl ?_
  obtain ⟨G, m, hG, w⟩ := w_36 hT K R E hk (Int32.ofInt (zz (6 * k + 1)).toInt)
  refine kLQ (yT.cc (G2 := 3783 * n + 763 * m) (pc' := 1295) rfl rfl rfl hT (K.up rfl : xnth ks 0 = some (18, 0)) xM_147 w rfl (by decide) (by omega) rfl) (fun h1 ks1 σ1 v1 ke1 hT1 P1 => ?_)
  have K1 := K.tr ke1
  obtain ⟨y1, hv1⟩ := P1.2.2.2
  subst hv1
  refine yT.p (pc' := 1296) rfl rfl (fun _ _ _ _ => rfl) ?_
  refine yT.aan (pc' := 1297) g2 rfl rfl rfl ?_
  refine yT.aan (pc' := 1298) g0 rfl rfl rfl ?_
  refine yT.iln (pc' := 1299) g3 rfl rfl ?_
  refine yT.kI (pc' := 1300) rfl rfl (by decide) (fun c5 e6 => ?_)
  refine yT.ad2 (pc' := 1301) (Z := ((6 * k : Nat) : Int) + 1) ex e6 rfl rfl (by omega) (fun z7 e8 => ?_)
  refine yT.sia (j := 6 * k + 1) (pc' := 1302) (hV _ (by omega)) (by omega) (by omega) (by omega) rfl rfl ?_
  refine kLM (yT.cc (G2 := 3783 * n + 763 * m) (pc' := 1305) rfl rfl rfl hT1 (K1.up rfl : xnth ks1 60 = some (19, 0)) xM_263 (m_36 hT1 K1 hk (Int32.ofInt (zz (6 * k + 1)).toInt) P1) rfl (by decide) (by omega) rfl) (fun h2 σ2 v2 hT2 P2 => ?_)
  obtain ⟨y2, hv2⟩ := P2.2.2.2
  subst hv2
  have hnz := P2.2.2.1
  refine yT.p (pc' := 1306) rfl rfl (fun _ _ _ _ => rfl) ?_
  refine yT.p (pc' := 1358) rfl rfl (fun _ _ _ _ => rfl) ?_
  exact yT.w (next ks1 σ2 h2 K1 hT2 P2.1 P2.2.1) (Nat.le_refl _) (by omega) (fun _ _ h => h)

set_option maxRecDepth 100000 in
set_option maxHeartbeats 4000000 in
theorem l_37 {L : Nat} {iv : List (Int × Int)} {zz : Nat → Int32} {ρ : Nat → xE} {ks : List cT} {B0 : Nat} {σ : sg} {h : List xE} {lv : xLv} {k n N : Nat} {Q : yQ} {x : Int32} (hL : L = N + 1) (hN : N ≤ 3072) (hV : ∀ j, j < N → xfl iv (j + 2000) = some (zz j).toInt) (K : KE KS0 ks B0) (hT : HT ks σ ρ h) (R : RI k σ) (E : EQ σ) (hk : k ≤ 511) (g0 : xget lv 0 = some (.ref 0)) (g1 : xget lv 1 = some (.ref (0 + 1))) (g2 : xget lv 2 = some (.ref (60 + 1))) (g3 : xget lv 3 = some (.int x)) (ex : x.toInt = ((6 * k : Nat) : Int)) (hi : 6 * k + 6 ≤ N)
    (next : ∀ (ks' : List cT) (σ' : sg) (h' : List xE), KE KS0 ks' (B0 + 72) → HT ks' σ' ρ h' → RI (k + 1) σ' → EQ σ' → yT L iv rL_law 1700 (3783 * n + 763 * nz σ') 1358 lv [] h' Q) : yT L iv rL_law 1700 (3783 * (n + 1) + 763 * nz σ) 1309 lv [] h Q := by
  refine yT.aan (pc' := 1310) g1 rfl rfl rfl ?_
  obtain ⟨G, m, hG, w⟩ := w_37 hT K R E hk 
  refine kLQ (yT.cc (G2 := 3783 * n + 763 * m) (pc' := 1313) rfl rfl rfl hT (K.up rfl : xnth ks 0 = some (18, 0)) xM_148 w rfl (by decide) (by omega) rfl) (fun h1 ks1 σ1 v1 ke1 hT1 P1 => ?_)
  have K1 := K.tr ke1
  obtain ⟨y1, hv1⟩ := (⟨_, P1.2.2.2.1⟩ : ∃ y, v1 = Value.int y)
  subst hv1
  refine yT.p (pc' := 1314) rfl rfl (fun _ _ _ _ => rfl) ?_
  refine yT.aan (pc' := 1315) g2 rfl rfl rfl ?_
  refine kLM (yT.cc (G2 := 3783 * n + 763 * m) (pc' := 1318) rfl rfl rfl hT1 (K1.up rfl : xnth ks1 60 = some (19, 0)) xM_266 (m_37 hT1 K1 hk  P1) rfl (by decide) (by omega) rfl) (fun h2 σ2 v2 hT2 P2 => ?_)
  have hv2 := P2.2.2.2
  subst hv2
  have hnz := P2.2.2.1
  refine yT.p (pc' := 1319) rfl rfl (fun _ _ _ _ => rfl) ?_
  refine yT.p (pc' := 1358) rfl rfl (fun _ _ _ _ => rfl) ?_
  exact yT.w (next ks1 σ2 h2 K1 hT2 P2.1 P2.2.1) (Nat.le_refl _) (by omega) (fun _ _ h => h)

set_option maxRecDepth 100000 in
set_option maxHeartbeats 4000000 in
theorem l_38 {L : Nat} {iv : List (Int × Int)} {zz : Nat → Int32} {ρ : Nat → xE} {ks : List cT} {B0 : Nat} {σ : sg} {h : List xE} {lv : xLv} {k n N : Nat} {Q : yQ} {x : Int32} (hL : L = N + 1) (hN : N ≤ 3072) (hV : ∀ j, j < N → xfl iv (j + 2000) = some (zz j).toInt) (K : KE KS0 ks B0) (hT : HT ks σ ρ h) (R : RI k σ) (E : EQ σ) (hk : k ≤ 511) (g0 : xget lv 0 = some (.ref 0)) (g1 : xget lv 1 = some (.ref (0 + 1))) (g2 : xget lv 2 = some (.ref (60 + 1))) (g3 : xget lv 3 = some (.int x)) (ex : x.toInt = ((6 * k : Nat) : Int)) (hi : 6 * k + 6 ≤ N)
    (next : ∀ (ks' : List cT) (σ' : sg) (h' : List xE), KE KS0 ks' (B0 + 72) → HT ks' σ' ρ h' → RI (k + 1) σ' → EQ σ' → yT L iv rL_law 1700 (3783 * n + 763 * nz σ') 1358 lv [] h' Q) : yT L iv rL_law 1700 (3783 * (n + 1) + 763 * nz σ) 1322 lv [] h Q := by
  refine yT.aan (pc' := 1323) g1 rfl rfl rfl ?_
  obtain ⟨G, m, hG, w⟩ := w_38 hT K R E hk 
  refine kLQ (yT.cc (G2 := 3783 * n + 763 * m) (pc' := 1326) rfl rfl rfl hT (K.up rfl : xnth ks 0 = some (18, 0)) xM_149 w rfl (by decide) (by omega) rfl) (fun h1 ks1 σ1 v1 ke1 hT1 P1 => ?_)
  have K1 := K.tr ke1
  obtain ⟨y1, hv1⟩ := (P1.2.2.2.2.2.imp (fun _ h => h.1))
  subst hv1
  refine yT.p (pc' := 1327) rfl rfl (fun _ _ _ _ => rfl) ?_
  refine yT.aan (pc' := 1328) g2 rfl rfl rfl ?_
  refine kLM (yT.cc (G2 := 3783 * n + 763 * m) (pc' := 1331) rfl rfl rfl hT1 (K1.up rfl : xnth ks1 60 = some (19, 0)) xM_267 (m_38 hT1 K1 hk  P1) rfl (by decide) (by omega) rfl) (fun h2 σ2 v2 hT2 P2 => ?_)
  have hv2 := P2.2.2.2
  subst hv2
  have hnz := P2.2.2.1
  refine yT.p (pc' := 1332) rfl rfl (fun _ _ _ _ => rfl) ?_
  refine yT.p (pc' := 1358) rfl rfl (fun _ _ _ _ => rfl) ?_
  exact yT.w (next ks1 σ2 h2 K1 hT2 P2.1 P2.2.1) (Nat.le_refl _) (by omega) (fun _ _ h => h)

set_option maxRecDepth 100000 in
set_option maxHeartbeats 4000000 in
theorem l_39 {L : Nat} {iv : List (Int × Int)} {zz : Nat → Int32} {ρ : Nat → xE} {ks : List cT} {B0 : Nat} {σ : sg} {h : List xE} {lv : xLv} {k n N : Nat} {Q : yQ} {x : Int32} (hL : L = N + 1) (hN : N ≤ 3072) (hV : ∀ j, j < N → xfl iv (j + 2000) = some (zz j).toInt) (K : KE KS0 ks B0) (hT : HT ks σ ρ h) (R : RI k σ) (E : EQ σ) (hk : k ≤ 511) (g0 : xget lv 0 = some (.ref 0)) (g1 : xget lv 1 = some (.ref (0 + 1))) (g2 : xget lv 2 = some (.ref (60 + 1))) (g3 : xget lv 3 = some (.int x)) (ex : x.toInt = ((6 * k : Nat) : Int)) (hi : 6 * k + 6 ≤ N)
    (next : ∀ (ks' : List cT) (σ' : sg) (h' : List xE), KE KS0 ks' (B0 + 72) → HT ks' σ' ρ h' → RI (k + 1) σ' → EQ σ' → yT L iv rL_law 1700 (3783 * n + 763 * nz σ') 1358 lv [] h' Q) : yT L iv rL_law 1700 (3783 * (n + 1) + 763 * nz σ) 1335 lv [] h Q := by
  refine yT.aan (pc' := 1336) g1 rfl rfl rfl ?_
  refine yT.aan (pc' := 1337) g0 rfl rfl rfl ?_
  refine yT.iln (pc' := 1338) g3 rfl rfl ?_
  refine yT.kI (pc' := 1339) rfl rfl (by decide) (fun c1 e2 => ?_)
  refine yT.ad2 (pc' := 1340) (Z := ((6 * k : Nat) : Int) + 1) ex e2 rfl rfl (by omega) (fun z3 e4 => ?_)
  refine yT.sia (j := 6 * k + 1) (pc' := 1341) (hV _ (by omega)) (by omega) (by omega) (by omega) rfl rfl ?_
  obtain ⟨G, m, hG, w⟩ := w_39 hT K R E hk (Int32.ofInt (zz (6 * k + 1)).toInt)
  refine kLQ (yT.cc (G2 := 3783 * n + 763 * m) (pc' := 1344) rfl rfl rfl hT (K.up rfl : xnth ks 0 = some (18, 0)) xM_150 w rfl (by decide) (by omega) rfl) (fun h1 ks1 σ1 v1 ke1 hT1 P1 => ?_)
  have K1 := K.tr ke1
  obtain ⟨y1, hv1⟩ := P1.2.2.2
  subst hv1
  refine yT.p (pc' := 1345) rfl rfl (fun _ _ _ _ => rfl) ?_
  refine yT.aan (pc' := 1346) g2 rfl rfl rfl ?_
  refine yT.aan (pc' := 1347) g0 rfl rfl rfl ?_
  refine yT.iln (pc' := 1348) g3 rfl rfl ?_
  refine yT.kI (pc' := 1349) rfl rfl (by decide) (fun c5 e6 => ?_)
  refine yT.ad2 (pc' := 1350) (Z := ((6 * k : Nat) : Int) + 1) ex e6 rfl rfl (by omega) (fun z7 e8 => ?_)
  refine yT.sia (j := 6 * k + 1) (pc' := 1351) (hV _ (by omega)) (by omega) (by omega) (by omega) rfl rfl ?_
  refine kLM (yT.cc (G2 := 3783 * n + 763 * m) (pc' := 1354) rfl rfl rfl hT1 (K1.up rfl : xnth ks1 60 = some (19, 0)) xM_271 (m_39 hT1 K1 hk (Int32.ofInt (zz (6 * k + 1)).toInt) P1) rfl (by decide) (by omega) rfl) (fun h2 σ2 v2 hT2 P2 => ?_)
  obtain ⟨y2, hv2⟩ := P2.2.2.2
  subst hv2
  have hnz := P2.2.2.1
  refine yT.p (pc' := 1355) rfl rfl (fun _ _ _ _ => rfl) ?_
  refine yT.p (pc' := 1358) rfl rfl (fun _ _ _ _ => rfl) ?_
  exact yT.w (next ks1 σ2 h2 K1 hT2 P2.1 P2.2.1) (Nat.le_refl _) (by omega) (fun _ _ h => h)
set_option maxRecDepth 100000 in
set_option maxHeartbeats 8000000 in
/-- the law's loop -/
theorem lloop {L : Nat} {iv : List (Int × Int)} {zz : Nat → Int32} {ρ : Nat → xE} {N : Nat} {Q : yQ} (hL : L = N + 1) (hN : N ≤ 3072) (hV : ∀ j, j < N → xfl iv (j + 2000) = some (zz j).toInt) (hQ : ∀ h : List xE, h.length ≤ 600000 → Q h (some (.int 1))) : ∀ (n k : Nat) (ks : List cT) (σ : sg) (h : List xE) (lv : xLv) (x : Int32), k + n = N / 6 → KE KS0 ks (72 * k) → HT ks σ ρ h → RI k σ → EQ σ → xget lv 0 = some (.ref 0) → xget lv 1 = some (.ref (0 + 1)) → xget lv 2 = some (.ref (60 + 1)) → xget lv 3 = some (.int x) → x.toInt = ((6 * k : Nat) : Int) → yT L iv rL_law 1700 (3783 * n + 763 * nz σ) 18 lv [] h Q := by
  intro n
  induction n with
  | zero =>
    intro k ks σ h lv x hkn K hT R E g0 g1 g2 g3 ex
    have hlen : h.length ≤ 600000 := by
      obtain ⟨l, rfl, hl, -⟩ := K
      rw [hT.1, List.length_append]
      have : KS0.length = 79 := rfl
      omega
    refine yT.iln (pc' := 19) g3 rfl rfl ?_
    refine yT.aan (pc' := 20) g0 rfl rfl rfl ?_
    refine yT.sal (N := N) (pc' := 21) hL (by omega) rfl rfl (fun z ez => ?_)
    refine yT.kb (pc' := 23) rfl rfl (by decide) (fun c ec => ?_)
    refine yT.sb2 (pc' := 24) (Z := (N : Int) - 6) ez ec rfl rfl (by omega) (fun w ew => ?_)
    refine yT.if2 (t := 1364) (pc' := 27) rfl rfl rfl (c2_gt ex ew) (fun _ => ?_) (fun c => by omega)
    refine yT.kI (pc' := 1365) rfl rfl (by decide) (fun u eu => ?_)
    obtain rfl : u = 1 := i32_ext (show u.toInt = (1 : Int32).toInt from eu)
    exact yT.retZ rfl rfl (Or.inr rfl) (hQ h hlen)
  | succ n ih =>
    intro k ks σ h lv x hkn K hT R E g0 g1 g2 g3 ex
    have hk : k ≤ 511 := by omega
    have hi : 6 * k + 6 ≤ N := by omega
    refine yT.iln (pc' := 19) g3 rfl rfl ?_
    refine yT.aan (pc' := 20) g0 rfl rfl rfl ?_
    refine yT.sal (N := N) (pc' := 21) hL (by omega) rfl rfl (fun z ez => ?_)
    refine yT.kb (pc' := 23) rfl rfl (by decide) (fun c ec => ?_)
    refine yT.sb2 (pc' := 24) (Z := (N : Int) - 6) ez ec rfl rfl (by omega) (fun w ew => ?_)
    refine yT.if2 (t := 1364) (pc' := 27) rfl rfl rfl (c2_gt ex ew) (fun c => by omega) (fun _ => ?_)
    refine yT.aan (pc' := 28) g0 rfl rfl rfl ?_
    refine yT.iln (pc' := 29) g3 rfl rfl ?_
    refine yT.sia (j := 6 * k) (pc' := 30) (hV _ (by omega)) ex (by omega) (by omega) rfl rfl ?_
    refine yT.kb (pc' := 32) rfl rfl (by decide) (fun c2 _ => ?_)
    refine yT.fi (pc' := 33) rfl rfl (fun _ _ _ _ => rfl) (fun u => ?_)
    have next : ∀ (ks' : List cT) (σ' : sg) (h' : List xE), KE KS0 ks' (72 * k + 72) → HT ks' σ' ρ h' → RI (k + 1) σ' → EQ σ' → yT L iv rL_law 1700 (3783 * n + 763 * nz σ') 1358 lv [] h' Q := by
      intro ks' σ' h' K' hT' R' E'
      refine yT.inc (pc' := 1361) g3 ex rfl rfl rfl ⟨by decide, by omega⟩ (fun v ev => ?_)
      refine yT.p (pc' := 18) rfl rfl (fun _ _ _ _ => rfl) ?_
      exact ih (k + 1) ks' σ' h' _ v (by omega) (K'.w (by omega)) hT' R' E' (xg_ne g0 rfl) (xg_ne g1 rfl) (xg_ne g2 rfl) xg_eq (by omega)
    by_cases d0 : u.toInt = 0
    · refine yT.tswK 0 (t := 208) (X := 0) d0 rfl (by omega) rfl rfl ?_
      exact l_0 hL hN hV K hT R E hk g0 g1 g2 g3 ex hi next
    by_cases d1 : u.toInt = 1
    · refine yT.tswK 1 (t := 251) (X := 1) d1 rfl (by omega) rfl rfl ?_
      exact l_1 hL hN hV K hT R E hk g0 g1 g2 g3 ex hi next
    by_cases d2 : u.toInt = 2
    · refine yT.tswK 2 (t := 324) (X := 2) d2 rfl (by omega) rfl rfl ?_
      exact l_2 hL hN hV K hT R E hk g0 g1 g2 g3 ex hi next
    by_cases d3 : u.toInt = 3
    · refine yT.tswK 3 (t := 387) (X := 3) d3 rfl (by omega) rfl rfl ?_
      exact l_3 hL hN hV K hT R E hk g0 g1 g2 g3 ex hi next
    by_cases d4 : u.toInt = 4
    · refine yT.tswK 4 (t := 420) (X := 4) d4 rfl (by omega) rfl rfl ?_
      exact l_4 hL hN hV K hT R E hk g0 g1 g2 g3 ex hi next
    by_cases d5 : u.toInt = 5
    · refine yT.tswK 5 (t := 443) (X := 5) d5 rfl (by omega) rfl rfl ?_
      exact l_5 hL hN hV K hT R E hk g0 g1 g2 g3 ex hi next
    by_cases d6 : u.toInt = 6
    · refine yT.tswK 6 (t := 476) (X := 6) d6 rfl (by omega) rfl rfl ?_
      exact l_6 hL hN hV K hT R E hk g0 g1 g2 g3 ex hi next
    by_cases d7 : u.toInt = 7
    · refine yT.tswK 7 (t := 509) (X := 7) d7 rfl (by omega) rfl rfl ?_
      exact l_7 hL hN hV K hT R E hk g0 g1 g2 g3 ex hi next
    by_cases d8 : u.toInt = 8
    · refine yT.tswK 8 (t := 532) (X := 8) d8 rfl (by omega) rfl rfl ?_
      exact l_8 hL hN hV K hT R E hk g0 g1 g2 g3 ex hi next
    by_cases d9 : u.toInt = 9
    · refine yT.tswK 9 (t := 545) (X := 9) d9 rfl (by omega) rfl rfl ?_
      exact l_9 hL hN hV K hT R E hk g0 g1 g2 g3 ex hi next
    by_cases d10 : u.toInt = 10
    · refine yT.tswK 10 (t := 578) (X := 10) d10 rfl (by omega) rfl rfl ?_
      exact l_10 hL hN hV K hT R E hk g0 g1 g2 g3 ex hi next
    by_cases d11 : u.toInt = 11
    · refine yT.tswK 11 (t := 601) (X := 11) d11 rfl (by omega) rfl rfl ?_
      exact l_11 hL hN hV K hT R E hk g0 g1 g2 g3 ex hi next
    by_cases d12 : u.toInt = 12
    · refine yT.tswK 12 (t := 624) (X := 12) d12 rfl (by omega) rfl rfl ?_
      exact l_12 hL hN hV K hT R E hk g0 g1 g2 g3 ex hi next
    by_cases d13 : u.toInt = 13
    · refine yT.tswK 13 (t := 647) (X := 13) d13 rfl (by omega) rfl rfl ?_
      exact l_13 hL hN hV K hT R E hk g0 g1 g2 g3 ex hi next
    by_cases d14 : u.toInt = 14
    · refine yT.tswK 14 (t := 670) (X := 14) d14 rfl (by omega) rfl rfl ?_
      exact l_14 hL hN hV K hT R E hk g0 g1 g2 g3 ex hi next
    by_cases d15 : u.toInt = 15
    · refine yT.tswK 15 (t := 703) (X := 15) d15 rfl (by omega) rfl rfl ?_
      exact l_15 hL hN hV K hT R E hk g0 g1 g2 g3 ex hi next
    by_cases d16 : u.toInt = 16
    · refine yT.tswK 16 (t := 716) (X := 16) d16 rfl (by omega) rfl rfl ?_
      exact l_16 hL hN hV K hT R E hk g0 g1 g2 g3 ex hi next
    by_cases d17 : u.toInt = 17
    · refine yT.tswK 17 (t := 729) (X := 17) d17 rfl (by omega) rfl rfl ?_
      exact l_17 hL hN hV K hT R E hk g0 g1 g2 g3 ex hi next
    by_cases d18 : u.toInt = 18
    · refine yT.tswK 18 (t := 752) (X := 18) d18 rfl (by omega) rfl rfl ?_
      exact l_18 hL hN hV K hT R E hk g0 g1 g2 g3 ex hi next
    by_cases d19 : u.toInt = 19
    · refine yT.tswK 19 (t := 775) (X := 19) d19 rfl (by omega) rfl rfl ?_
      exact l_19 hL hN hV K hT R E hk g0 g1 g2 g3 ex hi next
    by_cases d20 : u.toInt = 20
    · refine yT.tswK 20 (t := 798) (X := 20) d20 rfl (by omega) rfl rfl ?_
      exact l_20 hL hN hV K hT R E hk g0 g1 g2 g3 ex hi next
    by_cases d21 : u.toInt = 21
    · refine yT.tswK 21 (t := 831) (X := 21) d21 rfl (by omega) rfl rfl ?_
      exact l_21 hL hN hV K hT R E hk g0 g1 g2 g3 ex hi next
    by_cases d22 : u.toInt = 22
    · refine yT.tswK 22 (t := 864) (X := 22) d22 rfl (by omega) rfl rfl ?_
      exact l_22 hL hN hV K hT R E hk g0 g1 g2 g3 ex hi next
    by_cases d23 : u.toInt = 23
    · refine yT.tswK 23 (t := 897) (X := 23) d23 rfl (by omega) rfl rfl ?_
      exact l_23 hL hN hV K hT R E hk g0 g1 g2 g3 ex hi next
    by_cases d24 : u.toInt = 24
    · refine yT.tswK 24 (t := 920) (X := 24) d24 rfl (by omega) rfl rfl ?_
      exact l_24 hL hN hV K hT R E hk g0 g1 g2 g3 ex hi next
    by_cases d25 : u.toInt = 25
    · refine yT.tswK 25 (t := 963) (X := 25) d25 rfl (by omega) rfl rfl ?_
      exact l_25 hL hN hV K hT R E hk g0 g1 g2 g3 ex hi next
    by_cases d26 : u.toInt = 26
    · refine yT.tswK 26 (t := 1006) (X := 26) d26 rfl (by omega) rfl rfl ?_
      exact l_26 hL hN hV K hT R E hk g0 g1 g2 g3 ex hi next
    by_cases d27 : u.toInt = 27
    · refine yT.tswK 27 (t := 1039) (X := 27) d27 rfl (by omega) rfl rfl ?_
      exact l_27 hL hN hV K hT R E hk g0 g1 g2 g3 ex hi next
    by_cases d28 : u.toInt = 28
    · refine yT.tswK 28 (t := 1072) (X := 28) d28 rfl (by omega) rfl rfl ?_
      exact l_28 hL hN hV K hT R E hk g0 g1 g2 g3 ex hi next
    by_cases d29 : u.toInt = 29
    · refine yT.tswK 29 (t := 1095) (X := 29) d29 rfl (by omega) rfl rfl ?_
      exact l_29 hL hN hV K hT R E hk g0 g1 g2 g3 ex hi next
    by_cases d30 : u.toInt = 30
    · refine yT.tswK 30 (t := 1138) (X := 30) d30 rfl (by omega) rfl rfl ?_
      exact l_30 hL hN hV K hT R E hk g0 g1 g2 g3 ex hi next
    by_cases d31 : u.toInt = 31
    · refine yT.tswK 31 (t := 1161) (X := 31) d31 rfl (by omega) rfl rfl ?_
      exact l_31 hL hN hV K hT R E hk g0 g1 g2 g3 ex hi next
    by_cases d32 : u.toInt = 32
    · refine yT.tswK 32 (t := 1184) (X := 32) d32 rfl (by omega) rfl rfl ?_
      exact l_32 hL hN hV K hT R E hk g0 g1 g2 g3 ex hi next
    by_cases d33 : u.toInt = 33
    · refine yT.tswK 33 (t := 1207) (X := 33) d33 rfl (by omega) rfl rfl ?_
      exact l_33 hL hN hV K hT R E hk g0 g1 g2 g3 ex hi next
    by_cases d34 : u.toInt = 34
    · refine yT.tswK 34 (t := 1230) (X := 34) d34 rfl (by omega) rfl rfl ?_
      exact l_34 hL hN hV K hT R E hk g0 g1 g2 g3 ex hi next
    by_cases d35 : u.toInt = 35
    · refine yT.tswK 35 (t := 1263) (X := 35) d35 rfl (by omega) rfl rfl ?_
      exact l_35 hL hN hV K hT R E hk g0 g1 g2 g3 ex hi next
    by_cases d36 : u.toInt = 36
    · refine yT.tswK 36 (t := 1286) (X := 36) d36 rfl (by omega) rfl rfl ?_
      exact l_36 hL hN hV K hT R E hk g0 g1 g2 g3 ex hi next
    by_cases d37 : u.toInt = 37
    · refine yT.tswK 37 (t := 1309) (X := 37) d37 rfl (by omega) rfl rfl ?_
      exact l_37 hL hN hV K hT R E hk g0 g1 g2 g3 ex hi next
    by_cases d38 : u.toInt = 38
    · refine yT.tswK 38 (t := 1322) (X := 38) d38 rfl (by omega) rfl rfl ?_
      exact l_38 hL hN hV K hT R E hk g0 g1 g2 g3 ex hi next
    by_cases d39 : u.toInt = 39
    · refine yT.tswK 39 (t := 1335) (X := 39) d39 rfl (by omega) rfl rfl ?_
      exact l_39 hL hN hV K hT R E hk g0 g1 g2 g3 ex hi next
    refine yT.tswD (t := 1358) rfl rfl rfl (by omega) ?_
    exact yT.w (next ks σ h (K.w (by omega)) hT R.up E) (Nat.le_refl _) (by omega) (fun _ _ h => h)
