-- rX9_compToldr
set_option maxRecDepth 100000 in
set_option maxHeartbeats 4000000 in
theorem r206r {ks : List cT} {B0 : Nat} (K : KE KS0 ks B0) {σ : sg} {ρ : Nat → xE} {h : List xE} (hT : HT ks σ ρ h) {c : Nat} {x1 : Int32} (e1 : x1.toInt = (c : Int)) {J : sg → Prop} {L : LT} (JL : ∀ σ, J σ → (∀ k, ltr σ c k = L.1 k) ∧ nw σ (282 * c + 31) ≤ 250) (hL : ∀ j, 250 ≤ j → L.1 j = -1) (Jat : ∀ σ v, J σ → J (us σ 60 16 v)) (JT : ∀ σ τ, J σ → TT σ τ → J τ) (hc : c < 24) {n p q : Nat} (R : ∀ {σ1 : sg} {h1 : List xE} {y1 : Int32} {p1 q1 : Nat}, HT ks σ1 ρ h1 → J σ1 → fl σ1 16 = (p1 : Int) → y1.toInt = (c : Int) → 0 ≤ fl σ1 25 ∧ fl σ1 25 + 3 * ((q1 : Int) - (p1 : Int)) ≤ 1900 → PP n L 1 p1 = some q1 → q1 ≤ 250 → yM 207 (2 * (q1 - p1) + 6) 0 [.ref (60 + 1), .int y1] h1 (RQV ks ρ (fun σ2 => J σ2 ∧ fl σ2 16 = (q1 : Int) ∧ fl σ1 25 ≤ fl σ2 25 ∧ fl σ2 25 ≤ fl σ1 25 + 3 * ((q1 : Int) - (p1 : Int))))) (p0 : c < 24) (p1 : J σ) (p2 : fl σ 16 = (p : Int)) (p3 : PP (n + 1) L 0 p = some q) (p4 : q ≤ 250) (p5 : 0 ≤ fl σ 25 ∧ fl σ 25 + 3 * ((q : Int) - (p : Int)) ≤ 1900) : yM 206 (2 * (q - p) + 7) 0 [.ref (60 + 1), .int x1] h (RQV ks ρ (fun σ' => J σ' ∧ fl σ' 16 = (q : Int) ∧ fl σ 25 ≤ fl σ' 25 ∧ fl σ' 25 ≤ fl σ 25 + 3 * ((q : Int) - (p : Int)))) := by
  refine yM.st xM_206 rfl rfl (fun lv g => ?_)
  have g0 := g 0 _ rfl
  have g1 := g 1 _ rfl
  obtain ⟨a, h1, h2, h3⟩ := PP0 p3
  have b1 := PP_lt h1 hL
  have ha : a ≤ q := by
    by_cases hs : L.1 a = 60 ∨ L.1 a = 61 ∨ L.1 a = 62
    · have := PP_lt (h2 hs) hL; omega
    · have := h3 hs; omega
  have b1 := b1.2 (by decide) (by decide)
  refine yT.aan (pc' := 1) g0 rfl rfl rfl ?_
  refine yT.cgX (pc' := 4) rfl rfl hT (K.up rfl) rfl rfl (fun x101 _ i102 j103 z104 => ?_)
  have e105 : x101.toInt = (fl σ 25) := (congrArg Int32.toInt z104).trans rfl
  refine yT.p (pc' := 5) (lv' := xst1 _ 2 (.int x101)) rfl rfl (fun _ _ _ _ => rfl) ?_
  refine yT.aan (pc' := 6) (xg_ne g0 rfl) rfl rfl rfl ?_
  refine yT.iln (pc' := 7) (xg_ne g1 rfl) rfl rfl ?_
  refine kRV (yT.cc (G2 := 0) (pc' := 10) rfl rfl rfl hT (K.up rfl : xnth ks 60 = some (19, 0)) xM_207 (R (p1 := p) hT p1 (by omega) (by omega) (by omega) h1 (by omega)) rfl (by omega) (by decide) rfl) (fun h106 σ110 hT107 E108 => ?_)
  obtain ⟨J111, f112, t113, t114⟩ := E108
  refine yT.aan (pc' := 11) (xg_ne g0 rfl) rfl rfl rfl ?_
  refine yT.iln (pc' := 12) (xg_ne g1 rfl) rfl rfl ?_
  refine yT.aan (pc' := 13) (xg_ne g0 rfl) rfl rfl rfl ?_
  refine yT.cgX (pc' := 16) rfl rfl hT107 (K.up rfl) rfl rfl (fun x115 _ i116 j117 z118 => ?_)
  have e119 : x115.toInt = (a : Int) := (congrArg Int32.toInt z118).trans f112
  refine kSI (yT.cc (G2 := 0) (pc' := 19) rfl rfl rfl hT107 (K.up rfl : xnth ks 60 = some (19, 0)) xM_170 (r170 (c := c) (k := a) K hT107 e1 e119 hc (JL _ J111).2) rfl (by omega) (by decide) rfl) (fun h120 x123 hT121 E122 => ?_)
  have e124 : x123.toInt = L.1 (a) := E122.trans ((JL _ J111).1 _)
  refine yT.p (pc' := 20) (lv' := xst1 _ 3 (.int x123)) rfl rfl (fun _ _ _ _ => rfl) ?_
  refine yT.iln (pc' := 21) xg_eq rfl rfl ?_
  refine yT.kb (pc' := 23) rfl rfl (by decide) (fun x125 e126 => ?_)
  refine yT.if2 (t := 38) (pc' := 26) rfl rfl rfl (c2_eq e124 e126) (fun c127 => ?_) (fun c127 => ?_)
  · have h4 := h2 (by omega)
    have b4 := PP_lt h4 hL
    have b5 := b4.1
    refine yT.aan (pc' := 39) (xg_ne (xg_ne g0 rfl) rfl) rfl rfl rfl ?_
    refine yT.p (pc' := 40) rfl rfl (fun _ _ _ _ => rfl) ?_
    refine yT.cgX (pc' := 43) rfl rfl hT121 (K.up rfl) rfl rfl (fun x128 _ i129 j130 z131 => ?_)
    have e132 : x128.toInt = (a : Int) := (congrArg Int32.toInt z131).trans f112
    refine yT.kI (pc' := 44) rfl rfl (by decide) (fun x133 e134 => ?_)
    refine yT.ad2 (pc' := 45) (Z := (a : Int) + 1) e132 e134 rfl rfl (by omega) (fun x135 e136 => ?_)
    refine yT.cpX (c := x135) (pc' := 48) rfl rfl hT121 (K.up rfl) rfl rfl rfl e136 (by omega) rfl (fun h137 hT138 _ _ => ?_)
    have f139 : fl (us σ110 60 16 x135) 25 = (fl σ110 25) := (fl_o (by decide)).trans rfl
    have f140 : fl (us σ110 60 16 x135) 16 = (a : Int) + 1 := fl_at.trans e136
    have J141 := Jat _ x135 J111
    refine yT.aan (pc' := 49) (xg_ne (xg_ne g0 rfl) rfl) rfl rfl rfl ?_
    refine yT.iln (pc' := 50) (xg_ne xg_eq rfl) rfl rfl ?_
    refine yT.kb (pc' := 52) rfl rfl (by decide) (fun x142 e143 => ?_)
    refine kRV (yT.cc (G2 := 0) (pc' := 55) rfl rfl rfl hT138 (K.up rfl : xnth ks 60 = some (19, 0)) xM_205 (r205 (fm := (fl σ 25).toNat) K hT138 (by omega) x142 (by omega) (by omega)) rfl (by omega) (by decide) rfl) (fun h144 σ148 hT145 E146 => ?_)
    have J149 := JT _ _ J141 E146
    have f150 : fl σ148 16 = (a : Int) + 1 := (E146.2.1 16 (by decide)).trans f140
    have f151 : fl σ148 25 = (fl σ110 25) + 1 := by have := E146.2.2; omega
    refine yT.aan (pc' := 56) (xg_ne (xg_ne g0 rfl) rfl) rfl rfl rfl ?_
    refine yT.iln (pc' := 57) xg_eq rfl rfl ?_
    refine kRV (yT.cc (G2 := 0) (pc' := 60) rfl rfl rfl hT145 (K.up rfl : xnth ks 60 = some (19, 0)) xM_204 (r204  K hT145 x123 (by omega)) rfl (by omega) (by decide) rfl) (fun h152 σ156 hT153 E154 => ?_)
    have J157 := JT _ _ J149 E154
    have f158 : fl σ156 16 = (a : Int) + 1 := (E154.2.1 16 (by decide)).trans f150
    have f159 : fl σ156 25 = (fl σ110 25) + 2 := by have := E154.2.2; omega
    refine yT.aan (pc' := 61) (xg_ne (xg_ne g0 rfl) rfl) rfl rfl rfl ?_
    refine yT.iln (pc' := 62) (xg_ne (xg_ne g1 rfl) rfl) rfl rfl ?_
    refine kRV (yT.cc (G2 := 0) (pc' := 65) rfl rfl rfl hT153 (K.up rfl : xnth ks 60 = some (19, 0)) xM_207 (R (p1 := a + 1) hT153 J157 (by omega) (by omega) (by omega) h4 (by omega)) rfl (by omega) (by decide) rfl) (fun h160 σ164 hT161 E162 => ?_)
    obtain ⟨J165, f166, t167, t168⟩ := E162
    refine yT.aan (pc' := 66) (xg_ne (xg_ne g0 rfl) rfl) rfl rfl rfl ?_
    refine yT.kb (pc' := 68) rfl rfl (by decide) (fun x169 e170 => ?_)
    refine kRV (yT.cc (G2 := 0) (pc' := 71) rfl rfl rfl hT161 (K.up rfl : xnth ks 60 = some (19, 0)) xM_204 (r204  K hT161 x169 (by omega)) rfl (by omega) (by decide) rfl) (fun h171 σ175 hT172 E173 => ?_)
    have J176 := JT _ _ J165 E173
    have f177 : fl σ175 16 = (q : Int) := (E173.2.1 16 (by decide)).trans f166
    have f178 : fl σ175 25 = (fl σ164 25) + 1 := by have := E173.2.2; omega
    exact yT.retV rfl rfl ⟨_, hT172, rfl, ⟨J176, by omega, by omega, by omega⟩⟩
  · refine yT.iln (pc' := 27) xg_eq rfl rfl ?_
    refine yT.kb (pc' := 29) rfl rfl (by decide) (fun x179 e180 => ?_)
    refine yT.if2 (t := 38) (pc' := 32) rfl rfl rfl (c2_eq e124 e180) (fun c181 => ?_) (fun c181 => ?_)
    · have h4 := h2 (by omega)
      have b4 := PP_lt h4 hL
      have b5 := b4.1
      refine yT.aan (pc' := 39) (xg_ne (xg_ne g0 rfl) rfl) rfl rfl rfl ?_
      refine yT.p (pc' := 40) rfl rfl (fun _ _ _ _ => rfl) ?_
      refine yT.cgX (pc' := 43) rfl rfl hT121 (K.up rfl) rfl rfl (fun x182 _ i183 j184 z185 => ?_)
      have e186 : x182.toInt = (a : Int) := (congrArg Int32.toInt z185).trans f112
      refine yT.kI (pc' := 44) rfl rfl (by decide) (fun x187 e188 => ?_)
      refine yT.ad2 (pc' := 45) (Z := (a : Int) + 1) e186 e188 rfl rfl (by omega) (fun x189 e190 => ?_)
      refine yT.cpX (c := x189) (pc' := 48) rfl rfl hT121 (K.up rfl) rfl rfl rfl e190 (by omega) rfl (fun h191 hT192 _ _ => ?_)
      have f193 : fl (us σ110 60 16 x189) 25 = (fl σ110 25) := (fl_o (by decide)).trans rfl
      have f194 : fl (us σ110 60 16 x189) 16 = (a : Int) + 1 := fl_at.trans e190
      have J195 := Jat _ x189 J111
      refine yT.aan (pc' := 49) (xg_ne (xg_ne g0 rfl) rfl) rfl rfl rfl ?_
      refine yT.iln (pc' := 50) (xg_ne xg_eq rfl) rfl rfl ?_
      refine yT.kb (pc' := 52) rfl rfl (by decide) (fun x196 e197 => ?_)
      refine kRV (yT.cc (G2 := 0) (pc' := 55) rfl rfl rfl hT192 (K.up rfl : xnth ks 60 = some (19, 0)) xM_205 (r205 (fm := (fl σ 25).toNat) K hT192 (by omega) x196 (by omega) (by omega)) rfl (by omega) (by decide) rfl) (fun h198 σ202 hT199 E200 => ?_)
      have J203 := JT _ _ J195 E200
      have f204 : fl σ202 16 = (a : Int) + 1 := (E200.2.1 16 (by decide)).trans f194
      have f205 : fl σ202 25 = (fl σ110 25) + 1 := by have := E200.2.2; omega
      refine yT.aan (pc' := 56) (xg_ne (xg_ne g0 rfl) rfl) rfl rfl rfl ?_
      refine yT.iln (pc' := 57) xg_eq rfl rfl ?_
      refine kRV (yT.cc (G2 := 0) (pc' := 60) rfl rfl rfl hT199 (K.up rfl : xnth ks 60 = some (19, 0)) xM_204 (r204  K hT199 x123 (by omega)) rfl (by omega) (by decide) rfl) (fun h206 σ210 hT207 E208 => ?_)
      have J211 := JT _ _ J203 E208
      have f212 : fl σ210 16 = (a : Int) + 1 := (E208.2.1 16 (by decide)).trans f204
      have f213 : fl σ210 25 = (fl σ110 25) + 2 := by have := E208.2.2; omega
      refine yT.aan (pc' := 61) (xg_ne (xg_ne g0 rfl) rfl) rfl rfl rfl ?_
      refine yT.iln (pc' := 62) (xg_ne (xg_ne g1 rfl) rfl) rfl rfl ?_
      refine kRV (yT.cc (G2 := 0) (pc' := 65) rfl rfl rfl hT207 (K.up rfl : xnth ks 60 = some (19, 0)) xM_207 (R (p1 := a + 1) hT207 J211 (by omega) (by omega) (by omega) h4 (by omega)) rfl (by omega) (by decide) rfl) (fun h214 σ218 hT215 E216 => ?_)
      obtain ⟨J219, f220, t221, t222⟩ := E216
      refine yT.aan (pc' := 66) (xg_ne (xg_ne g0 rfl) rfl) rfl rfl rfl ?_
      refine yT.kb (pc' := 68) rfl rfl (by decide) (fun x223 e224 => ?_)
      refine kRV (yT.cc (G2 := 0) (pc' := 71) rfl rfl rfl hT215 (K.up rfl : xnth ks 60 = some (19, 0)) xM_204 (r204  K hT215 x223 (by omega)) rfl (by omega) (by decide) rfl) (fun h225 σ229 hT226 E227 => ?_)
      have J230 := JT _ _ J219 E227
      have f231 : fl σ229 16 = (q : Int) := (E227.2.1 16 (by decide)).trans f220
      have f232 : fl σ229 25 = (fl σ218 25) + 1 := by have := E227.2.2; omega
      exact yT.retV rfl rfl ⟨_, hT226, rfl, ⟨J230, by omega, by omega, by omega⟩⟩
    · refine yT.iln (pc' := 33) xg_eq rfl rfl ?_
      refine yT.kb (pc' := 35) rfl rfl (by decide) (fun x233 e234 => ?_)
      refine yT.if2 (t := 71) (pc' := 38) rfl rfl rfl (c2_ne e124 e234) (fun c235 => ?_) (fun c235 => ?_)
      · exact yT.retV rfl rfl ⟨_, hT121, rfl, ⟨J111, by have := h3 (by omega); omega, by omega, by have := h3 (by omega); omega⟩⟩
      · have h4 := h2 (by omega)
        have b4 := PP_lt h4 hL
        have b5 := b4.1
        refine yT.aan (pc' := 39) (xg_ne (xg_ne g0 rfl) rfl) rfl rfl rfl ?_
        refine yT.p (pc' := 40) rfl rfl (fun _ _ _ _ => rfl) ?_
        refine yT.cgX (pc' := 43) rfl rfl hT121 (K.up rfl) rfl rfl (fun x236 _ i237 j238 z239 => ?_)
        have e240 : x236.toInt = (a : Int) := (congrArg Int32.toInt z239).trans f112
        refine yT.kI (pc' := 44) rfl rfl (by decide) (fun x241 e242 => ?_)
        refine yT.ad2 (pc' := 45) (Z := (a : Int) + 1) e240 e242 rfl rfl (by omega) (fun x243 e244 => ?_)
        refine yT.cpX (c := x243) (pc' := 48) rfl rfl hT121 (K.up rfl) rfl rfl rfl e244 (by omega) rfl (fun h245 hT246 _ _ => ?_)
        have f247 : fl (us σ110 60 16 x243) 25 = (fl σ110 25) := (fl_o (by decide)).trans rfl
        have f248 : fl (us σ110 60 16 x243) 16 = (a : Int) + 1 := fl_at.trans e244
        have J249 := Jat _ x243 J111
        refine yT.aan (pc' := 49) (xg_ne (xg_ne g0 rfl) rfl) rfl rfl rfl ?_
        refine yT.iln (pc' := 50) (xg_ne xg_eq rfl) rfl rfl ?_
        refine yT.kb (pc' := 52) rfl rfl (by decide) (fun x250 e251 => ?_)
        refine kRV (yT.cc (G2 := 0) (pc' := 55) rfl rfl rfl hT246 (K.up rfl : xnth ks 60 = some (19, 0)) xM_205 (r205 (fm := (fl σ 25).toNat) K hT246 (by omega) x250 (by omega) (by omega)) rfl (by omega) (by decide) rfl) (fun h252 σ256 hT253 E254 => ?_)
        have J257 := JT _ _ J249 E254
        have f258 : fl σ256 16 = (a : Int) + 1 := (E254.2.1 16 (by decide)).trans f248
        have f259 : fl σ256 25 = (fl σ110 25) + 1 := by have := E254.2.2; omega
        refine yT.aan (pc' := 56) (xg_ne (xg_ne g0 rfl) rfl) rfl rfl rfl ?_
        refine yT.iln (pc' := 57) xg_eq rfl rfl ?_
        refine kRV (yT.cc (G2 := 0) (pc' := 60) rfl rfl rfl hT253 (K.up rfl : xnth ks 60 = some (19, 0)) xM_204 (r204  K hT253 x123 (by omega)) rfl (by omega) (by decide) rfl) (fun h260 σ264 hT261 E262 => ?_)
        have J265 := JT _ _ J257 E262
        have f266 : fl σ264 16 = (a : Int) + 1 := (E262.2.1 16 (by decide)).trans f258
        have f267 : fl σ264 25 = (fl σ110 25) + 2 := by have := E262.2.2; omega
        refine yT.aan (pc' := 61) (xg_ne (xg_ne g0 rfl) rfl) rfl rfl rfl ?_
        refine yT.iln (pc' := 62) (xg_ne (xg_ne g1 rfl) rfl) rfl rfl ?_
        refine kRV (yT.cc (G2 := 0) (pc' := 65) rfl rfl rfl hT261 (K.up rfl : xnth ks 60 = some (19, 0)) xM_207 (R (p1 := a + 1) hT261 J265 (by omega) (by omega) (by omega) h4 (by omega)) rfl (by omega) (by decide) rfl) (fun h268 σ272 hT269 E270 => ?_)
        obtain ⟨J273, f274, t275, t276⟩ := E270
        refine yT.aan (pc' := 66) (xg_ne (xg_ne g0 rfl) rfl) rfl rfl rfl ?_
        refine yT.kb (pc' := 68) rfl rfl (by decide) (fun x277 e278 => ?_)
        refine kRV (yT.cc (G2 := 0) (pc' := 71) rfl rfl rfl hT269 (K.up rfl : xnth ks 60 = some (19, 0)) xM_204 (r204  K hT269 x277 (by omega)) rfl (by omega) (by decide) rfl) (fun h279 σ283 hT280 E281 => ?_)
        have J284 := JT _ _ J273 E281
        have f285 : fl σ283 16 = (q : Int) := (E281.2.1 16 (by decide)).trans f274
        have f286 : fl σ283 25 = (fl σ272 25) + 1 := by have := E281.2.2; omega
        exact yT.retV rfl rfl ⟨_, hT280, rfl, ⟨J284, by omega, by omega, by omega⟩⟩
-- rX9_sumToldr
set_option maxRecDepth 100000 in
set_option maxHeartbeats 4000000 in
theorem r207r {ks : List cT} {B0 : Nat} (K : KE KS0 ks B0) {σ : sg} {ρ : Nat → xE} {h : List xE} (hT : HT ks σ ρ h) {c : Nat} {x1 : Int32} (e1 : x1.toInt = (c : Int)) {J : sg → Prop} {L : LT} (JL : ∀ σ, J σ → (∀ k, ltr σ c k = L.1 k) ∧ nw σ (282 * c + 31) ≤ 250) (hL : ∀ j, 250 ≤ j → L.1 j = -1) (Jat : ∀ σ v, J σ → J (us σ 60 16 v)) (JT : ∀ σ τ, J σ → TT σ τ → J τ) (hc : c < 24) {n p q : Nat} (R : ∀ {σ1 : sg} {h1 : List xE} {y1 : Int32} {p1 q1 : Nat}, HT ks σ1 ρ h1 → J σ1 → fl σ1 16 = (p1 : Int) → y1.toInt = (c : Int) → 0 ≤ fl σ1 25 ∧ fl σ1 25 + 3 * ((q1 : Int) - (p1 : Int)) ≤ 1900 → PP n L 2 p1 = some q1 → q1 ≤ 250 → yM 208 (2 * (q1 - p1) + 5) 0 [.ref (60 + 1), .int y1] h1 (RQV ks ρ (fun σ2 => J σ2 ∧ fl σ2 16 = (q1 : Int) ∧ fl σ1 25 ≤ fl σ2 25 ∧ fl σ2 25 ≤ fl σ1 25 + 3 * ((q1 : Int) - (p1 : Int))))) (p0 : c < 24) (p1 : J σ) (p2 : fl σ 16 = (p : Int)) (p3 : PP (n + 1) L 1 p = some q) (p4 : q ≤ 250) (p5 : 0 ≤ fl σ 25 ∧ fl σ 25 + 3 * ((q : Int) - (p : Int)) ≤ 1900) : yM 207 (2 * (q - p) + 6) 0 [.ref (60 + 1), .int x1] h (RQV ks ρ (fun σ' => J σ' ∧ fl σ' 16 = (q : Int) ∧ fl σ 25 ≤ fl σ' 25 ∧ fl σ' 25 ≤ fl σ 25 + 3 * ((q : Int) - (p : Int)))) := by
  refine yM.st xM_207 rfl rfl (fun lv g => ?_)
  have g0 := g 0 _ rfl
  have g1 := g 1 _ rfl
  obtain ⟨a, h1, h2⟩ := PP1 p3
  have b1 := (PP_lt h1 hL).2 (by decide) (by decide)
  have b2 := (PP_lt h2 hL).1
  refine yT.aan (pc' := 1) g0 rfl rfl rfl ?_
  refine yT.cgX (pc' := 4) rfl rfl hT (K.up rfl) rfl rfl (fun x101 _ i102 j103 z104 => ?_)
  have e105 : x101.toInt = (fl σ 25) := (congrArg Int32.toInt z104).trans rfl
  refine yT.p (pc' := 5) (lv' := xst1 _ 2 (.int x101)) rfl rfl (fun _ _ _ _ => rfl) ?_
  refine yT.aan (pc' := 6) (xg_ne g0 rfl) rfl rfl rfl ?_
  refine yT.iln (pc' := 7) (xg_ne g1 rfl) rfl rfl ?_
  refine kRV (yT.cc (G2 := 0) (pc' := 10) rfl rfl rfl hT (K.up rfl : xnth ks 60 = some (19, 0)) xM_208 (R (p1 := p) hT p1 (by omega) (by omega) (by omega) h1 (by omega)) rfl (by omega) (by decide) rfl) (fun h106 σ110 hT107 E108 => ?_)
  obtain ⟨J111, f112, t113, t114⟩ := E108
  have L115 : ∀ (n129 : Nat) (lv116 : xLv) (σ122 : sg) (b119 : Nat) (h117 : List xE), HT ks σ122 ρ h117 → J σ122 → fl σ122 16 = (b119 : Int) → xget lv116 0 = some (.ref (60 + 1)) → xget lv116 1 = some (.int x1) → xget lv116 2 = some (.int x101) → PP n L 4 b119 = some q → p < b119 ∧ b119 ≤ q → fl σ 25 ≤ fl σ122 25 ∧ fl σ122 25 ≤ fl σ 25 + 3 * (((b119 : Nat) : Int) - (p : Int)) → q - b119 < n129 → yT 0 [] rX9_sumTold (2 * (q - p) + 6) 0 10 lv116 [] h117 (RQV ks ρ (fun σ' => J σ' ∧ fl σ' 16 = (q : Int) ∧ fl σ 25 ≤ fl σ' 25 ∧ fl σ' 25 ≤ fl σ 25 + 3 * ((q : Int) - (p : Int)))) := by
    intro n129
    induction n129 with
    | zero => intro lv116 σ122 b119 h117 hT118 J121 f120 g123 g124 g125 i126 i127 i128 m130; exact absurd m130 (Nat.not_lt_zero _)
    | succ n129 ih131 =>
      intro lv116 σ122 b119 h117 hT118 J121 f120 g123 g124 g125 i126 i127 i128 m130
      have h4 := PP4 i126
      refine yT.aan (pc' := 11) g123 rfl rfl rfl ?_
      refine yT.iln (pc' := 12) g124 rfl rfl ?_
      refine yT.aan (pc' := 13) g123 rfl rfl rfl ?_
      refine yT.cgX (pc' := 16) rfl rfl hT118 (K.up rfl) rfl rfl (fun x132 _ i133 j134 z135 => ?_)
      have e136 : x132.toInt = (b119 : Int) := (congrArg Int32.toInt z135).trans f120
      refine kSI (yT.cc (G2 := 0) (pc' := 19) rfl rfl rfl hT118 (K.up rfl : xnth ks 60 = some (19, 0)) xM_170 (r170 (c := c) (k := b119) K hT118 e1 e136 hc (JL _ J121).2) rfl (by omega) (by decide) rfl) (fun h137 x140 hT138 E139 => ?_)
      have e141 : x140.toInt = L.1 (b119) := E139.trans ((JL _ J121).1 _)
      refine yT.kb (pc' := 21) rfl rfl (by decide) (fun x142 e143 => ?_)
      refine yT.if2 (t := 38) (pc' := 24) rfl rfl rfl (c2_eq e141 e143) (fun c144 => ?_) (fun c144 => ?_)
      · obtain ⟨a2, h5, h6⟩ := h4.1 (by omega)
        have b5 := (PP_lt h5 hL).2 (by decide) (by decide)
        have b6 := (PP_lt h6 hL).1
        refine yT.aan (pc' := 39) g123 rfl rfl rfl ?_
        refine yT.iln (pc' := 40) g125 rfl rfl ?_
        refine yT.kb (pc' := 42) rfl rfl (by decide) (fun x145 e146 => ?_)
        refine kRV (yT.cc (G2 := 0) (pc' := 45) rfl rfl rfl hT138 (K.up rfl : xnth ks 60 = some (19, 0)) xM_205 (r205 (fm := (fl σ 25).toNat) K hT138 (by omega) x145 (by omega) (by omega)) rfl (by omega) (by decide) rfl) (fun h147 σ151 hT148 E149 => ?_)
        have J152 := JT _ _ J121 E149
        have f153 : fl σ151 16 = (b119 : Int) := (E149.2.1 16 (by decide)).trans f120
        have f154 : fl σ151 25 = (fl σ122 25) + 1 := by have := E149.2.2; omega
        refine yT.aan (pc' := 46) g123 rfl rfl rfl ?_
        refine yT.aan (pc' := 47) g123 rfl rfl rfl ?_
        refine yT.iln (pc' := 48) g124 rfl rfl ?_
        refine yT.aan (pc' := 49) g123 rfl rfl rfl ?_
        refine yT.cgX (pc' := 52) rfl rfl hT148 (K.up rfl) rfl rfl (fun x155 _ i156 j157 z158 => ?_)
        have e159 : x155.toInt = (b119 : Int) := (congrArg Int32.toInt z158).trans f153
        refine kSI (yT.cc (G2 := 0) (pc' := 55) rfl rfl rfl hT148 (K.up rfl : xnth ks 60 = some (19, 0)) xM_170 (r170 (c := c) (k := b119) K hT148 e1 e159 hc (JL _ J152).2) rfl (by omega) (by decide) rfl) (fun h160 x163 hT161 E162 => ?_)
        have e164 : x163.toInt = L.1 (b119) := E162.trans ((JL _ J152).1 _)
        refine kRV (yT.cc (G2 := 0) (pc' := 58) rfl rfl rfl hT161 (K.up rfl : xnth ks 60 = some (19, 0)) xM_204 (r204  K hT161 x163 (by omega)) rfl (by omega) (by decide) rfl) (fun h165 σ169 hT166 E167 => ?_)
        have J170 := JT _ _ J152 E167
        have f171 : fl σ169 16 = (b119 : Int) := (E167.2.1 16 (by decide)).trans f153
        have f172 : fl σ169 25 = (fl σ122 25) + 2 := by have := E167.2.2; omega
        refine yT.aan (pc' := 59) g123 rfl rfl rfl ?_
        refine yT.p (pc' := 60) rfl rfl (fun _ _ _ _ => rfl) ?_
        refine yT.cgX (pc' := 63) rfl rfl hT166 (K.up rfl) rfl rfl (fun x173 _ i174 j175 z176 => ?_)
        have e177 : x173.toInt = (b119 : Int) := (congrArg Int32.toInt z176).trans f171
        refine yT.kI (pc' := 64) rfl rfl (by decide) (fun x178 e179 => ?_)
        refine yT.ad2 (pc' := 65) (Z := (b119 : Int) + 1) e177 e179 rfl rfl (by omega) (fun x180 e181 => ?_)
        refine yT.cpX (c := x180) (pc' := 68) rfl rfl hT166 (K.up rfl) rfl rfl rfl e181 (by omega) rfl (fun h182 hT183 _ _ => ?_)
        have f184 : fl (us σ169 60 16 x180) 25 = (fl σ122 25) + 2 := (fl_o (by decide)).trans f172
        have f185 : fl (us σ169 60 16 x180) 16 = (b119 : Int) + 1 := fl_at.trans e181
        have J186 := Jat _ x180 J170
        refine yT.aan (pc' := 69) g123 rfl rfl rfl ?_
        refine yT.iln (pc' := 70) g124 rfl rfl ?_
        refine kRV (yT.cc (G2 := 0) (pc' := 73) rfl rfl rfl hT183 (K.up rfl : xnth ks 60 = some (19, 0)) xM_208 (R (p1 := b119 + 1) hT183 J186 (by omega) (by omega) (by omega) h5 (by omega)) rfl (by omega) (by decide) rfl) (fun h187 σ191 hT188 E189 => ?_)
        obtain ⟨J192, f193, t194, t195⟩ := E189
        refine yT.aan (pc' := 74) g123 rfl rfl rfl ?_
        refine yT.kb (pc' := 76) rfl rfl (by decide) (fun x196 e197 => ?_)
        refine kRV (yT.cc (G2 := 0) (pc' := 79) rfl rfl rfl hT188 (K.up rfl : xnth ks 60 = some (19, 0)) xM_204 (r204  K hT188 x196 (by omega)) rfl (by omega) (by decide) rfl) (fun h198 σ202 hT199 E200 => ?_)
        have J203 := JT _ _ J192 E200
        have f204 : fl σ202 16 = (a2 : Int) := (E200.2.1 16 (by decide)).trans f193
        have f205 : fl σ202 25 = (fl σ191 25) + 1 := by have := E200.2.2; omega
        refine yT.p (pc' := 10) rfl rfl (fun _ _ _ _ => rfl) ?_
        exact ih131 _ σ202 (a2) _ hT199 J203 (by omega) g123 g124 g125 h6 (by omega) (by omega) (by omega)
      · refine yT.aan (pc' := 25) g123 rfl rfl rfl ?_
        refine yT.iln (pc' := 26) g124 rfl rfl ?_
        refine yT.aan (pc' := 27) g123 rfl rfl rfl ?_
        refine yT.cgX (pc' := 30) rfl rfl hT138 (K.up rfl) rfl rfl (fun x206 _ i207 j208 z209 => ?_)
        have e210 : x206.toInt = (b119 : Int) := (congrArg Int32.toInt z209).trans f120
        refine kSI (yT.cc (G2 := 0) (pc' := 33) rfl rfl rfl hT138 (K.up rfl : xnth ks 60 = some (19, 0)) xM_170 (r170 (c := c) (k := b119) K hT138 e1 e210 hc (JL _ J121).2) rfl (by omega) (by decide) rfl) (fun h211 x214 hT212 E213 => ?_)
        have e215 : x214.toInt = L.1 (b119) := E213.trans ((JL _ J121).1 _)
        refine yT.kb (pc' := 35) rfl rfl (by decide) (fun x216 e217 => ?_)
        refine yT.if2 (t := 82) (pc' := 38) rfl rfl rfl (c2_ne e215 e217) (fun c218 => ?_) (fun c218 => ?_)
        · have h7 := h4.2 (by omega)
          exact yT.retV rfl rfl ⟨_, hT212, rfl, ⟨J121, by omega, by omega, by omega⟩⟩
        · obtain ⟨a2, h5, h6⟩ := h4.1 (by omega)
          have b5 := (PP_lt h5 hL).2 (by decide) (by decide)
          have b6 := (PP_lt h6 hL).1
          refine yT.aan (pc' := 39) g123 rfl rfl rfl ?_
          refine yT.iln (pc' := 40) g125 rfl rfl ?_
          refine yT.kb (pc' := 42) rfl rfl (by decide) (fun x219 e220 => ?_)
          refine kRV (yT.cc (G2 := 0) (pc' := 45) rfl rfl rfl hT212 (K.up rfl : xnth ks 60 = some (19, 0)) xM_205 (r205 (fm := (fl σ 25).toNat) K hT212 (by omega) x219 (by omega) (by omega)) rfl (by omega) (by decide) rfl) (fun h221 σ225 hT222 E223 => ?_)
          have J226 := JT _ _ J121 E223
          have f227 : fl σ225 16 = (b119 : Int) := (E223.2.1 16 (by decide)).trans f120
          have f228 : fl σ225 25 = (fl σ122 25) + 1 := by have := E223.2.2; omega
          refine yT.aan (pc' := 46) g123 rfl rfl rfl ?_
          refine yT.aan (pc' := 47) g123 rfl rfl rfl ?_
          refine yT.iln (pc' := 48) g124 rfl rfl ?_
          refine yT.aan (pc' := 49) g123 rfl rfl rfl ?_
          refine yT.cgX (pc' := 52) rfl rfl hT222 (K.up rfl) rfl rfl (fun x229 _ i230 j231 z232 => ?_)
          have e233 : x229.toInt = (b119 : Int) := (congrArg Int32.toInt z232).trans f227
          refine kSI (yT.cc (G2 := 0) (pc' := 55) rfl rfl rfl hT222 (K.up rfl : xnth ks 60 = some (19, 0)) xM_170 (r170 (c := c) (k := b119) K hT222 e1 e233 hc (JL _ J226).2) rfl (by omega) (by decide) rfl) (fun h234 x237 hT235 E236 => ?_)
          have e238 : x237.toInt = L.1 (b119) := E236.trans ((JL _ J226).1 _)
          refine kRV (yT.cc (G2 := 0) (pc' := 58) rfl rfl rfl hT235 (K.up rfl : xnth ks 60 = some (19, 0)) xM_204 (r204  K hT235 x237 (by omega)) rfl (by omega) (by decide) rfl) (fun h239 σ243 hT240 E241 => ?_)
          have J244 := JT _ _ J226 E241
          have f245 : fl σ243 16 = (b119 : Int) := (E241.2.1 16 (by decide)).trans f227
          have f246 : fl σ243 25 = (fl σ122 25) + 2 := by have := E241.2.2; omega
          refine yT.aan (pc' := 59) g123 rfl rfl rfl ?_
          refine yT.p (pc' := 60) rfl rfl (fun _ _ _ _ => rfl) ?_
          refine yT.cgX (pc' := 63) rfl rfl hT240 (K.up rfl) rfl rfl (fun x247 _ i248 j249 z250 => ?_)
          have e251 : x247.toInt = (b119 : Int) := (congrArg Int32.toInt z250).trans f245
          refine yT.kI (pc' := 64) rfl rfl (by decide) (fun x252 e253 => ?_)
          refine yT.ad2 (pc' := 65) (Z := (b119 : Int) + 1) e251 e253 rfl rfl (by omega) (fun x254 e255 => ?_)
          refine yT.cpX (c := x254) (pc' := 68) rfl rfl hT240 (K.up rfl) rfl rfl rfl e255 (by omega) rfl (fun h256 hT257 _ _ => ?_)
          have f258 : fl (us σ243 60 16 x254) 25 = (fl σ122 25) + 2 := (fl_o (by decide)).trans f246
          have f259 : fl (us σ243 60 16 x254) 16 = (b119 : Int) + 1 := fl_at.trans e255
          have J260 := Jat _ x254 J244
          refine yT.aan (pc' := 69) g123 rfl rfl rfl ?_
          refine yT.iln (pc' := 70) g124 rfl rfl ?_
          refine kRV (yT.cc (G2 := 0) (pc' := 73) rfl rfl rfl hT257 (K.up rfl : xnth ks 60 = some (19, 0)) xM_208 (R (p1 := b119 + 1) hT257 J260 (by omega) (by omega) (by omega) h5 (by omega)) rfl (by omega) (by decide) rfl) (fun h261 σ265 hT262 E263 => ?_)
          obtain ⟨J266, f267, t268, t269⟩ := E263
          refine yT.aan (pc' := 74) g123 rfl rfl rfl ?_
          refine yT.kb (pc' := 76) rfl rfl (by decide) (fun x270 e271 => ?_)
          refine kRV (yT.cc (G2 := 0) (pc' := 79) rfl rfl rfl hT262 (K.up rfl : xnth ks 60 = some (19, 0)) xM_204 (r204  K hT262 x270 (by omega)) rfl (by omega) (by decide) rfl) (fun h272 σ276 hT273 E274 => ?_)
          have J277 := JT _ _ J266 E274
          have f278 : fl σ276 16 = (a2 : Int) := (E274.2.1 16 (by decide)).trans f267
          have f279 : fl σ276 25 = (fl σ265 25) + 1 := by have := E274.2.2; omega
          refine yT.p (pc' := 10) rfl rfl (fun _ _ _ _ => rfl) ?_
          exact ih131 _ σ276 (a2) _ hT273 J277 (by omega) g123 g124 g125 h6 (by omega) (by omega) (by omega)
  exact L115 _ _ σ110 (a) _ hT107 J111 (by omega) (xg_ne g0 rfl) (xg_ne g1 rfl) xg_eq h2 (by omega) (by omega) (Nat.lt_succ_self _)
-- rX9_termToldr
set_option maxRecDepth 100000 in
set_option maxHeartbeats 4000000 in
theorem r208r {ks : List cT} {B0 : Nat} (K : KE KS0 ks B0) {σ : sg} {ρ : Nat → xE} {h : List xE} (hT : HT ks σ ρ h) {c : Nat} {x1 : Int32} (e1 : x1.toInt = (c : Int)) {J : sg → Prop} {L : LT} (JL : ∀ σ, J σ → (∀ k, ltr σ c k = L.1 k) ∧ nw σ (282 * c + 31) ≤ 250) (hL : ∀ j, 250 ≤ j → L.1 j = -1) (Jat : ∀ σ v, J σ → J (us σ 60 16 v)) (JT : ∀ σ τ, J σ → TT σ τ → J τ) (hc : c < 24) {n p q : Nat} (R : ∀ {σ1 : sg} {h1 : List xE} {y1 : Int32} {p1 q1 : Nat}, HT ks σ1 ρ h1 → J σ1 → fl σ1 16 = (p1 : Int) → y1.toInt = (c : Int) → 0 ≤ fl σ1 25 ∧ fl σ1 25 + 3 * ((q1 : Int) - (p1 : Int)) ≤ 1900 → PP n L 3 p1 = some q1 → q1 ≤ 250 → yM 209 (2 * (q1 - p1) + 4) 0 [.ref (60 + 1), .int y1] h1 (RQV ks ρ (fun σ2 => J σ2 ∧ fl σ2 16 = (q1 : Int) ∧ fl σ1 25 ≤ fl σ2 25 ∧ fl σ2 25 ≤ fl σ1 25 + 3 * ((q1 : Int) - (p1 : Int))))) (p0 : c < 24) (p1 : J σ) (p2 : fl σ 16 = (p : Int)) (p3 : PP (n + 1) L 2 p = some q) (p4 : q ≤ 250) (p5 : 0 ≤ fl σ 25 ∧ fl σ 25 + 3 * ((q : Int) - (p : Int)) ≤ 1900) : yM 208 (2 * (q - p) + 5) 0 [.ref (60 + 1), .int x1] h (RQV ks ρ (fun σ' => J σ' ∧ fl σ' 16 = (q : Int) ∧ fl σ 25 ≤ fl σ' 25 ∧ fl σ' 25 ≤ fl σ 25 + 3 * ((q : Int) - (p : Int)))) := by
  refine yM.st xM_208 rfl rfl (fun lv g => ?_)
  have g0 := g 0 _ rfl
  have g1 := g 1 _ rfl
  obtain ⟨a, h1, h2⟩ := PP2 p3
  have b1 := (PP_lt h1 hL).2 (by decide) (by decide)
  have b2 := (PP_lt h2 hL).1
  refine yT.aan (pc' := 1) g0 rfl rfl rfl ?_
  refine yT.cgX (pc' := 4) rfl rfl hT (K.up rfl) rfl rfl (fun x101 _ i102 j103 z104 => ?_)
  have e105 : x101.toInt = (fl σ 25) := (congrArg Int32.toInt z104).trans rfl
  refine yT.p (pc' := 5) (lv' := xst1 _ 2 (.int x101)) rfl rfl (fun _ _ _ _ => rfl) ?_
  refine yT.aan (pc' := 6) (xg_ne g0 rfl) rfl rfl rfl ?_
  refine yT.iln (pc' := 7) (xg_ne g1 rfl) rfl rfl ?_
  refine kRV (yT.cc (G2 := 0) (pc' := 10) rfl rfl rfl hT (K.up rfl : xnth ks 60 = some (19, 0)) xM_209 (R (p1 := p) hT p1 (by omega) (by omega) (by omega) h1 (by omega)) rfl (by omega) (by decide) rfl) (fun h106 σ110 hT107 E108 => ?_)
  obtain ⟨J111, f112, t113, t114⟩ := E108
  have L115 : ∀ (n129 : Nat) (lv116 : xLv) (σ122 : sg) (b119 : Nat) (h117 : List xE), HT ks σ122 ρ h117 → J σ122 → fl σ122 16 = (b119 : Int) → xget lv116 0 = some (.ref (60 + 1)) → xget lv116 1 = some (.int x1) → xget lv116 2 = some (.int x101) → PP n L 5 b119 = some q → p < b119 ∧ b119 ≤ q → fl σ 25 ≤ fl σ122 25 ∧ fl σ122 25 ≤ fl σ 25 + 3 * (((b119 : Nat) : Int) - (p : Int)) → q - b119 < n129 → yT 0 [] rX9_termTold (2 * (q - p) + 5) 0 10 lv116 [] h117 (RQV ks ρ (fun σ' => J σ' ∧ fl σ' 16 = (q : Int) ∧ fl σ 25 ≤ fl σ' 25 ∧ fl σ' 25 ≤ fl σ 25 + 3 * ((q : Int) - (p : Int)))) := by
    intro n129
    induction n129 with
    | zero => intro lv116 σ122 b119 h117 hT118 J121 f120 g123 g124 g125 i126 i127 i128 m130; exact absurd m130 (Nat.not_lt_zero _)
    | succ n129 ih131 =>
      intro lv116 σ122 b119 h117 hT118 J121 f120 g123 g124 g125 i126 i127 i128 m130
      have h4 := PP5 i126
      refine yT.aan (pc' := 11) g123 rfl rfl rfl ?_
      refine yT.iln (pc' := 12) g124 rfl rfl ?_
      refine yT.aan (pc' := 13) g123 rfl rfl rfl ?_
      refine yT.cgX (pc' := 16) rfl rfl hT118 (K.up rfl) rfl rfl (fun x132 _ i133 j134 z135 => ?_)
      have e136 : x132.toInt = (b119 : Int) := (congrArg Int32.toInt z135).trans f120
      refine kSI (yT.cc (G2 := 0) (pc' := 19) rfl rfl rfl hT118 (K.up rfl : xnth ks 60 = some (19, 0)) xM_170 (r170 (c := c) (k := b119) K hT118 e1 e136 hc (JL _ J121).2) rfl (by omega) (by decide) rfl) (fun h137 x140 hT138 E139 => ?_)
      have e141 : x140.toInt = L.1 (b119) := E139.trans ((JL _ J121).1 _)
      refine yT.kb (pc' := 21) rfl rfl (by decide) (fun x142 e143 => ?_)
      refine yT.if2 (t := 52) (pc' := 24) rfl rfl rfl (c2_eq e141 e143) (fun c144 => ?_) (fun c144 => ?_)
      · obtain ⟨a2, h5, h6⟩ := h4.1 (by omega)
        have b5 := (PP_lt h5 hL).2 (by decide) (by decide)
        have b6 := (PP_lt h6 hL).1
        refine yT.aan (pc' := 53) g123 rfl rfl rfl ?_
        refine yT.iln (pc' := 54) g125 rfl rfl ?_
        refine yT.kb (pc' := 56) rfl rfl (by decide) (fun x145 e146 => ?_)
        refine kRV (yT.cc (G2 := 0) (pc' := 59) rfl rfl rfl hT138 (K.up rfl : xnth ks 60 = some (19, 0)) xM_205 (r205 (fm := (fl σ 25).toNat) K hT138 (by omega) x145 (by omega) (by omega)) rfl (by omega) (by decide) rfl) (fun h147 σ151 hT148 E149 => ?_)
        have J152 := JT _ _ J121 E149
        have f153 : fl σ151 16 = (b119 : Int) := (E149.2.1 16 (by decide)).trans f120
        have f154 : fl σ151 25 = (fl σ122 25) + 1 := by have := E149.2.2; omega
        refine yT.aan (pc' := 60) g123 rfl rfl rfl ?_
        refine yT.aan (pc' := 61) g123 rfl rfl rfl ?_
        refine yT.iln (pc' := 62) g124 rfl rfl ?_
        refine yT.aan (pc' := 63) g123 rfl rfl rfl ?_
        refine yT.cgX (pc' := 66) rfl rfl hT148 (K.up rfl) rfl rfl (fun x155 _ i156 j157 z158 => ?_)
        have e159 : x155.toInt = (b119 : Int) := (congrArg Int32.toInt z158).trans f153
        refine kSI (yT.cc (G2 := 0) (pc' := 69) rfl rfl rfl hT148 (K.up rfl : xnth ks 60 = some (19, 0)) xM_170 (r170 (c := c) (k := b119) K hT148 e1 e159 hc (JL _ J152).2) rfl (by omega) (by decide) rfl) (fun h160 x163 hT161 E162 => ?_)
        have e164 : x163.toInt = L.1 (b119) := E162.trans ((JL _ J152).1 _)
        refine kRV (yT.cc (G2 := 0) (pc' := 72) rfl rfl rfl hT161 (K.up rfl : xnth ks 60 = some (19, 0)) xM_204 (r204  K hT161 x163 (by omega)) rfl (by omega) (by decide) rfl) (fun h165 σ169 hT166 E167 => ?_)
        have J170 := JT _ _ J152 E167
        have f171 : fl σ169 16 = (b119 : Int) := (E167.2.1 16 (by decide)).trans f153
        have f172 : fl σ169 25 = (fl σ122 25) + 2 := by have := E167.2.2; omega
        refine yT.aan (pc' := 73) g123 rfl rfl rfl ?_
        refine yT.p (pc' := 74) rfl rfl (fun _ _ _ _ => rfl) ?_
        refine yT.cgX (pc' := 77) rfl rfl hT166 (K.up rfl) rfl rfl (fun x173 _ i174 j175 z176 => ?_)
        have e177 : x173.toInt = (b119 : Int) := (congrArg Int32.toInt z176).trans f171
        refine yT.kI (pc' := 78) rfl rfl (by decide) (fun x178 e179 => ?_)
        refine yT.ad2 (pc' := 79) (Z := (b119 : Int) + 1) e177 e179 rfl rfl (by omega) (fun x180 e181 => ?_)
        refine yT.cpX (c := x180) (pc' := 82) rfl rfl hT166 (K.up rfl) rfl rfl rfl e181 (by omega) rfl (fun h182 hT183 _ _ => ?_)
        have f184 : fl (us σ169 60 16 x180) 25 = (fl σ122 25) + 2 := (fl_o (by decide)).trans f172
        have f185 : fl (us σ169 60 16 x180) 16 = (b119 : Int) + 1 := fl_at.trans e181
        have J186 := Jat _ x180 J170
        refine yT.aan (pc' := 83) g123 rfl rfl rfl ?_
        refine yT.iln (pc' := 84) g124 rfl rfl ?_
        refine kRV (yT.cc (G2 := 0) (pc' := 87) rfl rfl rfl hT183 (K.up rfl : xnth ks 60 = some (19, 0)) xM_209 (R (p1 := b119 + 1) hT183 J186 (by omega) (by omega) (by omega) h5 (by omega)) rfl (by omega) (by decide) rfl) (fun h187 σ191 hT188 E189 => ?_)
        obtain ⟨J192, f193, t194, t195⟩ := E189
        refine yT.aan (pc' := 88) g123 rfl rfl rfl ?_
        refine yT.kb (pc' := 90) rfl rfl (by decide) (fun x196 e197 => ?_)
        refine kRV (yT.cc (G2 := 0) (pc' := 93) rfl rfl rfl hT188 (K.up rfl : xnth ks 60 = some (19, 0)) xM_204 (r204  K hT188 x196 (by omega)) rfl (by omega) (by decide) rfl) (fun h198 σ202 hT199 E200 => ?_)
        have J203 := JT _ _ J192 E200
        have f204 : fl σ202 16 = (a2 : Int) := (E200.2.1 16 (by decide)).trans f193
        have f205 : fl σ202 25 = (fl σ191 25) + 1 := by have := E200.2.2; omega
        refine yT.p (pc' := 10) rfl rfl (fun _ _ _ _ => rfl) ?_
        exact ih131 _ σ202 (a2) _ hT199 J203 (by omega) g123 g124 g125 h6 (by omega) (by omega) (by omega)
      · refine yT.aan (pc' := 25) g123 rfl rfl rfl ?_
        refine yT.iln (pc' := 26) g124 rfl rfl ?_
        refine yT.aan (pc' := 27) g123 rfl rfl rfl ?_
        refine yT.cgX (pc' := 30) rfl rfl hT138 (K.up rfl) rfl rfl (fun x206 _ i207 j208 z209 => ?_)
        have e210 : x206.toInt = (b119 : Int) := (congrArg Int32.toInt z209).trans f120
        refine kSI (yT.cc (G2 := 0) (pc' := 33) rfl rfl rfl hT138 (K.up rfl : xnth ks 60 = some (19, 0)) xM_170 (r170 (c := c) (k := b119) K hT138 e1 e210 hc (JL _ J121).2) rfl (by omega) (by decide) rfl) (fun h211 x214 hT212 E213 => ?_)
        have e215 : x214.toInt = L.1 (b119) := E213.trans ((JL _ J121).1 _)
        refine yT.kb (pc' := 35) rfl rfl (by decide) (fun x216 e217 => ?_)
        refine yT.if2 (t := 52) (pc' := 38) rfl rfl rfl (c2_eq e215 e217) (fun c218 => ?_) (fun c218 => ?_)
        · obtain ⟨a2, h5, h6⟩ := h4.1 (by omega)
          have b5 := (PP_lt h5 hL).2 (by decide) (by decide)
          have b6 := (PP_lt h6 hL).1
          refine yT.aan (pc' := 53) g123 rfl rfl rfl ?_
          refine yT.iln (pc' := 54) g125 rfl rfl ?_
          refine yT.kb (pc' := 56) rfl rfl (by decide) (fun x219 e220 => ?_)
          refine kRV (yT.cc (G2 := 0) (pc' := 59) rfl rfl rfl hT212 (K.up rfl : xnth ks 60 = some (19, 0)) xM_205 (r205 (fm := (fl σ 25).toNat) K hT212 (by omega) x219 (by omega) (by omega)) rfl (by omega) (by decide) rfl) (fun h221 σ225 hT222 E223 => ?_)
          have J226 := JT _ _ J121 E223
          have f227 : fl σ225 16 = (b119 : Int) := (E223.2.1 16 (by decide)).trans f120
          have f228 : fl σ225 25 = (fl σ122 25) + 1 := by have := E223.2.2; omega
          refine yT.aan (pc' := 60) g123 rfl rfl rfl ?_
          refine yT.aan (pc' := 61) g123 rfl rfl rfl ?_
          refine yT.iln (pc' := 62) g124 rfl rfl ?_
          refine yT.aan (pc' := 63) g123 rfl rfl rfl ?_
          refine yT.cgX (pc' := 66) rfl rfl hT222 (K.up rfl) rfl rfl (fun x229 _ i230 j231 z232 => ?_)
          have e233 : x229.toInt = (b119 : Int) := (congrArg Int32.toInt z232).trans f227
          refine kSI (yT.cc (G2 := 0) (pc' := 69) rfl rfl rfl hT222 (K.up rfl : xnth ks 60 = some (19, 0)) xM_170 (r170 (c := c) (k := b119) K hT222 e1 e233 hc (JL _ J226).2) rfl (by omega) (by decide) rfl) (fun h234 x237 hT235 E236 => ?_)
          have e238 : x237.toInt = L.1 (b119) := E236.trans ((JL _ J226).1 _)
          refine kRV (yT.cc (G2 := 0) (pc' := 72) rfl rfl rfl hT235 (K.up rfl : xnth ks 60 = some (19, 0)) xM_204 (r204  K hT235 x237 (by omega)) rfl (by omega) (by decide) rfl) (fun h239 σ243 hT240 E241 => ?_)
          have J244 := JT _ _ J226 E241
          have f245 : fl σ243 16 = (b119 : Int) := (E241.2.1 16 (by decide)).trans f227
          have f246 : fl σ243 25 = (fl σ122 25) + 2 := by have := E241.2.2; omega
          refine yT.aan (pc' := 73) g123 rfl rfl rfl ?_
          refine yT.p (pc' := 74) rfl rfl (fun _ _ _ _ => rfl) ?_
          refine yT.cgX (pc' := 77) rfl rfl hT240 (K.up rfl) rfl rfl (fun x247 _ i248 j249 z250 => ?_)
          have e251 : x247.toInt = (b119 : Int) := (congrArg Int32.toInt z250).trans f245
          refine yT.kI (pc' := 78) rfl rfl (by decide) (fun x252 e253 => ?_)
          refine yT.ad2 (pc' := 79) (Z := (b119 : Int) + 1) e251 e253 rfl rfl (by omega) (fun x254 e255 => ?_)
          refine yT.cpX (c := x254) (pc' := 82) rfl rfl hT240 (K.up rfl) rfl rfl rfl e255 (by omega) rfl (fun h256 hT257 _ _ => ?_)
          have f258 : fl (us σ243 60 16 x254) 25 = (fl σ122 25) + 2 := (fl_o (by decide)).trans f246
          have f259 : fl (us σ243 60 16 x254) 16 = (b119 : Int) + 1 := fl_at.trans e255
          have J260 := Jat _ x254 J244
          refine yT.aan (pc' := 83) g123 rfl rfl rfl ?_
          refine yT.iln (pc' := 84) g124 rfl rfl ?_
          refine kRV (yT.cc (G2 := 0) (pc' := 87) rfl rfl rfl hT257 (K.up rfl : xnth ks 60 = some (19, 0)) xM_209 (R (p1 := b119 + 1) hT257 J260 (by omega) (by omega) (by omega) h5 (by omega)) rfl (by omega) (by decide) rfl) (fun h261 σ265 hT262 E263 => ?_)
          obtain ⟨J266, f267, t268, t269⟩ := E263
          refine yT.aan (pc' := 88) g123 rfl rfl rfl ?_
          refine yT.kb (pc' := 90) rfl rfl (by decide) (fun x270 e271 => ?_)
          refine kRV (yT.cc (G2 := 0) (pc' := 93) rfl rfl rfl hT262 (K.up rfl : xnth ks 60 = some (19, 0)) xM_204 (r204  K hT262 x270 (by omega)) rfl (by omega) (by decide) rfl) (fun h272 σ276 hT273 E274 => ?_)
          have J277 := JT _ _ J266 E274
          have f278 : fl σ276 16 = (a2 : Int) := (E274.2.1 16 (by decide)).trans f267
          have f279 : fl σ276 25 = (fl σ265 25) + 1 := by have := E274.2.2; omega
          refine yT.p (pc' := 10) rfl rfl (fun _ _ _ _ => rfl) ?_
          exact ih131 _ σ276 (a2) _ hT273 J277 (by omega) g123 g124 g125 h6 (by omega) (by omega) (by omega)
        · refine yT.aan (pc' := 39) g123 rfl rfl rfl ?_
          refine yT.iln (pc' := 40) g124 rfl rfl ?_
          refine yT.aan (pc' := 41) g123 rfl rfl rfl ?_
          refine yT.cgX (pc' := 44) rfl rfl hT212 (K.up rfl) rfl rfl (fun x280 _ i281 j282 z283 => ?_)
          have e284 : x280.toInt = (b119 : Int) := (congrArg Int32.toInt z283).trans f120
          refine kSI (yT.cc (G2 := 0) (pc' := 47) rfl rfl rfl hT212 (K.up rfl : xnth ks 60 = some (19, 0)) xM_170 (r170 (c := c) (k := b119) K hT212 e1 e284 hc (JL _ J121).2) rfl (by omega) (by decide) rfl) (fun h285 x288 hT286 E287 => ?_)
          have e289 : x288.toInt = L.1 (b119) := E287.trans ((JL _ J121).1 _)
          refine yT.kb (pc' := 49) rfl rfl (by decide) (fun x290 e291 => ?_)
          refine yT.if2 (t := 96) (pc' := 52) rfl rfl rfl (c2_ne e289 e291) (fun c292 => ?_) (fun c292 => ?_)
          · have h7 := h4.2 (by omega)
            exact yT.retV rfl rfl ⟨_, hT286, rfl, ⟨J121, by omega, by omega, by omega⟩⟩
          · obtain ⟨a2, h5, h6⟩ := h4.1 (by omega)
            have b5 := (PP_lt h5 hL).2 (by decide) (by decide)
            have b6 := (PP_lt h6 hL).1
            refine yT.aan (pc' := 53) g123 rfl rfl rfl ?_
            refine yT.iln (pc' := 54) g125 rfl rfl ?_
            refine yT.kb (pc' := 56) rfl rfl (by decide) (fun x293 e294 => ?_)
            refine kRV (yT.cc (G2 := 0) (pc' := 59) rfl rfl rfl hT286 (K.up rfl : xnth ks 60 = some (19, 0)) xM_205 (r205 (fm := (fl σ 25).toNat) K hT286 (by omega) x293 (by omega) (by omega)) rfl (by omega) (by decide) rfl) (fun h295 σ299 hT296 E297 => ?_)
            have J300 := JT _ _ J121 E297
            have f301 : fl σ299 16 = (b119 : Int) := (E297.2.1 16 (by decide)).trans f120
            have f302 : fl σ299 25 = (fl σ122 25) + 1 := by have := E297.2.2; omega
            refine yT.aan (pc' := 60) g123 rfl rfl rfl ?_
            refine yT.aan (pc' := 61) g123 rfl rfl rfl ?_
            refine yT.iln (pc' := 62) g124 rfl rfl ?_
            refine yT.aan (pc' := 63) g123 rfl rfl rfl ?_
            refine yT.cgX (pc' := 66) rfl rfl hT296 (K.up rfl) rfl rfl (fun x303 _ i304 j305 z306 => ?_)
            have e307 : x303.toInt = (b119 : Int) := (congrArg Int32.toInt z306).trans f301
            refine kSI (yT.cc (G2 := 0) (pc' := 69) rfl rfl rfl hT296 (K.up rfl : xnth ks 60 = some (19, 0)) xM_170 (r170 (c := c) (k := b119) K hT296 e1 e307 hc (JL _ J300).2) rfl (by omega) (by decide) rfl) (fun h308 x311 hT309 E310 => ?_)
            have e312 : x311.toInt = L.1 (b119) := E310.trans ((JL _ J300).1 _)
            refine kRV (yT.cc (G2 := 0) (pc' := 72) rfl rfl rfl hT309 (K.up rfl : xnth ks 60 = some (19, 0)) xM_204 (r204  K hT309 x311 (by omega)) rfl (by omega) (by decide) rfl) (fun h313 σ317 hT314 E315 => ?_)
            have J318 := JT _ _ J300 E315
            have f319 : fl σ317 16 = (b119 : Int) := (E315.2.1 16 (by decide)).trans f301
            have f320 : fl σ317 25 = (fl σ122 25) + 2 := by have := E315.2.2; omega
            refine yT.aan (pc' := 73) g123 rfl rfl rfl ?_
            refine yT.p (pc' := 74) rfl rfl (fun _ _ _ _ => rfl) ?_
            refine yT.cgX (pc' := 77) rfl rfl hT314 (K.up rfl) rfl rfl (fun x321 _ i322 j323 z324 => ?_)
            have e325 : x321.toInt = (b119 : Int) := (congrArg Int32.toInt z324).trans f319
            refine yT.kI (pc' := 78) rfl rfl (by decide) (fun x326 e327 => ?_)
            refine yT.ad2 (pc' := 79) (Z := (b119 : Int) + 1) e325 e327 rfl rfl (by omega) (fun x328 e329 => ?_)
            refine yT.cpX (c := x328) (pc' := 82) rfl rfl hT314 (K.up rfl) rfl rfl rfl e329 (by omega) rfl (fun h330 hT331 _ _ => ?_)
            have f332 : fl (us σ317 60 16 x328) 25 = (fl σ122 25) + 2 := (fl_o (by decide)).trans f320
            have f333 : fl (us σ317 60 16 x328) 16 = (b119 : Int) + 1 := fl_at.trans e329
            have J334 := Jat _ x328 J318
            refine yT.aan (pc' := 83) g123 rfl rfl rfl ?_
            refine yT.iln (pc' := 84) g124 rfl rfl ?_
            refine kRV (yT.cc (G2 := 0) (pc' := 87) rfl rfl rfl hT331 (K.up rfl : xnth ks 60 = some (19, 0)) xM_209 (R (p1 := b119 + 1) hT331 J334 (by omega) (by omega) (by omega) h5 (by omega)) rfl (by omega) (by decide) rfl) (fun h335 σ339 hT336 E337 => ?_)
            obtain ⟨J340, f341, t342, t343⟩ := E337
            refine yT.aan (pc' := 88) g123 rfl rfl rfl ?_
            refine yT.kb (pc' := 90) rfl rfl (by decide) (fun x344 e345 => ?_)
            refine kRV (yT.cc (G2 := 0) (pc' := 93) rfl rfl rfl hT336 (K.up rfl : xnth ks 60 = some (19, 0)) xM_204 (r204  K hT336 x344 (by omega)) rfl (by omega) (by decide) rfl) (fun h346 σ350 hT347 E348 => ?_)
            have J351 := JT _ _ J340 E348
            have f352 : fl σ350 16 = (a2 : Int) := (E348.2.1 16 (by decide)).trans f341
            have f353 : fl σ350 25 = (fl σ339 25) + 1 := by have := E348.2.2; omega
            refine yT.p (pc' := 10) rfl rfl (fun _ _ _ _ => rfl) ?_
            exact ih131 _ σ350 (a2) _ hT347 J351 (by omega) g123 g124 g125 h6 (by omega) (by omega) (by omega)
  exact L115 _ _ σ110 (a) _ hT107 J111 (by omega) (xg_ne g0 rfl) (xg_ne g1 rfl) xg_eq h2 (by omega) (by omega) (Nat.lt_succ_self _)
-- rX9_partToldr
set_option maxRecDepth 100000 in
set_option maxHeartbeats 4000000 in
theorem r209r {ks : List cT} {B0 : Nat} (K : KE KS0 ks B0) {σ : sg} {ρ : Nat → xE} {h : List xE} (hT : HT ks σ ρ h) {c : Nat} {x1 : Int32} (e1 : x1.toInt = (c : Int)) {J : sg → Prop} {L : LT} (JL : ∀ σ, J σ → (∀ k, ltr σ c k = L.1 k) ∧ nw σ (282 * c + 31) ≤ 250) (hL : ∀ j, 250 ≤ j → L.1 j = -1) (Jat : ∀ σ v, J σ → J (us σ 60 16 v)) (JT : ∀ σ τ, J σ → TT σ τ → J τ) (hc : c < 24) {n p q : Nat} (R : ∀ {σ1 : sg} {h1 : List xE} {y1 : Int32} {p1 q1 : Nat}, HT ks σ1 ρ h1 → J σ1 → fl σ1 16 = (p1 : Int) → y1.toInt = (c : Int) → 0 ≤ fl σ1 25 ∧ fl σ1 25 + 3 * ((q1 : Int) - (p1 : Int)) ≤ 1900 → PP n L 3 p1 = some q1 → q1 ≤ 250 → yM 209 (2 * (q1 - p1) + 4) 0 [.ref (60 + 1), .int y1] h1 (RQV ks ρ (fun σ2 => J σ2 ∧ fl σ2 16 = (q1 : Int) ∧ fl σ1 25 ≤ fl σ2 25 ∧ fl σ2 25 ≤ fl σ1 25 + 3 * ((q1 : Int) - (p1 : Int))))) (R2 : ∀ {σ1 : sg} {h1 : List xE} {y1 : Int32} {p1 q1 : Nat}, HT ks σ1 ρ h1 → J σ1 → fl σ1 16 = (p1 : Int) → y1.toInt = (c : Int) → 0 ≤ fl σ1 25 ∧ fl σ1 25 + 3 * ((q1 : Int) - (p1 : Int)) ≤ 1900 → PP n L 0 p1 = some q1 → q1 ≤ 250 → yM 206 (2 * (q1 - p1) + 7) 0 [.ref (60 + 1), .int y1] h1 (RQV ks ρ (fun σ2 => J σ2 ∧ fl σ2 16 = (q1 : Int) ∧ fl σ1 25 ≤ fl σ2 25 ∧ fl σ2 25 ≤ fl σ1 25 + 3 * ((q1 : Int) - (p1 : Int))))) (p0 : c < 24) (p1 : J σ) (p2 : fl σ 16 = (p : Int)) (p3 : PP (n + 1) L 3 p = some q) (p4 : q ≤ 250) (p5 : 0 ≤ fl σ 25 ∧ fl σ 25 + 3 * ((q : Int) - (p : Int)) ≤ 1900) : yM 209 (2 * (q - p) + 4) 0 [.ref (60 + 1), .int x1] h (RQV ks ρ (fun σ' => J σ' ∧ fl σ' 16 = (q : Int) ∧ fl σ 25 ≤ fl σ' 25 ∧ fl σ' 25 ≤ fl σ 25 + 3 * ((q : Int) - (p : Int)))) := by
  refine yM.st xM_209 rfl rfl (fun lv g => ?_)
  have g0 := g 0 _ rfl
  have g1 := g 1 _ rfl
  have h0 := PB3 (Or.inl rfl) (show PB (PP n L) 3 L p = some q from p3)
  have hpq := (PP_lt p3 hL).2 (by decide) (by decide)
  refine yT.aan (pc' := 1) g0 rfl rfl rfl ?_
  refine yT.iln (pc' := 2) g1 rfl rfl ?_
  refine yT.aan (pc' := 3) g0 rfl rfl rfl ?_
  refine yT.cgX (pc' := 6) rfl rfl hT (K.up rfl) rfl rfl (fun x101 _ i102 j103 z104 => ?_)
  have e105 : x101.toInt = (p : Int) := (congrArg Int32.toInt z104).trans p2
  refine kSI (yT.cc (G2 := 0) (pc' := 9) rfl rfl rfl hT (K.up rfl : xnth ks 60 = some (19, 0)) xM_170 (r170 (c := c) (k := p) K hT e1 e105 hc (JL _ p1).2) rfl (by omega) (by decide) rfl) (fun h106 x109 hT107 E108 => ?_)
  have e110 : x109.toInt = L.1 (p) := E108.trans ((JL _ p1).1 _)
  refine yT.p (pc' := 10) (lv' := xst1 _ 2 (.int x109)) rfl rfl (fun _ _ _ _ => rfl) ?_
  refine yT.iln (pc' := 11) xg_eq rfl rfl ?_
  refine yT.i2l2 (pc' := 12) (X := (L.1 (p))) e110 rfl rfl (fun y111 e112 => ?_)
  refine yT.ld2 (pc' := 15) (X := 48) rfl rfl rfl (by decide) (fun y113 e114 => ?_)
  refine yT.ld2 (pc' := 18) (X := 57) rfl rfl rfl (by decide) (fun y115 e116 => ?_)
  refine kSI (yT.cst (G2 := 0) (pc' := 21) rfl rfl xM_163 (r163 (v := (L.1 (p))) (lo := 48) (hi := 57) K hT107 e112 e114 e116) rfl (by omega) (by decide) rfl) (fun h117 x120 hT118 E119 => ?_)
  refine yT.if1 (t := 73) (pc' := 24) rfl rfl rfl (c1_eq rfl) (fun c121 => ?_) (fun c121 => ?_)
  · refine yT.aan (pc' := 74) (xg_ne g0 rfl) rfl rfl rfl ?_
    refine yT.p (pc' := 75) rfl rfl (fun _ _ _ _ => rfl) ?_
    refine yT.cgX (pc' := 78) rfl rfl hT118 (K.up rfl) rfl rfl (fun x122 _ i123 j124 z125 => ?_)
    have e126 : x122.toInt = (p : Int) := (congrArg Int32.toInt z125).trans p2
    refine yT.kI (pc' := 79) rfl rfl (by decide) (fun x127 e128 => ?_)
    refine yT.ad2 (pc' := 80) (Z := (p : Int) + 1) e126 e128 rfl rfl (by omega) (fun x129 e130 => ?_)
    refine yT.cpX (c := x129) (pc' := 83) rfl rfl hT118 (K.up rfl) rfl rfl rfl e130 (by omega) rfl (fun h131 hT132 _ _ => ?_)
    have f133 : fl (us σ 60 16 x129) 25 = (fl σ 25) := (fl_o (by decide)).trans rfl
    have f134 : fl (us σ 60 16 x129) 16 = (p : Int) + 1 := fl_at.trans e130
    have J135 := Jat _ x129 p1
    refine yT.iln (pc' := 84) xg_eq rfl rfl ?_
    refine yT.kb (pc' := 86) rfl rfl (by decide) (fun x136 e137 => ?_)
    refine yT.if2 (t := 105) (pc' := 89) rfl rfl rfl (c2_ne e110 e137) (fun c138 => ?_) (fun c138 => ?_)
    · refine yT.iln (pc' := 106) xg_eq rfl rfl ?_
      refine yT.kb (pc' := 108) rfl rfl (by decide) (fun x139 e140 => ?_)
      refine yT.if2 (t := 135) (pc' := 111) rfl rfl rfl (c2_ne e110 e140) (fun c141 => ?_) (fun c141 => ?_)
      · refine yT.aan (pc' := 136) (xg_ne g0 rfl) rfl rfl rfl ?_
        refine yT.iln (pc' := 137) xg_eq rfl rfl ?_
        refine kRV (yT.cc (G2 := 0) (pc' := 140) rfl rfl rfl hT132 (K.up rfl : xnth ks 60 = some (19, 0)) xM_204 (r204  K hT132 x109 (by omega)) rfl (by omega) (by decide) rfl) (fun h142 σ146 hT143 E144 => ?_)
        have J147 := JT _ _ J135 E144
        have f148 : fl σ146 16 = (p : Int) + 1 := (E144.2.1 16 (by decide)).trans f134
        have f149 : fl σ146 25 = (fl σ 25) + 1 := by have := E144.2.2; omega
        refine yT.iln (pc' := 141) xg_eq rfl rfl ?_
        refine yT.kb (pc' := 143) rfl rfl (by decide) (fun x150 e151 => ?_)
        refine yT.if2 (t := 172) (pc' := 146) rfl rfl rfl (c2_ne e110 e151) (fun c152 => ?_) (fun c152 => ?_)
        · refine yT.iln (pc' := 173) xg_eq rfl rfl ?_
          refine yT.kb (pc' := 175) rfl rfl (by decide) (fun x153 e154 => ?_)
          refine yT.if2 (t := 243) (pc' := 178) rfl rfl rfl (c2_ne e110 e154) (fun c155 => ?_) (fun c155 => ?_)
          · refine yT.iln (pc' := 244) xg_eq rfl rfl ?_
            refine yT.kb (pc' := 246) rfl rfl (by decide) (fun x156 e157 => ?_)
            refine yT.if2 (t := 307) (pc' := 249) rfl rfl rfl (c2_ne e110 e157) (fun c158 => ?_) (fun c158 => ?_)
            · exact yT.retV rfl rfl ⟨_, hT143, rfl, ⟨J147, by have := h0.oth (by omega) (by omega) (by omega) (by omega) (by omega) (by omega); omega, by omega, by have := h0.oth (by omega) (by omega) (by omega) (by omega) (by omega) (by omega); omega⟩⟩
            · obtain ⟨a, a2, h4, h5, h6⟩ := h0.gr (by omega) (by omega) (by omega) (by omega) (by omega) (by omega)
              have b4 := (PP_lt h4 hL).1
              have b5 := (PP_lt h5 hL).1
              refine yT.aan (pc' := 250) (xg_ne g0 rfl) rfl rfl rfl ?_
              refine yT.kb (pc' := 252) rfl rfl (by decide) (fun x159 e160 => ?_)
              refine kRV (yT.cc (G2 := 0) (pc' := 255) rfl rfl rfl hT143 (K.up rfl : xnth ks 60 = some (19, 0)) xM_204 (r204  K hT143 x159 (by omega)) rfl (by omega) (by decide) rfl) (fun h161 σ165 hT162 E163 => ?_)
              have J166 := JT _ _ J147 E163
              have f167 : fl σ165 16 = (p : Int) + 1 := (E163.2.1 16 (by decide)).trans f148
              have f168 : fl σ165 25 = (fl σ 25) + 2 := by have := E163.2.2; omega
              refine yT.aan (pc' := 256) (xg_ne g0 rfl) rfl rfl rfl ?_
              refine yT.p (pc' := 257) rfl rfl (fun _ _ _ _ => rfl) ?_
              refine yT.cgX (pc' := 260) rfl rfl hT162 (K.up rfl) rfl rfl (fun x169 _ i170 j171 z172 => ?_)
              have e173 : x169.toInt = (p : Int) + 1 := (congrArg Int32.toInt z172).trans f167
              refine yT.kI (pc' := 261) rfl rfl (by decide) (fun x174 e175 => ?_)
              refine yT.ad2 (pc' := 262) (Z := (p : Int) + 2) e173 e175 rfl rfl (by omega) (fun x176 e177 => ?_)
              refine yT.cpX (c := x176) (pc' := 265) rfl rfl hT162 (K.up rfl) rfl rfl rfl e177 (by omega) rfl (fun h178 hT179 _ _ => ?_)
              have f180 : fl (us σ165 60 16 x176) 25 = (fl σ 25) + 2 := (fl_o (by decide)).trans f168
              have f181 : fl (us σ165 60 16 x176) 16 = (p : Int) + 2 := fl_at.trans e177
              have J182 := Jat _ x176 J166
              refine yT.aan (pc' := 266) (xg_ne g0 rfl) rfl rfl rfl ?_
              refine yT.iln (pc' := 267) (xg_ne g1 rfl) rfl rfl ?_
              refine kRV (yT.cc (G2 := 0) (pc' := 270) rfl rfl rfl hT179 (K.up rfl : xnth ks 60 = some (19, 0)) xM_206 (R2 (p1 := p + 2) hT179 J182 (by omega) (by omega) (by omega) h4 (by omega)) rfl (by omega) (by decide) rfl) (fun h183 σ187 hT184 E185 => ?_)
              obtain ⟨J188, f189, t190, t191⟩ := E185
              refine yT.aan (pc' := 271) (xg_ne g0 rfl) rfl rfl rfl ?_
              refine yT.kb (pc' := 273) rfl rfl (by decide) (fun x192 e193 => ?_)
              refine kRV (yT.cc (G2 := 0) (pc' := 276) rfl rfl rfl hT184 (K.up rfl : xnth ks 60 = some (19, 0)) xM_204 (r204  K hT184 x192 (by omega)) rfl (by omega) (by decide) rfl) (fun h194 σ198 hT195 E196 => ?_)
              have J199 := JT _ _ J188 E196
              have f200 : fl σ198 16 = (a : Int) := (E196.2.1 16 (by decide)).trans f189
              have f201 : fl σ198 25 = (fl σ187 25) + 1 := by have := E196.2.2; omega
              refine yT.aan (pc' := 277) (xg_ne g0 rfl) rfl rfl rfl ?_
              refine yT.p (pc' := 278) rfl rfl (fun _ _ _ _ => rfl) ?_
              refine yT.cgX (pc' := 281) rfl rfl hT195 (K.up rfl) rfl rfl (fun x202 _ i203 j204 z205 => ?_)
              have e206 : x202.toInt = (a : Int) := (congrArg Int32.toInt z205).trans f200
              refine yT.kI (pc' := 282) rfl rfl (by decide) (fun x207 e208 => ?_)
              refine yT.ad2 (pc' := 283) (Z := (a : Int) + 1) e206 e208 rfl rfl (by omega) (fun x209 e210 => ?_)
              refine yT.cpX (c := x209) (pc' := 286) rfl rfl hT195 (K.up rfl) rfl rfl rfl e210 (by omega) rfl (fun h211 hT212 _ _ => ?_)
              have f213 : fl (us σ198 60 16 x209) 25 = (fl σ187 25) + 1 := (fl_o (by decide)).trans f201
              have f214 : fl (us σ198 60 16 x209) 16 = (a : Int) + 1 := fl_at.trans e210
              have J215 := Jat _ x209 J199
              refine yT.aan (pc' := 287) (xg_ne g0 rfl) rfl rfl rfl ?_
              refine yT.iln (pc' := 288) (xg_ne g1 rfl) rfl rfl ?_
              refine kRV (yT.cc (G2 := 0) (pc' := 291) rfl rfl rfl hT212 (K.up rfl : xnth ks 60 = some (19, 0)) xM_206 (R2 (p1 := a + 1) hT212 J215 (by omega) (by omega) (by omega) h5 (by omega)) rfl (by omega) (by decide) rfl) (fun h216 σ220 hT217 E218 => ?_)
              obtain ⟨J221, f222, t223, t224⟩ := E218
              refine yT.aan (pc' := 292) (xg_ne g0 rfl) rfl rfl rfl ?_
              refine yT.kb (pc' := 294) rfl rfl (by decide) (fun x225 e226 => ?_)
              refine kRV (yT.cc (G2 := 0) (pc' := 297) rfl rfl rfl hT217 (K.up rfl : xnth ks 60 = some (19, 0)) xM_204 (r204  K hT217 x225 (by omega)) rfl (by omega) (by decide) rfl) (fun h227 σ231 hT228 E229 => ?_)
              have J232 := JT _ _ J221 E229
              have f233 : fl σ231 16 = (a2 : Int) := (E229.2.1 16 (by decide)).trans f222
              have f234 : fl σ231 25 = (fl σ220 25) + 1 := by have := E229.2.2; omega
              refine yT.aan (pc' := 298) (xg_ne g0 rfl) rfl rfl rfl ?_
              refine yT.p (pc' := 299) rfl rfl (fun _ _ _ _ => rfl) ?_
              refine yT.cgX (pc' := 302) rfl rfl hT228 (K.up rfl) rfl rfl (fun x235 _ i236 j237 z238 => ?_)
              have e239 : x235.toInt = (a2 : Int) := (congrArg Int32.toInt z238).trans f233
              refine yT.kI (pc' := 303) rfl rfl (by decide) (fun x240 e241 => ?_)
              refine yT.ad2 (pc' := 304) (Z := (a2 : Int) + 1) e239 e241 rfl rfl (by omega) (fun x242 e243 => ?_)
              refine yT.cpX (c := x242) (pc' := 307) rfl rfl hT228 (K.up rfl) rfl rfl rfl e243 (by omega) rfl (fun h244 hT245 _ _ => ?_)
              have f246 : fl (us σ231 60 16 x242) 25 = (fl σ220 25) + 1 := (fl_o (by decide)).trans f234
              have f247 : fl (us σ231 60 16 x242) 16 = (a2 : Int) + 1 := fl_at.trans e243
              have J248 := Jat _ x242 J232
              exact yT.retV rfl rfl ⟨_, hT245, rfl, ⟨J248, by omega, by omega, by omega⟩⟩
          · obtain ⟨a, a2, a3, h4, h5, h6, h7⟩ := h0.cho (by omega)
            have b4 := (PP_lt h4 hL).1
            have b5 := (PP_lt h5 hL).1
            have b6 := (PP_lt h6 hL).1
            refine yT.aan (pc' := 179) (xg_ne g0 rfl) rfl rfl rfl ?_
            refine yT.iln (pc' := 180) (xg_ne g1 rfl) rfl rfl ?_
            refine kRV (yT.cc (G2 := 0) (pc' := 183) rfl rfl rfl hT143 (K.up rfl : xnth ks 60 = some (19, 0)) xM_206 (R2 (p1 := p + 1) hT143 J147 (by omega) (by omega) (by omega) h4 (by omega)) rfl (by omega) (by decide) rfl) (fun h249 σ253 hT250 E251 => ?_)
            obtain ⟨J254, f255, t256, t257⟩ := E251
            refine yT.kI (pc' := 184) rfl rfl (by decide) (fun x258 e259 => ?_)
            refine yT.p (pc' := 185) (lv' := xst1 _ 3 (.int x258)) rfl rfl (fun _ _ _ _ => rfl) ?_
            have L260 : ∀ (n276 : Nat) (lv261 : xLv) (σ267 : sg) (b264 : Nat) (h262 : List xE) (k269 : Nat) (x268 : Int32), HT ks σ267 ρ h262 → J σ267 → fl σ267 16 = (b264 : Int) → x268.toInt = (k269 : Int) → xget lv261 0 = some (.ref (60 + 1)) → xget lv261 1 = some (.int x1) → xget lv261 3 = some (.int x268) → ((k269) = 0 ∧ b264 = a) ∨ ((k269) = 1 ∧ b264 = a2) ∨ ((k269) = 2 ∧ b264 = a3) → fl σ 25 ≤ fl σ267 25 ∧ fl σ267 25 ≤ fl σ 25 + 3 * (((b264 : Nat) : Int) - (p : Int)) → 2 - (k269) < n276 → yT 0 [] rX9_partTold (2 * (q - p) + 4) 0 185 lv261 [] h262 (RQV ks ρ (fun σ' => J σ' ∧ fl σ' 16 = (q : Int) ∧ fl σ 25 ≤ fl σ' 25 ∧ fl σ' 25 ≤ fl σ 25 + 3 * ((q : Int) - (p : Int)))) := by
              intro n276
              induction n276 with
              | zero => intro lv261 σ267 b264 h262 k269 x268 hT263 J266 f265 e270 g271 g272 g273 i274 i275 m277; exact absurd m277 (Nat.not_lt_zero _)
              | succ n276 ih278 =>
                intro lv261 σ267 b264 h262 k269 x268 hT263 J266 f265 e270 g271 g272 g273 i274 i275 m277
                refine yT.iln (pc' := 186) g273 rfl rfl ?_
                refine yT.kI (pc' := 187) rfl rfl (by decide) (fun x279 e280 => ?_)
                refine yT.if2 (t := 224) (pc' := 190) rfl rfl rfl (c2_ge e270 e280) (fun c281 => ?_) (fun c281 => ?_)
                · refine yT.aan (pc' := 225) g271 rfl rfl rfl ?_
                  refine yT.kb (pc' := 227) rfl rfl (by decide) (fun x282 e283 => ?_)
                  refine kRV (yT.cc (G2 := 0) (pc' := 230) rfl rfl rfl hT263 (K.up rfl : xnth ks 60 = some (19, 0)) xM_204 (r204  K hT263 x282 (by omega)) rfl (by omega) (by decide) rfl) (fun h284 σ288 hT285 E286 => ?_)
                  have J289 := JT _ _ J266 E286
                  have f290 : fl σ288 16 = (b264 : Int) := (E286.2.1 16 (by decide)).trans f265
                  have f291 : fl σ288 25 = (fl σ267 25) + 1 := by have := E286.2.2; omega
                  refine yT.aan (pc' := 231) g271 rfl rfl rfl ?_
                  refine yT.p (pc' := 232) rfl rfl (fun _ _ _ _ => rfl) ?_
                  refine yT.cgX (pc' := 235) rfl rfl hT285 (K.up rfl) rfl rfl (fun x292 _ i293 j294 z295 => ?_)
                  have e296 : x292.toInt = (b264 : Int) := (congrArg Int32.toInt z295).trans f290
                  refine yT.kI (pc' := 236) rfl rfl (by decide) (fun x297 e298 => ?_)
                  refine yT.ad2 (pc' := 237) (Z := (b264 : Int) + 1) e296 e298 rfl rfl (by omega) (fun x299 e300 => ?_)
                  refine yT.cpX (c := x299) (pc' := 240) rfl rfl hT285 (K.up rfl) rfl rfl rfl e300 (by omega) rfl (fun h301 hT302 _ _ => ?_)
                  have f303 : fl (us σ288 60 16 x299) 25 = (fl σ267 25) + 1 := (fl_o (by decide)).trans f291
                  have f304 : fl (us σ288 60 16 x299) 16 = (b264 : Int) + 1 := fl_at.trans e300
                  have J305 := Jat _ x299 J289
                  refine yT.p (pc' := 307) rfl rfl (fun _ _ _ _ => rfl) ?_
                  exact yT.retV rfl rfl ⟨_, hT302, rfl, ⟨J305, by omega, by omega, by omega⟩⟩
                · obtain ⟨z, hz, hz2⟩ := told2 (f := PP n L) h5 h6 i274 (by omega)
                  refine yT.aan (pc' := 191) g271 rfl rfl rfl ?_
                  refine yT.aan (pc' := 192) g271 rfl rfl rfl ?_
                  refine yT.iln (pc' := 193) g272 rfl rfl ?_
                  refine yT.aan (pc' := 194) g271 rfl rfl rfl ?_
                  refine yT.cgX (pc' := 197) rfl rfl hT263 (K.up rfl) rfl rfl (fun x306 _ i307 j308 z309 => ?_)
                  have e310 : x306.toInt = (b264 : Int) := (congrArg Int32.toInt z309).trans f265
                  refine kSI (yT.cc (G2 := 0) (pc' := 200) rfl rfl rfl hT263 (K.up rfl : xnth ks 60 = some (19, 0)) xM_170 (r170 (c := c) (k := b264) K hT263 e1 e310 hc (JL _ J266).2) rfl (by omega) (by decide) rfl) (fun h311 x314 hT312 E313 => ?_)
                  have e315 : x314.toInt = L.1 (b264) := E313.trans ((JL _ J266).1 _)
                  refine kRV (yT.cc (G2 := 0) (pc' := 203) rfl rfl rfl hT312 (K.up rfl : xnth ks 60 = some (19, 0)) xM_204 (r204  K hT312 x314 (by omega)) rfl (by omega) (by decide) rfl) (fun h316 σ320 hT317 E318 => ?_)
                  have J321 := JT _ _ J266 E318
                  have f322 : fl σ320 16 = (b264 : Int) := (E318.2.1 16 (by decide)).trans f265
                  have f323 : fl σ320 25 = (fl σ267 25) + 1 := by have := E318.2.2; omega
                  refine yT.aan (pc' := 204) g271 rfl rfl rfl ?_
                  refine yT.p (pc' := 205) rfl rfl (fun _ _ _ _ => rfl) ?_
                  refine yT.cgX (pc' := 208) rfl rfl hT317 (K.up rfl) rfl rfl (fun x324 _ i325 j326 z327 => ?_)
                  have e328 : x324.toInt = (b264 : Int) := (congrArg Int32.toInt z327).trans f322
                  refine yT.kI (pc' := 209) rfl rfl (by decide) (fun x329 e330 => ?_)
                  refine yT.ad2 (pc' := 210) (Z := (b264 : Int) + 1) e328 e330 rfl rfl (by omega) (fun x331 e332 => ?_)
                  refine yT.cpX (c := x331) (pc' := 213) rfl rfl hT317 (K.up rfl) rfl rfl rfl e332 (by omega) rfl (fun h333 hT334 _ _ => ?_)
                  have f335 : fl (us σ320 60 16 x331) 25 = (fl σ267 25) + 1 := (fl_o (by decide)).trans f323
                  have f336 : fl (us σ320 60 16 x331) 16 = (b264 : Int) + 1 := fl_at.trans e332
                  have J337 := Jat _ x331 J321
                  refine yT.aan (pc' := 214) g271 rfl rfl rfl ?_
                  refine yT.iln (pc' := 215) g272 rfl rfl ?_
                  refine kRV (yT.cc (G2 := 0) (pc' := 218) rfl rfl rfl hT334 (K.up rfl : xnth ks 60 = some (19, 0)) xM_206 (R2 (p1 := b264 + 1) hT334 J337 (by omega) (by omega) (by omega) hz (by omega)) rfl (by omega) (by decide) rfl) (fun h338 σ342 hT339 E340 => ?_)
                  obtain ⟨J343, f344, t345, t346⟩ := E340
                  refine yT.inc2 (pc' := 221) (Z := (k269 : Int) + 1) g273 e270 rfl rfl rfl ⟨by decide, by omega⟩ (fun x347 e348 => ?_)
                  refine yT.p (pc' := 185) rfl rfl (fun _ _ _ _ => rfl) ?_
                  exact ih278 _ σ342 (z) _ (k269 + 1) x347 hT339 J343 (by omega) (by omega) (xg_ne g271 rfl) (xg_ne g272 rfl) xg_eq (by omega) (by omega) (by omega)
            exact L260 _ _ σ253 (a) _ (0) x258 hT250 J254 (by omega) (by omega) (xg_ne (xg_ne g0 rfl) rfl) (xg_ne (xg_ne g1 rfl) rfl) xg_eq (by omega) (by omega) (Nat.lt_succ_self _)
        · have h4 := h0.unt (by omega)
          refine yT.aan (pc' := 147) (xg_ne g0 rfl) rfl rfl rfl ?_
          refine yT.aan (pc' := 148) (xg_ne g0 rfl) rfl rfl rfl ?_
          refine yT.iln (pc' := 149) (xg_ne g1 rfl) rfl rfl ?_
          refine yT.aan (pc' := 150) (xg_ne g0 rfl) rfl rfl rfl ?_
          refine yT.cgX (pc' := 153) rfl rfl hT143 (K.up rfl) rfl rfl (fun x349 _ i350 j351 z352 => ?_)
          have e353 : x349.toInt = (p : Int) + 1 := (congrArg Int32.toInt z352).trans f148
          refine kSI (yT.cc (G2 := 0) (pc' := 156) rfl rfl rfl hT143 (K.up rfl : xnth ks 60 = some (19, 0)) xM_170 (r170 (c := c) (k := p + 1) K hT143 e1 (by omega) hc (JL _ J147).2) rfl (by omega) (by decide) rfl) (fun h354 x357 hT355 E356 => ?_)
          have e358 : x357.toInt = L.1 (p + 1) := E356.trans ((JL _ J147).1 _)
          refine kRV (yT.cc (G2 := 0) (pc' := 159) rfl rfl rfl hT355 (K.up rfl : xnth ks 60 = some (19, 0)) xM_204 (r204  K hT355 x357 (by omega)) rfl (by omega) (by decide) rfl) (fun h359 σ363 hT360 E361 => ?_)
          have J364 := JT _ _ J147 E361
          have f365 : fl σ363 16 = (p : Int) + 1 := (E361.2.1 16 (by decide)).trans f148
          have f366 : fl σ363 25 = (fl σ 25) + 2 := by have := E361.2.2; omega
          refine yT.aan (pc' := 160) (xg_ne g0 rfl) rfl rfl rfl ?_
          refine yT.p (pc' := 161) rfl rfl (fun _ _ _ _ => rfl) ?_
          refine yT.cgX (pc' := 164) rfl rfl hT360 (K.up rfl) rfl rfl (fun x367 _ i368 j369 z370 => ?_)
          have e371 : x367.toInt = (p : Int) + 1 := (congrArg Int32.toInt z370).trans f365
          refine yT.kI (pc' := 165) rfl rfl (by decide) (fun x372 e373 => ?_)
          refine yT.ad2 (pc' := 166) (Z := (p : Int) + 2) e371 e373 rfl rfl (by omega) (fun x374 e375 => ?_)
          refine yT.cpX (c := x374) (pc' := 169) rfl rfl hT360 (K.up rfl) rfl rfl rfl e375 (by omega) rfl (fun h376 hT377 _ _ => ?_)
          have f378 : fl (us σ363 60 16 x374) 25 = (fl σ 25) + 2 := (fl_o (by decide)).trans f366
          have f379 : fl (us σ363 60 16 x374) 16 = (p : Int) + 2 := fl_at.trans e375
          have J380 := Jat _ x374 J364
          refine yT.p (pc' := 307) rfl rfl (fun _ _ _ _ => rfl) ?_
          exact yT.retV rfl rfl ⟨_, hT377, rfl, ⟨J380, by omega, by omega, by omega⟩⟩
      · have h4 := h0.neg (by omega)
        have b4 := (PP_lt h4 hL).2 (by decide) (by decide)
        refine yT.aan (pc' := 112) (xg_ne g0 rfl) rfl rfl rfl ?_
        refine yT.kb (pc' := 114) rfl rfl (by decide) (fun x381 e382 => ?_)
        refine kRV (yT.cc (G2 := 0) (pc' := 117) rfl rfl rfl hT132 (K.up rfl : xnth ks 60 = some (19, 0)) xM_204 (r204  K hT132 x381 (by omega)) rfl (by omega) (by decide) rfl) (fun h383 σ387 hT384 E385 => ?_)
        have J388 := JT _ _ J135 E385
        have f389 : fl σ387 16 = (p : Int) + 1 := (E385.2.1 16 (by decide)).trans f134
        have f390 : fl σ387 25 = (fl σ 25) + 1 := by have := E385.2.2; omega
        refine yT.aan (pc' := 118) (xg_ne g0 rfl) rfl rfl rfl ?_
        refine yT.kb (pc' := 120) rfl rfl (by decide) (fun x391 e392 => ?_)
        refine kRV (yT.cc (G2 := 0) (pc' := 123) rfl rfl rfl hT384 (K.up rfl : xnth ks 60 = some (19, 0)) xM_204 (r204  K hT384 x391 (by omega)) rfl (by omega) (by decide) rfl) (fun h393 σ397 hT394 E395 => ?_)
        have J398 := JT _ _ J388 E395
        have f399 : fl σ397 16 = (p : Int) + 1 := (E395.2.1 16 (by decide)).trans f389
        have f400 : fl σ397 25 = (fl σ 25) + 2 := by have := E395.2.2; omega
        refine yT.aan (pc' := 124) (xg_ne g0 rfl) rfl rfl rfl ?_
        refine yT.iln (pc' := 125) (xg_ne g1 rfl) rfl rfl ?_
        refine kRV (yT.cc (G2 := 0) (pc' := 128) rfl rfl rfl hT394 (K.up rfl : xnth ks 60 = some (19, 0)) xM_209 (R (p1 := p + 1) hT394 J398 (by omega) (by omega) (by omega) h4 (by omega)) rfl (by omega) (by decide) rfl) (fun h401 σ405 hT402 E403 => ?_)
        obtain ⟨J406, f407, t408, t409⟩ := E403
        refine yT.aan (pc' := 129) (xg_ne g0 rfl) rfl rfl rfl ?_
        refine yT.kb (pc' := 131) rfl rfl (by decide) (fun x410 e411 => ?_)
        refine kRV (yT.cc (G2 := 0) (pc' := 134) rfl rfl rfl hT402 (K.up rfl : xnth ks 60 = some (19, 0)) xM_204 (r204  K hT402 x410 (by omega)) rfl (by omega) (by decide) rfl) (fun h412 σ416 hT413 E414 => ?_)
        have J417 := JT _ _ J406 E414
        have f418 : fl σ416 16 = (q : Int) := (E414.2.1 16 (by decide)).trans f407
        have f419 : fl σ416 25 = (fl σ405 25) + 1 := by have := E414.2.2; omega
        exact yT.retV rfl rfl ⟨_, hT413, rfl, ⟨J417, by omega, by omega, by omega⟩⟩
    · obtain ⟨a, h4, h5⟩ := h0.par (by omega)
      have b4 := (PP_lt h4 hL).1
      refine yT.aan (pc' := 90) (xg_ne g0 rfl) rfl rfl rfl ?_
      refine yT.iln (pc' := 91) (xg_ne g1 rfl) rfl rfl ?_
      refine kRV (yT.cc (G2 := 0) (pc' := 94) rfl rfl rfl hT132 (K.up rfl : xnth ks 60 = some (19, 0)) xM_206 (R2 (p1 := p + 1) hT132 J135 (by omega) (by omega) (by omega) h4 (by omega)) rfl (by omega) (by decide) rfl) (fun h420 σ424 hT421 E422 => ?_)
      obtain ⟨J425, f426, t427, t428⟩ := E422
      refine yT.aan (pc' := 95) (xg_ne g0 rfl) rfl rfl rfl ?_
      refine yT.p (pc' := 96) rfl rfl (fun _ _ _ _ => rfl) ?_
      refine yT.cgX (pc' := 99) rfl rfl hT421 (K.up rfl) rfl rfl (fun x429 _ i430 j431 z432 => ?_)
      have e433 : x429.toInt = (a : Int) := (congrArg Int32.toInt z432).trans f426
      refine yT.kI (pc' := 100) rfl rfl (by decide) (fun x434 e435 => ?_)
      refine yT.ad2 (pc' := 101) (Z := (a : Int) + 1) e433 e435 rfl rfl (by omega) (fun x436 e437 => ?_)
      refine yT.cpX (c := x436) (pc' := 104) rfl rfl hT421 (K.up rfl) rfl rfl rfl e437 (by omega) rfl (fun h438 hT439 _ _ => ?_)
      have f440 : fl (us σ424 60 16 x436) 25 = (fl σ424 25) := (fl_o (by decide)).trans rfl
      have f441 : fl (us σ424 60 16 x436) 16 = (a : Int) + 1 := fl_at.trans e437
      have J442 := Jat _ x436 J425
      exact yT.retV rfl rfl ⟨_, hT439, rfl, ⟨J442, by omega, by omega, by omega⟩⟩
  · have hd := h0.dig ⟨by omega, by omega⟩
    obtain ⟨hd1, hd2, hd3⟩ := hd
    have L443 : ∀ (n455 : Nat) (lv444 : xLv) (σ450 : sg) (b447 : Nat) (h445 : List xE), HT ks σ450 ρ h445 → J σ450 → fl σ450 16 = (b447 : Int) → xget lv444 0 = some (.ref (60 + 1)) → xget lv444 1 = some (.int x1) → p ≤ b447 ∧ b447 ≤ q → fl σ 25 ≤ fl σ450 25 ∧ fl σ450 25 ≤ fl σ 25 + 3 * (((b447 : Nat) : Int) - (p : Int)) → q - b447 < n455 → yT 0 [] rX9_partTold (2 * (q - p) + 4) 0 24 lv444 [] h445 (RQV ks ρ (fun σ' => J σ' ∧ fl σ' 16 = (q : Int) ∧ fl σ 25 ≤ fl σ' 25 ∧ fl σ' 25 ≤ fl σ 25 + 3 * ((q : Int) - (p : Int)))) := by
      intro n455
      induction n455 with
      | zero => intro lv444 σ450 b447 h445 hT446 J449 f448 g451 g452 i453 i454 m456; exact absurd m456 (Nat.not_lt_zero _)
      | succ n455 ih457 =>
        intro lv444 σ450 b447 h445 hT446 J449 f448 g451 g452 i453 i454 m456
        refine yT.aan (pc' := 25) g451 rfl rfl rfl ?_
        refine yT.iln (pc' := 26) g452 rfl rfl ?_
        refine yT.aan (pc' := 27) g451 rfl rfl rfl ?_
        refine yT.cgX (pc' := 30) rfl rfl hT446 (K.up rfl) rfl rfl (fun x458 _ i459 j460 z461 => ?_)
        have e462 : x458.toInt = (b447 : Int) := (congrArg Int32.toInt z461).trans f448
        refine kSI (yT.cc (G2 := 0) (pc' := 33) rfl rfl rfl hT446 (K.up rfl : xnth ks 60 = some (19, 0)) xM_170 (r170 (c := c) (k := b447) K hT446 e1 e462 hc (JL _ J449).2) rfl (by omega) (by decide) rfl) (fun h463 x466 hT464 E465 => ?_)
        have e467 : x466.toInt = L.1 (b447) := E465.trans ((JL _ J449).1 _)
        refine yT.i2l2 (pc' := 34) (X := (L.1 (b447))) e467 rfl rfl (fun y468 e469 => ?_)
        refine yT.ld2 (pc' := 37) (X := 48) rfl rfl rfl (by decide) (fun y470 e471 => ?_)
        refine yT.ld2 (pc' := 40) (X := 57) rfl rfl rfl (by decide) (fun y472 e473 => ?_)
        refine kSI (yT.cst (G2 := 0) (pc' := 43) rfl rfl xM_163 (r163 (v := (L.1 (b447))) (lo := 48) (hi := 57) K hT464 e469 e471 e473) rfl (by omega) (by decide) rfl) (fun h474 x477 hT475 E476 => ?_)
        refine yT.if1 (t := 72) (pc' := 46) rfl rfl rfl (c1_eq rfl) (fun c478 => ?_) (fun c478 => ?_)
        · have hb : b447 = q := Nat.le_antisymm (by omega) (Nat.le_of_not_lt (fun hh => absurd (hd1 b447 (by omega) hh) (by omega)))
          exact yT.retV rfl rfl ⟨_, hT475, rfl, ⟨J449, by omega, by omega, by omega⟩⟩
        · have hb : b447 ≠ q := fun e => hd2 (by rw [← e]; exact ⟨by omega, by omega⟩)
          refine yT.aan (pc' := 47) g451 rfl rfl rfl ?_
          refine yT.aan (pc' := 48) g451 rfl rfl rfl ?_
          refine yT.iln (pc' := 49) g452 rfl rfl ?_
          refine yT.aan (pc' := 50) g451 rfl rfl rfl ?_
          refine yT.cgX (pc' := 53) rfl rfl hT475 (K.up rfl) rfl rfl (fun x479 _ i480 j481 z482 => ?_)
          have e483 : x479.toInt = (b447 : Int) := (congrArg Int32.toInt z482).trans f448
          refine kSI (yT.cc (G2 := 0) (pc' := 56) rfl rfl rfl hT475 (K.up rfl : xnth ks 60 = some (19, 0)) xM_170 (r170 (c := c) (k := b447) K hT475 e1 e483 hc (JL _ J449).2) rfl (by omega) (by decide) rfl) (fun h484 x487 hT485 E486 => ?_)
          have e488 : x487.toInt = L.1 (b447) := E486.trans ((JL _ J449).1 _)
          refine kRV (yT.cc (G2 := 0) (pc' := 59) rfl rfl rfl hT485 (K.up rfl : xnth ks 60 = some (19, 0)) xM_204 (r204  K hT485 x487 (by omega)) rfl (by omega) (by decide) rfl) (fun h489 σ493 hT490 E491 => ?_)
          have J494 := JT _ _ J449 E491
          have f495 : fl σ493 16 = (b447 : Int) := (E491.2.1 16 (by decide)).trans f448
          have f496 : fl σ493 25 = (fl σ450 25) + 1 := by have := E491.2.2; omega
          refine yT.aan (pc' := 60) g451 rfl rfl rfl ?_
          refine yT.p (pc' := 61) rfl rfl (fun _ _ _ _ => rfl) ?_
          refine yT.cgX (pc' := 64) rfl rfl hT490 (K.up rfl) rfl rfl (fun x497 _ i498 j499 z500 => ?_)
          have e501 : x497.toInt = (b447 : Int) := (congrArg Int32.toInt z500).trans f495
          refine yT.kI (pc' := 65) rfl rfl (by decide) (fun x502 e503 => ?_)
          refine yT.ad2 (pc' := 66) (Z := (b447 : Int) + 1) e501 e503 rfl rfl (by omega) (fun x504 e505 => ?_)
          refine yT.cpX (c := x504) (pc' := 69) rfl rfl hT490 (K.up rfl) rfl rfl rfl e505 (by omega) rfl (fun h506 hT507 _ _ => ?_)
          have f508 : fl (us σ493 60 16 x504) 25 = (fl σ450 25) + 1 := (fl_o (by decide)).trans f496
          have f509 : fl (us σ493 60 16 x504) 16 = (b447 : Int) + 1 := fl_at.trans e505
          have J510 := Jat _ x504 J494
          refine yT.p (pc' := 24) rfl rfl (fun _ _ _ _ => rfl) ?_
          have hd := h0.dig ⟨by omega, by omega⟩
          obtain ⟨hd1, hd2, hd3⟩ := hd
          exact ih457 _ (us σ493 60 16 x504) (b447 + 1) _ hT507 J510 (by omega) g451 g452 (by omega) (by omega) (by omega)
    exact L443 _ _ σ (p) _ hT118 p1 (by omega) (xg_ne g0 rfl) (xg_ne g1 rfl) (by omega) (by omega) (Nat.lt_succ_self _)
