-- rX9_compr
set_option maxRecDepth 100000 in
set_option maxHeartbeats 4000000 in
theorem r173r {ks : List cT} {B0 : Nat} (K : KE KS0 ks B0) {σ : sg} {ρ : Nat → xE} {h : List xE} (hT : HT ks σ ρ h) {c : Nat} {x1 : Int32} (e1 : x1.toInt = (c : Int)) {x2 : Int32} (e2 : x2.toInt = 0 ∨ x2.toInt = 1) {J : sg → Prop} {L : LT} {Fa : Nat} (JL : ∀ σ, J σ → (∀ k, ltr σ c k = L.1 k) ∧ nw σ (282 * c + 31) ≤ 250) (hL : ∀ j, 250 ≤ j → L.1 j = -1) (Jat : ∀ σ v, J σ → J (us σ 60 16 v)) (hc : c < 24) {n p q : Nat} (R : ∀ {σ1 : sg} {h1 : List xE} {y1 y2 : Int32} {p1 q1 : Nat}, HT ks σ1 ρ h1 → J σ1 → fl σ1 16 = (p1 : Int) → y1.toInt = (c : Int) → y2.toInt = 0 ∨ y2.toInt = 1 → PP n L 1 p1 = some q1 → q1 ≤ 250 → yM 174 (Fa + (2 * (q1 - p1) + 6)) 0 [.ref (60 + 1), .int y1, .int y2] h1 (RQL ks ρ (fun σ2 _ => J σ2 ∧ fl σ2 16 = (q1 : Int)))) (p0 : c < 24) (p1 : J σ) (p2 : fl σ 16 = (p : Int)) (p3 : PP (n + 1) L 0 p = some q) (p4 : q ≤ 250) : yM 173 (Fa + (2 * (q - p) + 7)) 0 [.ref (60 + 1), .int x1, .int x2] h (RQL ks ρ (fun σ' r => J σ' ∧ fl σ' 16 = (q : Int))) := by
  refine yM.st xM_173 rfl rfl (fun lv g => ?_)
  have g0 := g 0 _ rfl
  have g1 := g 1 _ rfl
  have g2 := g 2 _ rfl
  obtain ⟨a, h1, h2, h3⟩ := PP0 p3
  have b1 := PP_lt h1 hL
  have ha : a ≤ q := by
    by_cases hs : L.1 a = 60 ∨ L.1 a = 61 ∨ L.1 a = 62
    · have := PP_lt (h2 hs) hL; omega
    · have := h3 hs; omega
  have b1 := b1.2 (by decide) (by decide)
  refine yT.aan (pc' := 1) g0 rfl rfl rfl ?_
  refine yT.iln (pc' := 2) g1 rfl rfl ?_
  refine yT.iln (pc' := 3) g2 rfl rfl ?_
  refine kRL (yT.cc (G2 := 0) (pc' := 6) rfl rfl rfl hT (K.up rfl : xnth ks 60 = some (19, 0)) xM_174 (R (p1 := p) hT p1 (by omega) (by omega) (by omega) h1 (by omega)) rfl (by omega) (by decide) rfl) (fun h101 σ105 x104 hT102 E103 => ?_)
  obtain ⟨J106, f107⟩ := E103
  refine yT.p (pc' := 7) (lv' := xst2 _ 3 (.long x104)) rfl rfl (fun _ _ _ _ => rfl) ?_
  refine yT.aan (pc' := 8) (xg2_ne g0 rfl) rfl rfl rfl ?_
  refine yT.iln (pc' := 9) (xg2_ne g1 rfl) rfl rfl ?_
  refine yT.aan (pc' := 10) (xg2_ne g0 rfl) rfl rfl rfl ?_
  refine yT.cgX (pc' := 13) rfl rfl hT102 (K.up rfl) rfl rfl (fun x108 _ i109 j110 z111 => ?_)
  have e112 : x108.toInt = (a : Int) := (congrArg Int32.toInt z111).trans f107
  refine kSI (yT.cc (G2 := 0) (pc' := 16) rfl rfl rfl hT102 (K.up rfl : xnth ks 60 = some (19, 0)) xM_170 (r170 (c := c) (k := a) K hT102 e1 e112 hc (JL _ J106).2) rfl (by omega) (by decide) rfl) (fun h113 x116 hT114 E115 => ?_)
  have e117 : x116.toInt = L.1 (a) := E115.trans ((JL _ J106).1 _)
  refine yT.p (pc' := 18) (lv' := xst1 _ 5 (.int x116)) rfl rfl (fun _ _ _ _ => rfl) ?_
  refine yT.il (pc' := 20) xg_eq rfl rfl ?_
  refine yT.kb (pc' := 22) rfl rfl (by decide) (fun x118 e119 => ?_)
  refine yT.if2 (t := 41) (pc' := 25) rfl rfl rfl (c2_eq e117 e119) (fun c120 => ?_) (fun c120 => ?_)
  · have h4 := h2 (by omega)
    have b4 := PP_lt h4 hL
    have b5 := b4.1
    refine yT.aan (pc' := 42) (xg_ne (xg2_ne g0 rfl) rfl) rfl rfl rfl ?_
    refine yT.p (pc' := 43) rfl rfl (fun _ _ _ _ => rfl) ?_
    refine yT.cgX (pc' := 46) rfl rfl hT114 (K.up rfl) rfl rfl (fun x121 _ i122 j123 z124 => ?_)
    have e125 : x121.toInt = (a : Int) := (congrArg Int32.toInt z124).trans f107
    refine yT.kI (pc' := 47) rfl rfl (by decide) (fun x126 e127 => ?_)
    refine yT.ad2 (pc' := 48) (Z := (a : Int) + 1) e125 e127 rfl rfl (by omega) (fun x128 e129 => ?_)
    refine yT.cpX (c := x128) (pc' := 51) rfl rfl hT114 (K.up rfl) rfl rfl rfl e129 (by omega) rfl (fun h130 hT131 _ _ => ?_)
    have f132 : fl (us σ105 60 16 x128) 16 = (a : Int) + 1 := fl_at.trans e129
    have J133 := Jat _ x128 J106
    refine yT.iln (pc' := 52) (xg_ne (xg2_ne g2 rfl) rfl) rfl rfl ?_
    refine yT.if1 (t := 66) (pc' := 55) rfl rfl rfl (c1_eq rfl) (fun c134 => ?_) (fun c134 => ?_)
    · refine yT.kI (pc' := 67) rfl rfl (by decide) (fun x135 e136 => ?_)
      refine yT.p (pc' := 69) (lv' := xst1 _ 6 (.int x135)) rfl rfl (fun _ _ _ _ => rfl) ?_
      refine yT.aan (pc' := 70) (xg_ne (xg_ne (xg2_ne g0 rfl) rfl) rfl) rfl rfl rfl ?_
      refine yT.iln (pc' := 71) (xg_ne (xg_ne (xg2_ne g1 rfl) rfl) rfl) rfl rfl ?_
      refine yT.il (pc' := 73) xg_eq rfl rfl ?_
      refine kRL (yT.cc (G2 := 0) (pc' := 76) rfl rfl rfl hT131 (K.up rfl : xnth ks 60 = some (19, 0)) xM_174 (R (p1 := a + 1) hT131 J133 (by omega) (by omega) (by omega) h4 (by omega)) rfl (by omega) (by decide) rfl) (fun h137 σ141 x140 hT138 E139 => ?_)
      obtain ⟨J142, f143⟩ := E139
      refine yT.p (pc' := 78) (lv' := xst2 _ 7 (.long x140)) rfl rfl (fun _ _ _ _ => rfl) ?_
      refine yT.il (pc' := 80) (xg2_ne xg_eq rfl) rfl rfl ?_
      refine yT.if1 (t := 91) (pc' := 83) rfl rfl rfl (c1_eq e136) (fun c144 => ?_) (fun c144 => by omega)
      refine yT.il (pc' := 93) (xg2_ne xg_eq rfl) rfl rfl ?_
      refine yT.if1 (t := 101) (pc' := 96) rfl rfl rfl (c1_eq e136) (fun c145 => ?_) (fun c145 => by omega)
      refine yT.lln (pc' := 102) (xg2_ne (xg_ne (xg_ne xg2_eq rfl) rfl) rfl) rfl rfl ?_
      refine yT.p (pc' := 115) rfl rfl (fun _ _ _ _ => rfl) ?_
      exact yT.retL rfl rfl ⟨_, hT138, _, rfl, ⟨J142, by omega⟩⟩
    · refine yT.lln (pc' := 56) (xg_ne xg2_eq rfl) rfl rfl ?_
      refine kSI (yT.cst (G2 := 0) (pc' := 59) rfl rfl xM_171 (r171  K hT131 x104) rfl (by omega) (by decide) rfl) (fun h146 x149 hT147 E148 => ?_)
      refine yT.if1 (t := 66) (pc' := 62) rfl rfl rfl (c1_ne rfl) (fun c150 => ?_) (fun c150 => ?_)
      · refine yT.kI (pc' := 67) rfl rfl (by decide) (fun x151 e152 => ?_)
        refine yT.p (pc' := 69) (lv' := xst1 _ 6 (.int x151)) rfl rfl (fun _ _ _ _ => rfl) ?_
        refine yT.aan (pc' := 70) (xg_ne (xg_ne (xg2_ne g0 rfl) rfl) rfl) rfl rfl rfl ?_
        refine yT.iln (pc' := 71) (xg_ne (xg_ne (xg2_ne g1 rfl) rfl) rfl) rfl rfl ?_
        refine yT.il (pc' := 73) xg_eq rfl rfl ?_
        refine kRL (yT.cc (G2 := 0) (pc' := 76) rfl rfl rfl hT147 (K.up rfl : xnth ks 60 = some (19, 0)) xM_174 (R (p1 := a + 1) hT147 J133 (by omega) (by omega) (by omega) h4 (by omega)) rfl (by omega) (by decide) rfl) (fun h153 σ157 x156 hT154 E155 => ?_)
        obtain ⟨J158, f159⟩ := E155
        refine yT.p (pc' := 78) (lv' := xst2 _ 7 (.long x156)) rfl rfl (fun _ _ _ _ => rfl) ?_
        refine yT.il (pc' := 80) (xg2_ne xg_eq rfl) rfl rfl ?_
        refine yT.if1 (t := 91) (pc' := 83) rfl rfl rfl (c1_eq e152) (fun c160 => ?_) (fun c160 => by omega)
        refine yT.il (pc' := 93) (xg2_ne xg_eq rfl) rfl rfl ?_
        refine yT.if1 (t := 101) (pc' := 96) rfl rfl rfl (c1_eq e152) (fun c161 => ?_) (fun c161 => by omega)
        refine yT.lln (pc' := 102) (xg2_ne (xg_ne (xg_ne xg2_eq rfl) rfl) rfl) rfl rfl ?_
        refine yT.p (pc' := 115) rfl rfl (fun _ _ _ _ => rfl) ?_
        exact yT.retL rfl rfl ⟨_, hT154, _, rfl, ⟨J158, by omega⟩⟩
      · refine yT.kI (pc' := 63) rfl rfl (by decide) (fun x162 e163 => ?_)
        refine yT.p (pc' := 67) rfl rfl (fun _ _ _ _ => rfl) ?_
        refine yT.p (pc' := 69) (lv' := xst1 _ 6 (.int x162)) rfl rfl (fun _ _ _ _ => rfl) ?_
        refine yT.aan (pc' := 70) (xg_ne (xg_ne (xg2_ne g0 rfl) rfl) rfl) rfl rfl rfl ?_
        refine yT.iln (pc' := 71) (xg_ne (xg_ne (xg2_ne g1 rfl) rfl) rfl) rfl rfl ?_
        refine yT.il (pc' := 73) xg_eq rfl rfl ?_
        refine kRL (yT.cc (G2 := 0) (pc' := 76) rfl rfl rfl hT147 (K.up rfl : xnth ks 60 = some (19, 0)) xM_174 (R (p1 := a + 1) hT147 J133 (by omega) (by omega) (by omega) h4 (by omega)) rfl (by omega) (by decide) rfl) (fun h164 σ168 x167 hT165 E166 => ?_)
        obtain ⟨J169, f170⟩ := E166
        refine yT.p (pc' := 78) (lv' := xst2 _ 7 (.long x167)) rfl rfl (fun _ _ _ _ => rfl) ?_
        refine yT.il (pc' := 80) (xg2_ne xg_eq rfl) rfl rfl ?_
        refine yT.if1 (t := 91) (pc' := 83) rfl rfl rfl (c1_eq e163) (fun c171 => by omega) (fun c171 => ?_)
        refine yT.ll (pc' := 85) xg2_eq rfl rfl ?_
        refine kSI (yT.cst (G2 := 0) (pc' := 88) rfl rfl xM_171 (r171  K hT165 x167) rfl (by omega) (by decide) rfl) (fun h172 x175 hT173 E174 => ?_)
        refine yT.if1 (t := 105) (pc' := 91) rfl rfl rfl (c1_eq rfl) (fun c176 => ?_) (fun c176 => ?_)
        · refine yT.il (pc' := 107) (xg2_ne (xg_ne xg_eq rfl) rfl) rfl rfl ?_
          refine yT.lln (pc' := 108) (xg2_ne (xg_ne (xg_ne xg2_eq rfl) rfl) rfl) rfl rfl ?_
          refine yT.fi (pc' := 109) rfl rfl (fun _ _ _ _ => rfl) (fun x177 => ?_)
          refine yT.ll (pc' := 111) xg2_eq rfl rfl ?_
          refine yT.fi (pc' := 112) rfl rfl (fun _ _ _ _ => rfl) (fun x178 => ?_)
          refine kSL (yT.cst (G2 := 0) (pc' := 115) rfl rfl xM_172 (r172  K hT173 x116 x177 x178) rfl (by omega) (by decide) rfl) (fun h179 x182 hT180 E181 => ?_)
          exact yT.retL rfl rfl ⟨_, hT180, _, rfl, ⟨J169, by omega⟩⟩
        · refine yT.il (pc' := 93) (xg2_ne xg_eq rfl) rfl rfl ?_
          refine yT.if1 (t := 101) (pc' := 96) rfl rfl rfl (c1_eq e163) (fun c183 => by omega) (fun c183 => ?_)
          refine yT.ll (pc' := 98) xg2_eq rfl rfl ?_
          refine yT.p (pc' := 115) rfl rfl (fun _ _ _ _ => rfl) ?_
          exact yT.retL rfl rfl ⟨_, hT173, _, rfl, ⟨J169, by omega⟩⟩
  · refine yT.il (pc' := 27) xg_eq rfl rfl ?_
    refine yT.kb (pc' := 29) rfl rfl (by decide) (fun x184 e185 => ?_)
    refine yT.if2 (t := 41) (pc' := 32) rfl rfl rfl (c2_eq e117 e185) (fun c186 => ?_) (fun c186 => ?_)
    · have h4 := h2 (by omega)
      have b4 := PP_lt h4 hL
      have b5 := b4.1
      refine yT.aan (pc' := 42) (xg_ne (xg2_ne g0 rfl) rfl) rfl rfl rfl ?_
      refine yT.p (pc' := 43) rfl rfl (fun _ _ _ _ => rfl) ?_
      refine yT.cgX (pc' := 46) rfl rfl hT114 (K.up rfl) rfl rfl (fun x187 _ i188 j189 z190 => ?_)
      have e191 : x187.toInt = (a : Int) := (congrArg Int32.toInt z190).trans f107
      refine yT.kI (pc' := 47) rfl rfl (by decide) (fun x192 e193 => ?_)
      refine yT.ad2 (pc' := 48) (Z := (a : Int) + 1) e191 e193 rfl rfl (by omega) (fun x194 e195 => ?_)
      refine yT.cpX (c := x194) (pc' := 51) rfl rfl hT114 (K.up rfl) rfl rfl rfl e195 (by omega) rfl (fun h196 hT197 _ _ => ?_)
      have f198 : fl (us σ105 60 16 x194) 16 = (a : Int) + 1 := fl_at.trans e195
      have J199 := Jat _ x194 J106
      refine yT.iln (pc' := 52) (xg_ne (xg2_ne g2 rfl) rfl) rfl rfl ?_
      refine yT.if1 (t := 66) (pc' := 55) rfl rfl rfl (c1_eq rfl) (fun c200 => ?_) (fun c200 => ?_)
      · refine yT.kI (pc' := 67) rfl rfl (by decide) (fun x201 e202 => ?_)
        refine yT.p (pc' := 69) (lv' := xst1 _ 6 (.int x201)) rfl rfl (fun _ _ _ _ => rfl) ?_
        refine yT.aan (pc' := 70) (xg_ne (xg_ne (xg2_ne g0 rfl) rfl) rfl) rfl rfl rfl ?_
        refine yT.iln (pc' := 71) (xg_ne (xg_ne (xg2_ne g1 rfl) rfl) rfl) rfl rfl ?_
        refine yT.il (pc' := 73) xg_eq rfl rfl ?_
        refine kRL (yT.cc (G2 := 0) (pc' := 76) rfl rfl rfl hT197 (K.up rfl : xnth ks 60 = some (19, 0)) xM_174 (R (p1 := a + 1) hT197 J199 (by omega) (by omega) (by omega) h4 (by omega)) rfl (by omega) (by decide) rfl) (fun h203 σ207 x206 hT204 E205 => ?_)
        obtain ⟨J208, f209⟩ := E205
        refine yT.p (pc' := 78) (lv' := xst2 _ 7 (.long x206)) rfl rfl (fun _ _ _ _ => rfl) ?_
        refine yT.il (pc' := 80) (xg2_ne xg_eq rfl) rfl rfl ?_
        refine yT.if1 (t := 91) (pc' := 83) rfl rfl rfl (c1_eq e202) (fun c210 => ?_) (fun c210 => by omega)
        refine yT.il (pc' := 93) (xg2_ne xg_eq rfl) rfl rfl ?_
        refine yT.if1 (t := 101) (pc' := 96) rfl rfl rfl (c1_eq e202) (fun c211 => ?_) (fun c211 => by omega)
        refine yT.lln (pc' := 102) (xg2_ne (xg_ne (xg_ne xg2_eq rfl) rfl) rfl) rfl rfl ?_
        refine yT.p (pc' := 115) rfl rfl (fun _ _ _ _ => rfl) ?_
        exact yT.retL rfl rfl ⟨_, hT204, _, rfl, ⟨J208, by omega⟩⟩
      · refine yT.lln (pc' := 56) (xg_ne xg2_eq rfl) rfl rfl ?_
        refine kSI (yT.cst (G2 := 0) (pc' := 59) rfl rfl xM_171 (r171  K hT197 x104) rfl (by omega) (by decide) rfl) (fun h212 x215 hT213 E214 => ?_)
        refine yT.if1 (t := 66) (pc' := 62) rfl rfl rfl (c1_ne rfl) (fun c216 => ?_) (fun c216 => ?_)
        · refine yT.kI (pc' := 67) rfl rfl (by decide) (fun x217 e218 => ?_)
          refine yT.p (pc' := 69) (lv' := xst1 _ 6 (.int x217)) rfl rfl (fun _ _ _ _ => rfl) ?_
          refine yT.aan (pc' := 70) (xg_ne (xg_ne (xg2_ne g0 rfl) rfl) rfl) rfl rfl rfl ?_
          refine yT.iln (pc' := 71) (xg_ne (xg_ne (xg2_ne g1 rfl) rfl) rfl) rfl rfl ?_
          refine yT.il (pc' := 73) xg_eq rfl rfl ?_
          refine kRL (yT.cc (G2 := 0) (pc' := 76) rfl rfl rfl hT213 (K.up rfl : xnth ks 60 = some (19, 0)) xM_174 (R (p1 := a + 1) hT213 J199 (by omega) (by omega) (by omega) h4 (by omega)) rfl (by omega) (by decide) rfl) (fun h219 σ223 x222 hT220 E221 => ?_)
          obtain ⟨J224, f225⟩ := E221
          refine yT.p (pc' := 78) (lv' := xst2 _ 7 (.long x222)) rfl rfl (fun _ _ _ _ => rfl) ?_
          refine yT.il (pc' := 80) (xg2_ne xg_eq rfl) rfl rfl ?_
          refine yT.if1 (t := 91) (pc' := 83) rfl rfl rfl (c1_eq e218) (fun c226 => ?_) (fun c226 => by omega)
          refine yT.il (pc' := 93) (xg2_ne xg_eq rfl) rfl rfl ?_
          refine yT.if1 (t := 101) (pc' := 96) rfl rfl rfl (c1_eq e218) (fun c227 => ?_) (fun c227 => by omega)
          refine yT.lln (pc' := 102) (xg2_ne (xg_ne (xg_ne xg2_eq rfl) rfl) rfl) rfl rfl ?_
          refine yT.p (pc' := 115) rfl rfl (fun _ _ _ _ => rfl) ?_
          exact yT.retL rfl rfl ⟨_, hT220, _, rfl, ⟨J224, by omega⟩⟩
        · refine yT.kI (pc' := 63) rfl rfl (by decide) (fun x228 e229 => ?_)
          refine yT.p (pc' := 67) rfl rfl (fun _ _ _ _ => rfl) ?_
          refine yT.p (pc' := 69) (lv' := xst1 _ 6 (.int x228)) rfl rfl (fun _ _ _ _ => rfl) ?_
          refine yT.aan (pc' := 70) (xg_ne (xg_ne (xg2_ne g0 rfl) rfl) rfl) rfl rfl rfl ?_
          refine yT.iln (pc' := 71) (xg_ne (xg_ne (xg2_ne g1 rfl) rfl) rfl) rfl rfl ?_
          refine yT.il (pc' := 73) xg_eq rfl rfl ?_
          refine kRL (yT.cc (G2 := 0) (pc' := 76) rfl rfl rfl hT213 (K.up rfl : xnth ks 60 = some (19, 0)) xM_174 (R (p1 := a + 1) hT213 J199 (by omega) (by omega) (by omega) h4 (by omega)) rfl (by omega) (by decide) rfl) (fun h230 σ234 x233 hT231 E232 => ?_)
          obtain ⟨J235, f236⟩ := E232
          refine yT.p (pc' := 78) (lv' := xst2 _ 7 (.long x233)) rfl rfl (fun _ _ _ _ => rfl) ?_
          refine yT.il (pc' := 80) (xg2_ne xg_eq rfl) rfl rfl ?_
          refine yT.if1 (t := 91) (pc' := 83) rfl rfl rfl (c1_eq e229) (fun c237 => by omega) (fun c237 => ?_)
          refine yT.ll (pc' := 85) xg2_eq rfl rfl ?_
          refine kSI (yT.cst (G2 := 0) (pc' := 88) rfl rfl xM_171 (r171  K hT231 x233) rfl (by omega) (by decide) rfl) (fun h238 x241 hT239 E240 => ?_)
          refine yT.if1 (t := 105) (pc' := 91) rfl rfl rfl (c1_eq rfl) (fun c242 => ?_) (fun c242 => ?_)
          · refine yT.il (pc' := 107) (xg2_ne (xg_ne xg_eq rfl) rfl) rfl rfl ?_
            refine yT.lln (pc' := 108) (xg2_ne (xg_ne (xg_ne xg2_eq rfl) rfl) rfl) rfl rfl ?_
            refine yT.fi (pc' := 109) rfl rfl (fun _ _ _ _ => rfl) (fun x243 => ?_)
            refine yT.ll (pc' := 111) xg2_eq rfl rfl ?_
            refine yT.fi (pc' := 112) rfl rfl (fun _ _ _ _ => rfl) (fun x244 => ?_)
            refine kSL (yT.cst (G2 := 0) (pc' := 115) rfl rfl xM_172 (r172  K hT239 x116 x243 x244) rfl (by omega) (by decide) rfl) (fun h245 x248 hT246 E247 => ?_)
            exact yT.retL rfl rfl ⟨_, hT246, _, rfl, ⟨J235, by omega⟩⟩
          · refine yT.il (pc' := 93) (xg2_ne xg_eq rfl) rfl rfl ?_
            refine yT.if1 (t := 101) (pc' := 96) rfl rfl rfl (c1_eq e229) (fun c249 => by omega) (fun c249 => ?_)
            refine yT.ll (pc' := 98) xg2_eq rfl rfl ?_
            refine yT.p (pc' := 115) rfl rfl (fun _ _ _ _ => rfl) ?_
            exact yT.retL rfl rfl ⟨_, hT239, _, rfl, ⟨J235, by omega⟩⟩
    · refine yT.il (pc' := 34) xg_eq rfl rfl ?_
      refine yT.kb (pc' := 36) rfl rfl (by decide) (fun x250 e251 => ?_)
      refine yT.if2 (t := 41) (pc' := 39) rfl rfl rfl (c2_eq e117 e251) (fun c252 => ?_) (fun c252 => ?_)
      · have h4 := h2 (by omega)
        have b4 := PP_lt h4 hL
        have b5 := b4.1
        refine yT.aan (pc' := 42) (xg_ne (xg2_ne g0 rfl) rfl) rfl rfl rfl ?_
        refine yT.p (pc' := 43) rfl rfl (fun _ _ _ _ => rfl) ?_
        refine yT.cgX (pc' := 46) rfl rfl hT114 (K.up rfl) rfl rfl (fun x253 _ i254 j255 z256 => ?_)
        have e257 : x253.toInt = (a : Int) := (congrArg Int32.toInt z256).trans f107
        refine yT.kI (pc' := 47) rfl rfl (by decide) (fun x258 e259 => ?_)
        refine yT.ad2 (pc' := 48) (Z := (a : Int) + 1) e257 e259 rfl rfl (by omega) (fun x260 e261 => ?_)
        refine yT.cpX (c := x260) (pc' := 51) rfl rfl hT114 (K.up rfl) rfl rfl rfl e261 (by omega) rfl (fun h262 hT263 _ _ => ?_)
        have f264 : fl (us σ105 60 16 x260) 16 = (a : Int) + 1 := fl_at.trans e261
        have J265 := Jat _ x260 J106
        refine yT.iln (pc' := 52) (xg_ne (xg2_ne g2 rfl) rfl) rfl rfl ?_
        refine yT.if1 (t := 66) (pc' := 55) rfl rfl rfl (c1_eq rfl) (fun c266 => ?_) (fun c266 => ?_)
        · refine yT.kI (pc' := 67) rfl rfl (by decide) (fun x267 e268 => ?_)
          refine yT.p (pc' := 69) (lv' := xst1 _ 6 (.int x267)) rfl rfl (fun _ _ _ _ => rfl) ?_
          refine yT.aan (pc' := 70) (xg_ne (xg_ne (xg2_ne g0 rfl) rfl) rfl) rfl rfl rfl ?_
          refine yT.iln (pc' := 71) (xg_ne (xg_ne (xg2_ne g1 rfl) rfl) rfl) rfl rfl ?_
          refine yT.il (pc' := 73) xg_eq rfl rfl ?_
          refine kRL (yT.cc (G2 := 0) (pc' := 76) rfl rfl rfl hT263 (K.up rfl : xnth ks 60 = some (19, 0)) xM_174 (R (p1 := a + 1) hT263 J265 (by omega) (by omega) (by omega) h4 (by omega)) rfl (by omega) (by decide) rfl) (fun h269 σ273 x272 hT270 E271 => ?_)
          obtain ⟨J274, f275⟩ := E271
          refine yT.p (pc' := 78) (lv' := xst2 _ 7 (.long x272)) rfl rfl (fun _ _ _ _ => rfl) ?_
          refine yT.il (pc' := 80) (xg2_ne xg_eq rfl) rfl rfl ?_
          refine yT.if1 (t := 91) (pc' := 83) rfl rfl rfl (c1_eq e268) (fun c276 => ?_) (fun c276 => by omega)
          refine yT.il (pc' := 93) (xg2_ne xg_eq rfl) rfl rfl ?_
          refine yT.if1 (t := 101) (pc' := 96) rfl rfl rfl (c1_eq e268) (fun c277 => ?_) (fun c277 => by omega)
          refine yT.lln (pc' := 102) (xg2_ne (xg_ne (xg_ne xg2_eq rfl) rfl) rfl) rfl rfl ?_
          refine yT.p (pc' := 115) rfl rfl (fun _ _ _ _ => rfl) ?_
          exact yT.retL rfl rfl ⟨_, hT270, _, rfl, ⟨J274, by omega⟩⟩
        · refine yT.lln (pc' := 56) (xg_ne xg2_eq rfl) rfl rfl ?_
          refine kSI (yT.cst (G2 := 0) (pc' := 59) rfl rfl xM_171 (r171  K hT263 x104) rfl (by omega) (by decide) rfl) (fun h278 x281 hT279 E280 => ?_)
          refine yT.if1 (t := 66) (pc' := 62) rfl rfl rfl (c1_ne rfl) (fun c282 => ?_) (fun c282 => ?_)
          · refine yT.kI (pc' := 67) rfl rfl (by decide) (fun x283 e284 => ?_)
            refine yT.p (pc' := 69) (lv' := xst1 _ 6 (.int x283)) rfl rfl (fun _ _ _ _ => rfl) ?_
            refine yT.aan (pc' := 70) (xg_ne (xg_ne (xg2_ne g0 rfl) rfl) rfl) rfl rfl rfl ?_
            refine yT.iln (pc' := 71) (xg_ne (xg_ne (xg2_ne g1 rfl) rfl) rfl) rfl rfl ?_
            refine yT.il (pc' := 73) xg_eq rfl rfl ?_
            refine kRL (yT.cc (G2 := 0) (pc' := 76) rfl rfl rfl hT279 (K.up rfl : xnth ks 60 = some (19, 0)) xM_174 (R (p1 := a + 1) hT279 J265 (by omega) (by omega) (by omega) h4 (by omega)) rfl (by omega) (by decide) rfl) (fun h285 σ289 x288 hT286 E287 => ?_)
            obtain ⟨J290, f291⟩ := E287
            refine yT.p (pc' := 78) (lv' := xst2 _ 7 (.long x288)) rfl rfl (fun _ _ _ _ => rfl) ?_
            refine yT.il (pc' := 80) (xg2_ne xg_eq rfl) rfl rfl ?_
            refine yT.if1 (t := 91) (pc' := 83) rfl rfl rfl (c1_eq e284) (fun c292 => ?_) (fun c292 => by omega)
            refine yT.il (pc' := 93) (xg2_ne xg_eq rfl) rfl rfl ?_
            refine yT.if1 (t := 101) (pc' := 96) rfl rfl rfl (c1_eq e284) (fun c293 => ?_) (fun c293 => by omega)
            refine yT.lln (pc' := 102) (xg2_ne (xg_ne (xg_ne xg2_eq rfl) rfl) rfl) rfl rfl ?_
            refine yT.p (pc' := 115) rfl rfl (fun _ _ _ _ => rfl) ?_
            exact yT.retL rfl rfl ⟨_, hT286, _, rfl, ⟨J290, by omega⟩⟩
          · refine yT.kI (pc' := 63) rfl rfl (by decide) (fun x294 e295 => ?_)
            refine yT.p (pc' := 67) rfl rfl (fun _ _ _ _ => rfl) ?_
            refine yT.p (pc' := 69) (lv' := xst1 _ 6 (.int x294)) rfl rfl (fun _ _ _ _ => rfl) ?_
            refine yT.aan (pc' := 70) (xg_ne (xg_ne (xg2_ne g0 rfl) rfl) rfl) rfl rfl rfl ?_
            refine yT.iln (pc' := 71) (xg_ne (xg_ne (xg2_ne g1 rfl) rfl) rfl) rfl rfl ?_
            refine yT.il (pc' := 73) xg_eq rfl rfl ?_
            refine kRL (yT.cc (G2 := 0) (pc' := 76) rfl rfl rfl hT279 (K.up rfl : xnth ks 60 = some (19, 0)) xM_174 (R (p1 := a + 1) hT279 J265 (by omega) (by omega) (by omega) h4 (by omega)) rfl (by omega) (by decide) rfl) (fun h296 σ300 x299 hT297 E298 => ?_)
            obtain ⟨J301, f302⟩ := E298
            refine yT.p (pc' := 78) (lv' := xst2 _ 7 (.long x299)) rfl rfl (fun _ _ _ _ => rfl) ?_
            refine yT.il (pc' := 80) (xg2_ne xg_eq rfl) rfl rfl ?_
            refine yT.if1 (t := 91) (pc' := 83) rfl rfl rfl (c1_eq e295) (fun c303 => by omega) (fun c303 => ?_)
            refine yT.ll (pc' := 85) xg2_eq rfl rfl ?_
            refine kSI (yT.cst (G2 := 0) (pc' := 88) rfl rfl xM_171 (r171  K hT297 x299) rfl (by omega) (by decide) rfl) (fun h304 x307 hT305 E306 => ?_)
            refine yT.if1 (t := 105) (pc' := 91) rfl rfl rfl (c1_eq rfl) (fun c308 => ?_) (fun c308 => ?_)
            · refine yT.il (pc' := 107) (xg2_ne (xg_ne xg_eq rfl) rfl) rfl rfl ?_
              refine yT.lln (pc' := 108) (xg2_ne (xg_ne (xg_ne xg2_eq rfl) rfl) rfl) rfl rfl ?_
              refine yT.fi (pc' := 109) rfl rfl (fun _ _ _ _ => rfl) (fun x309 => ?_)
              refine yT.ll (pc' := 111) xg2_eq rfl rfl ?_
              refine yT.fi (pc' := 112) rfl rfl (fun _ _ _ _ => rfl) (fun x310 => ?_)
              refine kSL (yT.cst (G2 := 0) (pc' := 115) rfl rfl xM_172 (r172  K hT305 x116 x309 x310) rfl (by omega) (by decide) rfl) (fun h311 x314 hT312 E313 => ?_)
              exact yT.retL rfl rfl ⟨_, hT312, _, rfl, ⟨J301, by omega⟩⟩
            · refine yT.il (pc' := 93) (xg2_ne xg_eq rfl) rfl rfl ?_
              refine yT.if1 (t := 101) (pc' := 96) rfl rfl rfl (c1_eq e295) (fun c315 => by omega) (fun c315 => ?_)
              refine yT.ll (pc' := 98) xg2_eq rfl rfl ?_
              refine yT.p (pc' := 115) rfl rfl (fun _ _ _ _ => rfl) ?_
              exact yT.retL rfl rfl ⟨_, hT305, _, rfl, ⟨J301, by omega⟩⟩
      · have h4 := h3 (by omega)
        refine yT.lln (pc' := 40) (xg_ne xg2_eq rfl) rfl rfl ?_
        exact yT.retL rfl rfl ⟨_, hT114, _, rfl, ⟨J106, by omega⟩⟩
-- rX9_sumr
set_option maxRecDepth 100000 in
set_option maxHeartbeats 4000000 in
theorem r174r {ks : List cT} {B0 : Nat} (K : KE KS0 ks B0) {σ : sg} {ρ : Nat → xE} {h : List xE} (hT : HT ks σ ρ h) {c : Nat} {x1 : Int32} (e1 : x1.toInt = (c : Int)) {x2 : Int32} (e2 : x2.toInt = 0 ∨ x2.toInt = 1) {J : sg → Prop} {L : LT} {Fa : Nat} (JL : ∀ σ, J σ → (∀ k, ltr σ c k = L.1 k) ∧ nw σ (282 * c + 31) ≤ 250) (hL : ∀ j, 250 ≤ j → L.1 j = -1) (Jat : ∀ σ v, J σ → J (us σ 60 16 v)) (hc : c < 24) {n p q : Nat} (R : ∀ {σ1 : sg} {h1 : List xE} {y1 y2 : Int32} {p1 q1 : Nat}, HT ks σ1 ρ h1 → J σ1 → fl σ1 16 = (p1 : Int) → y1.toInt = (c : Int) → y2.toInt = 0 ∨ y2.toInt = 1 → PP n L 2 p1 = some q1 → q1 ≤ 250 → yM 175 (Fa + (2 * (q1 - p1) + 5)) 0 [.ref (60 + 1), .int y1, .int y2] h1 (RQL ks ρ (fun σ2 _ => J σ2 ∧ fl σ2 16 = (q1 : Int)))) (p0 : c < 24) (p1 : J σ) (p2 : fl σ 16 = (p : Int)) (p3 : PP (n + 1) L 1 p = some q) (p4 : q ≤ 250) : yM 174 (Fa + (2 * (q - p) + 6)) 0 [.ref (60 + 1), .int x1, .int x2] h (RQL ks ρ (fun σ' r => J σ' ∧ fl σ' 16 = (q : Int))) := by
  refine yM.st xM_174 rfl rfl (fun lv g => ?_)
  have g0 := g 0 _ rfl
  have g1 := g 1 _ rfl
  have g2 := g 2 _ rfl
  obtain ⟨a, h1, h2⟩ := PP1 p3
  have b1 := (PP_lt h1 hL).2 (by decide) (by decide)
  have b2 := (PP_lt h2 hL).1
  refine yT.aan (pc' := 1) g0 rfl rfl rfl ?_
  refine yT.iln (pc' := 2) g1 rfl rfl ?_
  refine yT.iln (pc' := 3) g2 rfl rfl ?_
  refine kRL (yT.cc (G2 := 0) (pc' := 6) rfl rfl rfl hT (K.up rfl : xnth ks 60 = some (19, 0)) xM_175 (R (p1 := p) hT p1 (by omega) (by omega) (by omega) h1 (by omega)) rfl (by omega) (by decide) rfl) (fun h101 σ105 x104 hT102 E103 => ?_)
  obtain ⟨J106, f107⟩ := E103
  refine yT.p (pc' := 7) (lv' := xst2 _ 3 (.long x104)) rfl rfl (fun _ _ _ _ => rfl) ?_
  have L108 : ∀ (n123 : Nat) (lv109 : xLv) (σ115 : sg) (b112 : Nat) (h110 : List xE) (x116 : Int64), HT ks σ115 ρ h110 → J σ115 → fl σ115 16 = (b112 : Int) → xget lv109 0 = some (.ref (60 + 1)) → xget lv109 1 = some (.int x1) → xget lv109 2 = some (.int x2) → xget lv109 3 = some (.long x116) → PP n L 4 b112 = some q → p < b112 ∧ b112 ≤ q → q - b112 < n123 → yT 0 [] rX9_sum (Fa + (2 * (q - p) + 6)) 0 7 lv109 [] h110 (RQL ks ρ (fun σ' r => J σ' ∧ fl σ' 16 = (q : Int))) := by
    intro n123
    induction n123 with
    | zero => intro lv109 σ115 b112 h110 x116 hT111 J114 f113 g117 g118 g119 g120 i121 i122 m124; exact absurd m124 (Nat.not_lt_zero _)
    | succ n123 ih125 =>
      intro lv109 σ115 b112 h110 x116 hT111 J114 f113 g117 g118 g119 g120 i121 i122 m124
      have h4 := PP4 i121
      refine yT.aan (pc' := 8) g117 rfl rfl rfl ?_
      refine yT.iln (pc' := 9) g118 rfl rfl ?_
      refine yT.aan (pc' := 10) g117 rfl rfl rfl ?_
      refine yT.cgX (pc' := 13) rfl rfl hT111 (K.up rfl) rfl rfl (fun x126 _ i127 j128 z129 => ?_)
      have e130 : x126.toInt = (b112 : Int) := (congrArg Int32.toInt z129).trans f113
      refine kSI (yT.cc (G2 := 0) (pc' := 16) rfl rfl rfl hT111 (K.up rfl : xnth ks 60 = some (19, 0)) xM_170 (r170 (c := c) (k := b112) K hT111 e1 e130 hc (JL _ J114).2) rfl (by omega) (by decide) rfl) (fun h131 x134 hT132 E133 => ?_)
      have e135 : x134.toInt = L.1 (b112) := E133.trans ((JL _ J114).1 _)
      refine yT.kb (pc' := 18) rfl rfl (by decide) (fun x136 e137 => ?_)
      refine yT.if2 (t := 35) (pc' := 21) rfl rfl rfl (c2_eq e135 e137) (fun c138 => ?_) (fun c138 => ?_)
      · obtain ⟨a2, h5, h6⟩ := h4.1 (by omega)
        have b5 := (PP_lt h5 hL).2 (by decide) (by decide)
        have b6 := (PP_lt h6 hL).1
        refine yT.aan (pc' := 36) g117 rfl rfl rfl ?_
        refine yT.iln (pc' := 37) g118 rfl rfl ?_
        refine yT.aan (pc' := 38) g117 rfl rfl rfl ?_
        refine yT.cgX (pc' := 41) rfl rfl hT132 (K.up rfl) rfl rfl (fun x139 _ i140 j141 z142 => ?_)
        have e143 : x139.toInt = (b112 : Int) := (congrArg Int32.toInt z142).trans f113
        refine kSI (yT.cc (G2 := 0) (pc' := 44) rfl rfl rfl hT132 (K.up rfl : xnth ks 60 = some (19, 0)) xM_170 (r170 (c := c) (k := b112) K hT132 e1 e143 hc (JL _ J114).2) rfl (by omega) (by decide) rfl) (fun h144 x147 hT145 E146 => ?_)
        have e148 : x147.toInt = L.1 (b112) := E146.trans ((JL _ J114).1 _)
        refine yT.p (pc' := 46) (lv' := xst1 _ 5 (.int x147)) rfl rfl (fun _ _ _ _ => rfl) ?_
        refine yT.aan (pc' := 47) (xg_ne g117 rfl) rfl rfl rfl ?_
        refine yT.p (pc' := 48) rfl rfl (fun _ _ _ _ => rfl) ?_
        refine yT.cgX (pc' := 51) rfl rfl hT145 (K.up rfl) rfl rfl (fun x149 _ i150 j151 z152 => ?_)
        have e153 : x149.toInt = (b112 : Int) := (congrArg Int32.toInt z152).trans f113
        refine yT.kI (pc' := 52) rfl rfl (by decide) (fun x154 e155 => ?_)
        refine yT.ad2 (pc' := 53) (Z := (b112 : Int) + 1) e153 e155 rfl rfl (by omega) (fun x156 e157 => ?_)
        refine yT.cpX (c := x156) (pc' := 56) rfl rfl hT145 (K.up rfl) rfl rfl rfl e157 (by omega) rfl (fun h158 hT159 _ _ => ?_)
        have f160 : fl (us σ115 60 16 x156) 16 = (b112 : Int) + 1 := fl_at.trans e157
        have J161 := Jat _ x156 J114
        refine yT.iln (pc' := 57) (xg_ne g119 rfl) rfl rfl ?_
        refine yT.if1 (t := 71) (pc' := 60) rfl rfl rfl (c1_eq rfl) (fun c162 => ?_) (fun c162 => ?_)
        · refine yT.kI (pc' := 72) rfl rfl (by decide) (fun x163 e164 => ?_)
          refine yT.p (pc' := 74) (lv' := xst1 _ 6 (.int x163)) rfl rfl (fun _ _ _ _ => rfl) ?_
          refine yT.aan (pc' := 75) (xg_ne (xg_ne g117 rfl) rfl) rfl rfl rfl ?_
          refine yT.iln (pc' := 76) (xg_ne (xg_ne g118 rfl) rfl) rfl rfl ?_
          refine yT.il (pc' := 78) xg_eq rfl rfl ?_
          refine kRL (yT.cc (G2 := 0) (pc' := 81) rfl rfl rfl hT159 (K.up rfl : xnth ks 60 = some (19, 0)) xM_175 (R (p1 := b112 + 1) hT159 J161 (by omega) (by omega) (by omega) h5 (by omega)) rfl (by omega) (by decide) rfl) (fun h165 σ169 x168 hT166 E167 => ?_)
          obtain ⟨J170, f171⟩ := E167
          refine yT.p (pc' := 83) (lv' := xst2 _ 7 (.long x168)) rfl rfl (fun _ _ _ _ => rfl) ?_
          refine yT.il (pc' := 85) (xg2_ne xg_eq rfl) rfl rfl ?_
          refine yT.if1 (t := 96) (pc' := 88) rfl rfl rfl (c1_eq e164) (fun c172 => ?_) (fun c172 => by omega)
          refine yT.il (pc' := 98) (xg2_ne xg_eq rfl) rfl rfl ?_
          refine yT.if1 (t := 106) (pc' := 101) rfl rfl rfl (c1_eq e164) (fun c173 => ?_) (fun c173 => by omega)
          refine yT.lln (pc' := 107) (xg2_ne (xg_ne (xg_ne g120 rfl) rfl) rfl) rfl rfl ?_
          refine yT.p (pc' := 120) rfl rfl (fun _ _ _ _ => rfl) ?_
          refine yT.p (pc' := 121) (lv' := xst2 _ 3 (.long x116)) rfl rfl (fun _ _ _ _ => rfl) ?_
          refine yT.p (pc' := 7) rfl rfl (fun _ _ _ _ => rfl) ?_
          exact ih125 _ σ169 (a2) _ x116 hT166 J170 (by omega) (xg2_ne (xg2_ne (xg_ne (xg_ne g117 rfl) rfl) rfl) rfl) (xg2_ne (xg2_ne (xg_ne (xg_ne g118 rfl) rfl) rfl) rfl) (xg2_ne (xg2_ne (xg_ne (xg_ne g119 rfl) rfl) rfl) rfl) xg2_eq h6 (by omega) (by omega)
        · refine yT.lln (pc' := 61) (xg_ne g120 rfl) rfl rfl ?_
          refine kSI (yT.cst (G2 := 0) (pc' := 64) rfl rfl xM_171 (r171  K hT159 x116) rfl (by omega) (by decide) rfl) (fun h174 x177 hT175 E176 => ?_)
          refine yT.if1 (t := 71) (pc' := 67) rfl rfl rfl (c1_ne rfl) (fun c178 => ?_) (fun c178 => ?_)
          · refine yT.kI (pc' := 72) rfl rfl (by decide) (fun x179 e180 => ?_)
            refine yT.p (pc' := 74) (lv' := xst1 _ 6 (.int x179)) rfl rfl (fun _ _ _ _ => rfl) ?_
            refine yT.aan (pc' := 75) (xg_ne (xg_ne g117 rfl) rfl) rfl rfl rfl ?_
            refine yT.iln (pc' := 76) (xg_ne (xg_ne g118 rfl) rfl) rfl rfl ?_
            refine yT.il (pc' := 78) xg_eq rfl rfl ?_
            refine kRL (yT.cc (G2 := 0) (pc' := 81) rfl rfl rfl hT175 (K.up rfl : xnth ks 60 = some (19, 0)) xM_175 (R (p1 := b112 + 1) hT175 J161 (by omega) (by omega) (by omega) h5 (by omega)) rfl (by omega) (by decide) rfl) (fun h181 σ185 x184 hT182 E183 => ?_)
            obtain ⟨J186, f187⟩ := E183
            refine yT.p (pc' := 83) (lv' := xst2 _ 7 (.long x184)) rfl rfl (fun _ _ _ _ => rfl) ?_
            refine yT.il (pc' := 85) (xg2_ne xg_eq rfl) rfl rfl ?_
            refine yT.if1 (t := 96) (pc' := 88) rfl rfl rfl (c1_eq e180) (fun c188 => ?_) (fun c188 => by omega)
            refine yT.il (pc' := 98) (xg2_ne xg_eq rfl) rfl rfl ?_
            refine yT.if1 (t := 106) (pc' := 101) rfl rfl rfl (c1_eq e180) (fun c189 => ?_) (fun c189 => by omega)
            refine yT.lln (pc' := 107) (xg2_ne (xg_ne (xg_ne g120 rfl) rfl) rfl) rfl rfl ?_
            refine yT.p (pc' := 120) rfl rfl (fun _ _ _ _ => rfl) ?_
            refine yT.p (pc' := 121) (lv' := xst2 _ 3 (.long x116)) rfl rfl (fun _ _ _ _ => rfl) ?_
            refine yT.p (pc' := 7) rfl rfl (fun _ _ _ _ => rfl) ?_
            exact ih125 _ σ185 (a2) _ x116 hT182 J186 (by omega) (xg2_ne (xg2_ne (xg_ne (xg_ne g117 rfl) rfl) rfl) rfl) (xg2_ne (xg2_ne (xg_ne (xg_ne g118 rfl) rfl) rfl) rfl) (xg2_ne (xg2_ne (xg_ne (xg_ne g119 rfl) rfl) rfl) rfl) xg2_eq h6 (by omega) (by omega)
          · refine yT.kI (pc' := 68) rfl rfl (by decide) (fun x190 e191 => ?_)
            refine yT.p (pc' := 72) rfl rfl (fun _ _ _ _ => rfl) ?_
            refine yT.p (pc' := 74) (lv' := xst1 _ 6 (.int x190)) rfl rfl (fun _ _ _ _ => rfl) ?_
            refine yT.aan (pc' := 75) (xg_ne (xg_ne g117 rfl) rfl) rfl rfl rfl ?_
            refine yT.iln (pc' := 76) (xg_ne (xg_ne g118 rfl) rfl) rfl rfl ?_
            refine yT.il (pc' := 78) xg_eq rfl rfl ?_
            refine kRL (yT.cc (G2 := 0) (pc' := 81) rfl rfl rfl hT175 (K.up rfl : xnth ks 60 = some (19, 0)) xM_175 (R (p1 := b112 + 1) hT175 J161 (by omega) (by omega) (by omega) h5 (by omega)) rfl (by omega) (by decide) rfl) (fun h192 σ196 x195 hT193 E194 => ?_)
            obtain ⟨J197, f198⟩ := E194
            refine yT.p (pc' := 83) (lv' := xst2 _ 7 (.long x195)) rfl rfl (fun _ _ _ _ => rfl) ?_
            refine yT.il (pc' := 85) (xg2_ne xg_eq rfl) rfl rfl ?_
            refine yT.if1 (t := 96) (pc' := 88) rfl rfl rfl (c1_eq e191) (fun c199 => by omega) (fun c199 => ?_)
            refine yT.ll (pc' := 90) xg2_eq rfl rfl ?_
            refine kSI (yT.cst (G2 := 0) (pc' := 93) rfl rfl xM_171 (r171  K hT193 x195) rfl (by omega) (by decide) rfl) (fun h200 x203 hT201 E202 => ?_)
            refine yT.if1 (t := 110) (pc' := 96) rfl rfl rfl (c1_eq rfl) (fun c204 => ?_) (fun c204 => ?_)
            · refine yT.il (pc' := 112) (xg2_ne (xg_ne xg_eq rfl) rfl) rfl rfl ?_
              refine yT.lln (pc' := 113) (xg2_ne (xg_ne (xg_ne g120 rfl) rfl) rfl) rfl rfl ?_
              refine yT.fi (pc' := 114) rfl rfl (fun _ _ _ _ => rfl) (fun x205 => ?_)
              refine yT.ll (pc' := 116) xg2_eq rfl rfl ?_
              refine yT.fi (pc' := 117) rfl rfl (fun _ _ _ _ => rfl) (fun x206 => ?_)
              refine kSL (yT.cst (G2 := 0) (pc' := 120) rfl rfl xM_172 (r172  K hT201 x147 x205 x206) rfl (by omega) (by decide) rfl) (fun h207 x210 hT208 E209 => ?_)
              refine yT.p (pc' := 121) (lv' := xst2 _ 3 (.long x210)) rfl rfl (fun _ _ _ _ => rfl) ?_
              refine yT.p (pc' := 7) rfl rfl (fun _ _ _ _ => rfl) ?_
              exact ih125 _ σ196 (a2) _ x210 hT208 J197 (by omega) (xg2_ne (xg2_ne (xg_ne (xg_ne g117 rfl) rfl) rfl) rfl) (xg2_ne (xg2_ne (xg_ne (xg_ne g118 rfl) rfl) rfl) rfl) (xg2_ne (xg2_ne (xg_ne (xg_ne g119 rfl) rfl) rfl) rfl) xg2_eq h6 (by omega) (by omega)
            · refine yT.il (pc' := 98) (xg2_ne xg_eq rfl) rfl rfl ?_
              refine yT.if1 (t := 106) (pc' := 101) rfl rfl rfl (c1_eq e191) (fun c211 => by omega) (fun c211 => ?_)
              refine yT.ll (pc' := 103) xg2_eq rfl rfl ?_
              refine yT.p (pc' := 120) rfl rfl (fun _ _ _ _ => rfl) ?_
              refine yT.p (pc' := 121) (lv' := xst2 _ 3 (.long x195)) rfl rfl (fun _ _ _ _ => rfl) ?_
              refine yT.p (pc' := 7) rfl rfl (fun _ _ _ _ => rfl) ?_
              exact ih125 _ σ196 (a2) _ x195 hT201 J197 (by omega) (xg2_ne (xg2_ne (xg_ne (xg_ne g117 rfl) rfl) rfl) rfl) (xg2_ne (xg2_ne (xg_ne (xg_ne g118 rfl) rfl) rfl) rfl) (xg2_ne (xg2_ne (xg_ne (xg_ne g119 rfl) rfl) rfl) rfl) xg2_eq h6 (by omega) (by omega)
      · refine yT.aan (pc' := 22) g117 rfl rfl rfl ?_
        refine yT.iln (pc' := 23) g118 rfl rfl ?_
        refine yT.aan (pc' := 24) g117 rfl rfl rfl ?_
        refine yT.cgX (pc' := 27) rfl rfl hT132 (K.up rfl) rfl rfl (fun x212 _ i213 j214 z215 => ?_)
        have e216 : x212.toInt = (b112 : Int) := (congrArg Int32.toInt z215).trans f113
        refine kSI (yT.cc (G2 := 0) (pc' := 30) rfl rfl rfl hT132 (K.up rfl : xnth ks 60 = some (19, 0)) xM_170 (r170 (c := c) (k := b112) K hT132 e1 e216 hc (JL _ J114).2) rfl (by omega) (by decide) rfl) (fun h217 x220 hT218 E219 => ?_)
        have e221 : x220.toInt = L.1 (b112) := E219.trans ((JL _ J114).1 _)
        refine yT.kb (pc' := 32) rfl rfl (by decide) (fun x222 e223 => ?_)
        refine yT.if2 (t := 124) (pc' := 35) rfl rfl rfl (c2_ne e221 e223) (fun c224 => ?_) (fun c224 => ?_)
        · have h7 := h4.2 (by omega)
          refine yT.lln (pc' := 125) g120 rfl rfl ?_
          exact yT.retL rfl rfl ⟨_, hT218, _, rfl, ⟨J114, by omega⟩⟩
        · obtain ⟨a2, h5, h6⟩ := h4.1 (by omega)
          have b5 := (PP_lt h5 hL).2 (by decide) (by decide)
          have b6 := (PP_lt h6 hL).1
          refine yT.aan (pc' := 36) g117 rfl rfl rfl ?_
          refine yT.iln (pc' := 37) g118 rfl rfl ?_
          refine yT.aan (pc' := 38) g117 rfl rfl rfl ?_
          refine yT.cgX (pc' := 41) rfl rfl hT218 (K.up rfl) rfl rfl (fun x225 _ i226 j227 z228 => ?_)
          have e229 : x225.toInt = (b112 : Int) := (congrArg Int32.toInt z228).trans f113
          refine kSI (yT.cc (G2 := 0) (pc' := 44) rfl rfl rfl hT218 (K.up rfl : xnth ks 60 = some (19, 0)) xM_170 (r170 (c := c) (k := b112) K hT218 e1 e229 hc (JL _ J114).2) rfl (by omega) (by decide) rfl) (fun h230 x233 hT231 E232 => ?_)
          have e234 : x233.toInt = L.1 (b112) := E232.trans ((JL _ J114).1 _)
          refine yT.p (pc' := 46) (lv' := xst1 _ 5 (.int x233)) rfl rfl (fun _ _ _ _ => rfl) ?_
          refine yT.aan (pc' := 47) (xg_ne g117 rfl) rfl rfl rfl ?_
          refine yT.p (pc' := 48) rfl rfl (fun _ _ _ _ => rfl) ?_
          refine yT.cgX (pc' := 51) rfl rfl hT231 (K.up rfl) rfl rfl (fun x235 _ i236 j237 z238 => ?_)
          have e239 : x235.toInt = (b112 : Int) := (congrArg Int32.toInt z238).trans f113
          refine yT.kI (pc' := 52) rfl rfl (by decide) (fun x240 e241 => ?_)
          refine yT.ad2 (pc' := 53) (Z := (b112 : Int) + 1) e239 e241 rfl rfl (by omega) (fun x242 e243 => ?_)
          refine yT.cpX (c := x242) (pc' := 56) rfl rfl hT231 (K.up rfl) rfl rfl rfl e243 (by omega) rfl (fun h244 hT245 _ _ => ?_)
          have f246 : fl (us σ115 60 16 x242) 16 = (b112 : Int) + 1 := fl_at.trans e243
          have J247 := Jat _ x242 J114
          refine yT.iln (pc' := 57) (xg_ne g119 rfl) rfl rfl ?_
          refine yT.if1 (t := 71) (pc' := 60) rfl rfl rfl (c1_eq rfl) (fun c248 => ?_) (fun c248 => ?_)
          · refine yT.kI (pc' := 72) rfl rfl (by decide) (fun x249 e250 => ?_)
            refine yT.p (pc' := 74) (lv' := xst1 _ 6 (.int x249)) rfl rfl (fun _ _ _ _ => rfl) ?_
            refine yT.aan (pc' := 75) (xg_ne (xg_ne g117 rfl) rfl) rfl rfl rfl ?_
            refine yT.iln (pc' := 76) (xg_ne (xg_ne g118 rfl) rfl) rfl rfl ?_
            refine yT.il (pc' := 78) xg_eq rfl rfl ?_
            refine kRL (yT.cc (G2 := 0) (pc' := 81) rfl rfl rfl hT245 (K.up rfl : xnth ks 60 = some (19, 0)) xM_175 (R (p1 := b112 + 1) hT245 J247 (by omega) (by omega) (by omega) h5 (by omega)) rfl (by omega) (by decide) rfl) (fun h251 σ255 x254 hT252 E253 => ?_)
            obtain ⟨J256, f257⟩ := E253
            refine yT.p (pc' := 83) (lv' := xst2 _ 7 (.long x254)) rfl rfl (fun _ _ _ _ => rfl) ?_
            refine yT.il (pc' := 85) (xg2_ne xg_eq rfl) rfl rfl ?_
            refine yT.if1 (t := 96) (pc' := 88) rfl rfl rfl (c1_eq e250) (fun c258 => ?_) (fun c258 => by omega)
            refine yT.il (pc' := 98) (xg2_ne xg_eq rfl) rfl rfl ?_
            refine yT.if1 (t := 106) (pc' := 101) rfl rfl rfl (c1_eq e250) (fun c259 => ?_) (fun c259 => by omega)
            refine yT.lln (pc' := 107) (xg2_ne (xg_ne (xg_ne g120 rfl) rfl) rfl) rfl rfl ?_
            refine yT.p (pc' := 120) rfl rfl (fun _ _ _ _ => rfl) ?_
            refine yT.p (pc' := 121) (lv' := xst2 _ 3 (.long x116)) rfl rfl (fun _ _ _ _ => rfl) ?_
            refine yT.p (pc' := 7) rfl rfl (fun _ _ _ _ => rfl) ?_
            exact ih125 _ σ255 (a2) _ x116 hT252 J256 (by omega) (xg2_ne (xg2_ne (xg_ne (xg_ne g117 rfl) rfl) rfl) rfl) (xg2_ne (xg2_ne (xg_ne (xg_ne g118 rfl) rfl) rfl) rfl) (xg2_ne (xg2_ne (xg_ne (xg_ne g119 rfl) rfl) rfl) rfl) xg2_eq h6 (by omega) (by omega)
          · refine yT.lln (pc' := 61) (xg_ne g120 rfl) rfl rfl ?_
            refine kSI (yT.cst (G2 := 0) (pc' := 64) rfl rfl xM_171 (r171  K hT245 x116) rfl (by omega) (by decide) rfl) (fun h260 x263 hT261 E262 => ?_)
            refine yT.if1 (t := 71) (pc' := 67) rfl rfl rfl (c1_ne rfl) (fun c264 => ?_) (fun c264 => ?_)
            · refine yT.kI (pc' := 72) rfl rfl (by decide) (fun x265 e266 => ?_)
              refine yT.p (pc' := 74) (lv' := xst1 _ 6 (.int x265)) rfl rfl (fun _ _ _ _ => rfl) ?_
              refine yT.aan (pc' := 75) (xg_ne (xg_ne g117 rfl) rfl) rfl rfl rfl ?_
              refine yT.iln (pc' := 76) (xg_ne (xg_ne g118 rfl) rfl) rfl rfl ?_
              refine yT.il (pc' := 78) xg_eq rfl rfl ?_
              refine kRL (yT.cc (G2 := 0) (pc' := 81) rfl rfl rfl hT261 (K.up rfl : xnth ks 60 = some (19, 0)) xM_175 (R (p1 := b112 + 1) hT261 J247 (by omega) (by omega) (by omega) h5 (by omega)) rfl (by omega) (by decide) rfl) (fun h267 σ271 x270 hT268 E269 => ?_)
              obtain ⟨J272, f273⟩ := E269
              refine yT.p (pc' := 83) (lv' := xst2 _ 7 (.long x270)) rfl rfl (fun _ _ _ _ => rfl) ?_
              refine yT.il (pc' := 85) (xg2_ne xg_eq rfl) rfl rfl ?_
              refine yT.if1 (t := 96) (pc' := 88) rfl rfl rfl (c1_eq e266) (fun c274 => ?_) (fun c274 => by omega)
              refine yT.il (pc' := 98) (xg2_ne xg_eq rfl) rfl rfl ?_
              refine yT.if1 (t := 106) (pc' := 101) rfl rfl rfl (c1_eq e266) (fun c275 => ?_) (fun c275 => by omega)
              refine yT.lln (pc' := 107) (xg2_ne (xg_ne (xg_ne g120 rfl) rfl) rfl) rfl rfl ?_
              refine yT.p (pc' := 120) rfl rfl (fun _ _ _ _ => rfl) ?_
              refine yT.p (pc' := 121) (lv' := xst2 _ 3 (.long x116)) rfl rfl (fun _ _ _ _ => rfl) ?_
              refine yT.p (pc' := 7) rfl rfl (fun _ _ _ _ => rfl) ?_
              exact ih125 _ σ271 (a2) _ x116 hT268 J272 (by omega) (xg2_ne (xg2_ne (xg_ne (xg_ne g117 rfl) rfl) rfl) rfl) (xg2_ne (xg2_ne (xg_ne (xg_ne g118 rfl) rfl) rfl) rfl) (xg2_ne (xg2_ne (xg_ne (xg_ne g119 rfl) rfl) rfl) rfl) xg2_eq h6 (by omega) (by omega)
            · refine yT.kI (pc' := 68) rfl rfl (by decide) (fun x276 e277 => ?_)
              refine yT.p (pc' := 72) rfl rfl (fun _ _ _ _ => rfl) ?_
              refine yT.p (pc' := 74) (lv' := xst1 _ 6 (.int x276)) rfl rfl (fun _ _ _ _ => rfl) ?_
              refine yT.aan (pc' := 75) (xg_ne (xg_ne g117 rfl) rfl) rfl rfl rfl ?_
              refine yT.iln (pc' := 76) (xg_ne (xg_ne g118 rfl) rfl) rfl rfl ?_
              refine yT.il (pc' := 78) xg_eq rfl rfl ?_
              refine kRL (yT.cc (G2 := 0) (pc' := 81) rfl rfl rfl hT261 (K.up rfl : xnth ks 60 = some (19, 0)) xM_175 (R (p1 := b112 + 1) hT261 J247 (by omega) (by omega) (by omega) h5 (by omega)) rfl (by omega) (by decide) rfl) (fun h278 σ282 x281 hT279 E280 => ?_)
              obtain ⟨J283, f284⟩ := E280
              refine yT.p (pc' := 83) (lv' := xst2 _ 7 (.long x281)) rfl rfl (fun _ _ _ _ => rfl) ?_
              refine yT.il (pc' := 85) (xg2_ne xg_eq rfl) rfl rfl ?_
              refine yT.if1 (t := 96) (pc' := 88) rfl rfl rfl (c1_eq e277) (fun c285 => by omega) (fun c285 => ?_)
              refine yT.ll (pc' := 90) xg2_eq rfl rfl ?_
              refine kSI (yT.cst (G2 := 0) (pc' := 93) rfl rfl xM_171 (r171  K hT279 x281) rfl (by omega) (by decide) rfl) (fun h286 x289 hT287 E288 => ?_)
              refine yT.if1 (t := 110) (pc' := 96) rfl rfl rfl (c1_eq rfl) (fun c290 => ?_) (fun c290 => ?_)
              · refine yT.il (pc' := 112) (xg2_ne (xg_ne xg_eq rfl) rfl) rfl rfl ?_
                refine yT.lln (pc' := 113) (xg2_ne (xg_ne (xg_ne g120 rfl) rfl) rfl) rfl rfl ?_
                refine yT.fi (pc' := 114) rfl rfl (fun _ _ _ _ => rfl) (fun x291 => ?_)
                refine yT.ll (pc' := 116) xg2_eq rfl rfl ?_
                refine yT.fi (pc' := 117) rfl rfl (fun _ _ _ _ => rfl) (fun x292 => ?_)
                refine kSL (yT.cst (G2 := 0) (pc' := 120) rfl rfl xM_172 (r172  K hT287 x233 x291 x292) rfl (by omega) (by decide) rfl) (fun h293 x296 hT294 E295 => ?_)
                refine yT.p (pc' := 121) (lv' := xst2 _ 3 (.long x296)) rfl rfl (fun _ _ _ _ => rfl) ?_
                refine yT.p (pc' := 7) rfl rfl (fun _ _ _ _ => rfl) ?_
                exact ih125 _ σ282 (a2) _ x296 hT294 J283 (by omega) (xg2_ne (xg2_ne (xg_ne (xg_ne g117 rfl) rfl) rfl) rfl) (xg2_ne (xg2_ne (xg_ne (xg_ne g118 rfl) rfl) rfl) rfl) (xg2_ne (xg2_ne (xg_ne (xg_ne g119 rfl) rfl) rfl) rfl) xg2_eq h6 (by omega) (by omega)
              · refine yT.il (pc' := 98) (xg2_ne xg_eq rfl) rfl rfl ?_
                refine yT.if1 (t := 106) (pc' := 101) rfl rfl rfl (c1_eq e277) (fun c297 => by omega) (fun c297 => ?_)
                refine yT.ll (pc' := 103) xg2_eq rfl rfl ?_
                refine yT.p (pc' := 120) rfl rfl (fun _ _ _ _ => rfl) ?_
                refine yT.p (pc' := 121) (lv' := xst2 _ 3 (.long x281)) rfl rfl (fun _ _ _ _ => rfl) ?_
                refine yT.p (pc' := 7) rfl rfl (fun _ _ _ _ => rfl) ?_
                exact ih125 _ σ282 (a2) _ x281 hT287 J283 (by omega) (xg2_ne (xg2_ne (xg_ne (xg_ne g117 rfl) rfl) rfl) rfl) (xg2_ne (xg2_ne (xg_ne (xg_ne g118 rfl) rfl) rfl) rfl) (xg2_ne (xg2_ne (xg_ne (xg_ne g119 rfl) rfl) rfl) rfl) xg2_eq h6 (by omega) (by omega)
  exact L108 _ _ σ105 (a) _ x104 hT102 J106 (by omega) (xg2_ne g0 rfl) (xg2_ne g1 rfl) (xg2_ne g2 rfl) xg2_eq h2 (by omega) (Nat.lt_succ_self _)
-- rX9_termr
set_option maxRecDepth 100000 in
set_option maxHeartbeats 4000000 in
theorem r175r {ks : List cT} {B0 : Nat} (K : KE KS0 ks B0) {σ : sg} {ρ : Nat → xE} {h : List xE} (hT : HT ks σ ρ h) {c : Nat} {x1 : Int32} (e1 : x1.toInt = (c : Int)) {x2 : Int32} (e2 : x2.toInt = 0 ∨ x2.toInt = 1) {J : sg → Prop} {L : LT} {Fa : Nat} (JL : ∀ σ, J σ → (∀ k, ltr σ c k = L.1 k) ∧ nw σ (282 * c + 31) ≤ 250) (hL : ∀ j, 250 ≤ j → L.1 j = -1) (Jat : ∀ σ v, J σ → J (us σ 60 16 v)) (hc : c < 24) {n p q : Nat} (R : ∀ {σ1 : sg} {h1 : List xE} {y1 y2 : Int32} {p1 q1 : Nat}, HT ks σ1 ρ h1 → J σ1 → fl σ1 16 = (p1 : Int) → y1.toInt = (c : Int) → y2.toInt = 0 ∨ y2.toInt = 1 → PP n L 3 p1 = some q1 → q1 ≤ 250 → yM 176 (Fa + (2 * (q1 - p1) + 4)) 0 [.ref (60 + 1), .int y1, .int y2] h1 (RQL ks ρ (fun σ2 _ => J σ2 ∧ fl σ2 16 = (q1 : Int)))) (p0 : c < 24) (p1 : J σ) (p2 : fl σ 16 = (p : Int)) (p3 : PP (n + 1) L 2 p = some q) (p4 : q ≤ 250) : yM 175 (Fa + (2 * (q - p) + 5)) 0 [.ref (60 + 1), .int x1, .int x2] h (RQL ks ρ (fun σ' r => J σ' ∧ fl σ' 16 = (q : Int))) := by
  refine yM.st xM_175 rfl rfl (fun lv g => ?_)
  have g0 := g 0 _ rfl
  have g1 := g 1 _ rfl
  have g2 := g 2 _ rfl
  obtain ⟨a, h1, h2⟩ := PP2 p3
  have b1 := (PP_lt h1 hL).2 (by decide) (by decide)
  have b2 := (PP_lt h2 hL).1
  refine yT.aan (pc' := 1) g0 rfl rfl rfl ?_
  refine yT.iln (pc' := 2) g1 rfl rfl ?_
  refine yT.iln (pc' := 3) g2 rfl rfl ?_
  refine kRL (yT.cc (G2 := 0) (pc' := 6) rfl rfl rfl hT (K.up rfl : xnth ks 60 = some (19, 0)) xM_176 (R (p1 := p) hT p1 (by omega) (by omega) (by omega) h1 (by omega)) rfl (by omega) (by decide) rfl) (fun h101 σ105 x104 hT102 E103 => ?_)
  obtain ⟨J106, f107⟩ := E103
  refine yT.p (pc' := 7) (lv' := xst2 _ 3 (.long x104)) rfl rfl (fun _ _ _ _ => rfl) ?_
  have L108 : ∀ (n123 : Nat) (lv109 : xLv) (σ115 : sg) (b112 : Nat) (h110 : List xE) (x116 : Int64), HT ks σ115 ρ h110 → J σ115 → fl σ115 16 = (b112 : Int) → xget lv109 0 = some (.ref (60 + 1)) → xget lv109 1 = some (.int x1) → xget lv109 2 = some (.int x2) → xget lv109 3 = some (.long x116) → PP n L 5 b112 = some q → p < b112 ∧ b112 ≤ q → q - b112 < n123 → yT 0 [] rX9_term (Fa + (2 * (q - p) + 5)) 0 7 lv109 [] h110 (RQL ks ρ (fun σ' r => J σ' ∧ fl σ' 16 = (q : Int))) := by
    intro n123
    induction n123 with
    | zero => intro lv109 σ115 b112 h110 x116 hT111 J114 f113 g117 g118 g119 g120 i121 i122 m124; exact absurd m124 (Nat.not_lt_zero _)
    | succ n123 ih125 =>
      intro lv109 σ115 b112 h110 x116 hT111 J114 f113 g117 g118 g119 g120 i121 i122 m124
      have h4 := PP5 i121
      refine yT.aan (pc' := 8) g117 rfl rfl rfl ?_
      refine yT.iln (pc' := 9) g118 rfl rfl ?_
      refine yT.aan (pc' := 10) g117 rfl rfl rfl ?_
      refine yT.cgX (pc' := 13) rfl rfl hT111 (K.up rfl) rfl rfl (fun x126 _ i127 j128 z129 => ?_)
      have e130 : x126.toInt = (b112 : Int) := (congrArg Int32.toInt z129).trans f113
      refine kSI (yT.cc (G2 := 0) (pc' := 16) rfl rfl rfl hT111 (K.up rfl : xnth ks 60 = some (19, 0)) xM_170 (r170 (c := c) (k := b112) K hT111 e1 e130 hc (JL _ J114).2) rfl (by omega) (by decide) rfl) (fun h131 x134 hT132 E133 => ?_)
      have e135 : x134.toInt = L.1 (b112) := E133.trans ((JL _ J114).1 _)
      refine yT.kb (pc' := 18) rfl rfl (by decide) (fun x136 e137 => ?_)
      refine yT.if2 (t := 49) (pc' := 21) rfl rfl rfl (c2_eq e135 e137) (fun c138 => ?_) (fun c138 => ?_)
      · obtain ⟨a2, h5, h6⟩ := h4.1 (by omega)
        have b5 := (PP_lt h5 hL).2 (by decide) (by decide)
        have b6 := (PP_lt h6 hL).1
        refine yT.aan (pc' := 50) g117 rfl rfl rfl ?_
        refine yT.iln (pc' := 51) g118 rfl rfl ?_
        refine yT.aan (pc' := 52) g117 rfl rfl rfl ?_
        refine yT.cgX (pc' := 55) rfl rfl hT132 (K.up rfl) rfl rfl (fun x139 _ i140 j141 z142 => ?_)
        have e143 : x139.toInt = (b112 : Int) := (congrArg Int32.toInt z142).trans f113
        refine kSI (yT.cc (G2 := 0) (pc' := 58) rfl rfl rfl hT132 (K.up rfl : xnth ks 60 = some (19, 0)) xM_170 (r170 (c := c) (k := b112) K hT132 e1 e143 hc (JL _ J114).2) rfl (by omega) (by decide) rfl) (fun h144 x147 hT145 E146 => ?_)
        have e148 : x147.toInt = L.1 (b112) := E146.trans ((JL _ J114).1 _)
        refine yT.p (pc' := 60) (lv' := xst1 _ 5 (.int x147)) rfl rfl (fun _ _ _ _ => rfl) ?_
        refine yT.aan (pc' := 61) (xg_ne g117 rfl) rfl rfl rfl ?_
        refine yT.p (pc' := 62) rfl rfl (fun _ _ _ _ => rfl) ?_
        refine yT.cgX (pc' := 65) rfl rfl hT145 (K.up rfl) rfl rfl (fun x149 _ i150 j151 z152 => ?_)
        have e153 : x149.toInt = (b112 : Int) := (congrArg Int32.toInt z152).trans f113
        refine yT.kI (pc' := 66) rfl rfl (by decide) (fun x154 e155 => ?_)
        refine yT.ad2 (pc' := 67) (Z := (b112 : Int) + 1) e153 e155 rfl rfl (by omega) (fun x156 e157 => ?_)
        refine yT.cpX (c := x156) (pc' := 70) rfl rfl hT145 (K.up rfl) rfl rfl rfl e157 (by omega) rfl (fun h158 hT159 _ _ => ?_)
        have f160 : fl (us σ115 60 16 x156) 16 = (b112 : Int) + 1 := fl_at.trans e157
        have J161 := Jat _ x156 J114
        refine yT.iln (pc' := 71) (xg_ne g119 rfl) rfl rfl ?_
        refine yT.if1 (t := 85) (pc' := 74) rfl rfl rfl (c1_eq rfl) (fun c162 => ?_) (fun c162 => ?_)
        · refine yT.kI (pc' := 86) rfl rfl (by decide) (fun x163 e164 => ?_)
          refine yT.p (pc' := 88) (lv' := xst1 _ 6 (.int x163)) rfl rfl (fun _ _ _ _ => rfl) ?_
          refine yT.aan (pc' := 89) (xg_ne (xg_ne g117 rfl) rfl) rfl rfl rfl ?_
          refine yT.iln (pc' := 90) (xg_ne (xg_ne g118 rfl) rfl) rfl rfl ?_
          refine yT.il (pc' := 92) xg_eq rfl rfl ?_
          refine kRL (yT.cc (G2 := 0) (pc' := 95) rfl rfl rfl hT159 (K.up rfl : xnth ks 60 = some (19, 0)) xM_176 (R (p1 := b112 + 1) hT159 J161 (by omega) (by omega) (by omega) h5 (by omega)) rfl (by omega) (by decide) rfl) (fun h165 σ169 x168 hT166 E167 => ?_)
          obtain ⟨J170, f171⟩ := E167
          refine yT.p (pc' := 97) (lv' := xst2 _ 7 (.long x168)) rfl rfl (fun _ _ _ _ => rfl) ?_
          refine yT.il (pc' := 99) (xg2_ne xg_eq rfl) rfl rfl ?_
          refine yT.if1 (t := 110) (pc' := 102) rfl rfl rfl (c1_eq e164) (fun c172 => ?_) (fun c172 => by omega)
          refine yT.il (pc' := 112) (xg2_ne xg_eq rfl) rfl rfl ?_
          refine yT.if1 (t := 120) (pc' := 115) rfl rfl rfl (c1_eq e164) (fun c173 => ?_) (fun c173 => by omega)
          refine yT.lln (pc' := 121) (xg2_ne (xg_ne (xg_ne g120 rfl) rfl) rfl) rfl rfl ?_
          refine yT.p (pc' := 134) rfl rfl (fun _ _ _ _ => rfl) ?_
          refine yT.p (pc' := 135) (lv' := xst2 _ 3 (.long x116)) rfl rfl (fun _ _ _ _ => rfl) ?_
          refine yT.p (pc' := 7) rfl rfl (fun _ _ _ _ => rfl) ?_
          exact ih125 _ σ169 (a2) _ x116 hT166 J170 (by omega) (xg2_ne (xg2_ne (xg_ne (xg_ne g117 rfl) rfl) rfl) rfl) (xg2_ne (xg2_ne (xg_ne (xg_ne g118 rfl) rfl) rfl) rfl) (xg2_ne (xg2_ne (xg_ne (xg_ne g119 rfl) rfl) rfl) rfl) xg2_eq h6 (by omega) (by omega)
        · refine yT.lln (pc' := 75) (xg_ne g120 rfl) rfl rfl ?_
          refine kSI (yT.cst (G2 := 0) (pc' := 78) rfl rfl xM_171 (r171  K hT159 x116) rfl (by omega) (by decide) rfl) (fun h174 x177 hT175 E176 => ?_)
          refine yT.if1 (t := 85) (pc' := 81) rfl rfl rfl (c1_ne rfl) (fun c178 => ?_) (fun c178 => ?_)
          · refine yT.kI (pc' := 86) rfl rfl (by decide) (fun x179 e180 => ?_)
            refine yT.p (pc' := 88) (lv' := xst1 _ 6 (.int x179)) rfl rfl (fun _ _ _ _ => rfl) ?_
            refine yT.aan (pc' := 89) (xg_ne (xg_ne g117 rfl) rfl) rfl rfl rfl ?_
            refine yT.iln (pc' := 90) (xg_ne (xg_ne g118 rfl) rfl) rfl rfl ?_
            refine yT.il (pc' := 92) xg_eq rfl rfl ?_
            refine kRL (yT.cc (G2 := 0) (pc' := 95) rfl rfl rfl hT175 (K.up rfl : xnth ks 60 = some (19, 0)) xM_176 (R (p1 := b112 + 1) hT175 J161 (by omega) (by omega) (by omega) h5 (by omega)) rfl (by omega) (by decide) rfl) (fun h181 σ185 x184 hT182 E183 => ?_)
            obtain ⟨J186, f187⟩ := E183
            refine yT.p (pc' := 97) (lv' := xst2 _ 7 (.long x184)) rfl rfl (fun _ _ _ _ => rfl) ?_
            refine yT.il (pc' := 99) (xg2_ne xg_eq rfl) rfl rfl ?_
            refine yT.if1 (t := 110) (pc' := 102) rfl rfl rfl (c1_eq e180) (fun c188 => ?_) (fun c188 => by omega)
            refine yT.il (pc' := 112) (xg2_ne xg_eq rfl) rfl rfl ?_
            refine yT.if1 (t := 120) (pc' := 115) rfl rfl rfl (c1_eq e180) (fun c189 => ?_) (fun c189 => by omega)
            refine yT.lln (pc' := 121) (xg2_ne (xg_ne (xg_ne g120 rfl) rfl) rfl) rfl rfl ?_
            refine yT.p (pc' := 134) rfl rfl (fun _ _ _ _ => rfl) ?_
            refine yT.p (pc' := 135) (lv' := xst2 _ 3 (.long x116)) rfl rfl (fun _ _ _ _ => rfl) ?_
            refine yT.p (pc' := 7) rfl rfl (fun _ _ _ _ => rfl) ?_
            exact ih125 _ σ185 (a2) _ x116 hT182 J186 (by omega) (xg2_ne (xg2_ne (xg_ne (xg_ne g117 rfl) rfl) rfl) rfl) (xg2_ne (xg2_ne (xg_ne (xg_ne g118 rfl) rfl) rfl) rfl) (xg2_ne (xg2_ne (xg_ne (xg_ne g119 rfl) rfl) rfl) rfl) xg2_eq h6 (by omega) (by omega)
          · refine yT.kI (pc' := 82) rfl rfl (by decide) (fun x190 e191 => ?_)
            refine yT.p (pc' := 86) rfl rfl (fun _ _ _ _ => rfl) ?_
            refine yT.p (pc' := 88) (lv' := xst1 _ 6 (.int x190)) rfl rfl (fun _ _ _ _ => rfl) ?_
            refine yT.aan (pc' := 89) (xg_ne (xg_ne g117 rfl) rfl) rfl rfl rfl ?_
            refine yT.iln (pc' := 90) (xg_ne (xg_ne g118 rfl) rfl) rfl rfl ?_
            refine yT.il (pc' := 92) xg_eq rfl rfl ?_
            refine kRL (yT.cc (G2 := 0) (pc' := 95) rfl rfl rfl hT175 (K.up rfl : xnth ks 60 = some (19, 0)) xM_176 (R (p1 := b112 + 1) hT175 J161 (by omega) (by omega) (by omega) h5 (by omega)) rfl (by omega) (by decide) rfl) (fun h192 σ196 x195 hT193 E194 => ?_)
            obtain ⟨J197, f198⟩ := E194
            refine yT.p (pc' := 97) (lv' := xst2 _ 7 (.long x195)) rfl rfl (fun _ _ _ _ => rfl) ?_
            refine yT.il (pc' := 99) (xg2_ne xg_eq rfl) rfl rfl ?_
            refine yT.if1 (t := 110) (pc' := 102) rfl rfl rfl (c1_eq e191) (fun c199 => by omega) (fun c199 => ?_)
            refine yT.ll (pc' := 104) xg2_eq rfl rfl ?_
            refine kSI (yT.cst (G2 := 0) (pc' := 107) rfl rfl xM_171 (r171  K hT193 x195) rfl (by omega) (by decide) rfl) (fun h200 x203 hT201 E202 => ?_)
            refine yT.if1 (t := 124) (pc' := 110) rfl rfl rfl (c1_eq rfl) (fun c204 => ?_) (fun c204 => ?_)
            · refine yT.il (pc' := 126) (xg2_ne (xg_ne xg_eq rfl) rfl) rfl rfl ?_
              refine yT.lln (pc' := 127) (xg2_ne (xg_ne (xg_ne g120 rfl) rfl) rfl) rfl rfl ?_
              refine yT.fi (pc' := 128) rfl rfl (fun _ _ _ _ => rfl) (fun x205 => ?_)
              refine yT.ll (pc' := 130) xg2_eq rfl rfl ?_
              refine yT.fi (pc' := 131) rfl rfl (fun _ _ _ _ => rfl) (fun x206 => ?_)
              refine kSL (yT.cst (G2 := 0) (pc' := 134) rfl rfl xM_172 (r172  K hT201 x147 x205 x206) rfl (by omega) (by decide) rfl) (fun h207 x210 hT208 E209 => ?_)
              refine yT.p (pc' := 135) (lv' := xst2 _ 3 (.long x210)) rfl rfl (fun _ _ _ _ => rfl) ?_
              refine yT.p (pc' := 7) rfl rfl (fun _ _ _ _ => rfl) ?_
              exact ih125 _ σ196 (a2) _ x210 hT208 J197 (by omega) (xg2_ne (xg2_ne (xg_ne (xg_ne g117 rfl) rfl) rfl) rfl) (xg2_ne (xg2_ne (xg_ne (xg_ne g118 rfl) rfl) rfl) rfl) (xg2_ne (xg2_ne (xg_ne (xg_ne g119 rfl) rfl) rfl) rfl) xg2_eq h6 (by omega) (by omega)
            · refine yT.il (pc' := 112) (xg2_ne xg_eq rfl) rfl rfl ?_
              refine yT.if1 (t := 120) (pc' := 115) rfl rfl rfl (c1_eq e191) (fun c211 => by omega) (fun c211 => ?_)
              refine yT.ll (pc' := 117) xg2_eq rfl rfl ?_
              refine yT.p (pc' := 134) rfl rfl (fun _ _ _ _ => rfl) ?_
              refine yT.p (pc' := 135) (lv' := xst2 _ 3 (.long x195)) rfl rfl (fun _ _ _ _ => rfl) ?_
              refine yT.p (pc' := 7) rfl rfl (fun _ _ _ _ => rfl) ?_
              exact ih125 _ σ196 (a2) _ x195 hT201 J197 (by omega) (xg2_ne (xg2_ne (xg_ne (xg_ne g117 rfl) rfl) rfl) rfl) (xg2_ne (xg2_ne (xg_ne (xg_ne g118 rfl) rfl) rfl) rfl) (xg2_ne (xg2_ne (xg_ne (xg_ne g119 rfl) rfl) rfl) rfl) xg2_eq h6 (by omega) (by omega)
      · refine yT.aan (pc' := 22) g117 rfl rfl rfl ?_
        refine yT.iln (pc' := 23) g118 rfl rfl ?_
        refine yT.aan (pc' := 24) g117 rfl rfl rfl ?_
        refine yT.cgX (pc' := 27) rfl rfl hT132 (K.up rfl) rfl rfl (fun x212 _ i213 j214 z215 => ?_)
        have e216 : x212.toInt = (b112 : Int) := (congrArg Int32.toInt z215).trans f113
        refine kSI (yT.cc (G2 := 0) (pc' := 30) rfl rfl rfl hT132 (K.up rfl : xnth ks 60 = some (19, 0)) xM_170 (r170 (c := c) (k := b112) K hT132 e1 e216 hc (JL _ J114).2) rfl (by omega) (by decide) rfl) (fun h217 x220 hT218 E219 => ?_)
        have e221 : x220.toInt = L.1 (b112) := E219.trans ((JL _ J114).1 _)
        refine yT.kb (pc' := 32) rfl rfl (by decide) (fun x222 e223 => ?_)
        refine yT.if2 (t := 49) (pc' := 35) rfl rfl rfl (c2_eq e221 e223) (fun c224 => ?_) (fun c224 => ?_)
        · obtain ⟨a2, h5, h6⟩ := h4.1 (by omega)
          have b5 := (PP_lt h5 hL).2 (by decide) (by decide)
          have b6 := (PP_lt h6 hL).1
          refine yT.aan (pc' := 50) g117 rfl rfl rfl ?_
          refine yT.iln (pc' := 51) g118 rfl rfl ?_
          refine yT.aan (pc' := 52) g117 rfl rfl rfl ?_
          refine yT.cgX (pc' := 55) rfl rfl hT218 (K.up rfl) rfl rfl (fun x225 _ i226 j227 z228 => ?_)
          have e229 : x225.toInt = (b112 : Int) := (congrArg Int32.toInt z228).trans f113
          refine kSI (yT.cc (G2 := 0) (pc' := 58) rfl rfl rfl hT218 (K.up rfl : xnth ks 60 = some (19, 0)) xM_170 (r170 (c := c) (k := b112) K hT218 e1 e229 hc (JL _ J114).2) rfl (by omega) (by decide) rfl) (fun h230 x233 hT231 E232 => ?_)
          have e234 : x233.toInt = L.1 (b112) := E232.trans ((JL _ J114).1 _)
          refine yT.p (pc' := 60) (lv' := xst1 _ 5 (.int x233)) rfl rfl (fun _ _ _ _ => rfl) ?_
          refine yT.aan (pc' := 61) (xg_ne g117 rfl) rfl rfl rfl ?_
          refine yT.p (pc' := 62) rfl rfl (fun _ _ _ _ => rfl) ?_
          refine yT.cgX (pc' := 65) rfl rfl hT231 (K.up rfl) rfl rfl (fun x235 _ i236 j237 z238 => ?_)
          have e239 : x235.toInt = (b112 : Int) := (congrArg Int32.toInt z238).trans f113
          refine yT.kI (pc' := 66) rfl rfl (by decide) (fun x240 e241 => ?_)
          refine yT.ad2 (pc' := 67) (Z := (b112 : Int) + 1) e239 e241 rfl rfl (by omega) (fun x242 e243 => ?_)
          refine yT.cpX (c := x242) (pc' := 70) rfl rfl hT231 (K.up rfl) rfl rfl rfl e243 (by omega) rfl (fun h244 hT245 _ _ => ?_)
          have f246 : fl (us σ115 60 16 x242) 16 = (b112 : Int) + 1 := fl_at.trans e243
          have J247 := Jat _ x242 J114
          refine yT.iln (pc' := 71) (xg_ne g119 rfl) rfl rfl ?_
          refine yT.if1 (t := 85) (pc' := 74) rfl rfl rfl (c1_eq rfl) (fun c248 => ?_) (fun c248 => ?_)
          · refine yT.kI (pc' := 86) rfl rfl (by decide) (fun x249 e250 => ?_)
            refine yT.p (pc' := 88) (lv' := xst1 _ 6 (.int x249)) rfl rfl (fun _ _ _ _ => rfl) ?_
            refine yT.aan (pc' := 89) (xg_ne (xg_ne g117 rfl) rfl) rfl rfl rfl ?_
            refine yT.iln (pc' := 90) (xg_ne (xg_ne g118 rfl) rfl) rfl rfl ?_
            refine yT.il (pc' := 92) xg_eq rfl rfl ?_
            refine kRL (yT.cc (G2 := 0) (pc' := 95) rfl rfl rfl hT245 (K.up rfl : xnth ks 60 = some (19, 0)) xM_176 (R (p1 := b112 + 1) hT245 J247 (by omega) (by omega) (by omega) h5 (by omega)) rfl (by omega) (by decide) rfl) (fun h251 σ255 x254 hT252 E253 => ?_)
            obtain ⟨J256, f257⟩ := E253
            refine yT.p (pc' := 97) (lv' := xst2 _ 7 (.long x254)) rfl rfl (fun _ _ _ _ => rfl) ?_
            refine yT.il (pc' := 99) (xg2_ne xg_eq rfl) rfl rfl ?_
            refine yT.if1 (t := 110) (pc' := 102) rfl rfl rfl (c1_eq e250) (fun c258 => ?_) (fun c258 => by omega)
            refine yT.il (pc' := 112) (xg2_ne xg_eq rfl) rfl rfl ?_
            refine yT.if1 (t := 120) (pc' := 115) rfl rfl rfl (c1_eq e250) (fun c259 => ?_) (fun c259 => by omega)
            refine yT.lln (pc' := 121) (xg2_ne (xg_ne (xg_ne g120 rfl) rfl) rfl) rfl rfl ?_
            refine yT.p (pc' := 134) rfl rfl (fun _ _ _ _ => rfl) ?_
            refine yT.p (pc' := 135) (lv' := xst2 _ 3 (.long x116)) rfl rfl (fun _ _ _ _ => rfl) ?_
            refine yT.p (pc' := 7) rfl rfl (fun _ _ _ _ => rfl) ?_
            exact ih125 _ σ255 (a2) _ x116 hT252 J256 (by omega) (xg2_ne (xg2_ne (xg_ne (xg_ne g117 rfl) rfl) rfl) rfl) (xg2_ne (xg2_ne (xg_ne (xg_ne g118 rfl) rfl) rfl) rfl) (xg2_ne (xg2_ne (xg_ne (xg_ne g119 rfl) rfl) rfl) rfl) xg2_eq h6 (by omega) (by omega)
          · refine yT.lln (pc' := 75) (xg_ne g120 rfl) rfl rfl ?_
            refine kSI (yT.cst (G2 := 0) (pc' := 78) rfl rfl xM_171 (r171  K hT245 x116) rfl (by omega) (by decide) rfl) (fun h260 x263 hT261 E262 => ?_)
            refine yT.if1 (t := 85) (pc' := 81) rfl rfl rfl (c1_ne rfl) (fun c264 => ?_) (fun c264 => ?_)
            · refine yT.kI (pc' := 86) rfl rfl (by decide) (fun x265 e266 => ?_)
              refine yT.p (pc' := 88) (lv' := xst1 _ 6 (.int x265)) rfl rfl (fun _ _ _ _ => rfl) ?_
              refine yT.aan (pc' := 89) (xg_ne (xg_ne g117 rfl) rfl) rfl rfl rfl ?_
              refine yT.iln (pc' := 90) (xg_ne (xg_ne g118 rfl) rfl) rfl rfl ?_
              refine yT.il (pc' := 92) xg_eq rfl rfl ?_
              refine kRL (yT.cc (G2 := 0) (pc' := 95) rfl rfl rfl hT261 (K.up rfl : xnth ks 60 = some (19, 0)) xM_176 (R (p1 := b112 + 1) hT261 J247 (by omega) (by omega) (by omega) h5 (by omega)) rfl (by omega) (by decide) rfl) (fun h267 σ271 x270 hT268 E269 => ?_)
              obtain ⟨J272, f273⟩ := E269
              refine yT.p (pc' := 97) (lv' := xst2 _ 7 (.long x270)) rfl rfl (fun _ _ _ _ => rfl) ?_
              refine yT.il (pc' := 99) (xg2_ne xg_eq rfl) rfl rfl ?_
              refine yT.if1 (t := 110) (pc' := 102) rfl rfl rfl (c1_eq e266) (fun c274 => ?_) (fun c274 => by omega)
              refine yT.il (pc' := 112) (xg2_ne xg_eq rfl) rfl rfl ?_
              refine yT.if1 (t := 120) (pc' := 115) rfl rfl rfl (c1_eq e266) (fun c275 => ?_) (fun c275 => by omega)
              refine yT.lln (pc' := 121) (xg2_ne (xg_ne (xg_ne g120 rfl) rfl) rfl) rfl rfl ?_
              refine yT.p (pc' := 134) rfl rfl (fun _ _ _ _ => rfl) ?_
              refine yT.p (pc' := 135) (lv' := xst2 _ 3 (.long x116)) rfl rfl (fun _ _ _ _ => rfl) ?_
              refine yT.p (pc' := 7) rfl rfl (fun _ _ _ _ => rfl) ?_
              exact ih125 _ σ271 (a2) _ x116 hT268 J272 (by omega) (xg2_ne (xg2_ne (xg_ne (xg_ne g117 rfl) rfl) rfl) rfl) (xg2_ne (xg2_ne (xg_ne (xg_ne g118 rfl) rfl) rfl) rfl) (xg2_ne (xg2_ne (xg_ne (xg_ne g119 rfl) rfl) rfl) rfl) xg2_eq h6 (by omega) (by omega)
            · refine yT.kI (pc' := 82) rfl rfl (by decide) (fun x276 e277 => ?_)
              refine yT.p (pc' := 86) rfl rfl (fun _ _ _ _ => rfl) ?_
              refine yT.p (pc' := 88) (lv' := xst1 _ 6 (.int x276)) rfl rfl (fun _ _ _ _ => rfl) ?_
              refine yT.aan (pc' := 89) (xg_ne (xg_ne g117 rfl) rfl) rfl rfl rfl ?_
              refine yT.iln (pc' := 90) (xg_ne (xg_ne g118 rfl) rfl) rfl rfl ?_
              refine yT.il (pc' := 92) xg_eq rfl rfl ?_
              refine kRL (yT.cc (G2 := 0) (pc' := 95) rfl rfl rfl hT261 (K.up rfl : xnth ks 60 = some (19, 0)) xM_176 (R (p1 := b112 + 1) hT261 J247 (by omega) (by omega) (by omega) h5 (by omega)) rfl (by omega) (by decide) rfl) (fun h278 σ282 x281 hT279 E280 => ?_)
              obtain ⟨J283, f284⟩ := E280
              refine yT.p (pc' := 97) (lv' := xst2 _ 7 (.long x281)) rfl rfl (fun _ _ _ _ => rfl) ?_
              refine yT.il (pc' := 99) (xg2_ne xg_eq rfl) rfl rfl ?_
              refine yT.if1 (t := 110) (pc' := 102) rfl rfl rfl (c1_eq e277) (fun c285 => by omega) (fun c285 => ?_)
              refine yT.ll (pc' := 104) xg2_eq rfl rfl ?_
              refine kSI (yT.cst (G2 := 0) (pc' := 107) rfl rfl xM_171 (r171  K hT279 x281) rfl (by omega) (by decide) rfl) (fun h286 x289 hT287 E288 => ?_)
              refine yT.if1 (t := 124) (pc' := 110) rfl rfl rfl (c1_eq rfl) (fun c290 => ?_) (fun c290 => ?_)
              · refine yT.il (pc' := 126) (xg2_ne (xg_ne xg_eq rfl) rfl) rfl rfl ?_
                refine yT.lln (pc' := 127) (xg2_ne (xg_ne (xg_ne g120 rfl) rfl) rfl) rfl rfl ?_
                refine yT.fi (pc' := 128) rfl rfl (fun _ _ _ _ => rfl) (fun x291 => ?_)
                refine yT.ll (pc' := 130) xg2_eq rfl rfl ?_
                refine yT.fi (pc' := 131) rfl rfl (fun _ _ _ _ => rfl) (fun x292 => ?_)
                refine kSL (yT.cst (G2 := 0) (pc' := 134) rfl rfl xM_172 (r172  K hT287 x233 x291 x292) rfl (by omega) (by decide) rfl) (fun h293 x296 hT294 E295 => ?_)
                refine yT.p (pc' := 135) (lv' := xst2 _ 3 (.long x296)) rfl rfl (fun _ _ _ _ => rfl) ?_
                refine yT.p (pc' := 7) rfl rfl (fun _ _ _ _ => rfl) ?_
                exact ih125 _ σ282 (a2) _ x296 hT294 J283 (by omega) (xg2_ne (xg2_ne (xg_ne (xg_ne g117 rfl) rfl) rfl) rfl) (xg2_ne (xg2_ne (xg_ne (xg_ne g118 rfl) rfl) rfl) rfl) (xg2_ne (xg2_ne (xg_ne (xg_ne g119 rfl) rfl) rfl) rfl) xg2_eq h6 (by omega) (by omega)
              · refine yT.il (pc' := 112) (xg2_ne xg_eq rfl) rfl rfl ?_
                refine yT.if1 (t := 120) (pc' := 115) rfl rfl rfl (c1_eq e277) (fun c297 => by omega) (fun c297 => ?_)
                refine yT.ll (pc' := 117) xg2_eq rfl rfl ?_
                refine yT.p (pc' := 134) rfl rfl (fun _ _ _ _ => rfl) ?_
                refine yT.p (pc' := 135) (lv' := xst2 _ 3 (.long x281)) rfl rfl (fun _ _ _ _ => rfl) ?_
                refine yT.p (pc' := 7) rfl rfl (fun _ _ _ _ => rfl) ?_
                exact ih125 _ σ282 (a2) _ x281 hT287 J283 (by omega) (xg2_ne (xg2_ne (xg_ne (xg_ne g117 rfl) rfl) rfl) rfl) (xg2_ne (xg2_ne (xg_ne (xg_ne g118 rfl) rfl) rfl) rfl) (xg2_ne (xg2_ne (xg_ne (xg_ne g119 rfl) rfl) rfl) rfl) xg2_eq h6 (by omega) (by omega)
        · refine yT.aan (pc' := 36) g117 rfl rfl rfl ?_
          refine yT.iln (pc' := 37) g118 rfl rfl ?_
          refine yT.aan (pc' := 38) g117 rfl rfl rfl ?_
          refine yT.cgX (pc' := 41) rfl rfl hT218 (K.up rfl) rfl rfl (fun x298 _ i299 j300 z301 => ?_)
          have e302 : x298.toInt = (b112 : Int) := (congrArg Int32.toInt z301).trans f113
          refine kSI (yT.cc (G2 := 0) (pc' := 44) rfl rfl rfl hT218 (K.up rfl : xnth ks 60 = some (19, 0)) xM_170 (r170 (c := c) (k := b112) K hT218 e1 e302 hc (JL _ J114).2) rfl (by omega) (by decide) rfl) (fun h303 x306 hT304 E305 => ?_)
          have e307 : x306.toInt = L.1 (b112) := E305.trans ((JL _ J114).1 _)
          refine yT.kb (pc' := 46) rfl rfl (by decide) (fun x308 e309 => ?_)
          refine yT.if2 (t := 138) (pc' := 49) rfl rfl rfl (c2_ne e307 e309) (fun c310 => ?_) (fun c310 => ?_)
          · have h7 := h4.2 (by omega)
            refine yT.lln (pc' := 139) g120 rfl rfl ?_
            exact yT.retL rfl rfl ⟨_, hT304, _, rfl, ⟨J114, by omega⟩⟩
          · obtain ⟨a2, h5, h6⟩ := h4.1 (by omega)
            have b5 := (PP_lt h5 hL).2 (by decide) (by decide)
            have b6 := (PP_lt h6 hL).1
            refine yT.aan (pc' := 50) g117 rfl rfl rfl ?_
            refine yT.iln (pc' := 51) g118 rfl rfl ?_
            refine yT.aan (pc' := 52) g117 rfl rfl rfl ?_
            refine yT.cgX (pc' := 55) rfl rfl hT304 (K.up rfl) rfl rfl (fun x311 _ i312 j313 z314 => ?_)
            have e315 : x311.toInt = (b112 : Int) := (congrArg Int32.toInt z314).trans f113
            refine kSI (yT.cc (G2 := 0) (pc' := 58) rfl rfl rfl hT304 (K.up rfl : xnth ks 60 = some (19, 0)) xM_170 (r170 (c := c) (k := b112) K hT304 e1 e315 hc (JL _ J114).2) rfl (by omega) (by decide) rfl) (fun h316 x319 hT317 E318 => ?_)
            have e320 : x319.toInt = L.1 (b112) := E318.trans ((JL _ J114).1 _)
            refine yT.p (pc' := 60) (lv' := xst1 _ 5 (.int x319)) rfl rfl (fun _ _ _ _ => rfl) ?_
            refine yT.aan (pc' := 61) (xg_ne g117 rfl) rfl rfl rfl ?_
            refine yT.p (pc' := 62) rfl rfl (fun _ _ _ _ => rfl) ?_
            refine yT.cgX (pc' := 65) rfl rfl hT317 (K.up rfl) rfl rfl (fun x321 _ i322 j323 z324 => ?_)
            have e325 : x321.toInt = (b112 : Int) := (congrArg Int32.toInt z324).trans f113
            refine yT.kI (pc' := 66) rfl rfl (by decide) (fun x326 e327 => ?_)
            refine yT.ad2 (pc' := 67) (Z := (b112 : Int) + 1) e325 e327 rfl rfl (by omega) (fun x328 e329 => ?_)
            refine yT.cpX (c := x328) (pc' := 70) rfl rfl hT317 (K.up rfl) rfl rfl rfl e329 (by omega) rfl (fun h330 hT331 _ _ => ?_)
            have f332 : fl (us σ115 60 16 x328) 16 = (b112 : Int) + 1 := fl_at.trans e329
            have J333 := Jat _ x328 J114
            refine yT.iln (pc' := 71) (xg_ne g119 rfl) rfl rfl ?_
            refine yT.if1 (t := 85) (pc' := 74) rfl rfl rfl (c1_eq rfl) (fun c334 => ?_) (fun c334 => ?_)
            · refine yT.kI (pc' := 86) rfl rfl (by decide) (fun x335 e336 => ?_)
              refine yT.p (pc' := 88) (lv' := xst1 _ 6 (.int x335)) rfl rfl (fun _ _ _ _ => rfl) ?_
              refine yT.aan (pc' := 89) (xg_ne (xg_ne g117 rfl) rfl) rfl rfl rfl ?_
              refine yT.iln (pc' := 90) (xg_ne (xg_ne g118 rfl) rfl) rfl rfl ?_
              refine yT.il (pc' := 92) xg_eq rfl rfl ?_
              refine kRL (yT.cc (G2 := 0) (pc' := 95) rfl rfl rfl hT331 (K.up rfl : xnth ks 60 = some (19, 0)) xM_176 (R (p1 := b112 + 1) hT331 J333 (by omega) (by omega) (by omega) h5 (by omega)) rfl (by omega) (by decide) rfl) (fun h337 σ341 x340 hT338 E339 => ?_)
              obtain ⟨J342, f343⟩ := E339
              refine yT.p (pc' := 97) (lv' := xst2 _ 7 (.long x340)) rfl rfl (fun _ _ _ _ => rfl) ?_
              refine yT.il (pc' := 99) (xg2_ne xg_eq rfl) rfl rfl ?_
              refine yT.if1 (t := 110) (pc' := 102) rfl rfl rfl (c1_eq e336) (fun c344 => ?_) (fun c344 => by omega)
              refine yT.il (pc' := 112) (xg2_ne xg_eq rfl) rfl rfl ?_
              refine yT.if1 (t := 120) (pc' := 115) rfl rfl rfl (c1_eq e336) (fun c345 => ?_) (fun c345 => by omega)
              refine yT.lln (pc' := 121) (xg2_ne (xg_ne (xg_ne g120 rfl) rfl) rfl) rfl rfl ?_
              refine yT.p (pc' := 134) rfl rfl (fun _ _ _ _ => rfl) ?_
              refine yT.p (pc' := 135) (lv' := xst2 _ 3 (.long x116)) rfl rfl (fun _ _ _ _ => rfl) ?_
              refine yT.p (pc' := 7) rfl rfl (fun _ _ _ _ => rfl) ?_
              exact ih125 _ σ341 (a2) _ x116 hT338 J342 (by omega) (xg2_ne (xg2_ne (xg_ne (xg_ne g117 rfl) rfl) rfl) rfl) (xg2_ne (xg2_ne (xg_ne (xg_ne g118 rfl) rfl) rfl) rfl) (xg2_ne (xg2_ne (xg_ne (xg_ne g119 rfl) rfl) rfl) rfl) xg2_eq h6 (by omega) (by omega)
            · refine yT.lln (pc' := 75) (xg_ne g120 rfl) rfl rfl ?_
              refine kSI (yT.cst (G2 := 0) (pc' := 78) rfl rfl xM_171 (r171  K hT331 x116) rfl (by omega) (by decide) rfl) (fun h346 x349 hT347 E348 => ?_)
              refine yT.if1 (t := 85) (pc' := 81) rfl rfl rfl (c1_ne rfl) (fun c350 => ?_) (fun c350 => ?_)
              · refine yT.kI (pc' := 86) rfl rfl (by decide) (fun x351 e352 => ?_)
                refine yT.p (pc' := 88) (lv' := xst1 _ 6 (.int x351)) rfl rfl (fun _ _ _ _ => rfl) ?_
                refine yT.aan (pc' := 89) (xg_ne (xg_ne g117 rfl) rfl) rfl rfl rfl ?_
                refine yT.iln (pc' := 90) (xg_ne (xg_ne g118 rfl) rfl) rfl rfl ?_
                refine yT.il (pc' := 92) xg_eq rfl rfl ?_
                refine kRL (yT.cc (G2 := 0) (pc' := 95) rfl rfl rfl hT347 (K.up rfl : xnth ks 60 = some (19, 0)) xM_176 (R (p1 := b112 + 1) hT347 J333 (by omega) (by omega) (by omega) h5 (by omega)) rfl (by omega) (by decide) rfl) (fun h353 σ357 x356 hT354 E355 => ?_)
                obtain ⟨J358, f359⟩ := E355
                refine yT.p (pc' := 97) (lv' := xst2 _ 7 (.long x356)) rfl rfl (fun _ _ _ _ => rfl) ?_
                refine yT.il (pc' := 99) (xg2_ne xg_eq rfl) rfl rfl ?_
                refine yT.if1 (t := 110) (pc' := 102) rfl rfl rfl (c1_eq e352) (fun c360 => ?_) (fun c360 => by omega)
                refine yT.il (pc' := 112) (xg2_ne xg_eq rfl) rfl rfl ?_
                refine yT.if1 (t := 120) (pc' := 115) rfl rfl rfl (c1_eq e352) (fun c361 => ?_) (fun c361 => by omega)
                refine yT.lln (pc' := 121) (xg2_ne (xg_ne (xg_ne g120 rfl) rfl) rfl) rfl rfl ?_
                refine yT.p (pc' := 134) rfl rfl (fun _ _ _ _ => rfl) ?_
                refine yT.p (pc' := 135) (lv' := xst2 _ 3 (.long x116)) rfl rfl (fun _ _ _ _ => rfl) ?_
                refine yT.p (pc' := 7) rfl rfl (fun _ _ _ _ => rfl) ?_
                exact ih125 _ σ357 (a2) _ x116 hT354 J358 (by omega) (xg2_ne (xg2_ne (xg_ne (xg_ne g117 rfl) rfl) rfl) rfl) (xg2_ne (xg2_ne (xg_ne (xg_ne g118 rfl) rfl) rfl) rfl) (xg2_ne (xg2_ne (xg_ne (xg_ne g119 rfl) rfl) rfl) rfl) xg2_eq h6 (by omega) (by omega)
              · refine yT.kI (pc' := 82) rfl rfl (by decide) (fun x362 e363 => ?_)
                refine yT.p (pc' := 86) rfl rfl (fun _ _ _ _ => rfl) ?_
                refine yT.p (pc' := 88) (lv' := xst1 _ 6 (.int x362)) rfl rfl (fun _ _ _ _ => rfl) ?_
                refine yT.aan (pc' := 89) (xg_ne (xg_ne g117 rfl) rfl) rfl rfl rfl ?_
                refine yT.iln (pc' := 90) (xg_ne (xg_ne g118 rfl) rfl) rfl rfl ?_
                refine yT.il (pc' := 92) xg_eq rfl rfl ?_
                refine kRL (yT.cc (G2 := 0) (pc' := 95) rfl rfl rfl hT347 (K.up rfl : xnth ks 60 = some (19, 0)) xM_176 (R (p1 := b112 + 1) hT347 J333 (by omega) (by omega) (by omega) h5 (by omega)) rfl (by omega) (by decide) rfl) (fun h364 σ368 x367 hT365 E366 => ?_)
                obtain ⟨J369, f370⟩ := E366
                refine yT.p (pc' := 97) (lv' := xst2 _ 7 (.long x367)) rfl rfl (fun _ _ _ _ => rfl) ?_
                refine yT.il (pc' := 99) (xg2_ne xg_eq rfl) rfl rfl ?_
                refine yT.if1 (t := 110) (pc' := 102) rfl rfl rfl (c1_eq e363) (fun c371 => by omega) (fun c371 => ?_)
                refine yT.ll (pc' := 104) xg2_eq rfl rfl ?_
                refine kSI (yT.cst (G2 := 0) (pc' := 107) rfl rfl xM_171 (r171  K hT365 x367) rfl (by omega) (by decide) rfl) (fun h372 x375 hT373 E374 => ?_)
                refine yT.if1 (t := 124) (pc' := 110) rfl rfl rfl (c1_eq rfl) (fun c376 => ?_) (fun c376 => ?_)
                · refine yT.il (pc' := 126) (xg2_ne (xg_ne xg_eq rfl) rfl) rfl rfl ?_
                  refine yT.lln (pc' := 127) (xg2_ne (xg_ne (xg_ne g120 rfl) rfl) rfl) rfl rfl ?_
                  refine yT.fi (pc' := 128) rfl rfl (fun _ _ _ _ => rfl) (fun x377 => ?_)
                  refine yT.ll (pc' := 130) xg2_eq rfl rfl ?_
                  refine yT.fi (pc' := 131) rfl rfl (fun _ _ _ _ => rfl) (fun x378 => ?_)
                  refine kSL (yT.cst (G2 := 0) (pc' := 134) rfl rfl xM_172 (r172  K hT373 x319 x377 x378) rfl (by omega) (by decide) rfl) (fun h379 x382 hT380 E381 => ?_)
                  refine yT.p (pc' := 135) (lv' := xst2 _ 3 (.long x382)) rfl rfl (fun _ _ _ _ => rfl) ?_
                  refine yT.p (pc' := 7) rfl rfl (fun _ _ _ _ => rfl) ?_
                  exact ih125 _ σ368 (a2) _ x382 hT380 J369 (by omega) (xg2_ne (xg2_ne (xg_ne (xg_ne g117 rfl) rfl) rfl) rfl) (xg2_ne (xg2_ne (xg_ne (xg_ne g118 rfl) rfl) rfl) rfl) (xg2_ne (xg2_ne (xg_ne (xg_ne g119 rfl) rfl) rfl) rfl) xg2_eq h6 (by omega) (by omega)
                · refine yT.il (pc' := 112) (xg2_ne xg_eq rfl) rfl rfl ?_
                  refine yT.if1 (t := 120) (pc' := 115) rfl rfl rfl (c1_eq e363) (fun c383 => by omega) (fun c383 => ?_)
                  refine yT.ll (pc' := 117) xg2_eq rfl rfl ?_
                  refine yT.p (pc' := 134) rfl rfl (fun _ _ _ _ => rfl) ?_
                  refine yT.p (pc' := 135) (lv' := xst2 _ 3 (.long x367)) rfl rfl (fun _ _ _ _ => rfl) ?_
                  refine yT.p (pc' := 7) rfl rfl (fun _ _ _ _ => rfl) ?_
                  exact ih125 _ σ368 (a2) _ x367 hT373 J369 (by omega) (xg2_ne (xg2_ne (xg_ne (xg_ne g117 rfl) rfl) rfl) rfl) (xg2_ne (xg2_ne (xg_ne (xg_ne g118 rfl) rfl) rfl) rfl) (xg2_ne (xg2_ne (xg_ne (xg_ne g119 rfl) rfl) rfl) rfl) xg2_eq h6 (by omega) (by omega)
  exact L108 _ _ σ105 (a) _ x104 hT102 J106 (by omega) (xg2_ne g0 rfl) (xg2_ne g1 rfl) (xg2_ne g2 rfl) xg2_eq h2 (by omega) (Nat.lt_succ_self _)
-- rX9_choicer
set_option maxRecDepth 100000 in
set_option maxHeartbeats 4000000 in
theorem r177r {ks : List cT} {B0 : Nat} (K : KE KS0 ks B0) {σ : sg} {ρ : Nat → xE} {h : List xE} (hT : HT ks σ ρ h) {c : Nat} {x1 : Int32} (e1 : x1.toInt = (c : Int)) {x2 : Int32} (e2 : x2.toInt = 0 ∨ x2.toInt = 1) {J : sg → Prop} {L : LT} {Fa : Nat} (JL : ∀ σ, J σ → (∀ k, ltr σ c k = L.1 k) ∧ nw σ (282 * c + 31) ≤ 250) (hL : ∀ j, 250 ≤ j → L.1 j = -1) (Jat : ∀ σ v, J σ → J (us σ 60 16 v)) (hc : c < 24) {n p q : Nat} (R : ∀ {σ1 : sg} {h1 : List xE} {y1 y2 : Int32} {p1 q1 : Nat}, HT ks σ1 ρ h1 → J σ1 → fl σ1 16 = (p1 : Int) → y1.toInt = (c : Int) → y2.toInt = 0 ∨ y2.toInt = 1 → PP n L 0 p1 = some q1 → q1 ≤ 250 → yM 173 (Fa + (2 * (q1 - p1) + 7)) 0 [.ref (60 + 1), .int y1, .int y2] h1 (RQL ks ρ (fun σ2 _ => J σ2 ∧ fl σ2 16 = (q1 : Int)))) (p0 : c < 24) (p1 : J σ) (p2 : fl σ 16 = (p : Int)) (p3 : CH (PP n L) p q) (p4 : q ≤ 250) : yM 177 (Fa + (2 * (q - p) + 4)) 0 [.ref (60 + 1), .int x1, .int x2] h (RQL ks ρ (fun σ' r => J σ' ∧ fl σ' 16 = (q : Int))) := by
  refine yM.st xM_177 rfl rfl (fun lv g => ?_)
  have g0 := g 0 _ rfl
  have g1 := g 1 _ rfl
  have g2 := g 2 _ rfl
  obtain ⟨a, a2, a3, h1, h2, h3, h4⟩ := p3
  have b1 := (PP_lt h1 hL).1
  have b2 := (PP_lt h2 hL).1
  have b3 := (PP_lt h3 hL).1
  refine yT.aan (pc' := 1) g0 rfl rfl rfl ?_
  refine yT.iln (pc' := 2) g1 rfl rfl ?_
  refine yT.iln (pc' := 3) g2 rfl rfl ?_
  refine kRL (yT.cc (G2 := 0) (pc' := 6) rfl rfl rfl hT (K.up rfl : xnth ks 60 = some (19, 0)) xM_173 (R (p1 := p) hT p1 (by omega) (by omega) (by omega) h1 (by omega)) rfl (by omega) (by decide) rfl) (fun h101 σ105 x104 hT102 E103 => ?_)
  obtain ⟨J106, f107⟩ := E103
  refine yT.p (pc' := 7) (lv' := xst2 _ 3 (.long x104)) rfl rfl (fun _ _ _ _ => rfl) ?_
  refine yT.aan (pc' := 8) (xg2_ne g0 rfl) rfl rfl rfl ?_
  refine yT.p (pc' := 9) rfl rfl (fun _ _ _ _ => rfl) ?_
  refine yT.cgX (pc' := 12) rfl rfl hT102 (K.up rfl) rfl rfl (fun x108 _ i109 j110 z111 => ?_)
  have e112 : x108.toInt = (a : Int) := (congrArg Int32.toInt z111).trans f107
  refine yT.kI (pc' := 13) rfl rfl (by decide) (fun x113 e114 => ?_)
  refine yT.ad2 (pc' := 14) (Z := (a : Int) + 1) e112 e114 rfl rfl (by omega) (fun x115 e116 => ?_)
  refine yT.cpX (c := x115) (pc' := 17) rfl rfl hT102 (K.up rfl) rfl rfl rfl e116 (by omega) rfl (fun h117 hT118 _ _ => ?_)
  have f119 : fl (us σ105 60 16 x115) 16 = (a : Int) + 1 := fl_at.trans e116
  have J120 := Jat _ x115 J106
  refine yT.iln (pc' := 18) (xg2_ne g2 rfl) rfl rfl ?_
  refine yT.if1 (t := 32) (pc' := 21) rfl rfl rfl (c1_eq rfl) (fun c121 => ?_) (fun c121 => ?_)
  · refine yT.kI (pc' := 33) rfl rfl (by decide) (fun x122 e123 => ?_)
    refine yT.p (pc' := 35) (lv' := xst1 _ 5 (.int x122)) rfl rfl (fun _ _ _ _ => rfl) ?_
    refine yT.aan (pc' := 36) (xg_ne (xg2_ne g0 rfl) rfl) rfl rfl rfl ?_
    refine yT.iln (pc' := 37) (xg_ne (xg2_ne g1 rfl) rfl) rfl rfl ?_
    refine yT.il (pc' := 39) xg_eq rfl rfl ?_
    refine yT.if1 (t := 52) (pc' := 42) rfl rfl rfl (c1_eq e123) (fun c124 => ?_) (fun c124 => by omega)
    refine yT.kI (pc' := 53) rfl rfl (by decide) (fun x125 e126 => ?_)
    refine kRL (yT.cc (G2 := 0) (pc' := 56) rfl rfl rfl hT118 (K.up rfl : xnth ks 60 = some (19, 0)) xM_173 (R (p1 := a + 1) hT118 J120 (by omega) (by omega) (by omega) h2 (by omega)) rfl (by omega) (by decide) rfl) (fun h127 σ131 x130 hT128 E129 => ?_)
    obtain ⟨J132, f133⟩ := E129
    refine yT.p (pc' := 58) (lv' := xst2 _ 6 (.long x130)) rfl rfl (fun _ _ _ _ => rfl) ?_
    refine yT.aan (pc' := 59) (xg2_ne (xg_ne (xg2_ne g0 rfl) rfl) rfl) rfl rfl rfl ?_
    refine yT.p (pc' := 60) rfl rfl (fun _ _ _ _ => rfl) ?_
    refine yT.cgX (pc' := 63) rfl rfl hT128 (K.up rfl) rfl rfl (fun x134 _ i135 j136 z137 => ?_)
    have e138 : x134.toInt = (a2 : Int) := (congrArg Int32.toInt z137).trans f133
    refine yT.kI (pc' := 64) rfl rfl (by decide) (fun x139 e140 => ?_)
    refine yT.ad2 (pc' := 65) (Z := (a2 : Int) + 1) e138 e140 rfl rfl (by omega) (fun x141 e142 => ?_)
    refine yT.cpX (c := x141) (pc' := 68) rfl rfl hT128 (K.up rfl) rfl rfl rfl e142 (by omega) rfl (fun h143 hT144 _ _ => ?_)
    have f145 : fl (us σ131 60 16 x141) 16 = (a2 : Int) + 1 := fl_at.trans e142
    have J146 := Jat _ x141 J132
    refine yT.aan (pc' := 69) (xg2_ne (xg_ne (xg2_ne g0 rfl) rfl) rfl) rfl rfl rfl ?_
    refine yT.iln (pc' := 70) (xg2_ne (xg_ne (xg2_ne g1 rfl) rfl) rfl) rfl rfl ?_
    refine yT.il (pc' := 72) (xg2_ne xg_eq rfl) rfl rfl ?_
    refine yT.if1 (t := 85) (pc' := 75) rfl rfl rfl (c1_eq e123) (fun c147 => ?_) (fun c147 => by omega)
    refine yT.kI (pc' := 86) rfl rfl (by decide) (fun x148 e149 => ?_)
    refine kRL (yT.cc (G2 := 0) (pc' := 89) rfl rfl rfl hT144 (K.up rfl : xnth ks 60 = some (19, 0)) xM_173 (R (p1 := a2 + 1) hT144 J146 (by omega) (by omega) (by omega) h3 (by omega)) rfl (by omega) (by decide) rfl) (fun h150 σ154 x153 hT151 E152 => ?_)
    obtain ⟨J155, f156⟩ := E152
    refine yT.p (pc' := 91) (lv' := xst2 _ 8 (.long x153)) rfl rfl (fun _ _ _ _ => rfl) ?_
    refine yT.aan (pc' := 92) (xg2_ne (xg2_ne (xg_ne (xg2_ne g0 rfl) rfl) rfl) rfl) rfl rfl rfl ?_
    refine yT.p (pc' := 93) rfl rfl (fun _ _ _ _ => rfl) ?_
    refine yT.cgX (pc' := 96) rfl rfl hT151 (K.up rfl) rfl rfl (fun x157 _ i158 j159 z160 => ?_)
    have e161 : x157.toInt = (a3 : Int) := (congrArg Int32.toInt z160).trans f156
    refine yT.kI (pc' := 97) rfl rfl (by decide) (fun x162 e163 => ?_)
    refine yT.ad2 (pc' := 98) (Z := (a3 : Int) + 1) e161 e163 rfl rfl (by omega) (fun x164 e165 => ?_)
    refine yT.cpX (c := x164) (pc' := 101) rfl rfl hT151 (K.up rfl) rfl rfl rfl e165 (by omega) rfl (fun h166 hT167 _ _ => ?_)
    have f168 : fl (us σ154 60 16 x164) 16 = (a3 : Int) + 1 := fl_at.trans e165
    have J169 := Jat _ x164 J155
    refine yT.il (pc' := 103) (xg2_ne (xg2_ne xg_eq rfl) rfl) rfl rfl ?_
    refine yT.if1 (t := 110) (pc' := 106) rfl rfl rfl (c1_ne e123) (fun c170 => by omega) (fun c170 => ?_)
    refine yT.lln (pc' := 107) (xg2_ne (xg2_ne (xg_ne xg2_eq rfl) rfl) rfl) rfl rfl ?_
    refine yT.p (pc' := 123) rfl rfl (fun _ _ _ _ => rfl) ?_
    exact yT.retL rfl rfl ⟨_, hT167, _, rfl, ⟨J169, by omega⟩⟩
  · refine yT.lln (pc' := 22) xg2_eq rfl rfl ?_
    refine kSI (yT.cst (G2 := 0) (pc' := 25) rfl rfl xM_171 (r171  K hT118 x104) rfl (by omega) (by decide) rfl) (fun h171 x174 hT172 E173 => ?_)
    refine yT.if1 (t := 32) (pc' := 28) rfl rfl rfl (c1_ne rfl) (fun c175 => ?_) (fun c175 => ?_)
    · refine yT.kI (pc' := 33) rfl rfl (by decide) (fun x176 e177 => ?_)
      refine yT.p (pc' := 35) (lv' := xst1 _ 5 (.int x176)) rfl rfl (fun _ _ _ _ => rfl) ?_
      refine yT.aan (pc' := 36) (xg_ne (xg2_ne g0 rfl) rfl) rfl rfl rfl ?_
      refine yT.iln (pc' := 37) (xg_ne (xg2_ne g1 rfl) rfl) rfl rfl ?_
      refine yT.il (pc' := 39) xg_eq rfl rfl ?_
      refine yT.if1 (t := 52) (pc' := 42) rfl rfl rfl (c1_eq e177) (fun c178 => ?_) (fun c178 => by omega)
      refine yT.kI (pc' := 53) rfl rfl (by decide) (fun x179 e180 => ?_)
      refine kRL (yT.cc (G2 := 0) (pc' := 56) rfl rfl rfl hT172 (K.up rfl : xnth ks 60 = some (19, 0)) xM_173 (R (p1 := a + 1) hT172 J120 (by omega) (by omega) (by omega) h2 (by omega)) rfl (by omega) (by decide) rfl) (fun h181 σ185 x184 hT182 E183 => ?_)
      obtain ⟨J186, f187⟩ := E183
      refine yT.p (pc' := 58) (lv' := xst2 _ 6 (.long x184)) rfl rfl (fun _ _ _ _ => rfl) ?_
      refine yT.aan (pc' := 59) (xg2_ne (xg_ne (xg2_ne g0 rfl) rfl) rfl) rfl rfl rfl ?_
      refine yT.p (pc' := 60) rfl rfl (fun _ _ _ _ => rfl) ?_
      refine yT.cgX (pc' := 63) rfl rfl hT182 (K.up rfl) rfl rfl (fun x188 _ i189 j190 z191 => ?_)
      have e192 : x188.toInt = (a2 : Int) := (congrArg Int32.toInt z191).trans f187
      refine yT.kI (pc' := 64) rfl rfl (by decide) (fun x193 e194 => ?_)
      refine yT.ad2 (pc' := 65) (Z := (a2 : Int) + 1) e192 e194 rfl rfl (by omega) (fun x195 e196 => ?_)
      refine yT.cpX (c := x195) (pc' := 68) rfl rfl hT182 (K.up rfl) rfl rfl rfl e196 (by omega) rfl (fun h197 hT198 _ _ => ?_)
      have f199 : fl (us σ185 60 16 x195) 16 = (a2 : Int) + 1 := fl_at.trans e196
      have J200 := Jat _ x195 J186
      refine yT.aan (pc' := 69) (xg2_ne (xg_ne (xg2_ne g0 rfl) rfl) rfl) rfl rfl rfl ?_
      refine yT.iln (pc' := 70) (xg2_ne (xg_ne (xg2_ne g1 rfl) rfl) rfl) rfl rfl ?_
      refine yT.il (pc' := 72) (xg2_ne xg_eq rfl) rfl rfl ?_
      refine yT.if1 (t := 85) (pc' := 75) rfl rfl rfl (c1_eq e177) (fun c201 => ?_) (fun c201 => by omega)
      refine yT.kI (pc' := 86) rfl rfl (by decide) (fun x202 e203 => ?_)
      refine kRL (yT.cc (G2 := 0) (pc' := 89) rfl rfl rfl hT198 (K.up rfl : xnth ks 60 = some (19, 0)) xM_173 (R (p1 := a2 + 1) hT198 J200 (by omega) (by omega) (by omega) h3 (by omega)) rfl (by omega) (by decide) rfl) (fun h204 σ208 x207 hT205 E206 => ?_)
      obtain ⟨J209, f210⟩ := E206
      refine yT.p (pc' := 91) (lv' := xst2 _ 8 (.long x207)) rfl rfl (fun _ _ _ _ => rfl) ?_
      refine yT.aan (pc' := 92) (xg2_ne (xg2_ne (xg_ne (xg2_ne g0 rfl) rfl) rfl) rfl) rfl rfl rfl ?_
      refine yT.p (pc' := 93) rfl rfl (fun _ _ _ _ => rfl) ?_
      refine yT.cgX (pc' := 96) rfl rfl hT205 (K.up rfl) rfl rfl (fun x211 _ i212 j213 z214 => ?_)
      have e215 : x211.toInt = (a3 : Int) := (congrArg Int32.toInt z214).trans f210
      refine yT.kI (pc' := 97) rfl rfl (by decide) (fun x216 e217 => ?_)
      refine yT.ad2 (pc' := 98) (Z := (a3 : Int) + 1) e215 e217 rfl rfl (by omega) (fun x218 e219 => ?_)
      refine yT.cpX (c := x218) (pc' := 101) rfl rfl hT205 (K.up rfl) rfl rfl rfl e219 (by omega) rfl (fun h220 hT221 _ _ => ?_)
      have f222 : fl (us σ208 60 16 x218) 16 = (a3 : Int) + 1 := fl_at.trans e219
      have J223 := Jat _ x218 J209
      refine yT.il (pc' := 103) (xg2_ne (xg2_ne xg_eq rfl) rfl) rfl rfl ?_
      refine yT.if1 (t := 110) (pc' := 106) rfl rfl rfl (c1_ne e177) (fun c224 => by omega) (fun c224 => ?_)
      refine yT.lln (pc' := 107) (xg2_ne (xg2_ne (xg_ne xg2_eq rfl) rfl) rfl) rfl rfl ?_
      refine yT.p (pc' := 123) rfl rfl (fun _ _ _ _ => rfl) ?_
      exact yT.retL rfl rfl ⟨_, hT221, _, rfl, ⟨J223, by omega⟩⟩
    · refine yT.kI (pc' := 29) rfl rfl (by decide) (fun x225 e226 => ?_)
      refine yT.p (pc' := 33) rfl rfl (fun _ _ _ _ => rfl) ?_
      refine yT.p (pc' := 35) (lv' := xst1 _ 5 (.int x225)) rfl rfl (fun _ _ _ _ => rfl) ?_
      refine yT.aan (pc' := 36) (xg_ne (xg2_ne g0 rfl) rfl) rfl rfl rfl ?_
      refine yT.iln (pc' := 37) (xg_ne (xg2_ne g1 rfl) rfl) rfl rfl ?_
      refine yT.il (pc' := 39) xg_eq rfl rfl ?_
      refine yT.if1 (t := 52) (pc' := 42) rfl rfl rfl (c1_eq e226) (fun c227 => by omega) (fun c227 => ?_)
      refine yT.lln (pc' := 43) (xg_ne xg2_eq rfl) rfl rfl ?_
      refine yT.lc2 (pc' := 44) (X := 0) rfl rfl rfl (fun y228 e229 => ?_)
      refine yT.cmp2 (pc' := 45) (U := x104.toInt) (V := 0) rfl e229 rfl rfl (fun x230 c231 => ?_)
      refine yT.if1 (t := 52) (pc' := 48) rfl rfl rfl (c1_eq rfl) (fun c232 => ?_) (fun c232 => ?_)
      · refine yT.kI (pc' := 53) rfl rfl (by decide) (fun x233 e234 => ?_)
        refine kRL (yT.cc (G2 := 0) (pc' := 56) rfl rfl rfl hT172 (K.up rfl : xnth ks 60 = some (19, 0)) xM_173 (R (p1 := a + 1) hT172 J120 (by omega) (by omega) (by omega) h2 (by omega)) rfl (by omega) (by decide) rfl) (fun h235 σ239 x238 hT236 E237 => ?_)
        obtain ⟨J240, f241⟩ := E237
        refine yT.p (pc' := 58) (lv' := xst2 _ 6 (.long x238)) rfl rfl (fun _ _ _ _ => rfl) ?_
        refine yT.aan (pc' := 59) (xg2_ne (xg_ne (xg2_ne g0 rfl) rfl) rfl) rfl rfl rfl ?_
        refine yT.p (pc' := 60) rfl rfl (fun _ _ _ _ => rfl) ?_
        refine yT.cgX (pc' := 63) rfl rfl hT236 (K.up rfl) rfl rfl (fun x242 _ i243 j244 z245 => ?_)
        have e246 : x242.toInt = (a2 : Int) := (congrArg Int32.toInt z245).trans f241
        refine yT.kI (pc' := 64) rfl rfl (by decide) (fun x247 e248 => ?_)
        refine yT.ad2 (pc' := 65) (Z := (a2 : Int) + 1) e246 e248 rfl rfl (by omega) (fun x249 e250 => ?_)
        refine yT.cpX (c := x249) (pc' := 68) rfl rfl hT236 (K.up rfl) rfl rfl rfl e250 (by omega) rfl (fun h251 hT252 _ _ => ?_)
        have f253 : fl (us σ239 60 16 x249) 16 = (a2 : Int) + 1 := fl_at.trans e250
        have J254 := Jat _ x249 J240
        refine yT.aan (pc' := 69) (xg2_ne (xg_ne (xg2_ne g0 rfl) rfl) rfl) rfl rfl rfl ?_
        refine yT.iln (pc' := 70) (xg2_ne (xg_ne (xg2_ne g1 rfl) rfl) rfl) rfl rfl ?_
        refine yT.il (pc' := 72) (xg2_ne xg_eq rfl) rfl rfl ?_
        refine yT.if1 (t := 85) (pc' := 75) rfl rfl rfl (c1_eq e226) (fun c255 => by omega) (fun c255 => ?_)
        refine yT.lln (pc' := 76) (xg2_ne (xg_ne xg2_eq rfl) rfl) rfl rfl ?_
        refine yT.lc2 (pc' := 77) (X := 0) rfl rfl rfl (fun y256 e257 => ?_)
        refine yT.cmp2 (pc' := 78) (U := x104.toInt) (V := 0) rfl e257 rfl rfl (fun x258 c259 => ?_)
        refine yT.if1 (t := 85) (pc' := 81) rfl rfl rfl (c1_ne rfl) (fun c260 => ?_) (fun c260 => ?_)
        · refine yT.kI (pc' := 86) rfl rfl (by decide) (fun x261 e262 => ?_)
          refine kRL (yT.cc (G2 := 0) (pc' := 89) rfl rfl rfl hT252 (K.up rfl : xnth ks 60 = some (19, 0)) xM_173 (R (p1 := a2 + 1) hT252 J254 (by omega) (by omega) (by omega) h3 (by omega)) rfl (by omega) (by decide) rfl) (fun h263 σ267 x266 hT264 E265 => ?_)
          obtain ⟨J268, f269⟩ := E265
          refine yT.p (pc' := 91) (lv' := xst2 _ 8 (.long x266)) rfl rfl (fun _ _ _ _ => rfl) ?_
          refine yT.aan (pc' := 92) (xg2_ne (xg2_ne (xg_ne (xg2_ne g0 rfl) rfl) rfl) rfl) rfl rfl rfl ?_
          refine yT.p (pc' := 93) rfl rfl (fun _ _ _ _ => rfl) ?_
          refine yT.cgX (pc' := 96) rfl rfl hT264 (K.up rfl) rfl rfl (fun x270 _ i271 j272 z273 => ?_)
          have e274 : x270.toInt = (a3 : Int) := (congrArg Int32.toInt z273).trans f269
          refine yT.kI (pc' := 97) rfl rfl (by decide) (fun x275 e276 => ?_)
          refine yT.ad2 (pc' := 98) (Z := (a3 : Int) + 1) e274 e276 rfl rfl (by omega) (fun x277 e278 => ?_)
          refine yT.cpX (c := x277) (pc' := 101) rfl rfl hT264 (K.up rfl) rfl rfl rfl e278 (by omega) rfl (fun h279 hT280 _ _ => ?_)
          have f281 : fl (us σ267 60 16 x277) 16 = (a3 : Int) + 1 := fl_at.trans e278
          have J282 := Jat _ x277 J268
          refine yT.il (pc' := 103) (xg2_ne (xg2_ne xg_eq rfl) rfl) rfl rfl ?_
          refine yT.if1 (t := 110) (pc' := 106) rfl rfl rfl (c1_ne e226) (fun c283 => ?_) (fun c283 => by omega)
          refine yT.lln (pc' := 111) (xg2_ne (xg2_ne (xg_ne xg2_eq rfl) rfl) rfl) rfl rfl ?_
          refine yT.lc2 (pc' := 112) (X := 0) rfl rfl rfl (fun y284 e285 => ?_)
          refine yT.cmp2 (pc' := 113) (U := x104.toInt) (V := 0) rfl e285 rfl rfl (fun x286 c287 => ?_)
          refine yT.if1 (t := 121) (pc' := 116) rfl rfl rfl (c1_eq rfl) (fun c288 => ?_) (fun c288 => ?_)
          · refine yT.ll (pc' := 123) xg2_eq rfl rfl ?_
            exact yT.retL rfl rfl ⟨_, hT280, _, rfl, ⟨J282, by omega⟩⟩
          · refine yT.ll (pc' := 118) (xg2_ne xg2_eq rfl) rfl rfl ?_
            refine yT.p (pc' := 123) rfl rfl (fun _ _ _ _ => rfl) ?_
            exact yT.retL rfl rfl ⟨_, hT280, _, rfl, ⟨J282, by omega⟩⟩
        · refine yT.kI (pc' := 82) rfl rfl (by decide) (fun x289 e290 => ?_)
          refine yT.p (pc' := 86) rfl rfl (fun _ _ _ _ => rfl) ?_
          refine kRL (yT.cc (G2 := 0) (pc' := 89) rfl rfl rfl hT252 (K.up rfl : xnth ks 60 = some (19, 0)) xM_173 (R (p1 := a2 + 1) hT252 J254 (by omega) (by omega) (by omega) h3 (by omega)) rfl (by omega) (by decide) rfl) (fun h291 σ295 x294 hT292 E293 => ?_)
          obtain ⟨J296, f297⟩ := E293
          refine yT.p (pc' := 91) (lv' := xst2 _ 8 (.long x294)) rfl rfl (fun _ _ _ _ => rfl) ?_
          refine yT.aan (pc' := 92) (xg2_ne (xg2_ne (xg_ne (xg2_ne g0 rfl) rfl) rfl) rfl) rfl rfl rfl ?_
          refine yT.p (pc' := 93) rfl rfl (fun _ _ _ _ => rfl) ?_
          refine yT.cgX (pc' := 96) rfl rfl hT292 (K.up rfl) rfl rfl (fun x298 _ i299 j300 z301 => ?_)
          have e302 : x298.toInt = (a3 : Int) := (congrArg Int32.toInt z301).trans f297
          refine yT.kI (pc' := 97) rfl rfl (by decide) (fun x303 e304 => ?_)
          refine yT.ad2 (pc' := 98) (Z := (a3 : Int) + 1) e302 e304 rfl rfl (by omega) (fun x305 e306 => ?_)
          refine yT.cpX (c := x305) (pc' := 101) rfl rfl hT292 (K.up rfl) rfl rfl rfl e306 (by omega) rfl (fun h307 hT308 _ _ => ?_)
          have f309 : fl (us σ295 60 16 x305) 16 = (a3 : Int) + 1 := fl_at.trans e306
          have J310 := Jat _ x305 J296
          refine yT.il (pc' := 103) (xg2_ne (xg2_ne xg_eq rfl) rfl) rfl rfl ?_
          refine yT.if1 (t := 110) (pc' := 106) rfl rfl rfl (c1_ne e226) (fun c311 => ?_) (fun c311 => by omega)
          refine yT.lln (pc' := 111) (xg2_ne (xg2_ne (xg_ne xg2_eq rfl) rfl) rfl) rfl rfl ?_
          refine yT.lc2 (pc' := 112) (X := 0) rfl rfl rfl (fun y312 e313 => ?_)
          refine yT.cmp2 (pc' := 113) (U := x104.toInt) (V := 0) rfl e313 rfl rfl (fun x314 c315 => ?_)
          refine yT.if1 (t := 121) (pc' := 116) rfl rfl rfl (c1_eq rfl) (fun c316 => ?_) (fun c316 => ?_)
          · refine yT.ll (pc' := 123) xg2_eq rfl rfl ?_
            exact yT.retL rfl rfl ⟨_, hT308, _, rfl, ⟨J310, by omega⟩⟩
          · refine yT.ll (pc' := 118) (xg2_ne xg2_eq rfl) rfl rfl ?_
            refine yT.p (pc' := 123) rfl rfl (fun _ _ _ _ => rfl) ?_
            exact yT.retL rfl rfl ⟨_, hT308, _, rfl, ⟨J310, by omega⟩⟩
      · refine yT.kI (pc' := 49) rfl rfl (by decide) (fun x317 e318 => ?_)
        refine yT.p (pc' := 53) rfl rfl (fun _ _ _ _ => rfl) ?_
        refine kRL (yT.cc (G2 := 0) (pc' := 56) rfl rfl rfl hT172 (K.up rfl : xnth ks 60 = some (19, 0)) xM_173 (R (p1 := a + 1) hT172 J120 (by omega) (by omega) (by omega) h2 (by omega)) rfl (by omega) (by decide) rfl) (fun h319 σ323 x322 hT320 E321 => ?_)
        obtain ⟨J324, f325⟩ := E321
        refine yT.p (pc' := 58) (lv' := xst2 _ 6 (.long x322)) rfl rfl (fun _ _ _ _ => rfl) ?_
        refine yT.aan (pc' := 59) (xg2_ne (xg_ne (xg2_ne g0 rfl) rfl) rfl) rfl rfl rfl ?_
        refine yT.p (pc' := 60) rfl rfl (fun _ _ _ _ => rfl) ?_
        refine yT.cgX (pc' := 63) rfl rfl hT320 (K.up rfl) rfl rfl (fun x326 _ i327 j328 z329 => ?_)
        have e330 : x326.toInt = (a2 : Int) := (congrArg Int32.toInt z329).trans f325
        refine yT.kI (pc' := 64) rfl rfl (by decide) (fun x331 e332 => ?_)
        refine yT.ad2 (pc' := 65) (Z := (a2 : Int) + 1) e330 e332 rfl rfl (by omega) (fun x333 e334 => ?_)
        refine yT.cpX (c := x333) (pc' := 68) rfl rfl hT320 (K.up rfl) rfl rfl rfl e334 (by omega) rfl (fun h335 hT336 _ _ => ?_)
        have f337 : fl (us σ323 60 16 x333) 16 = (a2 : Int) + 1 := fl_at.trans e334
        have J338 := Jat _ x333 J324
        refine yT.aan (pc' := 69) (xg2_ne (xg_ne (xg2_ne g0 rfl) rfl) rfl) rfl rfl rfl ?_
        refine yT.iln (pc' := 70) (xg2_ne (xg_ne (xg2_ne g1 rfl) rfl) rfl) rfl rfl ?_
        refine yT.il (pc' := 72) (xg2_ne xg_eq rfl) rfl rfl ?_
        refine yT.if1 (t := 85) (pc' := 75) rfl rfl rfl (c1_eq e226) (fun c339 => by omega) (fun c339 => ?_)
        refine yT.lln (pc' := 76) (xg2_ne (xg_ne xg2_eq rfl) rfl) rfl rfl ?_
        refine yT.lc2 (pc' := 77) (X := 0) rfl rfl rfl (fun y340 e341 => ?_)
        refine yT.cmp2 (pc' := 78) (U := x104.toInt) (V := 0) rfl e341 rfl rfl (fun x342 c343 => ?_)
        refine yT.if1 (t := 85) (pc' := 81) rfl rfl rfl (c1_ne rfl) (fun c344 => ?_) (fun c344 => ?_)
        · refine yT.kI (pc' := 86) rfl rfl (by decide) (fun x345 e346 => ?_)
          refine kRL (yT.cc (G2 := 0) (pc' := 89) rfl rfl rfl hT336 (K.up rfl : xnth ks 60 = some (19, 0)) xM_173 (R (p1 := a2 + 1) hT336 J338 (by omega) (by omega) (by omega) h3 (by omega)) rfl (by omega) (by decide) rfl) (fun h347 σ351 x350 hT348 E349 => ?_)
          obtain ⟨J352, f353⟩ := E349
          refine yT.p (pc' := 91) (lv' := xst2 _ 8 (.long x350)) rfl rfl (fun _ _ _ _ => rfl) ?_
          refine yT.aan (pc' := 92) (xg2_ne (xg2_ne (xg_ne (xg2_ne g0 rfl) rfl) rfl) rfl) rfl rfl rfl ?_
          refine yT.p (pc' := 93) rfl rfl (fun _ _ _ _ => rfl) ?_
          refine yT.cgX (pc' := 96) rfl rfl hT348 (K.up rfl) rfl rfl (fun x354 _ i355 j356 z357 => ?_)
          have e358 : x354.toInt = (a3 : Int) := (congrArg Int32.toInt z357).trans f353
          refine yT.kI (pc' := 97) rfl rfl (by decide) (fun x359 e360 => ?_)
          refine yT.ad2 (pc' := 98) (Z := (a3 : Int) + 1) e358 e360 rfl rfl (by omega) (fun x361 e362 => ?_)
          refine yT.cpX (c := x361) (pc' := 101) rfl rfl hT348 (K.up rfl) rfl rfl rfl e362 (by omega) rfl (fun h363 hT364 _ _ => ?_)
          have f365 : fl (us σ351 60 16 x361) 16 = (a3 : Int) + 1 := fl_at.trans e362
          have J366 := Jat _ x361 J352
          refine yT.il (pc' := 103) (xg2_ne (xg2_ne xg_eq rfl) rfl) rfl rfl ?_
          refine yT.if1 (t := 110) (pc' := 106) rfl rfl rfl (c1_ne e226) (fun c367 => ?_) (fun c367 => by omega)
          refine yT.lln (pc' := 111) (xg2_ne (xg2_ne (xg_ne xg2_eq rfl) rfl) rfl) rfl rfl ?_
          refine yT.lc2 (pc' := 112) (X := 0) rfl rfl rfl (fun y368 e369 => ?_)
          refine yT.cmp2 (pc' := 113) (U := x104.toInt) (V := 0) rfl e369 rfl rfl (fun x370 c371 => ?_)
          refine yT.if1 (t := 121) (pc' := 116) rfl rfl rfl (c1_eq rfl) (fun c372 => ?_) (fun c372 => ?_)
          · refine yT.ll (pc' := 123) xg2_eq rfl rfl ?_
            exact yT.retL rfl rfl ⟨_, hT364, _, rfl, ⟨J366, by omega⟩⟩
          · refine yT.ll (pc' := 118) (xg2_ne xg2_eq rfl) rfl rfl ?_
            refine yT.p (pc' := 123) rfl rfl (fun _ _ _ _ => rfl) ?_
            exact yT.retL rfl rfl ⟨_, hT364, _, rfl, ⟨J366, by omega⟩⟩
        · refine yT.kI (pc' := 82) rfl rfl (by decide) (fun x373 e374 => ?_)
          refine yT.p (pc' := 86) rfl rfl (fun _ _ _ _ => rfl) ?_
          refine kRL (yT.cc (G2 := 0) (pc' := 89) rfl rfl rfl hT336 (K.up rfl : xnth ks 60 = some (19, 0)) xM_173 (R (p1 := a2 + 1) hT336 J338 (by omega) (by omega) (by omega) h3 (by omega)) rfl (by omega) (by decide) rfl) (fun h375 σ379 x378 hT376 E377 => ?_)
          obtain ⟨J380, f381⟩ := E377
          refine yT.p (pc' := 91) (lv' := xst2 _ 8 (.long x378)) rfl rfl (fun _ _ _ _ => rfl) ?_
          refine yT.aan (pc' := 92) (xg2_ne (xg2_ne (xg_ne (xg2_ne g0 rfl) rfl) rfl) rfl) rfl rfl rfl ?_
          refine yT.p (pc' := 93) rfl rfl (fun _ _ _ _ => rfl) ?_
          refine yT.cgX (pc' := 96) rfl rfl hT376 (K.up rfl) rfl rfl (fun x382 _ i383 j384 z385 => ?_)
          have e386 : x382.toInt = (a3 : Int) := (congrArg Int32.toInt z385).trans f381
          refine yT.kI (pc' := 97) rfl rfl (by decide) (fun x387 e388 => ?_)
          refine yT.ad2 (pc' := 98) (Z := (a3 : Int) + 1) e386 e388 rfl rfl (by omega) (fun x389 e390 => ?_)
          refine yT.cpX (c := x389) (pc' := 101) rfl rfl hT376 (K.up rfl) rfl rfl rfl e390 (by omega) rfl (fun h391 hT392 _ _ => ?_)
          have f393 : fl (us σ379 60 16 x389) 16 = (a3 : Int) + 1 := fl_at.trans e390
          have J394 := Jat _ x389 J380
          refine yT.il (pc' := 103) (xg2_ne (xg2_ne xg_eq rfl) rfl) rfl rfl ?_
          refine yT.if1 (t := 110) (pc' := 106) rfl rfl rfl (c1_ne e226) (fun c395 => ?_) (fun c395 => by omega)
          refine yT.lln (pc' := 111) (xg2_ne (xg2_ne (xg_ne xg2_eq rfl) rfl) rfl) rfl rfl ?_
          refine yT.lc2 (pc' := 112) (X := 0) rfl rfl rfl (fun y396 e397 => ?_)
          refine yT.cmp2 (pc' := 113) (U := x104.toInt) (V := 0) rfl e397 rfl rfl (fun x398 c399 => ?_)
          refine yT.if1 (t := 121) (pc' := 116) rfl rfl rfl (c1_eq rfl) (fun c400 => ?_) (fun c400 => ?_)
          · refine yT.ll (pc' := 123) xg2_eq rfl rfl ?_
            exact yT.retL rfl rfl ⟨_, hT392, _, rfl, ⟨J394, by omega⟩⟩
          · refine yT.ll (pc' := 118) (xg2_ne xg2_eq rfl) rfl rfl ?_
            refine yT.p (pc' := 123) rfl rfl (fun _ _ _ _ => rfl) ?_
            exact yT.retL rfl rfl ⟨_, hT392, _, rfl, ⟨J394, by omega⟩⟩
-- rX9_partr
set_option maxRecDepth 100000 in
set_option maxHeartbeats 4000000 in
theorem r176r {ks : List cT} {B0 : Nat} (K : KE KS0 ks B0) {σ : sg} {ρ : Nat → xE} {h : List xE} (hT : HT ks σ ρ h) {c : Nat} {x1 : Int32} (e1 : x1.toInt = (c : Int)) {x2 : Int32} (e2 : x2.toInt = 0 ∨ x2.toInt = 1) {J : sg → Prop} {L : LT} {Fa : Nat} (JL : ∀ σ, J σ → (∀ k, ltr σ c k = L.1 k) ∧ nw σ (282 * c + 31) ≤ 250) (hL : ∀ j, 250 ≤ j → L.1 j = -1) (Jat : ∀ σ v, J σ → J (us σ 60 16 v)) (hc : c < 24) {n p q : Nat} (hA : ∀ {σ1 : sg} {h1 : List xE} {y1 y2 y3 : Int32} {y : Nat}, HT ks σ1 ρ h1 → J σ1 → y < 24 → (y : Int) < L.2 → y1.toInt = (c : Int) → y2.toInt = (y : Int) → y3.toInt = 0 ∨ y3.toInt = 1 → yM 178 Fa 0 [.ref (60 + 1), .int y1, .int y2, .int y3] h1 (RQL ks ρ (fun σ2 _ => J σ2 ∧ fl σ2 16 = fl σ1 16))) (R : ∀ {σ1 : sg} {h1 : List xE} {y1 y2 : Int32} {p1 q1 : Nat}, HT ks σ1 ρ h1 → J σ1 → fl σ1 16 = (p1 : Int) → y1.toInt = (c : Int) → y2.toInt = 0 ∨ y2.toInt = 1 → PP n L 3 p1 = some q1 → q1 ≤ 250 → yM 176 (Fa + (2 * (q1 - p1) + 4)) 0 [.ref (60 + 1), .int y1, .int y2] h1 (RQL ks ρ (fun σ2 _ => J σ2 ∧ fl σ2 16 = (q1 : Int)))) (R2 : ∀ {σ1 : sg} {h1 : List xE} {y1 y2 : Int32} {p1 q1 : Nat}, HT ks σ1 ρ h1 → J σ1 → fl σ1 16 = (p1 : Int) → y1.toInt = (c : Int) → y2.toInt = 0 ∨ y2.toInt = 1 → PP n L 0 p1 = some q1 → q1 ≤ 250 → yM 173 (Fa + (2 * (q1 - p1) + 7)) 0 [.ref (60 + 1), .int y1, .int y2] h1 (RQL ks ρ (fun σ2 _ => J σ2 ∧ fl σ2 16 = (q1 : Int)))) (R3 : ∀ {σ1 : sg} {h1 : List xE} {y1 y2 : Int32} {p1 q1 : Nat}, HT ks σ1 ρ h1 → J σ1 → fl σ1 16 = (p1 : Int) → y1.toInt = (c : Int) → y2.toInt = 0 ∨ y2.toInt = 1 → CH (PP n L) p1 q1 → q1 ≤ 250 → yM 177 (Fa + (2 * (q1 - p1) + 4)) 0 [.ref (60 + 1), .int y1, .int y2] h1 (RQL ks ρ (fun σ2 _ => J σ2 ∧ fl σ2 16 = (q1 : Int)))) (p0 : c < 24) (p1 : J σ) (p2 : fl σ 16 = (p : Int)) (p3 : PP (n + 1) L 3 p = some q) (p4 : q ≤ 250) : yM 176 (Fa + (2 * (q - p) + 4)) 0 [.ref (60 + 1), .int x1, .int x2] h (RQL ks ρ (fun σ' r => J σ' ∧ fl σ' 16 = (q : Int))) := by
  refine yM.st xM_176 rfl rfl (fun lv g => ?_)
  have g0 := g 0 _ rfl
  have g1 := g 1 _ rfl
  have g2 := g 2 _ rfl
  have h0 := PB3 (Or.inl rfl) (show PB (PP n L) 3 L p = some q from p3)
  have hpq := (PP_lt p3 hL).2 (by decide) (by decide)
  refine yT.aan (pc' := 1) g0 rfl rfl rfl ?_
  refine yT.iln (pc' := 2) g1 rfl rfl ?_
  refine yT.aan (pc' := 3) g0 rfl rfl rfl ?_
  refine yT.cgX (pc' := 6) rfl rfl hT (K.up rfl) rfl rfl (fun x101 _ i102 j103 z104 => ?_)
  have e105 : x101.toInt = (p : Int) := (congrArg Int32.toInt z104).trans p2
  refine kSI (yT.cc (G2 := 0) (pc' := 9) rfl rfl rfl hT (K.up rfl : xnth ks 60 = some (19, 0)) xM_170 (r170 (c := c) (k := p) K hT e1 e105 hc (JL _ p1).2) rfl (by omega) (by decide) rfl) (fun h106 x109 hT107 E108 => ?_)
  have e110 : x109.toInt = L.1 (p) := E108.trans ((JL _ p1).1 _)
  refine yT.p (pc' := 10) (lv' := xst1 _ 3 (.int x109)) rfl rfl (fun _ _ _ _ => rfl) ?_
  refine yT.iln (pc' := 11) xg_eq rfl rfl ?_
  refine yT.i2l2 (pc' := 12) (X := (L.1 (p))) e110 rfl rfl (fun y111 e112 => ?_)
  refine yT.ld2 (pc' := 15) (X := 48) rfl rfl rfl (by decide) (fun y113 e114 => ?_)
  refine yT.ld2 (pc' := 18) (X := 57) rfl rfl rfl (by decide) (fun y115 e116 => ?_)
  refine kSI (yT.cst (G2 := 0) (pc' := 21) rfl rfl xM_163 (r163 (v := (L.1 (p))) (lo := 48) (hi := 57) K hT107 e112 e114 e116) rfl (by omega) (by decide) rfl) (fun h117 x120 hT118 E119 => ?_)
  refine yT.if1 (t := 86) (pc' := 24) rfl rfl rfl (c1_eq rfl) (fun c121 => ?_) (fun c121 => ?_)
  · refine yT.iln (pc' := 87) xg_eq rfl rfl ?_
    refine yT.i2l2 (pc' := 88) (X := (L.1 (p))) e110 rfl rfl (fun y122 e123 => ?_)
    refine yT.ld2 (pc' := 91) (X := 97) rfl rfl rfl (by decide) (fun y124 e125 => ?_)
    refine yT.ld2 (pc' := 94) (X := 120) rfl rfl rfl (by decide) (fun y126 e127 => ?_)
    refine kSI (yT.cst (G2 := 0) (pc' := 97) rfl rfl xM_163 (r163 (v := (L.1 (p))) (lo := 97) (hi := 120) K hT118 e123 e125 e127) rfl (by omega) (by decide) rfl) (fun h128 x131 hT129 E130 => ?_)
    refine yT.if1 (t := 106) (pc' := 100) rfl rfl rfl (c1_ne rfl) (fun c132 => ?_) (fun c132 => ?_)
    · refine yT.aan (pc' := 107) (xg_ne g0 rfl) rfl rfl rfl ?_
      refine yT.p (pc' := 108) rfl rfl (fun _ _ _ _ => rfl) ?_
      refine yT.cgX (pc' := 111) rfl rfl hT129 (K.up rfl) rfl rfl (fun x133 _ i134 j135 z136 => ?_)
      have e137 : x133.toInt = (p : Int) := (congrArg Int32.toInt z136).trans p2
      refine yT.iln (pc' := 112) xg_eq rfl rfl ?_
      refine yT.kb (pc' := 114) rfl rfl (by decide) (fun x138 e139 => ?_)
      refine yT.if2 (t := 121) (pc' := 117) rfl rfl rfl (c2_ne e110 e139) (fun c140 => ?_) (fun c140 => ?_)
      · have h4 := h0.let (by omega)
        refine yT.kI (pc' := 122) rfl rfl (by decide) (fun x141 e142 => ?_)
        refine yT.ad2 (pc' := 123) (Z := (p : Int) + 1) e137 e142 rfl rfl (by omega) (fun x143 e144 => ?_)
        refine yT.cpX (c := x143) (pc' := 126) rfl rfl hT129 (K.up rfl) rfl rfl rfl e144 (by omega) rfl (fun h145 hT146 _ _ => ?_)
        have f147 : fl (us σ 60 16 x143) 16 = (p : Int) + 1 := fl_at.trans e144
        have J148 := Jat _ x143 p1
        refine yT.iln (pc' := 127) xg_eq rfl rfl ?_
        refine yT.kb (pc' := 129) rfl rfl (by decide) (fun x149 e150 => ?_)
        refine yT.if2 (t := 146) (pc' := 132) rfl rfl rfl (c2_ne e110 e150) (fun c151 => ?_) (fun c151 => ?_)
        · refine yT.iln (pc' := 147) xg_eq rfl rfl ?_
          refine yT.kb (pc' := 149) rfl rfl (by decide) (fun x152 e153 => ?_)
          refine yT.sb2 (pc' := 150) (Z := (L.1 (p)) - 97) e110 e153 rfl rfl (by omega) (fun x154 e155 => ?_)
          refine yT.p (pc' := 152) (lv' := xst1 _ 4 (.int x154)) rfl rfl (fun _ _ _ _ => rfl) ?_
          refine yT.iln (pc' := 153) (xg_ne (xg_ne g2 rfl) rfl) rfl rfl ?_
          refine yT.if1 (t := 177) (pc' := 156) rfl rfl rfl (c1_eq rfl) (fun c156 => ?_) (fun c156 => ?_)
          · refine yT.lc2 (pc' := 178) (X := 0) rfl rfl rfl (fun y157 e158 => ?_)
            exact yT.retL rfl rfl ⟨_, hT146, _, rfl, ⟨J148, by omega⟩⟩
          · refine yT.aan (pc' := 157) (xg_ne (xg_ne g0 rfl) rfl) rfl rfl rfl ?_
            refine yT.iln (pc' := 158) (xg_ne (xg_ne g1 rfl) rfl) rfl rfl ?_
            refine yT.il (pc' := 160) xg_eq rfl rfl ?_
            refine yT.iln (pc' := 161) (xg_ne xg_eq rfl) rfl rfl ?_
            refine yT.kb (pc' := 163) rfl rfl (by decide) (fun x159 e160 => ?_)
            refine yT.if2 (t := 170) (pc' := 166) rfl rfl rfl (c2_ne e110 e160) (fun c161 => ?_) (fun c161 => ?_)
            · refine yT.kI (pc' := 171) rfl rfl (by decide) (fun x162 e163 => ?_)
              refine kRL (yT.cc (G2 := 0) (pc' := 174) rfl rfl rfl hT146 (K.up rfl : xnth ks 60 = some (19, 0)) xM_178 (hA (y := ((L.1 (p)) - 97).toNat) hT146 J148 (by omega) (by omega) (by omega) (by omega) (by omega)) rfl (by omega) (by decide) rfl) (fun h164 σ168 x167 hT165 E166 => ?_)
              obtain ⟨J169, f170⟩ := E166
              have f171 : fl σ168 16 = (p : Int) + 1 := f170.trans f147
              refine yT.p (pc' := 178) rfl rfl (fun _ _ _ _ => rfl) ?_
              exact yT.retL rfl rfl ⟨_, hT165, _, rfl, ⟨J169, by omega⟩⟩
            · refine yT.kI (pc' := 167) rfl rfl (by decide) (fun x172 e173 => ?_)
              refine yT.p (pc' := 171) rfl rfl (fun _ _ _ _ => rfl) ?_
              refine kRL (yT.cc (G2 := 0) (pc' := 174) rfl rfl rfl hT146 (K.up rfl : xnth ks 60 = some (19, 0)) xM_178 (hA (y := ((L.1 (p)) - 97).toNat) hT146 J148 (by omega) (by omega) (by omega) (by omega) (by omega)) rfl (by omega) (by decide) rfl) (fun h174 σ178 x177 hT175 E176 => ?_)
              obtain ⟨J179, f180⟩ := E176
              have f181 : fl σ178 16 = (p : Int) + 1 := f180.trans f147
              refine yT.p (pc' := 178) rfl rfl (fun _ _ _ _ => rfl) ?_
              exact yT.retL rfl rfl ⟨_, hT175, _, rfl, ⟨J179, by omega⟩⟩
        · refine yT.aan (pc' := 133) (xg_ne g0 rfl) rfl rfl rfl ?_
          refine yT.iln (pc' := 134) (xg_ne g1 rfl) rfl rfl ?_
          refine yT.aan (pc' := 135) (xg_ne g0 rfl) rfl rfl rfl ?_
          refine yT.cgX (pc' := 138) rfl rfl hT146 (K.up rfl) rfl rfl (fun x182 _ i183 j184 z185 => ?_)
          have e186 : x182.toInt = (p : Int) + 1 := (congrArg Int32.toInt z185).trans f147
          refine yT.kI (pc' := 139) rfl rfl (by decide) (fun x187 e188 => ?_)
          refine yT.sb2 (pc' := 140) (Z := (p : Int)) e186 e188 rfl rfl (by omega) (fun x189 e190 => ?_)
          refine kSI (yT.cc (G2 := 0) (pc' := 143) rfl rfl rfl hT146 (K.up rfl : xnth ks 60 = some (19, 0)) xM_170 (r170 (c := c) (k := p) K hT146 e1 e190 hc (JL _ J148).2) rfl (by omega) (by decide) rfl) (fun h191 x194 hT192 E193 => ?_)
          have e195 : x194.toInt = L.1 (p) := E193.trans ((JL _ J148).1 _)
          refine yT.p (pc' := 147) rfl rfl (fun _ _ _ _ => rfl) ?_
          refine yT.kb (pc' := 149) rfl rfl (by decide) (fun x196 e197 => ?_)
          refine yT.sb2 (pc' := 150) (Z := (L.1 (p)) - 97) e195 e197 rfl rfl (by omega) (fun x198 e199 => ?_)
          refine yT.p (pc' := 152) (lv' := xst1 _ 4 (.int x198)) rfl rfl (fun _ _ _ _ => rfl) ?_
          refine yT.iln (pc' := 153) (xg_ne (xg_ne g2 rfl) rfl) rfl rfl ?_
          refine yT.if1 (t := 177) (pc' := 156) rfl rfl rfl (c1_eq rfl) (fun c200 => ?_) (fun c200 => ?_)
          · refine yT.lc2 (pc' := 178) (X := 0) rfl rfl rfl (fun y201 e202 => ?_)
            exact yT.retL rfl rfl ⟨_, hT192, _, rfl, ⟨J148, by omega⟩⟩
          · refine yT.aan (pc' := 157) (xg_ne (xg_ne g0 rfl) rfl) rfl rfl rfl ?_
            refine yT.iln (pc' := 158) (xg_ne (xg_ne g1 rfl) rfl) rfl rfl ?_
            refine yT.il (pc' := 160) xg_eq rfl rfl ?_
            refine yT.iln (pc' := 161) (xg_ne xg_eq rfl) rfl rfl ?_
            refine yT.kb (pc' := 163) rfl rfl (by decide) (fun x203 e204 => ?_)
            refine yT.if2 (t := 170) (pc' := 166) rfl rfl rfl (c2_ne e110 e204) (fun c205 => ?_) (fun c205 => ?_)
            · refine yT.kI (pc' := 171) rfl rfl (by decide) (fun x206 e207 => ?_)
              refine kRL (yT.cc (G2 := 0) (pc' := 174) rfl rfl rfl hT192 (K.up rfl : xnth ks 60 = some (19, 0)) xM_178 (hA (y := ((L.1 (p)) - 97).toNat) hT192 J148 (by omega) (by omega) (by omega) (by omega) (by omega)) rfl (by omega) (by decide) rfl) (fun h208 σ212 x211 hT209 E210 => ?_)
              obtain ⟨J213, f214⟩ := E210
              have f215 : fl σ212 16 = (p : Int) + 1 := f214.trans f147
              refine yT.p (pc' := 178) rfl rfl (fun _ _ _ _ => rfl) ?_
              exact yT.retL rfl rfl ⟨_, hT209, _, rfl, ⟨J213, by omega⟩⟩
            · refine yT.kI (pc' := 167) rfl rfl (by decide) (fun x216 e217 => ?_)
              refine yT.p (pc' := 171) rfl rfl (fun _ _ _ _ => rfl) ?_
              refine kRL (yT.cc (G2 := 0) (pc' := 174) rfl rfl rfl hT192 (K.up rfl : xnth ks 60 = some (19, 0)) xM_178 (hA (y := ((L.1 (p)) - 97).toNat) hT192 J148 (by omega) (by omega) (by omega) (by omega) (by omega)) rfl (by omega) (by decide) rfl) (fun h218 σ222 x221 hT219 E220 => ?_)
              obtain ⟨J223, f224⟩ := E220
              have f225 : fl σ222 16 = (p : Int) + 1 := f224.trans f147
              refine yT.p (pc' := 178) rfl rfl (fun _ _ _ _ => rfl) ?_
              exact yT.retL rfl rfl ⟨_, hT219, _, rfl, ⟨J223, by omega⟩⟩
      · have h4 := h0.unt (by omega)
        refine yT.kI (pc' := 118) rfl rfl (by decide) (fun x226 e227 => ?_)
        refine yT.p (pc' := 122) rfl rfl (fun _ _ _ _ => rfl) ?_
        refine yT.ad2 (pc' := 123) (Z := (p : Int) + 2) e137 e227 rfl rfl (by omega) (fun x228 e229 => ?_)
        refine yT.cpX (c := x228) (pc' := 126) rfl rfl hT129 (K.up rfl) rfl rfl rfl e229 (by omega) rfl (fun h230 hT231 _ _ => ?_)
        have f232 : fl (us σ 60 16 x228) 16 = (p : Int) + 2 := fl_at.trans e229
        have J233 := Jat _ x228 p1
        refine yT.iln (pc' := 127) xg_eq rfl rfl ?_
        refine yT.kb (pc' := 129) rfl rfl (by decide) (fun x234 e235 => ?_)
        refine yT.if2 (t := 146) (pc' := 132) rfl rfl rfl (c2_ne e110 e235) (fun c236 => ?_) (fun c236 => ?_)
        · refine yT.iln (pc' := 147) xg_eq rfl rfl ?_
          refine yT.kb (pc' := 149) rfl rfl (by decide) (fun x237 e238 => ?_)
          refine yT.sb2 (pc' := 150) (Z := (L.1 (p)) - 97) e110 e238 rfl rfl (by omega) (fun x239 e240 => ?_)
          refine yT.p (pc' := 152) (lv' := xst1 _ 4 (.int x239)) rfl rfl (fun _ _ _ _ => rfl) ?_
          refine yT.iln (pc' := 153) (xg_ne (xg_ne g2 rfl) rfl) rfl rfl ?_
          refine yT.if1 (t := 177) (pc' := 156) rfl rfl rfl (c1_eq rfl) (fun c241 => ?_) (fun c241 => ?_)
          · refine yT.lc2 (pc' := 178) (X := 0) rfl rfl rfl (fun y242 e243 => ?_)
            exact yT.retL rfl rfl ⟨_, hT231, _, rfl, ⟨J233, by omega⟩⟩
          · refine yT.aan (pc' := 157) (xg_ne (xg_ne g0 rfl) rfl) rfl rfl rfl ?_
            refine yT.iln (pc' := 158) (xg_ne (xg_ne g1 rfl) rfl) rfl rfl ?_
            refine yT.il (pc' := 160) xg_eq rfl rfl ?_
            refine yT.iln (pc' := 161) (xg_ne xg_eq rfl) rfl rfl ?_
            refine yT.kb (pc' := 163) rfl rfl (by decide) (fun x244 e245 => ?_)
            refine yT.if2 (t := 170) (pc' := 166) rfl rfl rfl (c2_ne e110 e245) (fun c246 => ?_) (fun c246 => ?_)
            · refine yT.kI (pc' := 171) rfl rfl (by decide) (fun x247 e248 => ?_)
              refine kRL (yT.cc (G2 := 0) (pc' := 174) rfl rfl rfl hT231 (K.up rfl : xnth ks 60 = some (19, 0)) xM_178 (hA (y := ((L.1 (p)) - 97).toNat) hT231 J233 (by omega) (by omega) (by omega) (by omega) (by omega)) rfl (by omega) (by decide) rfl) (fun h249 σ253 x252 hT250 E251 => ?_)
              obtain ⟨J254, f255⟩ := E251
              have f256 : fl σ253 16 = (p : Int) + 2 := f255.trans f232
              refine yT.p (pc' := 178) rfl rfl (fun _ _ _ _ => rfl) ?_
              exact yT.retL rfl rfl ⟨_, hT250, _, rfl, ⟨J254, by omega⟩⟩
            · refine yT.kI (pc' := 167) rfl rfl (by decide) (fun x257 e258 => ?_)
              refine yT.p (pc' := 171) rfl rfl (fun _ _ _ _ => rfl) ?_
              refine kRL (yT.cc (G2 := 0) (pc' := 174) rfl rfl rfl hT231 (K.up rfl : xnth ks 60 = some (19, 0)) xM_178 (hA (y := ((L.1 (p)) - 97).toNat) hT231 J233 (by omega) (by omega) (by omega) (by omega) (by omega)) rfl (by omega) (by decide) rfl) (fun h259 σ263 x262 hT260 E261 => ?_)
              obtain ⟨J264, f265⟩ := E261
              have f266 : fl σ263 16 = (p : Int) + 2 := f265.trans f232
              refine yT.p (pc' := 178) rfl rfl (fun _ _ _ _ => rfl) ?_
              exact yT.retL rfl rfl ⟨_, hT260, _, rfl, ⟨J264, by omega⟩⟩
        · refine yT.aan (pc' := 133) (xg_ne g0 rfl) rfl rfl rfl ?_
          refine yT.iln (pc' := 134) (xg_ne g1 rfl) rfl rfl ?_
          refine yT.aan (pc' := 135) (xg_ne g0 rfl) rfl rfl rfl ?_
          refine yT.cgX (pc' := 138) rfl rfl hT231 (K.up rfl) rfl rfl (fun x267 _ i268 j269 z270 => ?_)
          have e271 : x267.toInt = (p : Int) + 2 := (congrArg Int32.toInt z270).trans f232
          refine yT.kI (pc' := 139) rfl rfl (by decide) (fun x272 e273 => ?_)
          refine yT.sb2 (pc' := 140) (Z := (p : Int) + 1) e271 e273 rfl rfl (by omega) (fun x274 e275 => ?_)
          refine kSI (yT.cc (G2 := 0) (pc' := 143) rfl rfl rfl hT231 (K.up rfl : xnth ks 60 = some (19, 0)) xM_170 (r170 (c := c) (k := p + 1) K hT231 e1 (by omega) hc (JL _ J233).2) rfl (by omega) (by decide) rfl) (fun h276 x279 hT277 E278 => ?_)
          have e280 : x279.toInt = L.1 (p + 1) := E278.trans ((JL _ J233).1 _)
          refine yT.p (pc' := 147) rfl rfl (fun _ _ _ _ => rfl) ?_
          refine yT.kb (pc' := 149) rfl rfl (by decide) (fun x281 e282 => ?_)
          refine yT.sb2 (pc' := 150) (Z := (L.1 (p + 1)) - 97) e280 e282 rfl rfl (by omega) (fun x283 e284 => ?_)
          refine yT.p (pc' := 152) (lv' := xst1 _ 4 (.int x283)) rfl rfl (fun _ _ _ _ => rfl) ?_
          refine yT.iln (pc' := 153) (xg_ne (xg_ne g2 rfl) rfl) rfl rfl ?_
          refine yT.if1 (t := 177) (pc' := 156) rfl rfl rfl (c1_eq rfl) (fun c285 => ?_) (fun c285 => ?_)
          · refine yT.lc2 (pc' := 178) (X := 0) rfl rfl rfl (fun y286 e287 => ?_)
            exact yT.retL rfl rfl ⟨_, hT277, _, rfl, ⟨J233, by omega⟩⟩
          · refine yT.aan (pc' := 157) (xg_ne (xg_ne g0 rfl) rfl) rfl rfl rfl ?_
            refine yT.iln (pc' := 158) (xg_ne (xg_ne g1 rfl) rfl) rfl rfl ?_
            refine yT.il (pc' := 160) xg_eq rfl rfl ?_
            refine yT.iln (pc' := 161) (xg_ne xg_eq rfl) rfl rfl ?_
            refine yT.kb (pc' := 163) rfl rfl (by decide) (fun x288 e289 => ?_)
            refine yT.if2 (t := 170) (pc' := 166) rfl rfl rfl (c2_ne e110 e289) (fun c290 => ?_) (fun c290 => ?_)
            · refine yT.kI (pc' := 171) rfl rfl (by decide) (fun x291 e292 => ?_)
              refine kRL (yT.cc (G2 := 0) (pc' := 174) rfl rfl rfl hT277 (K.up rfl : xnth ks 60 = some (19, 0)) xM_178 (hA (y := ((L.1 (p + 1)) - 97).toNat) hT277 J233 (by omega) (by omega) (by omega) (by omega) (by omega)) rfl (by omega) (by decide) rfl) (fun h293 σ297 x296 hT294 E295 => ?_)
              obtain ⟨J298, f299⟩ := E295
              have f300 : fl σ297 16 = (p : Int) + 2 := f299.trans f232
              refine yT.p (pc' := 178) rfl rfl (fun _ _ _ _ => rfl) ?_
              exact yT.retL rfl rfl ⟨_, hT294, _, rfl, ⟨J298, by omega⟩⟩
            · refine yT.kI (pc' := 167) rfl rfl (by decide) (fun x301 e302 => ?_)
              refine yT.p (pc' := 171) rfl rfl (fun _ _ _ _ => rfl) ?_
              refine kRL (yT.cc (G2 := 0) (pc' := 174) rfl rfl rfl hT277 (K.up rfl : xnth ks 60 = some (19, 0)) xM_178 (hA (y := ((L.1 (p + 1)) - 97).toNat) hT277 J233 (by omega) (by omega) (by omega) (by omega) (by omega)) rfl (by omega) (by decide) rfl) (fun h303 σ307 x306 hT304 E305 => ?_)
              obtain ⟨J308, f309⟩ := E305
              have f310 : fl σ307 16 = (p : Int) + 2 := f309.trans f232
              refine yT.p (pc' := 178) rfl rfl (fun _ _ _ _ => rfl) ?_
              exact yT.retL rfl rfl ⟨_, hT304, _, rfl, ⟨J308, by omega⟩⟩
    · refine yT.iln (pc' := 101) xg_eq rfl rfl ?_
      refine yT.kb (pc' := 103) rfl rfl (by decide) (fun x311 e312 => ?_)
      refine yT.if2 (t := 179) (pc' := 106) rfl rfl rfl (c2_ne e110 e312) (fun c313 => ?_) (fun c313 => ?_)
      · refine yT.aan (pc' := 180) (xg_ne g0 rfl) rfl rfl rfl ?_
        refine yT.p (pc' := 181) rfl rfl (fun _ _ _ _ => rfl) ?_
        refine yT.cgX (pc' := 184) rfl rfl hT129 (K.up rfl) rfl rfl (fun x314 _ i315 j316 z317 => ?_)
        have e318 : x314.toInt = (p : Int) := (congrArg Int32.toInt z317).trans p2
        refine yT.kI (pc' := 185) rfl rfl (by decide) (fun x319 e320 => ?_)
        refine yT.ad2 (pc' := 186) (Z := (p : Int) + 1) e318 e320 rfl rfl (by omega) (fun x321 e322 => ?_)
        refine yT.cpX (c := x321) (pc' := 189) rfl rfl hT129 (K.up rfl) rfl rfl rfl e322 (by omega) rfl (fun h323 hT324 _ _ => ?_)
        have f325 : fl (us σ 60 16 x321) 16 = (p : Int) + 1 := fl_at.trans e322
        have J326 := Jat _ x321 p1
        refine yT.iln (pc' := 190) xg_eq rfl rfl ?_
        refine yT.kb (pc' := 192) rfl rfl (by decide) (fun x327 e328 => ?_)
        refine yT.if2 (t := 222) (pc' := 195) rfl rfl rfl (c2_ne e110 e328) (fun c329 => ?_) (fun c329 => ?_)
        · refine yT.iln (pc' := 223) xg_eq rfl rfl ?_
          refine yT.kb (pc' := 225) rfl rfl (by decide) (fun x330 e331 => ?_)
          refine yT.if2 (t := 249) (pc' := 228) rfl rfl rfl (c2_ne e110 e331) (fun c332 => ?_) (fun c332 => ?_)
          · refine yT.iln (pc' := 250) xg_eq rfl rfl ?_
            refine yT.kb (pc' := 252) rfl rfl (by decide) (fun x333 e334 => ?_)
            refine yT.if2 (t := 262) (pc' := 255) rfl rfl rfl (c2_ne e110 e334) (fun c335 => ?_) (fun c335 => ?_)
            · obtain ⟨a, a2, h4, h5, h6⟩ := h0.gr (by omega) (by omega) (by omega) (by omega) (by omega) (by omega)
              have b4 := (PP_lt h4 hL).1
              have b5 := (PP_lt h5 hL).1
              refine yT.aan (pc' := 263) (xg_ne g0 rfl) rfl rfl rfl ?_
              refine yT.p (pc' := 264) rfl rfl (fun _ _ _ _ => rfl) ?_
              refine yT.cgX (pc' := 267) rfl rfl hT324 (K.up rfl) rfl rfl (fun x336 _ i337 j338 z339 => ?_)
              have e340 : x336.toInt = (p : Int) + 1 := (congrArg Int32.toInt z339).trans f325
              refine yT.kI (pc' := 268) rfl rfl (by decide) (fun x341 e342 => ?_)
              refine yT.ad2 (pc' := 269) (Z := (p : Int) + 2) e340 e342 rfl rfl (by omega) (fun x343 e344 => ?_)
              refine yT.cpX (c := x343) (pc' := 272) rfl rfl hT324 (K.up rfl) rfl rfl rfl e344 (by omega) rfl (fun h345 hT346 _ _ => ?_)
              have f347 : fl (us (us σ 60 16 x321) 60 16 x343) 16 = (p : Int) + 2 := fl_at.trans e344
              have J348 := Jat _ x343 J326
              refine yT.aan (pc' := 273) (xg_ne g0 rfl) rfl rfl rfl ?_
              refine yT.iln (pc' := 274) (xg_ne g1 rfl) rfl rfl ?_
              refine yT.iln (pc' := 275) (xg_ne g2 rfl) rfl rfl ?_
              refine kRL (yT.cc (G2 := 0) (pc' := 278) rfl rfl rfl hT346 (K.up rfl : xnth ks 60 = some (19, 0)) xM_173 (R2 (p1 := p + 2) hT346 J348 (by omega) (by omega) (by omega) h4 (by omega)) rfl (by omega) (by decide) rfl) (fun h349 σ353 x352 hT350 E351 => ?_)
              obtain ⟨J354, f355⟩ := E351
              refine yT.p (pc' := 280) (lv' := xst2 _ 4 (.long x352)) rfl rfl (fun _ _ _ _ => rfl) ?_
              refine yT.aan (pc' := 281) (xg2_ne (xg_ne g0 rfl) rfl) rfl rfl rfl ?_
              refine yT.p (pc' := 282) rfl rfl (fun _ _ _ _ => rfl) ?_
              refine yT.cgX (pc' := 285) rfl rfl hT350 (K.up rfl) rfl rfl (fun x356 _ i357 j358 z359 => ?_)
              have e360 : x356.toInt = (a : Int) := (congrArg Int32.toInt z359).trans f355
              refine yT.kI (pc' := 286) rfl rfl (by decide) (fun x361 e362 => ?_)
              refine yT.ad2 (pc' := 287) (Z := (a : Int) + 1) e360 e362 rfl rfl (by omega) (fun x363 e364 => ?_)
              refine yT.cpX (c := x363) (pc' := 290) rfl rfl hT350 (K.up rfl) rfl rfl rfl e364 (by omega) rfl (fun h365 hT366 _ _ => ?_)
              have f367 : fl (us σ353 60 16 x363) 16 = (a : Int) + 1 := fl_at.trans e364
              have J368 := Jat _ x363 J354
              refine yT.iln (pc' := 291) (xg2_ne (xg_ne g2 rfl) rfl) rfl rfl ?_
              refine yT.if1 (t := 306) (pc' := 294) rfl rfl rfl (c1_eq rfl) (fun c369 => ?_) (fun c369 => ?_)
              · refine yT.kI (pc' := 307) rfl rfl (by decide) (fun x370 e371 => ?_)
                refine yT.p (pc' := 309) (lv' := xst1 _ 6 (.int x370)) rfl rfl (fun _ _ _ _ => rfl) ?_
                refine yT.aan (pc' := 310) (xg_ne (xg2_ne (xg_ne g0 rfl) rfl) rfl) rfl rfl rfl ?_
                refine yT.iln (pc' := 311) (xg_ne (xg2_ne (xg_ne g1 rfl) rfl) rfl) rfl rfl ?_
                refine yT.il (pc' := 313) xg_eq rfl rfl ?_
                refine kRL (yT.cc (G2 := 0) (pc' := 316) rfl rfl rfl hT366 (K.up rfl : xnth ks 60 = some (19, 0)) xM_173 (R2 (p1 := a + 1) hT366 J368 (by omega) (by omega) (by omega) h5 (by omega)) rfl (by omega) (by decide) rfl) (fun h372 σ376 x375 hT373 E374 => ?_)
                obtain ⟨J377, f378⟩ := E374
                refine yT.p (pc' := 318) (lv' := xst2 _ 7 (.long x375)) rfl rfl (fun _ _ _ _ => rfl) ?_
                refine yT.aan (pc' := 319) (xg2_ne (xg_ne (xg2_ne (xg_ne g0 rfl) rfl) rfl) rfl) rfl rfl rfl ?_
                refine yT.p (pc' := 320) rfl rfl (fun _ _ _ _ => rfl) ?_
                refine yT.cgX (pc' := 323) rfl rfl hT373 (K.up rfl) rfl rfl (fun x379 _ i380 j381 z382 => ?_)
                have e383 : x379.toInt = (a2 : Int) := (congrArg Int32.toInt z382).trans f378
                refine yT.kI (pc' := 324) rfl rfl (by decide) (fun x384 e385 => ?_)
                refine yT.ad2 (pc' := 325) (Z := (a2 : Int) + 1) e383 e385 rfl rfl (by omega) (fun x386 e387 => ?_)
                refine yT.cpX (c := x386) (pc' := 328) rfl rfl hT373 (K.up rfl) rfl rfl rfl e387 (by omega) rfl (fun h388 hT389 _ _ => ?_)
                have f390 : fl (us σ376 60 16 x386) 16 = (a2 : Int) + 1 := fl_at.trans e387
                have J391 := Jat _ x386 J377
                refine yT.il (pc' := 330) (xg2_ne xg_eq rfl) rfl rfl ?_
                refine yT.if1 (t := 341) (pc' := 333) rfl rfl rfl (c1_eq e371) (fun c392 => ?_) (fun c392 => by omega)
                refine yT.il (pc' := 343) (xg2_ne xg_eq rfl) rfl rfl ?_
                refine yT.if1 (t := 351) (pc' := 346) rfl rfl rfl (c1_eq e371) (fun c393 => ?_) (fun c393 => by omega)
                refine yT.ll (pc' := 353) (xg2_ne (xg_ne xg2_eq rfl) rfl) rfl rfl ?_
                refine yT.p (pc' := 366) rfl rfl (fun _ _ _ _ => rfl) ?_
                exact yT.retL rfl rfl ⟨_, hT389, _, rfl, ⟨J391, by omega⟩⟩
              · refine yT.ll (pc' := 296) xg2_eq rfl rfl ?_
                refine kSI (yT.cst (G2 := 0) (pc' := 299) rfl rfl xM_171 (r171  K hT366 x352) rfl (by omega) (by decide) rfl) (fun h394 x397 hT395 E396 => ?_)
                refine yT.if1 (t := 306) (pc' := 302) rfl rfl rfl (c1_ne rfl) (fun c398 => ?_) (fun c398 => ?_)
                · refine yT.kI (pc' := 307) rfl rfl (by decide) (fun x399 e400 => ?_)
                  refine yT.p (pc' := 309) (lv' := xst1 _ 6 (.int x399)) rfl rfl (fun _ _ _ _ => rfl) ?_
                  refine yT.aan (pc' := 310) (xg_ne (xg2_ne (xg_ne g0 rfl) rfl) rfl) rfl rfl rfl ?_
                  refine yT.iln (pc' := 311) (xg_ne (xg2_ne (xg_ne g1 rfl) rfl) rfl) rfl rfl ?_
                  refine yT.il (pc' := 313) xg_eq rfl rfl ?_
                  refine kRL (yT.cc (G2 := 0) (pc' := 316) rfl rfl rfl hT395 (K.up rfl : xnth ks 60 = some (19, 0)) xM_173 (R2 (p1 := a + 1) hT395 J368 (by omega) (by omega) (by omega) h5 (by omega)) rfl (by omega) (by decide) rfl) (fun h401 σ405 x404 hT402 E403 => ?_)
                  obtain ⟨J406, f407⟩ := E403
                  refine yT.p (pc' := 318) (lv' := xst2 _ 7 (.long x404)) rfl rfl (fun _ _ _ _ => rfl) ?_
                  refine yT.aan (pc' := 319) (xg2_ne (xg_ne (xg2_ne (xg_ne g0 rfl) rfl) rfl) rfl) rfl rfl rfl ?_
                  refine yT.p (pc' := 320) rfl rfl (fun _ _ _ _ => rfl) ?_
                  refine yT.cgX (pc' := 323) rfl rfl hT402 (K.up rfl) rfl rfl (fun x408 _ i409 j410 z411 => ?_)
                  have e412 : x408.toInt = (a2 : Int) := (congrArg Int32.toInt z411).trans f407
                  refine yT.kI (pc' := 324) rfl rfl (by decide) (fun x413 e414 => ?_)
                  refine yT.ad2 (pc' := 325) (Z := (a2 : Int) + 1) e412 e414 rfl rfl (by omega) (fun x415 e416 => ?_)
                  refine yT.cpX (c := x415) (pc' := 328) rfl rfl hT402 (K.up rfl) rfl rfl rfl e416 (by omega) rfl (fun h417 hT418 _ _ => ?_)
                  have f419 : fl (us σ405 60 16 x415) 16 = (a2 : Int) + 1 := fl_at.trans e416
                  have J420 := Jat _ x415 J406
                  refine yT.il (pc' := 330) (xg2_ne xg_eq rfl) rfl rfl ?_
                  refine yT.if1 (t := 341) (pc' := 333) rfl rfl rfl (c1_eq e400) (fun c421 => ?_) (fun c421 => by omega)
                  refine yT.il (pc' := 343) (xg2_ne xg_eq rfl) rfl rfl ?_
                  refine yT.if1 (t := 351) (pc' := 346) rfl rfl rfl (c1_eq e400) (fun c422 => ?_) (fun c422 => by omega)
                  refine yT.ll (pc' := 353) (xg2_ne (xg_ne xg2_eq rfl) rfl) rfl rfl ?_
                  refine yT.p (pc' := 366) rfl rfl (fun _ _ _ _ => rfl) ?_
                  exact yT.retL rfl rfl ⟨_, hT418, _, rfl, ⟨J420, by omega⟩⟩
                · refine yT.kI (pc' := 303) rfl rfl (by decide) (fun x423 e424 => ?_)
                  refine yT.p (pc' := 307) rfl rfl (fun _ _ _ _ => rfl) ?_
                  refine yT.p (pc' := 309) (lv' := xst1 _ 6 (.int x423)) rfl rfl (fun _ _ _ _ => rfl) ?_
                  refine yT.aan (pc' := 310) (xg_ne (xg2_ne (xg_ne g0 rfl) rfl) rfl) rfl rfl rfl ?_
                  refine yT.iln (pc' := 311) (xg_ne (xg2_ne (xg_ne g1 rfl) rfl) rfl) rfl rfl ?_
                  refine yT.il (pc' := 313) xg_eq rfl rfl ?_
                  refine kRL (yT.cc (G2 := 0) (pc' := 316) rfl rfl rfl hT395 (K.up rfl : xnth ks 60 = some (19, 0)) xM_173 (R2 (p1 := a + 1) hT395 J368 (by omega) (by omega) (by omega) h5 (by omega)) rfl (by omega) (by decide) rfl) (fun h425 σ429 x428 hT426 E427 => ?_)
                  obtain ⟨J430, f431⟩ := E427
                  refine yT.p (pc' := 318) (lv' := xst2 _ 7 (.long x428)) rfl rfl (fun _ _ _ _ => rfl) ?_
                  refine yT.aan (pc' := 319) (xg2_ne (xg_ne (xg2_ne (xg_ne g0 rfl) rfl) rfl) rfl) rfl rfl rfl ?_
                  refine yT.p (pc' := 320) rfl rfl (fun _ _ _ _ => rfl) ?_
                  refine yT.cgX (pc' := 323) rfl rfl hT426 (K.up rfl) rfl rfl (fun x432 _ i433 j434 z435 => ?_)
                  have e436 : x432.toInt = (a2 : Int) := (congrArg Int32.toInt z435).trans f431
                  refine yT.kI (pc' := 324) rfl rfl (by decide) (fun x437 e438 => ?_)
                  refine yT.ad2 (pc' := 325) (Z := (a2 : Int) + 1) e436 e438 rfl rfl (by omega) (fun x439 e440 => ?_)
                  refine yT.cpX (c := x439) (pc' := 328) rfl rfl hT426 (K.up rfl) rfl rfl rfl e440 (by omega) rfl (fun h441 hT442 _ _ => ?_)
                  have f443 : fl (us σ429 60 16 x439) 16 = (a2 : Int) + 1 := fl_at.trans e440
                  have J444 := Jat _ x439 J430
                  refine yT.il (pc' := 330) (xg2_ne xg_eq rfl) rfl rfl ?_
                  refine yT.if1 (t := 341) (pc' := 333) rfl rfl rfl (c1_eq e424) (fun c445 => by omega) (fun c445 => ?_)
                  refine yT.ll (pc' := 335) xg2_eq rfl rfl ?_
                  refine kSI (yT.cst (G2 := 0) (pc' := 338) rfl rfl xM_171 (r171  K hT442 x428) rfl (by omega) (by decide) rfl) (fun h446 x449 hT447 E448 => ?_)
                  refine yT.if1 (t := 356) (pc' := 341) rfl rfl rfl (c1_eq rfl) (fun c450 => ?_) (fun c450 => ?_)
                  · refine yT.ll (pc' := 358) (xg2_ne (xg_ne xg2_eq rfl) rfl) rfl rfl ?_
                    refine yT.fi (pc' := 359) rfl rfl (fun _ _ _ _ => rfl) (fun x451 => ?_)
                    refine yT.ll (pc' := 361) xg2_eq rfl rfl ?_
                    refine yT.fi (pc' := 362) rfl rfl (fun _ _ _ _ => rfl) (fun x452 => ?_)
                    refine yT.mx (pc' := 365) rfl rfl (by omega) rfl (fun x453 _ => ?_)
                    refine yT.i2l2 (pc' := 366) (X := x453.toInt) rfl rfl rfl (fun y454 e455 => ?_)
                    exact yT.retL rfl rfl ⟨_, hT447, _, rfl, ⟨J444, by omega⟩⟩
                  · refine yT.il (pc' := 343) (xg2_ne xg_eq rfl) rfl rfl ?_
                    refine yT.if1 (t := 351) (pc' := 346) rfl rfl rfl (c1_eq e424) (fun c456 => by omega) (fun c456 => ?_)
                    refine yT.ll (pc' := 348) xg2_eq rfl rfl ?_
                    refine yT.p (pc' := 366) rfl rfl (fun _ _ _ _ => rfl) ?_
                    exact yT.retL rfl rfl ⟨_, hT447, _, rfl, ⟨J444, by omega⟩⟩
            · have h4 := h0.cho (by omega)
              refine yT.aan (pc' := 256) (xg_ne g0 rfl) rfl rfl rfl ?_
              refine yT.iln (pc' := 257) (xg_ne g1 rfl) rfl rfl ?_
              refine yT.iln (pc' := 258) (xg_ne g2 rfl) rfl rfl ?_
              refine kRL (yT.cc (G2 := 0) (pc' := 261) rfl rfl rfl hT324 (K.up rfl : xnth ks 60 = some (19, 0)) xM_177 (R3 (p1 := p + 1) hT324 J326 (by omega) (by omega) (by omega) h4 (by omega)) rfl (by omega) (by decide) rfl) (fun h457 σ461 x460 hT458 E459 => ?_)
              obtain ⟨J462, f463⟩ := E459
              exact yT.retL rfl rfl ⟨_, hT458, _, rfl, ⟨J462, by omega⟩⟩
          · obtain ⟨a, h4, h5⟩ := h0.par (by omega)
            have b4 := (PP_lt h4 hL).1
            refine yT.aan (pc' := 229) (xg_ne g0 rfl) rfl rfl rfl ?_
            refine yT.iln (pc' := 230) (xg_ne g1 rfl) rfl rfl ?_
            refine yT.iln (pc' := 231) (xg_ne g2 rfl) rfl rfl ?_
            refine kRL (yT.cc (G2 := 0) (pc' := 234) rfl rfl rfl hT324 (K.up rfl : xnth ks 60 = some (19, 0)) xM_173 (R2 (p1 := p + 1) hT324 J326 (by omega) (by omega) (by omega) h4 (by omega)) rfl (by omega) (by decide) rfl) (fun h464 σ468 x467 hT465 E466 => ?_)
            obtain ⟨J469, f470⟩ := E466
            refine yT.p (pc' := 236) (lv' := xst2 _ 4 (.long x467)) rfl rfl (fun _ _ _ _ => rfl) ?_
            refine yT.aan (pc' := 237) (xg2_ne (xg_ne g0 rfl) rfl) rfl rfl rfl ?_
            refine yT.p (pc' := 238) rfl rfl (fun _ _ _ _ => rfl) ?_
            refine yT.cgX (pc' := 241) rfl rfl hT465 (K.up rfl) rfl rfl (fun x471 _ i472 j473 z474 => ?_)
            have e475 : x471.toInt = (a : Int) := (congrArg Int32.toInt z474).trans f470
            refine yT.kI (pc' := 242) rfl rfl (by decide) (fun x476 e477 => ?_)
            refine yT.ad2 (pc' := 243) (Z := (a : Int) + 1) e475 e477 rfl rfl (by omega) (fun x478 e479 => ?_)
            refine yT.cpX (c := x478) (pc' := 246) rfl rfl hT465 (K.up rfl) rfl rfl rfl e479 (by omega) rfl (fun h480 hT481 _ _ => ?_)
            have f482 : fl (us σ468 60 16 x478) 16 = (a : Int) + 1 := fl_at.trans e479
            have J483 := Jat _ x478 J469
            refine yT.ll (pc' := 248) xg2_eq rfl rfl ?_
            exact yT.retL rfl rfl ⟨_, hT481, _, rfl, ⟨J483, by omega⟩⟩
        · have h4 := h0.neg (by omega)
          refine yT.aan (pc' := 196) (xg_ne g0 rfl) rfl rfl rfl ?_
          refine yT.iln (pc' := 197) (xg_ne g1 rfl) rfl rfl ?_
          refine yT.iln (pc' := 198) (xg_ne g2 rfl) rfl rfl ?_
          refine kRL (yT.cc (G2 := 0) (pc' := 201) rfl rfl rfl hT324 (K.up rfl : xnth ks 60 = some (19, 0)) xM_176 (R (p1 := p + 1) hT324 J326 (by omega) (by omega) (by omega) h4 (by omega)) rfl (by omega) (by decide) rfl) (fun h484 σ488 x487 hT485 E486 => ?_)
          obtain ⟨J489, f490⟩ := E486
          refine yT.p (pc' := 203) (lv' := xst2 _ 4 (.long x487)) rfl rfl (fun _ _ _ _ => rfl) ?_
          refine yT.ll (pc' := 205) xg2_eq rfl rfl ?_
          refine kSI (yT.cst (G2 := 0) (pc' := 208) rfl rfl xM_171 (r171  K hT485 x487) rfl (by omega) (by decide) rfl) (fun h491 x494 hT492 E493 => ?_)
          refine yT.if1 (t := 216) (pc' := 211) rfl rfl rfl (c1_eq rfl) (fun c495 => ?_) (fun c495 => ?_)
          · refine yT.ll (pc' := 218) xg2_eq rfl rfl ?_
            refine yT.fi (pc' := 219) rfl rfl (fun _ _ _ _ => rfl) (fun x496 => ?_)
            refine yT.fi (pc' := 220) rfl rfl (fun _ _ _ _ => rfl) (fun x497 => ?_)
            refine yT.i2l2 (pc' := 221) (X := x497.toInt) rfl rfl rfl (fun y498 e499 => ?_)
            exact yT.retL rfl rfl ⟨_, hT492, _, rfl, ⟨J489, by omega⟩⟩
          · refine yT.ll (pc' := 213) xg2_eq rfl rfl ?_
            refine yT.p (pc' := 221) rfl rfl (fun _ _ _ _ => rfl) ?_
            exact yT.retL rfl rfl ⟨_, hT492, _, rfl, ⟨J489, by omega⟩⟩
      · refine yT.aan (pc' := 107) (xg_ne g0 rfl) rfl rfl rfl ?_
        refine yT.p (pc' := 108) rfl rfl (fun _ _ _ _ => rfl) ?_
        refine yT.cgX (pc' := 111) rfl rfl hT129 (K.up rfl) rfl rfl (fun x500 _ i501 j502 z503 => ?_)
        have e504 : x500.toInt = (p : Int) := (congrArg Int32.toInt z503).trans p2
        refine yT.iln (pc' := 112) xg_eq rfl rfl ?_
        refine yT.kb (pc' := 114) rfl rfl (by decide) (fun x505 e506 => ?_)
        refine yT.if2 (t := 121) (pc' := 117) rfl rfl rfl (c2_ne e110 e506) (fun c507 => ?_) (fun c507 => ?_)
        · have h4 := h0.let (by omega)
          refine yT.kI (pc' := 122) rfl rfl (by decide) (fun x508 e509 => ?_)
          refine yT.ad2 (pc' := 123) (Z := (p : Int) + 1) e504 e509 rfl rfl (by omega) (fun x510 e511 => ?_)
          refine yT.cpX (c := x510) (pc' := 126) rfl rfl hT129 (K.up rfl) rfl rfl rfl e511 (by omega) rfl (fun h512 hT513 _ _ => ?_)
          have f514 : fl (us σ 60 16 x510) 16 = (p : Int) + 1 := fl_at.trans e511
          have J515 := Jat _ x510 p1
          refine yT.iln (pc' := 127) xg_eq rfl rfl ?_
          refine yT.kb (pc' := 129) rfl rfl (by decide) (fun x516 e517 => ?_)
          refine yT.if2 (t := 146) (pc' := 132) rfl rfl rfl (c2_ne e110 e517) (fun c518 => ?_) (fun c518 => ?_)
          · refine yT.iln (pc' := 147) xg_eq rfl rfl ?_
            refine yT.kb (pc' := 149) rfl rfl (by decide) (fun x519 e520 => ?_)
            refine yT.sb2 (pc' := 150) (Z := (L.1 (p)) - 97) e110 e520 rfl rfl (by omega) (fun x521 e522 => ?_)
            refine yT.p (pc' := 152) (lv' := xst1 _ 4 (.int x521)) rfl rfl (fun _ _ _ _ => rfl) ?_
            refine yT.iln (pc' := 153) (xg_ne (xg_ne g2 rfl) rfl) rfl rfl ?_
            refine yT.if1 (t := 177) (pc' := 156) rfl rfl rfl (c1_eq rfl) (fun c523 => ?_) (fun c523 => ?_)
            · refine yT.lc2 (pc' := 178) (X := 0) rfl rfl rfl (fun y524 e525 => ?_)
              exact yT.retL rfl rfl ⟨_, hT513, _, rfl, ⟨J515, by omega⟩⟩
            · refine yT.aan (pc' := 157) (xg_ne (xg_ne g0 rfl) rfl) rfl rfl rfl ?_
              refine yT.iln (pc' := 158) (xg_ne (xg_ne g1 rfl) rfl) rfl rfl ?_
              refine yT.il (pc' := 160) xg_eq rfl rfl ?_
              refine yT.iln (pc' := 161) (xg_ne xg_eq rfl) rfl rfl ?_
              refine yT.kb (pc' := 163) rfl rfl (by decide) (fun x526 e527 => ?_)
              refine yT.if2 (t := 170) (pc' := 166) rfl rfl rfl (c2_ne e110 e527) (fun c528 => ?_) (fun c528 => ?_)
              · refine yT.kI (pc' := 171) rfl rfl (by decide) (fun x529 e530 => ?_)
                refine kRL (yT.cc (G2 := 0) (pc' := 174) rfl rfl rfl hT513 (K.up rfl : xnth ks 60 = some (19, 0)) xM_178 (hA (y := ((L.1 (p)) - 97).toNat) hT513 J515 (by omega) (by omega) (by omega) (by omega) (by omega)) rfl (by omega) (by decide) rfl) (fun h531 σ535 x534 hT532 E533 => ?_)
                obtain ⟨J536, f537⟩ := E533
                have f538 : fl σ535 16 = (p : Int) + 1 := f537.trans f514
                refine yT.p (pc' := 178) rfl rfl (fun _ _ _ _ => rfl) ?_
                exact yT.retL rfl rfl ⟨_, hT532, _, rfl, ⟨J536, by omega⟩⟩
              · refine yT.kI (pc' := 167) rfl rfl (by decide) (fun x539 e540 => ?_)
                refine yT.p (pc' := 171) rfl rfl (fun _ _ _ _ => rfl) ?_
                refine kRL (yT.cc (G2 := 0) (pc' := 174) rfl rfl rfl hT513 (K.up rfl : xnth ks 60 = some (19, 0)) xM_178 (hA (y := ((L.1 (p)) - 97).toNat) hT513 J515 (by omega) (by omega) (by omega) (by omega) (by omega)) rfl (by omega) (by decide) rfl) (fun h541 σ545 x544 hT542 E543 => ?_)
                obtain ⟨J546, f547⟩ := E543
                have f548 : fl σ545 16 = (p : Int) + 1 := f547.trans f514
                refine yT.p (pc' := 178) rfl rfl (fun _ _ _ _ => rfl) ?_
                exact yT.retL rfl rfl ⟨_, hT542, _, rfl, ⟨J546, by omega⟩⟩
          · refine yT.aan (pc' := 133) (xg_ne g0 rfl) rfl rfl rfl ?_
            refine yT.iln (pc' := 134) (xg_ne g1 rfl) rfl rfl ?_
            refine yT.aan (pc' := 135) (xg_ne g0 rfl) rfl rfl rfl ?_
            refine yT.cgX (pc' := 138) rfl rfl hT513 (K.up rfl) rfl rfl (fun x549 _ i550 j551 z552 => ?_)
            have e553 : x549.toInt = (p : Int) + 1 := (congrArg Int32.toInt z552).trans f514
            refine yT.kI (pc' := 139) rfl rfl (by decide) (fun x554 e555 => ?_)
            refine yT.sb2 (pc' := 140) (Z := (p : Int)) e553 e555 rfl rfl (by omega) (fun x556 e557 => ?_)
            refine kSI (yT.cc (G2 := 0) (pc' := 143) rfl rfl rfl hT513 (K.up rfl : xnth ks 60 = some (19, 0)) xM_170 (r170 (c := c) (k := p) K hT513 e1 e557 hc (JL _ J515).2) rfl (by omega) (by decide) rfl) (fun h558 x561 hT559 E560 => ?_)
            have e562 : x561.toInt = L.1 (p) := E560.trans ((JL _ J515).1 _)
            refine yT.p (pc' := 147) rfl rfl (fun _ _ _ _ => rfl) ?_
            refine yT.kb (pc' := 149) rfl rfl (by decide) (fun x563 e564 => ?_)
            refine yT.sb2 (pc' := 150) (Z := (L.1 (p)) - 97) e562 e564 rfl rfl (by omega) (fun x565 e566 => ?_)
            refine yT.p (pc' := 152) (lv' := xst1 _ 4 (.int x565)) rfl rfl (fun _ _ _ _ => rfl) ?_
            refine yT.iln (pc' := 153) (xg_ne (xg_ne g2 rfl) rfl) rfl rfl ?_
            refine yT.if1 (t := 177) (pc' := 156) rfl rfl rfl (c1_eq rfl) (fun c567 => ?_) (fun c567 => ?_)
            · refine yT.lc2 (pc' := 178) (X := 0) rfl rfl rfl (fun y568 e569 => ?_)
              exact yT.retL rfl rfl ⟨_, hT559, _, rfl, ⟨J515, by omega⟩⟩
            · refine yT.aan (pc' := 157) (xg_ne (xg_ne g0 rfl) rfl) rfl rfl rfl ?_
              refine yT.iln (pc' := 158) (xg_ne (xg_ne g1 rfl) rfl) rfl rfl ?_
              refine yT.il (pc' := 160) xg_eq rfl rfl ?_
              refine yT.iln (pc' := 161) (xg_ne xg_eq rfl) rfl rfl ?_
              refine yT.kb (pc' := 163) rfl rfl (by decide) (fun x570 e571 => ?_)
              refine yT.if2 (t := 170) (pc' := 166) rfl rfl rfl (c2_ne e110 e571) (fun c572 => ?_) (fun c572 => ?_)
              · refine yT.kI (pc' := 171) rfl rfl (by decide) (fun x573 e574 => ?_)
                refine kRL (yT.cc (G2 := 0) (pc' := 174) rfl rfl rfl hT559 (K.up rfl : xnth ks 60 = some (19, 0)) xM_178 (hA (y := ((L.1 (p)) - 97).toNat) hT559 J515 (by omega) (by omega) (by omega) (by omega) (by omega)) rfl (by omega) (by decide) rfl) (fun h575 σ579 x578 hT576 E577 => ?_)
                obtain ⟨J580, f581⟩ := E577
                have f582 : fl σ579 16 = (p : Int) + 1 := f581.trans f514
                refine yT.p (pc' := 178) rfl rfl (fun _ _ _ _ => rfl) ?_
                exact yT.retL rfl rfl ⟨_, hT576, _, rfl, ⟨J580, by omega⟩⟩
              · refine yT.kI (pc' := 167) rfl rfl (by decide) (fun x583 e584 => ?_)
                refine yT.p (pc' := 171) rfl rfl (fun _ _ _ _ => rfl) ?_
                refine kRL (yT.cc (G2 := 0) (pc' := 174) rfl rfl rfl hT559 (K.up rfl : xnth ks 60 = some (19, 0)) xM_178 (hA (y := ((L.1 (p)) - 97).toNat) hT559 J515 (by omega) (by omega) (by omega) (by omega) (by omega)) rfl (by omega) (by decide) rfl) (fun h585 σ589 x588 hT586 E587 => ?_)
                obtain ⟨J590, f591⟩ := E587
                have f592 : fl σ589 16 = (p : Int) + 1 := f591.trans f514
                refine yT.p (pc' := 178) rfl rfl (fun _ _ _ _ => rfl) ?_
                exact yT.retL rfl rfl ⟨_, hT586, _, rfl, ⟨J590, by omega⟩⟩
        · have h4 := h0.unt (by omega)
          refine yT.kI (pc' := 118) rfl rfl (by decide) (fun x593 e594 => ?_)
          refine yT.p (pc' := 122) rfl rfl (fun _ _ _ _ => rfl) ?_
          refine yT.ad2 (pc' := 123) (Z := (p : Int) + 2) e504 e594 rfl rfl (by omega) (fun x595 e596 => ?_)
          refine yT.cpX (c := x595) (pc' := 126) rfl rfl hT129 (K.up rfl) rfl rfl rfl e596 (by omega) rfl (fun h597 hT598 _ _ => ?_)
          have f599 : fl (us σ 60 16 x595) 16 = (p : Int) + 2 := fl_at.trans e596
          have J600 := Jat _ x595 p1
          refine yT.iln (pc' := 127) xg_eq rfl rfl ?_
          refine yT.kb (pc' := 129) rfl rfl (by decide) (fun x601 e602 => ?_)
          refine yT.if2 (t := 146) (pc' := 132) rfl rfl rfl (c2_ne e110 e602) (fun c603 => ?_) (fun c603 => ?_)
          · refine yT.iln (pc' := 147) xg_eq rfl rfl ?_
            refine yT.kb (pc' := 149) rfl rfl (by decide) (fun x604 e605 => ?_)
            refine yT.sb2 (pc' := 150) (Z := (L.1 (p)) - 97) e110 e605 rfl rfl (by omega) (fun x606 e607 => ?_)
            refine yT.p (pc' := 152) (lv' := xst1 _ 4 (.int x606)) rfl rfl (fun _ _ _ _ => rfl) ?_
            refine yT.iln (pc' := 153) (xg_ne (xg_ne g2 rfl) rfl) rfl rfl ?_
            refine yT.if1 (t := 177) (pc' := 156) rfl rfl rfl (c1_eq rfl) (fun c608 => ?_) (fun c608 => ?_)
            · refine yT.lc2 (pc' := 178) (X := 0) rfl rfl rfl (fun y609 e610 => ?_)
              exact yT.retL rfl rfl ⟨_, hT598, _, rfl, ⟨J600, by omega⟩⟩
            · refine yT.aan (pc' := 157) (xg_ne (xg_ne g0 rfl) rfl) rfl rfl rfl ?_
              refine yT.iln (pc' := 158) (xg_ne (xg_ne g1 rfl) rfl) rfl rfl ?_
              refine yT.il (pc' := 160) xg_eq rfl rfl ?_
              refine yT.iln (pc' := 161) (xg_ne xg_eq rfl) rfl rfl ?_
              refine yT.kb (pc' := 163) rfl rfl (by decide) (fun x611 e612 => ?_)
              refine yT.if2 (t := 170) (pc' := 166) rfl rfl rfl (c2_ne e110 e612) (fun c613 => ?_) (fun c613 => ?_)
              · refine yT.kI (pc' := 171) rfl rfl (by decide) (fun x614 e615 => ?_)
                refine kRL (yT.cc (G2 := 0) (pc' := 174) rfl rfl rfl hT598 (K.up rfl : xnth ks 60 = some (19, 0)) xM_178 (hA (y := ((L.1 (p)) - 97).toNat) hT598 J600 (by omega) (by omega) (by omega) (by omega) (by omega)) rfl (by omega) (by decide) rfl) (fun h616 σ620 x619 hT617 E618 => ?_)
                obtain ⟨J621, f622⟩ := E618
                have f623 : fl σ620 16 = (p : Int) + 2 := f622.trans f599
                refine yT.p (pc' := 178) rfl rfl (fun _ _ _ _ => rfl) ?_
                exact yT.retL rfl rfl ⟨_, hT617, _, rfl, ⟨J621, by omega⟩⟩
              · refine yT.kI (pc' := 167) rfl rfl (by decide) (fun x624 e625 => ?_)
                refine yT.p (pc' := 171) rfl rfl (fun _ _ _ _ => rfl) ?_
                refine kRL (yT.cc (G2 := 0) (pc' := 174) rfl rfl rfl hT598 (K.up rfl : xnth ks 60 = some (19, 0)) xM_178 (hA (y := ((L.1 (p)) - 97).toNat) hT598 J600 (by omega) (by omega) (by omega) (by omega) (by omega)) rfl (by omega) (by decide) rfl) (fun h626 σ630 x629 hT627 E628 => ?_)
                obtain ⟨J631, f632⟩ := E628
                have f633 : fl σ630 16 = (p : Int) + 2 := f632.trans f599
                refine yT.p (pc' := 178) rfl rfl (fun _ _ _ _ => rfl) ?_
                exact yT.retL rfl rfl ⟨_, hT627, _, rfl, ⟨J631, by omega⟩⟩
          · refine yT.aan (pc' := 133) (xg_ne g0 rfl) rfl rfl rfl ?_
            refine yT.iln (pc' := 134) (xg_ne g1 rfl) rfl rfl ?_
            refine yT.aan (pc' := 135) (xg_ne g0 rfl) rfl rfl rfl ?_
            refine yT.cgX (pc' := 138) rfl rfl hT598 (K.up rfl) rfl rfl (fun x634 _ i635 j636 z637 => ?_)
            have e638 : x634.toInt = (p : Int) + 2 := (congrArg Int32.toInt z637).trans f599
            refine yT.kI (pc' := 139) rfl rfl (by decide) (fun x639 e640 => ?_)
            refine yT.sb2 (pc' := 140) (Z := (p : Int) + 1) e638 e640 rfl rfl (by omega) (fun x641 e642 => ?_)
            refine kSI (yT.cc (G2 := 0) (pc' := 143) rfl rfl rfl hT598 (K.up rfl : xnth ks 60 = some (19, 0)) xM_170 (r170 (c := c) (k := p + 1) K hT598 e1 (by omega) hc (JL _ J600).2) rfl (by omega) (by decide) rfl) (fun h643 x646 hT644 E645 => ?_)
            have e647 : x646.toInt = L.1 (p + 1) := E645.trans ((JL _ J600).1 _)
            refine yT.p (pc' := 147) rfl rfl (fun _ _ _ _ => rfl) ?_
            refine yT.kb (pc' := 149) rfl rfl (by decide) (fun x648 e649 => ?_)
            refine yT.sb2 (pc' := 150) (Z := (L.1 (p + 1)) - 97) e647 e649 rfl rfl (by omega) (fun x650 e651 => ?_)
            refine yT.p (pc' := 152) (lv' := xst1 _ 4 (.int x650)) rfl rfl (fun _ _ _ _ => rfl) ?_
            refine yT.iln (pc' := 153) (xg_ne (xg_ne g2 rfl) rfl) rfl rfl ?_
            refine yT.if1 (t := 177) (pc' := 156) rfl rfl rfl (c1_eq rfl) (fun c652 => ?_) (fun c652 => ?_)
            · refine yT.lc2 (pc' := 178) (X := 0) rfl rfl rfl (fun y653 e654 => ?_)
              exact yT.retL rfl rfl ⟨_, hT644, _, rfl, ⟨J600, by omega⟩⟩
            · refine yT.aan (pc' := 157) (xg_ne (xg_ne g0 rfl) rfl) rfl rfl rfl ?_
              refine yT.iln (pc' := 158) (xg_ne (xg_ne g1 rfl) rfl) rfl rfl ?_
              refine yT.il (pc' := 160) xg_eq rfl rfl ?_
              refine yT.iln (pc' := 161) (xg_ne xg_eq rfl) rfl rfl ?_
              refine yT.kb (pc' := 163) rfl rfl (by decide) (fun x655 e656 => ?_)
              refine yT.if2 (t := 170) (pc' := 166) rfl rfl rfl (c2_ne e110 e656) (fun c657 => ?_) (fun c657 => ?_)
              · refine yT.kI (pc' := 171) rfl rfl (by decide) (fun x658 e659 => ?_)
                refine kRL (yT.cc (G2 := 0) (pc' := 174) rfl rfl rfl hT644 (K.up rfl : xnth ks 60 = some (19, 0)) xM_178 (hA (y := ((L.1 (p + 1)) - 97).toNat) hT644 J600 (by omega) (by omega) (by omega) (by omega) (by omega)) rfl (by omega) (by decide) rfl) (fun h660 σ664 x663 hT661 E662 => ?_)
                obtain ⟨J665, f666⟩ := E662
                have f667 : fl σ664 16 = (p : Int) + 2 := f666.trans f599
                refine yT.p (pc' := 178) rfl rfl (fun _ _ _ _ => rfl) ?_
                exact yT.retL rfl rfl ⟨_, hT661, _, rfl, ⟨J665, by omega⟩⟩
              · refine yT.kI (pc' := 167) rfl rfl (by decide) (fun x668 e669 => ?_)
                refine yT.p (pc' := 171) rfl rfl (fun _ _ _ _ => rfl) ?_
                refine kRL (yT.cc (G2 := 0) (pc' := 174) rfl rfl rfl hT644 (K.up rfl : xnth ks 60 = some (19, 0)) xM_178 (hA (y := ((L.1 (p + 1)) - 97).toNat) hT644 J600 (by omega) (by omega) (by omega) (by omega) (by omega)) rfl (by omega) (by decide) rfl) (fun h670 σ674 x673 hT671 E672 => ?_)
                obtain ⟨J675, f676⟩ := E672
                have f677 : fl σ674 16 = (p : Int) + 2 := f676.trans f599
                refine yT.p (pc' := 178) rfl rfl (fun _ _ _ _ => rfl) ?_
                exact yT.retL rfl rfl ⟨_, hT671, _, rfl, ⟨J675, by omega⟩⟩
  · obtain ⟨hd1, hd2, hd3⟩ := h0.dig ⟨by omega, by omega⟩
    refine yT.kI (pc' := 25) rfl rfl (by decide) (fun x678 e679 => ?_)
    refine yT.p (pc' := 27) (lv' := xst1 _ 4 (.int x678)) rfl rfl (fun _ _ _ _ => rfl) ?_
    have L680 : ∀ (n693 : Nat) (lv681 : xLv) (σ687 : sg) (b684 : Nat) (h682 : List xE) (x688 : Int32), HT ks σ687 ρ h682 → J σ687 → fl σ687 16 = (b684 : Int) → xget lv681 0 = some (.ref (60 + 1)) → xget lv681 1 = some (.int x1) → xget lv681 4 = some (.int x688) → p ≤ b684 ∧ b684 ≤ q → q - b684 < n693 → yT 0 [] rX9_part (Fa + (2 * (q - p) + 4)) 0 27 lv681 [] h682 (RQL ks ρ (fun σ' r => J σ' ∧ fl σ' 16 = (q : Int))) := by
      intro n693
      induction n693 with
      | zero => intro lv681 σ687 b684 h682 x688 hT683 J686 f685 g689 g690 g691 i692 m694; exact absurd m694 (Nat.not_lt_zero _)
      | succ n693 ih695 =>
        intro lv681 σ687 b684 h682 x688 hT683 J686 f685 g689 g690 g691 i692 m694
        refine yT.aan (pc' := 28) g689 rfl rfl rfl ?_
        refine yT.iln (pc' := 29) g690 rfl rfl ?_
        refine yT.aan (pc' := 30) g689 rfl rfl rfl ?_
        refine yT.cgX (pc' := 33) rfl rfl hT683 (K.up rfl) rfl rfl (fun x696 _ i697 j698 z699 => ?_)
        have e700 : x696.toInt = (b684 : Int) := (congrArg Int32.toInt z699).trans f685
        refine kSI (yT.cc (G2 := 0) (pc' := 36) rfl rfl rfl hT683 (K.up rfl : xnth ks 60 = some (19, 0)) xM_170 (r170 (c := c) (k := b684) K hT683 e1 e700 hc (JL _ J686).2) rfl (by omega) (by decide) rfl) (fun h701 x704 hT702 E703 => ?_)
        have e705 : x704.toInt = L.1 (b684) := E703.trans ((JL _ J686).1 _)
        refine yT.i2l2 (pc' := 37) (X := (L.1 (b684))) e705 rfl rfl (fun y706 e707 => ?_)
        refine yT.ld2 (pc' := 40) (X := 48) rfl rfl rfl (by decide) (fun y708 e709 => ?_)
        refine yT.ld2 (pc' := 43) (X := 57) rfl rfl rfl (by decide) (fun y710 e711 => ?_)
        refine kSI (yT.cst (G2 := 0) (pc' := 46) rfl rfl xM_163 (r163 (v := (L.1 (b684))) (lo := 48) (hi := 57) K hT702 e707 e709 e711) rfl (by omega) (by decide) rfl) (fun h712 x715 hT713 E714 => ?_)
        refine yT.if1 (t := 82) (pc' := 49) rfl rfl rfl (c1_eq rfl) (fun c716 => ?_) (fun c716 => ?_)
        · have hb : b684 = q := Nat.le_antisymm (by omega) (Nat.le_of_not_lt (fun hh => absurd (hd1 b684 (by omega) hh) (by omega)))
          refine yT.il (pc' := 84) g691 rfl rfl ?_
          refine yT.i2l2 (pc' := 85) (X := x688.toInt) rfl rfl rfl (fun y717 e718 => ?_)
          exact yT.retL rfl rfl ⟨_, hT713, _, rfl, ⟨J686, by omega⟩⟩
        · have hb : b684 ≠ q := fun e => hd2 (by rw [← e]; exact ⟨by omega, by omega⟩)
          refine yT.kb (pc' := 51) rfl rfl (by decide) (fun x719 e720 => ?_)
          refine yT.il (pc' := 53) g691 rfl rfl ?_
          refine yT.fi (pc' := 54) rfl rfl (fun _ _ _ _ => rfl) (fun x721 => ?_)
          refine yT.aan (pc' := 55) g689 rfl rfl rfl ?_
          refine yT.iln (pc' := 56) g690 rfl rfl ?_
          refine yT.aan (pc' := 57) g689 rfl rfl rfl ?_
          refine yT.cgX (pc' := 60) rfl rfl hT713 (K.up rfl) rfl rfl (fun x722 _ i723 j724 z725 => ?_)
          have e726 : x722.toInt = (b684 : Int) := (congrArg Int32.toInt z725).trans f685
          refine kSI (yT.cc (G2 := 0) (pc' := 63) rfl rfl rfl hT713 (K.up rfl : xnth ks 60 = some (19, 0)) xM_170 (r170 (c := c) (k := b684) K hT713 e1 e726 hc (JL _ J686).2) rfl (by omega) (by decide) rfl) (fun h727 x730 hT728 E729 => ?_)
          have e731 : x730.toInt = L.1 (b684) := E729.trans ((JL _ J686).1 _)
          refine yT.fi (pc' := 64) rfl rfl (fun _ _ _ _ => rfl) (fun x732 => ?_)
          refine yT.kb (pc' := 66) rfl rfl (by decide) (fun x733 e734 => ?_)
          refine yT.fi (pc' := 67) rfl rfl (fun _ _ _ _ => rfl) (fun x735 => ?_)
          refine yT.p (pc' := 69) (lv' := xst1 _ 4 (.int x735)) rfl rfl (fun _ _ _ _ => rfl) ?_
          refine yT.aan (pc' := 70) (xg_ne g689 rfl) rfl rfl rfl ?_
          refine yT.p (pc' := 71) rfl rfl (fun _ _ _ _ => rfl) ?_
          refine yT.cgX (pc' := 74) rfl rfl hT728 (K.up rfl) rfl rfl (fun x736 _ i737 j738 z739 => ?_)
          have e740 : x736.toInt = (b684 : Int) := (congrArg Int32.toInt z739).trans f685
          refine yT.kI (pc' := 75) rfl rfl (by decide) (fun x741 e742 => ?_)
          refine yT.ad2 (pc' := 76) (Z := (b684 : Int) + 1) e740 e742 rfl rfl (by omega) (fun x743 e744 => ?_)
          refine yT.cpX (c := x743) (pc' := 79) rfl rfl hT728 (K.up rfl) rfl rfl rfl e744 (by omega) rfl (fun h745 hT746 _ _ => ?_)
          have f747 : fl (us σ687 60 16 x743) 16 = (b684 : Int) + 1 := fl_at.trans e744
          have J748 := Jat _ x743 J686
          refine yT.p (pc' := 27) rfl rfl (fun _ _ _ _ => rfl) ?_
          exact ih695 _ (us σ687 60 16 x743) (b684 + 1) _ x735 hT746 J748 (by omega) (xg_ne g689 rfl) (xg_ne g690 rfl) xg_eq (by omega) (by omega)
    exact L680 _ _ σ (p) _ x678 hT118 p1 (by omega) (xg_ne (xg_ne g0 rfl) rfl) (xg_ne (xg_ne g1 rfl) rfl) xg_eq (by omega) (Nat.lt_succ_self _)
