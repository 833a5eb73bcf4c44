-- rX9_compr
set_option maxRecDepth 100000 in
set_option maxHeartbeats 4000000 in
theorem r173r {ks : List cT} {B0 : Nat} (K : KE KS0 ks B0) {σ : sg} {ρ : Nat → xE} {h : List xE} (hT : HT ks σ ρ h) {c : Nat} {x1 : Int32} (e1 : x1.toInt = (c : Int)) {x2 : Int32} (e2 : x2.toInt = 0 ∨ x2.toInt = 1) {J : sg → Prop} {L : Nat → Int} {Fa : Nat} (JL : ∀ σ, J σ → (∀ k, ltr σ c k = L k) ∧ nw σ (282 * c + 31) ≤ 250) (hL : ∀ j, 250 ≤ j → L j = -1) (Jat : ∀ σ v, J σ → J (us σ 60 16 v)) (hc : c < 24) {n p q : Nat} (R : ∀ {σ1 : sg} {h1 : List xE} {y1 y2 : Int32} {p1 q1 : Nat}, HT ks σ1 ρ h1 → J σ1 → fl σ1 16 = (p1 : Int) → y1.toInt = (c : Int) → y2.toInt = 0 ∨ y2.toInt = 1 → PP n L 1 p1 = some q1 → q1 ≤ 250 → yM 174 (Fa + (2 * (q1 - p1) + 6)) 0 [.ref (60 + 1), .int y1, .int y2] h1 (RQL ks ρ (fun σ2 _ => J σ2 ∧ fl σ2 16 = (q1 : Int)))) (p0 : c < 24) (p1 : J σ) (p2 : fl σ 16 = (p : Int)) (p3 : PP (n + 1) L 0 p = some q) (p4 : q ≤ 250) : yM 173 (Fa + (2 * (q - p) + 7)) 0 [.ref (60 + 1), .int x1, .int x2] h (RQL ks ρ (fun σ' r => J σ' ∧ fl σ' 16 = (q : Int))) := by
  refine yM.st xM_173 rfl rfl (fun lv g => ?_)
  have g0 := g 0 _ rfl
  have g1 := g 1 _ rfl
  have g2 := g 2 _ rfl
  obtain ⟨a, h1, h2, h3⟩ := PP0 p3
  have b1 := PP_lt h1 hL
  have ha : a ≤ q := by
    by_cases hs : L a = 60 ∨ L a = 61 ∨ L a = 62
    · have := PP_lt (h2 hs) hL; omega
    · have := h3 hs; omega
  have b1 := b1.2 (by decide) (by decide)
  refine yT.aan (pc' := 1) g0 rfl rfl rfl ?_
  refine yT.iln (pc' := 2) g1 rfl rfl ?_
  refine yT.iln (pc' := 3) g2 rfl rfl ?_
  refine kRL (yT.cc (G2 := 0) (pc' := 6) rfl rfl rfl hT (K.up rfl : xnth ks 60 = some (19, 0)) xM_174 (R (p1 := p) hT p1 (by omega) (by omega) (by omega) h1 (by omega)) rfl (by omega) (by decide) rfl) (fun h101 σ105 x104 hT102 E103 => ?_)
  obtain ⟨J106, f107⟩ := E103
  refine yT.p (pc' := 7) (lv' := xst2 _ 3 (.long x104)) rfl rfl (fun _ _ _ _ => rfl) ?_
  refine yT.aan (pc' := 8) (xg2_ne g0 rfl) rfl rfl rfl ?_
  refine yT.iln (pc' := 9) (xg2_ne g1 rfl) rfl rfl ?_
  refine yT.aan (pc' := 10) (xg2_ne g0 rfl) rfl rfl rfl ?_
  refine yT.cgX (pc' := 13) rfl rfl hT102 (K.up rfl) rfl rfl (fun x108 _ i109 j110 z111 => ?_)
  have e112 : x108.toInt = (a : Int) := (congrArg Int32.toInt z111).trans f107
  refine kSI (yT.cc (G2 := 0) (pc' := 16) rfl rfl rfl hT102 (K.up rfl : xnth ks 60 = some (19, 0)) xM_170 (r170 (c := c) (k := a) K hT102 e1 e112 hc (JL _ J106).2) rfl (by omega) (by decide) rfl) (fun h113 x116 hT114 E115 => ?_)
  have e117 : x116.toInt = L (a) := E115.trans ((JL _ J106).1 _)
  refine yT.p (pc' := 18) (lv' := xst1 _ 5 (.int x116)) rfl rfl (fun _ _ _ _ => rfl) ?_
  refine yT.il (pc' := 20) xg_eq rfl rfl ?_
  refine yT.kb (pc' := 22) rfl rfl (by decide) (fun x118 e119 => ?_)
  refine yT.if2 (t := 41) (pc' := 25) rfl rfl rfl (c2_eq e117 e119) (fun c120 => ?_) (fun c120 => ?_)
  · have h4 := h2 (by omega)
    have b4 := PP_lt h4 hL
    have b5 := b4.1
    refine yT.aan (pc' := 42) (xg_ne (xg2_ne g0 rfl) rfl) rfl rfl rfl ?_
    refine yT.p (pc' := 43) rfl rfl (fun _ _ _ _ => rfl) ?_
    refine yT.cgX (pc' := 46) rfl rfl hT114 (K.up rfl) rfl rfl (fun x121 _ i122 j123 z124 => ?_)
    have e125 : x121.toInt = (a : Int) := (congrArg Int32.toInt z124).trans f107
    refine yT.kI (pc' := 47) rfl rfl (by decide) (fun x126 e127 => ?_)
    refine yT.ad2 (pc' := 48) (Z := (a : Int) + 1) e125 e127 rfl rfl (by omega) (fun x128 e129 => ?_)
    refine yT.cpX (c := x128) (pc' := 51) rfl rfl hT114 (K.up rfl) rfl rfl rfl e129 (by omega) rfl (fun h130 hT131 _ _ => ?_)
    have f132 : fl (us σ105 60 16 x128) 16 = (a : Int) + 1 := fl_at.trans e129
    have J133 := Jat _ x128 J106
    refine yT.iln (pc' := 52) (xg_ne (xg2_ne g2 rfl) rfl) rfl rfl ?_
    refine yT.if1 (t := 66) (pc' := 55) rfl rfl rfl (c1_eq rfl) (fun c134 => ?_) (fun c134 => ?_)
    · refine yT.kI (pc' := 67) rfl rfl (by decide) (fun x135 e136 => ?_)
      refine yT.p (pc' := 69) (lv' := xst1 _ 6 (.int x135)) rfl rfl (fun _ _ _ _ => rfl) ?_
      refine yT.aan (pc' := 70) (xg_ne (xg_ne (xg2_ne g0 rfl) rfl) rfl) rfl rfl rfl ?_
      refine yT.iln (pc' := 71) (xg_ne (xg_ne (xg2_ne g1 rfl) rfl) rfl) rfl rfl ?_
      refine yT.il (pc' := 73) xg_eq rfl rfl ?_
      refine kRL (yT.cc (G2 := 0) (pc' := 76) rfl rfl rfl hT131 (K.up rfl : xnth ks 60 = some (19, 0)) xM_174 (R (p1 := a + 1) hT131 J133 (by omega) (by omega) (by omega) h4 (by omega)) rfl (by omega) (by decide) rfl) (fun h137 σ141 x140 hT138 E139 => ?_)
      obtain ⟨J142, f143⟩ := E139
      refine yT.p (pc' := 78) (lv' := xst2 _ 7 (.long x140)) rfl rfl (fun _ _ _ _ => rfl) ?_
      refine yT.il (pc' := 80) (xg2_ne xg_eq rfl) rfl rfl ?_
      refine yT.if1 (t := 91) (pc' := 83) rfl rfl rfl (c1_eq e136) (fun c144 => ?_) (fun c144 => by omega)
      refine yT.il (pc' := 93) (xg2_ne xg_eq rfl) rfl rfl ?_
      refine yT.if1 (t := 101) (pc' := 96) rfl rfl rfl (c1_eq e136) (fun c145 => ?_) (fun c145 => by omega)
      refine yT.lln (pc' := 102) (xg2_ne (xg_ne (xg_ne xg2_eq rfl) rfl) rfl) rfl rfl ?_
      refine yT.p (pc' := 115) rfl rfl (fun _ _ _ _ => rfl) ?_
      exact yT.retL rfl rfl ⟨_, hT138, _, rfl, ⟨J142, by omega⟩⟩
    · refine yT.lln (pc' := 56) (xg_ne xg2_eq rfl) rfl rfl ?_
      refine kSI (yT.cst (G2 := 0) (pc' := 59) rfl rfl xM_171 (r171  K hT131 x104) rfl (by omega) (by decide) rfl) (fun h146 x149 hT147 E148 => ?_)
      refine yT.if1 (t := 66) (pc' := 62) rfl rfl rfl (c1_ne rfl) (fun c150 => ?_) (fun c150 => ?_)
      · refine yT.kI (pc' := 67) rfl rfl (by decide) (fun x151 e152 => ?_)
        refine yT.p (pc' := 69) (lv' := xst1 _ 6 (.int x151)) rfl rfl (fun _ _ _ _ => rfl) ?_
        refine yT.aan (pc' := 70) (xg_ne (xg_ne (xg2_ne g0 rfl) rfl) rfl) rfl rfl rfl ?_
        refine yT.iln (pc' := 71) (xg_ne (xg_ne (xg2_ne g1 rfl) rfl) rfl) rfl rfl ?_
        refine yT.il (pc' := 73) xg_eq rfl rfl ?_
        refine kRL (yT.cc (G2 := 0) (pc' := 76) rfl rfl rfl hT147 (K.up rfl : xnth ks 60 = some (19, 0)) xM_174 (R (p1 := a + 1) hT147 J133 (by omega) (by omega) (by omega) h4 (by omega)) rfl (by omega) (by decide) rfl) (fun h153 σ157 x156 hT154 E155 => ?_)
        obtain ⟨J158, f159⟩ := E155
        refine yT.p (pc' := 78) (lv' := xst2 _ 7 (.long x156)) rfl rfl (fun _ _ _ _ => rfl) ?_
        refine yT.il (pc' := 80) (xg2_ne xg_eq rfl) rfl rfl ?_
        refine yT.if1 (t := 91) (pc' := 83) rfl rfl rfl (c1_eq e152) (fun c160 => ?_) (fun c160 => by omega)
        refine yT.il (pc' := 93) (xg2_ne xg_eq rfl) rfl rfl ?_
        refine yT.if1 (t := 101) (pc' := 96) rfl rfl rfl (c1_eq e152) (fun c161 => ?_) (fun c161 => by omega)
        refine yT.lln (pc' := 102) (xg2_ne (xg_ne (xg_ne xg2_eq rfl) rfl) rfl) rfl rfl ?_
        refine yT.p (pc' := 115) rfl rfl (fun _ _ _ _ => rfl) ?_
        exact yT.retL rfl rfl ⟨_, hT154, _, rfl, ⟨J158, by omega⟩⟩
      · refine yT.kI (pc' := 63) rfl rfl (by decide) (fun x162 e163 => ?_)
        refine yT.p (pc' := 67) rfl rfl (fun _ _ _ _ => rfl) ?_
        refine yT.p (pc' := 69) (lv' := xst1 _ 6 (.int x162)) rfl rfl (fun _ _ _ _ => rfl) ?_
        refine yT.aan (pc' := 70) (xg_ne (xg_ne (xg2_ne g0 rfl) rfl) rfl) rfl rfl rfl ?_
        refine yT.iln (pc' := 71) (xg_ne (xg_ne (xg2_ne g1 rfl) rfl) rfl) rfl rfl ?_
        refine yT.il (pc' := 73) xg_eq rfl rfl ?_
        refine kRL (yT.cc (G2 := 0) (pc' := 76) rfl rfl rfl hT147 (K.up rfl : xnth ks 60 = some (19, 0)) xM_174 (R (p1 := a + 1) hT147 J133 (by omega) (by omega) (by omega) h4 (by omega)) rfl (by omega) (by decide) rfl) (fun h164 σ168 x167 hT165 E166 => ?_)
        obtain ⟨J169, f170⟩ := E166
        refine yT.p (pc' := 78) (lv' := xst2 _ 7 (.long x167)) rfl rfl (fun _ _ _ _ => rfl) ?_
        refine yT.il (pc' := 80) (xg2_ne xg_eq rfl) rfl rfl ?_
        refine yT.if1 (t := 91) (pc' := 83) rfl rfl rfl (c1_eq e163) (fun c171 => by omega) (fun c171 => ?_)
        refine yT.ll (pc' := 85) xg2_eq rfl rfl ?_
        refine kSI (yT.cst (G2 := 0) (pc' := 88) rfl rfl xM_171 (r171  K hT165 x167) rfl (by omega) (by decide) rfl) (fun h172 x175 hT173 E174 => ?_)
        refine yT.if1 (t := 105) (pc' := 91) rfl rfl rfl (c1_eq rfl) (fun c176 => ?_) (fun c176 => ?_)
        · refine yT.il (pc' := 107) (xg2_ne (xg_ne xg_eq rfl) rfl) rfl rfl ?_
          refine yT.lln (pc' := 108) (xg2_ne (xg_ne (xg_ne xg2_eq rfl) rfl) rfl) rfl rfl ?_
          refine yT.fi (pc' := 109) rfl rfl (fun _ _ _ _ => rfl) (fun x177 => ?_)
          refine yT.ll (pc' := 111) xg2_eq rfl rfl ?_
          refine yT.fi (pc' := 112) rfl rfl (fun _ _ _ _ => rfl) (fun x178 => ?_)
          refine kSL (yT.cst (G2 := 0) (pc' := 115) rfl rfl xM_172 (r172  K hT173 x116 x177 x178) rfl (by omega) (by decide) rfl) (fun h179 x182 hT180 E181 => ?_)
          exact yT.retL rfl rfl ⟨_, hT180, _, rfl, ⟨J169, by omega⟩⟩
        · refine yT.il (pc' := 93) (xg2_ne xg_eq rfl) rfl rfl ?_
          refine yT.if1 (t := 101) (pc' := 96) rfl rfl rfl (c1_eq e163) (fun c183 => by omega) (fun c183 => ?_)
          refine yT.ll (pc' := 98) xg2_eq rfl rfl ?_
          refine yT.p (pc' := 115) rfl rfl (fun _ _ _ _ => rfl) ?_
          exact yT.retL rfl rfl ⟨_, hT173, _, rfl, ⟨J169, by omega⟩⟩
  · refine yT.il (pc' := 27) xg_eq rfl rfl ?_
    refine yT.kb (pc' := 29) rfl rfl (by decide) (fun x184 e185 => ?_)
    refine yT.if2 (t := 41) (pc' := 32) rfl rfl rfl (c2_eq e117 e185) (fun c186 => ?_) (fun c186 => ?_)
    · have h4 := h2 (by omega)
      have b4 := PP_lt h4 hL
      have b5 := b4.1
      refine yT.aan (pc' := 42) (xg_ne (xg2_ne g0 rfl) rfl) rfl rfl rfl ?_
      refine yT.p (pc' := 43) rfl rfl (fun _ _ _ _ => rfl) ?_
      refine yT.cgX (pc' := 46) rfl rfl hT114 (K.up rfl) rfl rfl (fun x187 _ i188 j189 z190 => ?_)
      have e191 : x187.toInt = (a : Int) := (congrArg Int32.toInt z190).trans f107
      refine yT.kI (pc' := 47) rfl rfl (by decide) (fun x192 e193 => ?_)
      refine yT.ad2 (pc' := 48) (Z := (a : Int) + 1) e191 e193 rfl rfl (by omega) (fun x194 e195 => ?_)
      refine yT.cpX (c := x194) (pc' := 51) rfl rfl hT114 (K.up rfl) rfl rfl rfl e195 (by omega) rfl (fun h196 hT197 _ _ => ?_)
      have f198 : fl (us σ105 60 16 x194) 16 = (a : Int) + 1 := fl_at.trans e195
      have J199 := Jat _ x194 J106
      refine yT.iln (pc' := 52) (xg_ne (xg2_ne g2 rfl) rfl) rfl rfl ?_
      refine yT.if1 (t := 66) (pc' := 55) rfl rfl rfl (c1_eq rfl) (fun c200 => ?_) (fun c200 => ?_)
      · refine yT.kI (pc' := 67) rfl rfl (by decide) (fun x201 e202 => ?_)
        refine yT.p (pc' := 69) (lv' := xst1 _ 6 (.int x201)) rfl rfl (fun _ _ _ _ => rfl) ?_
        refine yT.aan (pc' := 70) (xg_ne (xg_ne (xg2_ne g0 rfl) rfl) rfl) rfl rfl rfl ?_
        refine yT.iln (pc' := 71) (xg_ne (xg_ne (xg2_ne g1 rfl) rfl) rfl) rfl rfl ?_
        refine yT.il (pc' := 73) xg_eq rfl rfl ?_
        refine kRL (yT.cc (G2 := 0) (pc' := 76) rfl rfl rfl hT197 (K.up rfl : xnth ks 60 = some (19, 0)) xM_174 (R (p1 := a + 1) hT197 J199 (by omega) (by omega) (by omega) h4 (by omega)) rfl (by omega) (by decide) rfl) (fun h203 σ207 x206 hT204 E205 => ?_)
        obtain ⟨J208, f209⟩ := E205
        refine yT.p (pc' := 78) (lv' := xst2 _ 7 (.long x206)) rfl rfl (fun _ _ _ _ => rfl) ?_
        refine yT.il (pc' := 80) (xg2_ne xg_eq rfl) rfl rfl ?_
        refine yT.if1 (t := 91) (pc' := 83) rfl rfl rfl (c1_eq e202) (fun c210 => ?_) (fun c210 => by omega)
        refine yT.il (pc' := 93) (xg2_ne xg_eq rfl) rfl rfl ?_
        refine yT.if1 (t := 101) (pc' := 96) rfl rfl rfl (c1_eq e202) (fun c211 => ?_) (fun c211 => by omega)
        refine yT.lln (pc' := 102) (xg2_ne (xg_ne (xg_ne xg2_eq rfl) rfl) rfl) rfl rfl ?_
        refine yT.p (pc' := 115) rfl rfl (fun _ _ _ _ => rfl) ?_
        exact yT.retL rfl rfl ⟨_, hT204, _, rfl, ⟨J208, by omega⟩⟩
      · refine yT.lln (pc' := 56) (xg_ne xg2_eq rfl) rfl rfl ?_
        refine kSI (yT.cst (G2 := 0) (pc' := 59) rfl rfl xM_171 (r171  K hT197 x104) rfl (by omega) (by decide) rfl) (fun h212 x215 hT213 E214 => ?_)
        refine yT.if1 (t := 66) (pc' := 62) rfl rfl rfl (c1_ne rfl) (fun c216 => ?_) (fun c216 => ?_)
        · refine yT.kI (pc' := 67) rfl rfl (by decide) (fun x217 e218 => ?_)
          refine yT.p (pc' := 69) (lv' := xst1 _ 6 (.int x217)) rfl rfl (fun _ _ _ _ => rfl) ?_
          refine yT.aan (pc' := 70) (xg_ne (xg_ne (xg2_ne g0 rfl) rfl) rfl) rfl rfl rfl ?_
          refine yT.iln (pc' := 71) (xg_ne (xg_ne (xg2_ne g1 rfl) rfl) rfl) rfl rfl ?_
          refine yT.il (pc' := 73) xg_eq rfl rfl ?_
          refine kRL (yT.cc (G2 := 0) (pc' := 76) rfl rfl rfl hT213 (K.up rfl : xnth ks 60 = some (19, 0)) xM_174 (R (p1 := a + 1) hT213 J199 (by omega) (by omega) (by omega) h4 (by omega)) rfl (by omega) (by decide) rfl) (fun h219 σ223 x222 hT220 E221 => ?_)
          obtain ⟨J224, f225⟩ := E221
          refine yT.p (pc' := 78) (lv' := xst2 _ 7 (.long x222)) rfl rfl (fun _ _ _ _ => rfl) ?_
          refine yT.il (pc' := 80) (xg2_ne xg_eq rfl) rfl rfl ?_
          refine yT.if1 (t := 91) (pc' := 83) rfl rfl rfl (c1_eq e218) (fun c226 => ?_) (fun c226 => by omega)
          refine yT.il (pc' := 93) (xg2_ne xg_eq rfl) rfl rfl ?_
          refine yT.if1 (t := 101) (pc' := 96) rfl rfl rfl (c1_eq e218) (fun c227 => ?_) (fun c227 => by omega)
          refine yT.lln (pc' := 102) (xg2_ne (xg_ne (xg_ne xg2_eq rfl) rfl) rfl) rfl rfl ?_
          refine yT.p (pc' := 115) rfl rfl (fun _ _ _ _ => rfl) ?_
          exact yT.retL rfl rfl ⟨_, hT220, _, rfl, ⟨J224, by omega⟩⟩
        · refine yT.kI (pc' := 63) rfl rfl (by decide) (fun x228 e229 => ?_)
          refine yT.p (pc' := 67) rfl rfl (fun _ _ _ _ => rfl) ?_
          refine yT.p (pc' := 69) (lv' := xst1 _ 6 (.int x228)) rfl rfl (fun _ _ _ _ => rfl) ?_
          refine yT.aan (pc' := 70) (xg_ne (xg_ne (xg2_ne g0 rfl) rfl) rfl) rfl rfl rfl ?_
          refine yT.iln (pc' := 71) (xg_ne (xg_ne (xg2_ne g1 rfl) rfl) rfl) rfl rfl ?_
          refine yT.il (pc' := 73) xg_eq rfl rfl ?_
          refine kRL (yT.cc (G2 := 0) (pc' := 76) rfl rfl rfl hT213 (K.up rfl : xnth ks 60 = some (19, 0)) xM_174 (R (p1 := a + 1) hT213 J199 (by omega) (by omega) (by omega) h4 (by omega)) rfl (by omega) (by decide) rfl) (fun h230 σ234 x233 hT231 E232 => ?_)
          obtain ⟨J235, f236⟩ := E232
          refine yT.p (pc' := 78) (lv' := xst2 _ 7 (.long x233)) rfl rfl (fun _ _ _ _ => rfl) ?_
          refine yT.il (pc' := 80) (xg2_ne xg_eq rfl) rfl rfl ?_
          refine yT.if1 (t := 91) (pc' := 83) rfl rfl rfl (c1_eq e229) (fun c237 => by omega) (fun c237 => ?_)
          refine yT.ll (pc' := 85) xg2_eq rfl rfl ?_
          refine kSI (yT.cst (G2 := 0) (pc' := 88) rfl rfl xM_171 (r171  K hT231 x233) rfl (by omega) (by decide) rfl) (fun h238 x241 hT239 E240 => ?_)
          refine yT.if1 (t := 105) (pc' := 91) rfl rfl rfl (c1_eq rfl) (fun c242 => ?_) (fun c242 => ?_)
          · refine yT.il (pc' := 107) (xg2_ne (xg_ne xg_eq rfl) rfl) rfl rfl ?_
            refine yT.lln (pc' := 108) (xg2_ne (xg_ne (xg_ne xg2_eq rfl) rfl) rfl) rfl rfl ?_
            refine yT.fi (pc' := 109) rfl rfl (fun _ _ _ _ => rfl) (fun x243 => ?_)
            refine yT.ll (pc' := 111) xg2_eq rfl rfl ?_
            refine yT.fi (pc' := 112) rfl rfl (fun _ _ _ _ => rfl) (fun x244 => ?_)
            refine kSL (yT.cst (G2 := 0) (pc' := 115) rfl rfl xM_172 (r172  K hT239 x116 x243 x244) rfl (by omega) (by decide) rfl) (fun h245 x248 hT246 E247 => ?_)
            exact yT.retL rfl rfl ⟨_, hT246, _, rfl, ⟨J235, by omega⟩⟩
          · refine yT.il (pc' := 93) (xg2_ne xg_eq rfl) rfl rfl ?_
            refine yT.if1 (t := 101) (pc' := 96) rfl rfl rfl (c1_eq e229) (fun c249 => by omega) (fun c249 => ?_)
            refine yT.ll (pc' := 98) xg2_eq rfl rfl ?_
            refine yT.p (pc' := 115) rfl rfl (fun _ _ _ _ => rfl) ?_
            exact yT.retL rfl rfl ⟨_, hT239, _, rfl, ⟨J235, by omega⟩⟩
    · refine yT.il (pc' := 34) xg_eq rfl rfl ?_
      refine yT.kb (pc' := 36) rfl rfl (by decide) (fun x250 e251 => ?_)
      refine yT.if2 (t := 41) (pc' := 39) rfl rfl rfl (c2_eq e117 e251) (fun c252 => ?_) (fun c252 => ?_)
      · have h4 := h2 (by omega)
        have b4 := PP_lt h4 hL
        have b5 := b4.1
        refine yT.aan (pc' := 42) (xg_ne (xg2_ne g0 rfl) rfl) rfl rfl rfl ?_
        refine yT.p (pc' := 43) rfl rfl (fun _ _ _ _ => rfl) ?_
        refine yT.cgX (pc' := 46) rfl rfl hT114 (K.up rfl) rfl rfl (fun x253 _ i254 j255 z256 => ?_)
        have e257 : x253.toInt = (a : Int) := (congrArg Int32.toInt z256).trans f107
        refine yT.kI (pc' := 47) rfl rfl (by decide) (fun x258 e259 => ?_)
        refine yT.ad2 (pc' := 48) (Z := (a : Int) + 1) e257 e259 rfl rfl (by omega) (fun x260 e261 => ?_)
        refine yT.cpX (c := x260) (pc' := 51) rfl rfl hT114 (K.up rfl) rfl rfl rfl e261 (by omega) rfl (fun h262 hT263 _ _ => ?_)
        have f264 : fl (us σ105 60 16 x260) 16 = (a : Int) + 1 := fl_at.trans e261
        have J265 := Jat _ x260 J106
        refine yT.iln (pc' := 52) (xg_ne (xg2_ne g2 rfl) rfl) rfl rfl ?_
        refine yT.if1 (t := 66) (pc' := 55) rfl rfl rfl (c1_eq rfl) (fun c266 => ?_) (fun c266 => ?_)
        · refine yT.kI (pc' := 67) rfl rfl (by decide) (fun x267 e268 => ?_)
          refine yT.p (pc' := 69) (lv' := xst1 _ 6 (.int x267)) rfl rfl (fun _ _ _ _ => rfl) ?_
          refine yT.aan (pc' := 70) (xg_ne (xg_ne (xg2_ne g0 rfl) rfl) rfl) rfl rfl rfl ?_
          refine yT.iln (pc' := 71) (xg_ne (xg_ne (xg2_ne g1 rfl) rfl) rfl) rfl rfl ?_
          refine yT.il (pc' := 73) xg_eq rfl rfl ?_
          refine kRL (yT.cc (G2 := 0) (pc' := 76) rfl rfl rfl hT263 (K.up rfl : xnth ks 60 = some (19, 0)) xM_174 (R (p1 := a + 1) hT263 J265 (by omega) (by omega) (by omega) h4 (by omega)) rfl (by omega) (by decide) rfl) (fun h269 σ273 x272 hT270 E271 => ?_)
          obtain ⟨J274, f275⟩ := E271
          refine yT.p (pc' := 78) (lv' := xst2 _ 7 (.long x272)) rfl rfl (fun _ _ _ _ => rfl) ?_
          refine yT.il (pc' := 80) (xg2_ne xg_eq rfl) rfl rfl ?_
          refine yT.if1 (t := 91) (pc' := 83) rfl rfl rfl (c1_eq e268) (fun c276 => ?_) (fun c276 => by omega)
          refine yT.il (pc' := 93) (xg2_ne xg_eq rfl) rfl rfl ?_
          refine yT.if1 (t := 101) (pc' := 96) rfl rfl rfl (c1_eq e268) (fun c277 => ?_) (fun c277 => by omega)
          refine yT.lln (pc' := 102) (xg2_ne (xg_ne (xg_ne xg2_eq rfl) rfl) rfl) rfl rfl ?_
          refine yT.p (pc' := 115) rfl rfl (fun _ _ _ _ => rfl) ?_
          exact yT.retL rfl rfl ⟨_, hT270, _, rfl, ⟨J274, by omega⟩⟩
        · refine yT.lln (pc' := 56) (xg_ne xg2_eq rfl) rfl rfl ?_
          refine kSI (yT.cst (G2 := 0) (pc' := 59) rfl rfl xM_171 (r171  K hT263 x104) rfl (by omega) (by decide) rfl) (fun h278 x281 hT279 E280 => ?_)
          refine yT.if1 (t := 66) (pc' := 62) rfl rfl rfl (c1_ne rfl) (fun c282 => ?_) (fun c282 => ?_)
          · refine yT.kI (pc' := 67) rfl rfl (by decide) (fun x283 e284 => ?_)
            refine yT.p (pc' := 69) (lv' := xst1 _ 6 (.int x283)) rfl rfl (fun _ _ _ _ => rfl) ?_
            refine yT.aan (pc' := 70) (xg_ne (xg_ne (xg2_ne g0 rfl) rfl) rfl) rfl rfl rfl ?_
            refine yT.iln (pc' := 71) (xg_ne (xg_ne (xg2_ne g1 rfl) rfl) rfl) rfl rfl ?_
            refine yT.il (pc' := 73) xg_eq rfl rfl ?_
            refine kRL (yT.cc (G2 := 0) (pc' := 76) rfl rfl rfl hT279 (K.up rfl : xnth ks 60 = some (19, 0)) xM_174 (R (p1 := a + 1) hT279 J265 (by omega) (by omega) (by omega) h4 (by omega)) rfl (by omega) (by decide) rfl) (fun h285 σ289 x288 hT286 E287 => ?_)
            obtain ⟨J290, f291⟩ := E287
            refine yT.p (pc' := 78) (lv' := xst2 _ 7 (.long x288)) rfl rfl (fun _ _ _ _ => rfl) ?_
            refine yT.il (pc' := 80) (xg2_ne xg_eq rfl) rfl rfl ?_
            refine yT.if1 (t := 91) (pc' := 83) rfl rfl rfl (c1_eq e284) (fun c292 => ?_) (fun c292 => by omega)
            refine yT.il (pc' := 93) (xg2_ne xg_eq rfl) rfl rfl ?_
            refine yT.if1 (t := 101) (pc' := 96) rfl rfl rfl (c1_eq e284) (fun c293 => ?_) (fun c293 => by omega)
            refine yT.lln (pc' := 102) (xg2_ne (xg_ne (xg_ne xg2_eq rfl) rfl) rfl) rfl rfl ?_
            refine yT.p (pc' := 115) rfl rfl (fun _ _ _ _ => rfl) ?_
            exact yT.retL rfl rfl ⟨_, hT286, _, rfl, ⟨J290, by omega⟩⟩
          · refine yT.kI (pc' := 63) rfl rfl (by decide) (fun x294 e295 => ?_)
            refine yT.p (pc' := 67) rfl rfl (fun _ _ _ _ => rfl) ?_
            refine yT.p (pc' := 69) (lv' := xst1 _ 6 (.int x294)) rfl rfl (fun _ _ _ _ => rfl) ?_
            refine yT.aan (pc' := 70) (xg_ne (xg_ne (xg2_ne g0 rfl) rfl) rfl) rfl rfl rfl ?_
            refine yT.iln (pc' := 71) (xg_ne (xg_ne (xg2_ne g1 rfl) rfl) rfl) rfl rfl ?_
            refine yT.il (pc' := 73) xg_eq rfl rfl ?_
            refine kRL (yT.cc (G2 := 0) (pc' := 76) rfl rfl rfl hT279 (K.up rfl : xnth ks 60 = some (19, 0)) xM_174 (R (p1 := a + 1) hT279 J265 (by omega) (by omega) (by omega) h4 (by omega)) rfl (by omega) (by decide) rfl) (fun h296 σ300 x299 hT297 E298 => ?_)
            obtain ⟨J301, f302⟩ := E298
            refine yT.p (pc' := 78) (lv' := xst2 _ 7 (.long x299)) rfl rfl (fun _ _ _ _ => rfl) ?_
            refine yT.il (pc' := 80) (xg2_ne xg_eq rfl) rfl rfl ?_
            refine yT.if1 (t := 91) (pc' := 83) rfl rfl rfl (c1_eq e295) (fun c303 => by omega) (fun c303 => ?_)
            refine yT.ll (pc' := 85) xg2_eq rfl rfl ?_
            refine kSI (yT.cst (G2 := 0) (pc' := 88) rfl rfl xM_171 (r171  K hT297 x299) rfl (by omega) (by decide) rfl) (fun h304 x307 hT305 E306 => ?_)
            refine yT.if1 (t := 105) (pc' := 91) rfl rfl rfl (c1_eq rfl) (fun c308 => ?_) (fun c308 => ?_)
            · refine yT.il (pc' := 107) (xg2_ne (xg_ne xg_eq rfl) rfl) rfl rfl ?_
              refine yT.lln (pc' := 108) (xg2_ne (xg_ne (xg_ne xg2_eq rfl) rfl) rfl) rfl rfl ?_
              refine yT.fi (pc' := 109) rfl rfl (fun _ _ _ _ => rfl) (fun x309 => ?_)
              refine yT.ll (pc' := 111) xg2_eq rfl rfl ?_
              refine yT.fi (pc' := 112) rfl rfl (fun _ _ _ _ => rfl) (fun x310 => ?_)
              refine kSL (yT.cst (G2 := 0) (pc' := 115) rfl rfl xM_172 (r172  K hT305 x116 x309 x310) rfl (by omega) (by decide) rfl) (fun h311 x314 hT312 E313 => ?_)
              exact yT.retL rfl rfl ⟨_, hT312, _, rfl, ⟨J301, by omega⟩⟩
            · refine yT.il (pc' := 93) (xg2_ne xg_eq rfl) rfl rfl ?_
              refine yT.if1 (t := 101) (pc' := 96) rfl rfl rfl (c1_eq e295) (fun c315 => by omega) (fun c315 => ?_)
              refine yT.ll (pc' := 98) xg2_eq rfl rfl ?_
              refine yT.p (pc' := 115) rfl rfl (fun _ _ _ _ => rfl) ?_
              exact yT.retL rfl rfl ⟨_, hT305, _, rfl, ⟨J301, by omega⟩⟩
      · have h4 := h3 (by omega)
        refine yT.lln (pc' := 40) (xg_ne xg2_eq rfl) rfl rfl ?_
        exact yT.retL rfl rfl ⟨_, hT114, _, rfl, ⟨J106, by omega⟩⟩
