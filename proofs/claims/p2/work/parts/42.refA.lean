-- rX9_isTermr
set_option maxRecDepth 100000 in
set_option maxHeartbeats 4000000 in
theorem r199r {ks : List cT} {B0 : Nat} (K : KE KS0 ks B0) {σ : sg} {ρ : Nat → xE} {h : List xE} {v0 : Int32} {p : Nat} (hT : HT ks (us σ 60 22 v0) ρ h) (hv : v0.toInt = (p : Int)) {L : Nat → Int} {T : Nat} (tl : TL σ L T) (hp : p ≤ T) (R : ∀ {h1 : List xE} {v1 : Int32} {p1 : Nat}, HT ks (us σ 60 22 v1) ρ h1 → v1.toInt = (p1 : Int) → p1 ≤ T → p ≤ p1 → yM 201 (4 * (T - p1) + 10) 0 [.ref (60 + 1)] h1 (RCI ks ρ σ (RG 3 L T p1))) : yM 199 (4 * (T - p) + 11) 0 [.ref (60 + 1)] h (RCI ks ρ σ (RG 2 L T p)) := by
  refine yM.st xM_199 rfl rfl (fun lv g => ?_)
  have g0 := g 0 _ rfl
  have f101 : fl (us σ 60 22 v0) 22 = (p : Int) := fl_at.trans hv
  have f102 : fl (us σ 60 22 v0) 12 = (T : Int) := (fl_o rfl).trans tl.2.1
  have hTb := tl.2.2
  refine yT.aan (pc' := 1) g0 rfl rfl rfl ?_
  refine kRC (yT.cc (G2 := 0) (pc' := 4) rfl rfl rfl hT (K.up rfl : xnth ks 60 = some (19, 0)) xM_201 (R (p1 := p) hT (by omega) (by omega) (by omega)) rfl (by omega) (by decide) rfl) (fun h103 v107 p108 x106 hT104 hv109 E105 => ?_)
  obtain ⟨k110, k111, k112, k113⟩ := E105
  have f114 : fl (us σ 60 22 v107) 22 = (p108 : Int) := fl_at.trans hv109
  have f115 : fl (us σ 60 22 v107) 12 = (T : Int) := (fl_o rfl).trans tl.2.1
  refine yT.p (pc' := 5) (lv' := xst1 _ 1 (.int x106)) rfl rfl (fun _ _ _ _ => rfl) ?_
  have L116 : ∀ (n129 : Nat) (lv117 : xLv) (v118 : Int32) (q119 : Nat) (h121 : List xE) (x123 : Int32), HT ks (us σ 60 22 v118) ρ h121 → v118.toInt = (q119 : Int) → xget lv117 0 = some (.ref (60 + 1)) → xget lv117 1 = some (.int x123) → (x123.toInt) = 0 ∨ (x123.toInt) = 1 → p ≤ q119 ∧ q119 ≤ T → ((x123.toInt) = 1 → SP L 2 5 p q119) → T - q119 < n129 → yT 0 [] rX9_isTerm (4 * (T - p) + 11) 0 5 lv117 [] h121 (RCI ks ρ σ (RG 2 L T p)) := by
    intro n129
    induction n129 with
    | zero => intro lv117 v118 q119 h121 x123 hT122 hv120 g124 g125 i126 i127 i128 m130; exact absurd m130 (Nat.not_lt_zero _)
    | succ n129 ih131 =>
      intro lv117 v118 q119 h121 x123 hT122 hv120 g124 g125 i126 i127 i128 m130
      have f132 : fl (us σ 60 22 v118) 22 = (q119 : Int) := fl_at.trans hv120
      have f133 : fl (us σ 60 22 v118) 12 = (T : Int) := (fl_o rfl).trans tl.2.1
      refine yT.iln (pc' := 6) g125 rfl rfl ?_
      refine yT.if1 (t := 66) (pc' := 9) rfl rfl rfl (c1_eq rfl) (fun c134 => ?_) (fun c134 => ?_)
      · refine yT.iln (pc' := 67) g125 rfl rfl ?_
        exact yT.retZ rfl rfl (b01 (by omega) (by omega)) ⟨_, q119, _, hT122, (by omega), rfl, ⟨by omega, by omega, by omega, fun h => i128 (by omega) _ (PK.t0 (by omega))⟩⟩
      · refine yT.aan (pc' := 10) g124 rfl rfl rfl ?_
        refine yT.aan (pc' := 11) g124 rfl rfl rfl ?_
        refine yT.cgX (pc' := 14) rfl rfl hT122 (K.up rfl) rfl rfl (fun x135 _ i136 j137 z138 => ?_)
        have e139 : x135.toInt = (q119 : Int) := (congrArg Int32.toInt z138).trans f132
        refine kSI (yT.cc (G2 := 0) (pc' := 17) rfl rfl rfl hT122 (K.up rfl : xnth ks 60 = some (19, 0)) xM_195 (r195 (k := q119) K hT122 e139) rfl (by omega) (by decide) rfl) (fun h140 x143 hT141 E142 => ?_)
        have e144 : x143.toInt = L (q119) := E142.trans (tp_us.trans (tl.1 _))
        refine yT.kb (pc' := 19) rfl rfl (by decide) (fun x145 e146 => ?_)
        refine yT.if2 (t := 48) (pc' := 22) rfl rfl rfl (c2_eq e144 e146) (fun c147 => ?_) (fun c147 => ?_)
        · have hlt := tl.in (j := q119) (by omega)
          refine yT.aan (pc' := 49) g124 rfl rfl rfl ?_
          refine yT.p (pc' := 50) rfl rfl (fun _ _ _ _ => rfl) ?_
          refine yT.cgX (pc' := 53) rfl rfl hT141 (K.up rfl) rfl rfl (fun x148 _ i149 j150 z151 => ?_)
          have e152 : x148.toInt = (q119 : Int) := (congrArg Int32.toInt z151).trans f132
          refine yT.kI (pc' := 54) rfl rfl (by decide) (fun x153 e154 => ?_)
          refine yT.ad2 (pc' := 55) (Z := (q119 : Int) + 1) e152 e154 rfl rfl (by omega) (fun x155 e156 => ?_)
          refine yT.cpX (c := x155) (pc' := 58) rfl rfl hT141 (K.up rfl) rfl rfl rfl e156 (by omega) rfl (fun h157 hT158 _ _ => ?_)
          rw [us_us] at hT158
          have f159 : fl (us σ 60 22 x155) 22 = (q119 : Int) + 1 := fl_at.trans e156
          have f160 : fl (us σ 60 22 x155) 12 = (T : Int) := (fl_o rfl).trans tl.2.1
          refine yT.aan (pc' := 59) g124 rfl rfl rfl ?_
          refine kRC (yT.cc (G2 := 0) (pc' := 62) rfl rfl rfl hT158 (K.up rfl : xnth ks 60 = some (19, 0)) xM_201 (R (p1 := q119 + 1) hT158 (by omega) (by omega) (by omega)) rfl (by omega) (by decide) rfl) (fun h161 v165 p166 x164 hT162 hv167 E163 => ?_)
          obtain ⟨k168, k169, k170, k171⟩ := E163
          have f172 : fl (us σ 60 22 v165) 22 = (p166 : Int) := fl_at.trans hv167
          have f173 : fl (us σ 60 22 v165) 12 = (T : Int) := (fl_o rfl).trans tl.2.1
          refine yT.p (pc' := 63) (lv' := xst1 _ 1 (.int x164)) rfl rfl (fun _ _ _ _ => rfl) ?_
          refine yT.p (pc' := 5) rfl rfl (fun _ _ _ _ => rfl) ?_
          exact ih131 _ _ (p166) _ x164 hT162 (by omega) (xg_ne g124 rfl) xg_eq (by omega) (by omega) (fun h => SP.t1 (i128 (by omega)) (by omega) (k171 (by omega))) (by omega)
        · refine yT.aan (pc' := 23) g124 rfl rfl rfl ?_
          refine yT.aan (pc' := 24) g124 rfl rfl rfl ?_
          refine yT.cgX (pc' := 27) rfl rfl hT141 (K.up rfl) rfl rfl (fun x174 _ i175 j176 z177 => ?_)
          have e178 : x174.toInt = (q119 : Int) := (congrArg Int32.toInt z177).trans f132
          refine kSI (yT.cc (G2 := 0) (pc' := 30) rfl rfl rfl hT141 (K.up rfl : xnth ks 60 = some (19, 0)) xM_195 (r195 (k := q119) K hT141 e178) rfl (by omega) (by decide) rfl) (fun h179 x182 hT180 E181 => ?_)
          have e183 : x182.toInt = L (q119) := E181.trans (tp_us.trans (tl.1 _))
          refine yT.kb (pc' := 32) rfl rfl (by decide) (fun x184 e185 => ?_)
          refine yT.if2 (t := 48) (pc' := 35) rfl rfl rfl (c2_eq e183 e185) (fun c186 => ?_) (fun c186 => ?_)
          · have hlt := tl.in (j := q119) (by omega)
            refine yT.aan (pc' := 49) g124 rfl rfl rfl ?_
            refine yT.p (pc' := 50) rfl rfl (fun _ _ _ _ => rfl) ?_
            refine yT.cgX (pc' := 53) rfl rfl hT180 (K.up rfl) rfl rfl (fun x187 _ i188 j189 z190 => ?_)
            have e191 : x187.toInt = (q119 : Int) := (congrArg Int32.toInt z190).trans f132
            refine yT.kI (pc' := 54) rfl rfl (by decide) (fun x192 e193 => ?_)
            refine yT.ad2 (pc' := 55) (Z := (q119 : Int) + 1) e191 e193 rfl rfl (by omega) (fun x194 e195 => ?_)
            refine yT.cpX (c := x194) (pc' := 58) rfl rfl hT180 (K.up rfl) rfl rfl rfl e195 (by omega) rfl (fun h196 hT197 _ _ => ?_)
            rw [us_us] at hT197
            have f198 : fl (us σ 60 22 x194) 22 = (q119 : Int) + 1 := fl_at.trans e195
            have f199 : fl (us σ 60 22 x194) 12 = (T : Int) := (fl_o rfl).trans tl.2.1
            refine yT.aan (pc' := 59) g124 rfl rfl rfl ?_
            refine kRC (yT.cc (G2 := 0) (pc' := 62) rfl rfl rfl hT197 (K.up rfl : xnth ks 60 = some (19, 0)) xM_201 (R (p1 := q119 + 1) hT197 (by omega) (by omega) (by omega)) rfl (by omega) (by decide) rfl) (fun h200 v204 p205 x203 hT201 hv206 E202 => ?_)
            obtain ⟨k207, k208, k209, k210⟩ := E202
            have f211 : fl (us σ 60 22 v204) 22 = (p205 : Int) := fl_at.trans hv206
            have f212 : fl (us σ 60 22 v204) 12 = (T : Int) := (fl_o rfl).trans tl.2.1
            refine yT.p (pc' := 63) (lv' := xst1 _ 1 (.int x203)) rfl rfl (fun _ _ _ _ => rfl) ?_
            refine yT.p (pc' := 5) rfl rfl (fun _ _ _ _ => rfl) ?_
            exact ih131 _ _ (p205) _ x203 hT201 (by omega) (xg_ne g124 rfl) xg_eq (by omega) (by omega) (fun h => SP.t1 (i128 (by omega)) (by omega) (k210 (by omega))) (by omega)
          · refine yT.aan (pc' := 36) g124 rfl rfl rfl ?_
            refine yT.aan (pc' := 37) g124 rfl rfl rfl ?_
            refine yT.cgX (pc' := 40) rfl rfl hT180 (K.up rfl) rfl rfl (fun x213 _ i214 j215 z216 => ?_)
            have e217 : x213.toInt = (q119 : Int) := (congrArg Int32.toInt z216).trans f132
            refine kSI (yT.cc (G2 := 0) (pc' := 43) rfl rfl rfl hT180 (K.up rfl : xnth ks 60 = some (19, 0)) xM_195 (r195 (k := q119) K hT180 e217) rfl (by omega) (by decide) rfl) (fun h218 x221 hT219 E220 => ?_)
            have e222 : x221.toInt = L (q119) := E220.trans (tp_us.trans (tl.1 _))
            refine yT.kb (pc' := 45) rfl rfl (by decide) (fun x223 e224 => ?_)
            refine yT.if2 (t := 66) (pc' := 48) rfl rfl rfl (c2_ne e222 e224) (fun c225 => ?_) (fun c225 => ?_)
            · refine yT.iln (pc' := 67) g125 rfl rfl ?_
              exact yT.retZ rfl rfl (b01 (by omega) (by omega)) ⟨_, q119, _, hT219, (by omega), rfl, ⟨by omega, by omega, by omega, fun h => i128 (by omega) _ (PK.t0 (by omega))⟩⟩
            · have hlt := tl.in (j := q119) (by omega)
              refine yT.aan (pc' := 49) g124 rfl rfl rfl ?_
              refine yT.p (pc' := 50) rfl rfl (fun _ _ _ _ => rfl) ?_
              refine yT.cgX (pc' := 53) rfl rfl hT219 (K.up rfl) rfl rfl (fun x226 _ i227 j228 z229 => ?_)
              have e230 : x226.toInt = (q119 : Int) := (congrArg Int32.toInt z229).trans f132
              refine yT.kI (pc' := 54) rfl rfl (by decide) (fun x231 e232 => ?_)
              refine yT.ad2 (pc' := 55) (Z := (q119 : Int) + 1) e230 e232 rfl rfl (by omega) (fun x233 e234 => ?_)
              refine yT.cpX (c := x233) (pc' := 58) rfl rfl hT219 (K.up rfl) rfl rfl rfl e234 (by omega) rfl (fun h235 hT236 _ _ => ?_)
              rw [us_us] at hT236
              have f237 : fl (us σ 60 22 x233) 22 = (q119 : Int) + 1 := fl_at.trans e234
              have f238 : fl (us σ 60 22 x233) 12 = (T : Int) := (fl_o rfl).trans tl.2.1
              refine yT.aan (pc' := 59) g124 rfl rfl rfl ?_
              refine kRC (yT.cc (G2 := 0) (pc' := 62) rfl rfl rfl hT236 (K.up rfl : xnth ks 60 = some (19, 0)) xM_201 (R (p1 := q119 + 1) hT236 (by omega) (by omega) (by omega)) rfl (by omega) (by decide) rfl) (fun h239 v243 p244 x242 hT240 hv245 E241 => ?_)
              obtain ⟨k246, k247, k248, k249⟩ := E241
              have f250 : fl (us σ 60 22 v243) 22 = (p244 : Int) := fl_at.trans hv245
              have f251 : fl (us σ 60 22 v243) 12 = (T : Int) := (fl_o rfl).trans tl.2.1
              refine yT.p (pc' := 63) (lv' := xst1 _ 1 (.int x242)) rfl rfl (fun _ _ _ _ => rfl) ?_
              refine yT.p (pc' := 5) rfl rfl (fun _ _ _ _ => rfl) ?_
              exact ih131 _ _ (p244) _ x242 hT240 (by omega) (xg_ne g124 rfl) xg_eq (by omega) (by omega) (fun h => SP.t1 (i128 (by omega)) (by omega) (k249 (by omega))) (by omega)
  exact L116 _ _ _ (p108) _ x106 hT104 (by omega) (xg_ne g0 rfl) xg_eq (by omega) (by omega) (fun h => SP.t (k113 (by omega))) (Nat.lt_succ_self _)
-- rX9_isSumr
set_option maxRecDepth 100000 in
set_option maxHeartbeats 4000000 in
theorem r198r {ks : List cT} {B0 : Nat} (K : KE KS0 ks B0) {σ : sg} {ρ : Nat → xE} {h : List xE} {v0 : Int32} {p : Nat} (hT : HT ks (us σ 60 22 v0) ρ h) (hv : v0.toInt = (p : Int)) {L : Nat → Int} {T : Nat} (tl : TL σ L T) (hp : p ≤ T) (R : ∀ {h1 : List xE} {v1 : Int32} {p1 : Nat}, HT ks (us σ 60 22 v1) ρ h1 → v1.toInt = (p1 : Int) → p1 ≤ T → p ≤ p1 → yM 199 (4 * (T - p1) + 11) 0 [.ref (60 + 1)] h1 (RCI ks ρ σ (RG 2 L T p1))) : yM 198 (4 * (T - p) + 12) 0 [.ref (60 + 1)] h (RCI ks ρ σ (RG 1 L T p)) := by
  refine yM.st xM_198 rfl rfl (fun lv g => ?_)
  have g0 := g 0 _ rfl
  have f101 : fl (us σ 60 22 v0) 22 = (p : Int) := fl_at.trans hv
  have f102 : fl (us σ 60 22 v0) 12 = (T : Int) := (fl_o rfl).trans tl.2.1
  have hTb := tl.2.2
  refine yT.aan (pc' := 1) g0 rfl rfl rfl ?_
  refine kRC (yT.cc (G2 := 0) (pc' := 4) rfl rfl rfl hT (K.up rfl : xnth ks 60 = some (19, 0)) xM_199 (R (p1 := p) hT (by omega) (by omega) (by omega)) rfl (by omega) (by decide) rfl) (fun h103 v107 p108 x106 hT104 hv109 E105 => ?_)
  obtain ⟨k110, k111, k112, k113⟩ := E105
  have f114 : fl (us σ 60 22 v107) 22 = (p108 : Int) := fl_at.trans hv109
  have f115 : fl (us σ 60 22 v107) 12 = (T : Int) := (fl_o rfl).trans tl.2.1
  refine yT.p (pc' := 5) (lv' := xst1 _ 1 (.int x106)) rfl rfl (fun _ _ _ _ => rfl) ?_
  have L116 : ∀ (n129 : Nat) (lv117 : xLv) (v118 : Int32) (q119 : Nat) (h121 : List xE) (x123 : Int32), HT ks (us σ 60 22 v118) ρ h121 → v118.toInt = (q119 : Int) → xget lv117 0 = some (.ref (60 + 1)) → xget lv117 1 = some (.int x123) → (x123.toInt) = 0 ∨ (x123.toInt) = 1 → p ≤ q119 ∧ q119 ≤ T → ((x123.toInt) = 1 → SP L 1 4 p q119) → T - q119 < n129 → yT 0 [] rX9_isSum (4 * (T - p) + 12) 0 5 lv117 [] h121 (RCI ks ρ σ (RG 1 L T p)) := by
    intro n129
    induction n129 with
    | zero => intro lv117 v118 q119 h121 x123 hT122 hv120 g124 g125 i126 i127 i128 m130; exact absurd m130 (Nat.not_lt_zero _)
    | succ n129 ih131 =>
      intro lv117 v118 q119 h121 x123 hT122 hv120 g124 g125 i126 i127 i128 m130
      have f132 : fl (us σ 60 22 v118) 22 = (q119 : Int) := fl_at.trans hv120
      have f133 : fl (us σ 60 22 v118) 12 = (T : Int) := (fl_o rfl).trans tl.2.1
      refine yT.iln (pc' := 6) g125 rfl rfl ?_
      refine yT.if1 (t := 53) (pc' := 9) rfl rfl rfl (c1_eq rfl) (fun c134 => ?_) (fun c134 => ?_)
      · refine yT.iln (pc' := 54) g125 rfl rfl ?_
        exact yT.retZ rfl rfl (b01 (by omega) (by omega)) ⟨_, q119, _, hT122, (by omega), rfl, ⟨by omega, by omega, by omega, fun h => i128 (by omega) _ (PK.s0 (by omega))⟩⟩
      · refine yT.aan (pc' := 10) g124 rfl rfl rfl ?_
        refine yT.aan (pc' := 11) g124 rfl rfl rfl ?_
        refine yT.cgX (pc' := 14) rfl rfl hT122 (K.up rfl) rfl rfl (fun x135 _ i136 j137 z138 => ?_)
        have e139 : x135.toInt = (q119 : Int) := (congrArg Int32.toInt z138).trans f132
        refine kSI (yT.cc (G2 := 0) (pc' := 17) rfl rfl rfl hT122 (K.up rfl : xnth ks 60 = some (19, 0)) xM_195 (r195 (k := q119) K hT122 e139) rfl (by omega) (by decide) rfl) (fun h140 x143 hT141 E142 => ?_)
        have e144 : x143.toInt = L (q119) := E142.trans (tp_us.trans (tl.1 _))
        refine yT.kb (pc' := 19) rfl rfl (by decide) (fun x145 e146 => ?_)
        refine yT.if2 (t := 35) (pc' := 22) rfl rfl rfl (c2_eq e144 e146) (fun c147 => ?_) (fun c147 => ?_)
        · have hlt := tl.in (j := q119) (by omega)
          refine yT.aan (pc' := 36) g124 rfl rfl rfl ?_
          refine yT.p (pc' := 37) rfl rfl (fun _ _ _ _ => rfl) ?_
          refine yT.cgX (pc' := 40) rfl rfl hT141 (K.up rfl) rfl rfl (fun x148 _ i149 j150 z151 => ?_)
          have e152 : x148.toInt = (q119 : Int) := (congrArg Int32.toInt z151).trans f132
          refine yT.kI (pc' := 41) rfl rfl (by decide) (fun x153 e154 => ?_)
          refine yT.ad2 (pc' := 42) (Z := (q119 : Int) + 1) e152 e154 rfl rfl (by omega) (fun x155 e156 => ?_)
          refine yT.cpX (c := x155) (pc' := 45) rfl rfl hT141 (K.up rfl) rfl rfl rfl e156 (by omega) rfl (fun h157 hT158 _ _ => ?_)
          rw [us_us] at hT158
          have f159 : fl (us σ 60 22 x155) 22 = (q119 : Int) + 1 := fl_at.trans e156
          have f160 : fl (us σ 60 22 x155) 12 = (T : Int) := (fl_o rfl).trans tl.2.1
          refine yT.aan (pc' := 46) g124 rfl rfl rfl ?_
          refine kRC (yT.cc (G2 := 0) (pc' := 49) rfl rfl rfl hT158 (K.up rfl : xnth ks 60 = some (19, 0)) xM_199 (R (p1 := q119 + 1) hT158 (by omega) (by omega) (by omega)) rfl (by omega) (by decide) rfl) (fun h161 v165 p166 x164 hT162 hv167 E163 => ?_)
          obtain ⟨k168, k169, k170, k171⟩ := E163
          have f172 : fl (us σ 60 22 v165) 22 = (p166 : Int) := fl_at.trans hv167
          have f173 : fl (us σ 60 22 v165) 12 = (T : Int) := (fl_o rfl).trans tl.2.1
          refine yT.p (pc' := 50) (lv' := xst1 _ 1 (.int x164)) rfl rfl (fun _ _ _ _ => rfl) ?_
          refine yT.p (pc' := 5) rfl rfl (fun _ _ _ _ => rfl) ?_
          exact ih131 _ _ (p166) _ x164 hT162 (by omega) (xg_ne g124 rfl) xg_eq (by omega) (by omega) (fun h => SP.s1 (i128 (by omega)) (by omega) (k171 (by omega))) (by omega)
        · refine yT.aan (pc' := 23) g124 rfl rfl rfl ?_
          refine yT.aan (pc' := 24) g124 rfl rfl rfl ?_
          refine yT.cgX (pc' := 27) rfl rfl hT141 (K.up rfl) rfl rfl (fun x174 _ i175 j176 z177 => ?_)
          have e178 : x174.toInt = (q119 : Int) := (congrArg Int32.toInt z177).trans f132
          refine kSI (yT.cc (G2 := 0) (pc' := 30) rfl rfl rfl hT141 (K.up rfl : xnth ks 60 = some (19, 0)) xM_195 (r195 (k := q119) K hT141 e178) rfl (by omega) (by decide) rfl) (fun h179 x182 hT180 E181 => ?_)
          have e183 : x182.toInt = L (q119) := E181.trans (tp_us.trans (tl.1 _))
          refine yT.kb (pc' := 32) rfl rfl (by decide) (fun x184 e185 => ?_)
          refine yT.if2 (t := 53) (pc' := 35) rfl rfl rfl (c2_ne e183 e185) (fun c186 => ?_) (fun c186 => ?_)
          · refine yT.iln (pc' := 54) g125 rfl rfl ?_
            exact yT.retZ rfl rfl (b01 (by omega) (by omega)) ⟨_, q119, _, hT180, (by omega), rfl, ⟨by omega, by omega, by omega, fun h => i128 (by omega) _ (PK.s0 (by omega))⟩⟩
          · have hlt := tl.in (j := q119) (by omega)
            refine yT.aan (pc' := 36) g124 rfl rfl rfl ?_
            refine yT.p (pc' := 37) rfl rfl (fun _ _ _ _ => rfl) ?_
            refine yT.cgX (pc' := 40) rfl rfl hT180 (K.up rfl) rfl rfl (fun x187 _ i188 j189 z190 => ?_)
            have e191 : x187.toInt = (q119 : Int) := (congrArg Int32.toInt z190).trans f132
            refine yT.kI (pc' := 41) rfl rfl (by decide) (fun x192 e193 => ?_)
            refine yT.ad2 (pc' := 42) (Z := (q119 : Int) + 1) e191 e193 rfl rfl (by omega) (fun x194 e195 => ?_)
            refine yT.cpX (c := x194) (pc' := 45) rfl rfl hT180 (K.up rfl) rfl rfl rfl e195 (by omega) rfl (fun h196 hT197 _ _ => ?_)
            rw [us_us] at hT197
            have f198 : fl (us σ 60 22 x194) 22 = (q119 : Int) + 1 := fl_at.trans e195
            have f199 : fl (us σ 60 22 x194) 12 = (T : Int) := (fl_o rfl).trans tl.2.1
            refine yT.aan (pc' := 46) g124 rfl rfl rfl ?_
            refine kRC (yT.cc (G2 := 0) (pc' := 49) rfl rfl rfl hT197 (K.up rfl : xnth ks 60 = some (19, 0)) xM_199 (R (p1 := q119 + 1) hT197 (by omega) (by omega) (by omega)) rfl (by omega) (by decide) rfl) (fun h200 v204 p205 x203 hT201 hv206 E202 => ?_)
            obtain ⟨k207, k208, k209, k210⟩ := E202
            have f211 : fl (us σ 60 22 v204) 22 = (p205 : Int) := fl_at.trans hv206
            have f212 : fl (us σ 60 22 v204) 12 = (T : Int) := (fl_o rfl).trans tl.2.1
            refine yT.p (pc' := 50) (lv' := xst1 _ 1 (.int x203)) rfl rfl (fun _ _ _ _ => rfl) ?_
            refine yT.p (pc' := 5) rfl rfl (fun _ _ _ _ => rfl) ?_
            exact ih131 _ _ (p205) _ x203 hT201 (by omega) (xg_ne g124 rfl) xg_eq (by omega) (by omega) (fun h => SP.s1 (i128 (by omega)) (by omega) (k210 (by omega))) (by omega)
  exact L116 _ _ _ (p108) _ x106 hT104 (by omega) (xg_ne g0 rfl) xg_eq (by omega) (by omega) (fun h => SP.s (k113 (by omega))) (Nat.lt_succ_self _)
-- rX9_isCompr
set_option maxRecDepth 100000 in
set_option maxHeartbeats 4000000 in
theorem r197r {ks : List cT} {B0 : Nat} (K : KE KS0 ks B0) {σ : sg} {ρ : Nat → xE} {h : List xE} {v0 : Int32} {p : Nat} (hT : HT ks (us σ 60 22 v0) ρ h) (hv : v0.toInt = (p : Int)) {L : Nat → Int} {T : Nat} (tl : TL σ L T) (hp : p ≤ T) (R : ∀ {h1 : List xE} {v1 : Int32} {p1 : Nat}, HT ks (us σ 60 22 v1) ρ h1 → v1.toInt = (p1 : Int) → p1 ≤ T → p ≤ p1 → yM 198 (4 * (T - p1) + 12) 0 [.ref (60 + 1)] h1 (RCI ks ρ σ (RG 1 L T p1))) : yM 197 (4 * (T - p) + 13) 0 [.ref (60 + 1)] h (RCI ks ρ σ (RG 0 L T p)) := by
  refine yM.st xM_197 rfl rfl (fun lv g => ?_)
  have g0 := g 0 _ rfl
  have f101 : fl (us σ 60 22 v0) 22 = (p : Int) := fl_at.trans hv
  have f102 : fl (us σ 60 22 v0) 12 = (T : Int) := (fl_o rfl).trans tl.2.1
  have hTb := tl.2.2
  refine yT.aan (pc' := 1) g0 rfl rfl rfl ?_
  refine kRC (yT.cc (G2 := 0) (pc' := 4) rfl rfl rfl hT (K.up rfl : xnth ks 60 = some (19, 0)) xM_198 (R (p1 := p) hT (by omega) (by omega) (by omega)) rfl (by omega) (by decide) rfl) (fun h103 v107 p108 x106 hT104 hv109 E105 => ?_)
  obtain ⟨k110, k111, k112, k113⟩ := E105
  have f114 : fl (us σ 60 22 v107) 22 = (p108 : Int) := fl_at.trans hv109
  have f115 : fl (us σ 60 22 v107) 12 = (T : Int) := (fl_o rfl).trans tl.2.1
  refine yT.if1 (t := 9) (pc' := 7) rfl rfl rfl (c1_ne rfl) (fun c116 => ?_) (fun c116 => ?_)
  · refine yT.aan (pc' := 10) g0 rfl rfl rfl ?_
    refine yT.aan (pc' := 11) g0 rfl rfl rfl ?_
    refine yT.cgX (pc' := 14) rfl rfl hT104 (K.up rfl) rfl rfl (fun x117 _ i118 j119 z120 => ?_)
    have e121 : x117.toInt = (p108 : Int) := (congrArg Int32.toInt z120).trans f114
    refine kSI (yT.cc (G2 := 0) (pc' := 17) rfl rfl rfl hT104 (K.up rfl : xnth ks 60 = some (19, 0)) xM_195 (r195 (k := p108) K hT104 e121) rfl (by omega) (by decide) rfl) (fun h122 x125 hT123 E124 => ?_)
    have e126 : x125.toInt = L (p108) := E124.trans (tp_us.trans (tl.1 _))
    refine yT.p (pc' := 18) (lv' := xst1 _ 1 (.int x125)) rfl rfl (fun _ _ _ _ => rfl) ?_
    refine yT.iln (pc' := 19) xg_eq rfl rfl ?_
    refine yT.kb (pc' := 21) rfl rfl (by decide) (fun x127 e128 => ?_)
    refine yT.if2 (t := 38) (pc' := 24) rfl rfl rfl (c2_eq e126 e128) (fun c129 => ?_) (fun c129 => ?_)
    · have hlt := tl.in (j := (p108)) (by omega)
      refine yT.aan (pc' := 39) (xg_ne g0 rfl) rfl rfl rfl ?_
      refine yT.p (pc' := 40) rfl rfl (fun _ _ _ _ => rfl) ?_
      refine yT.cgX (pc' := 43) rfl rfl hT123 (K.up rfl) rfl rfl (fun x130 _ i131 j132 z133 => ?_)
      have e134 : x130.toInt = (p108 : Int) := (congrArg Int32.toInt z133).trans f114
      refine yT.kI (pc' := 44) rfl rfl (by decide) (fun x135 e136 => ?_)
      refine yT.ad2 (pc' := 45) (Z := (p108 : Int) + 1) e134 e136 rfl rfl (by omega) (fun x137 e138 => ?_)
      refine yT.cpX (c := x137) (pc' := 48) rfl rfl hT123 (K.up rfl) rfl rfl rfl e138 (by omega) rfl (fun h139 hT140 _ _ => ?_)
      rw [us_us] at hT140
      have f141 : fl (us σ 60 22 x137) 22 = (p108 : Int) + 1 := fl_at.trans e138
      have f142 : fl (us σ 60 22 x137) 12 = (T : Int) := (fl_o rfl).trans tl.2.1
      refine yT.aan (pc' := 49) (xg_ne g0 rfl) rfl rfl rfl ?_
      refine kRC (yT.cc (G2 := 0) (pc' := 52) rfl rfl rfl hT140 (K.up rfl : xnth ks 60 = some (19, 0)) xM_198 (R (p1 := p108 + 1) hT140 (by omega) (by omega) (by omega)) rfl (by omega) (by decide) rfl) (fun h143 v147 p148 x146 hT144 hv149 E145 => ?_)
      obtain ⟨k150, k151, k152, k153⟩ := E145
      have f154 : fl (us σ 60 22 v147) 22 = (p148 : Int) := fl_at.trans hv149
      have f155 : fl (us σ 60 22 v147) 12 = (T : Int) := (fl_o rfl).trans tl.2.1
      exact yT.retZ rfl rfl (b01 (by omega) (by omega)) ⟨_, p148, _, hT144, (by omega), rfl, ⟨by omega, by omega, by omega, fun h => (k113 (by omega)).c2 (by omega) (k153 (by omega))⟩⟩
    · refine yT.iln (pc' := 25) xg_eq rfl rfl ?_
      refine yT.kb (pc' := 27) rfl rfl (by decide) (fun x156 e157 => ?_)
      refine yT.if2 (t := 38) (pc' := 30) rfl rfl rfl (c2_eq e126 e157) (fun c158 => ?_) (fun c158 => ?_)
      · have hlt := tl.in (j := (p108)) (by omega)
        refine yT.aan (pc' := 39) (xg_ne g0 rfl) rfl rfl rfl ?_
        refine yT.p (pc' := 40) rfl rfl (fun _ _ _ _ => rfl) ?_
        refine yT.cgX (pc' := 43) rfl rfl hT123 (K.up rfl) rfl rfl (fun x159 _ i160 j161 z162 => ?_)
        have e163 : x159.toInt = (p108 : Int) := (congrArg Int32.toInt z162).trans f114
        refine yT.kI (pc' := 44) rfl rfl (by decide) (fun x164 e165 => ?_)
        refine yT.ad2 (pc' := 45) (Z := (p108 : Int) + 1) e163 e165 rfl rfl (by omega) (fun x166 e167 => ?_)
        refine yT.cpX (c := x166) (pc' := 48) rfl rfl hT123 (K.up rfl) rfl rfl rfl e167 (by omega) rfl (fun h168 hT169 _ _ => ?_)
        rw [us_us] at hT169
        have f170 : fl (us σ 60 22 x166) 22 = (p108 : Int) + 1 := fl_at.trans e167
        have f171 : fl (us σ 60 22 x166) 12 = (T : Int) := (fl_o rfl).trans tl.2.1
        refine yT.aan (pc' := 49) (xg_ne g0 rfl) rfl rfl rfl ?_
        refine kRC (yT.cc (G2 := 0) (pc' := 52) rfl rfl rfl hT169 (K.up rfl : xnth ks 60 = some (19, 0)) xM_198 (R (p1 := p108 + 1) hT169 (by omega) (by omega) (by omega)) rfl (by omega) (by decide) rfl) (fun h172 v176 p177 x175 hT173 hv178 E174 => ?_)
        obtain ⟨k179, k180, k181, k182⟩ := E174
        have f183 : fl (us σ 60 22 v176) 22 = (p177 : Int) := fl_at.trans hv178
        have f184 : fl (us σ 60 22 v176) 12 = (T : Int) := (fl_o rfl).trans tl.2.1
        exact yT.retZ rfl rfl (b01 (by omega) (by omega)) ⟨_, p177, _, hT173, (by omega), rfl, ⟨by omega, by omega, by omega, fun h => (k113 (by omega)).c2 (by omega) (k182 (by omega))⟩⟩
      · refine yT.iln (pc' := 31) xg_eq rfl rfl ?_
        refine yT.kb (pc' := 33) rfl rfl (by decide) (fun x185 e186 => ?_)
        refine yT.if2 (t := 38) (pc' := 36) rfl rfl rfl (c2_eq e126 e186) (fun c187 => ?_) (fun c187 => ?_)
        · have hlt := tl.in (j := (p108)) (by omega)
          refine yT.aan (pc' := 39) (xg_ne g0 rfl) rfl rfl rfl ?_
          refine yT.p (pc' := 40) rfl rfl (fun _ _ _ _ => rfl) ?_
          refine yT.cgX (pc' := 43) rfl rfl hT123 (K.up rfl) rfl rfl (fun x188 _ i189 j190 z191 => ?_)
          have e192 : x188.toInt = (p108 : Int) := (congrArg Int32.toInt z191).trans f114
          refine yT.kI (pc' := 44) rfl rfl (by decide) (fun x193 e194 => ?_)
          refine yT.ad2 (pc' := 45) (Z := (p108 : Int) + 1) e192 e194 rfl rfl (by omega) (fun x195 e196 => ?_)
          refine yT.cpX (c := x195) (pc' := 48) rfl rfl hT123 (K.up rfl) rfl rfl rfl e196 (by omega) rfl (fun h197 hT198 _ _ => ?_)
          rw [us_us] at hT198
          have f199 : fl (us σ 60 22 x195) 22 = (p108 : Int) + 1 := fl_at.trans e196
          have f200 : fl (us σ 60 22 x195) 12 = (T : Int) := (fl_o rfl).trans tl.2.1
          refine yT.aan (pc' := 49) (xg_ne g0 rfl) rfl rfl rfl ?_
          refine kRC (yT.cc (G2 := 0) (pc' := 52) rfl rfl rfl hT198 (K.up rfl : xnth ks 60 = some (19, 0)) xM_198 (R (p1 := p108 + 1) hT198 (by omega) (by omega) (by omega)) rfl (by omega) (by decide) rfl) (fun h201 v205 p206 x204 hT202 hv207 E203 => ?_)
          obtain ⟨k208, k209, k210, k211⟩ := E203
          have f212 : fl (us σ 60 22 v205) 22 = (p206 : Int) := fl_at.trans hv207
          have f213 : fl (us σ 60 22 v205) 12 = (T : Int) := (fl_o rfl).trans tl.2.1
          exact yT.retZ rfl rfl (b01 (by omega) (by omega)) ⟨_, p206, _, hT202, (by omega), rfl, ⟨by omega, by omega, by omega, fun h => (k113 (by omega)).c2 (by omega) (k211 (by omega))⟩⟩
        · refine yT.kI (pc' := 37) rfl rfl (by decide) (fun x214 e215 => ?_)
          exact yT.retZ rfl rfl (b01 (by omega) (by omega)) ⟨_, p108, _, hT123, (by omega), rfl, ⟨by omega, by omega, by omega, fun h => (k113 (by omega)).c1 (by omega)⟩⟩
  · refine yT.kI (pc' := 8) rfl rfl (by decide) (fun x216 e217 => ?_)
    exact yT.retZ rfl rfl (b01 (by omega) (by omega)) ⟨_, p108, _, hT104, (by omega), rfl, ⟨by omega, by omega, by omega, fun h => by omega⟩⟩
