-- rX9_isTermr
set_option maxRecDepth 100000 in
set_option maxHeartbeats 4000000 in
theorem r199r {ks : List cT} {B0 : Nat} (K : KE KS0 ks B0) {σ : sg} {ρ : Nat → xE} {h : List xE} {v0 : Int32} {p : Nat} (hT : HT ks (us σ 60 22 v0) ρ h) (hv : v0.toInt = (p : Int)) {L : LT} {T : Nat} (tl : TL σ L T) (hp : p ≤ T) (R : ∀ {h1 : List xE} {v1 : Int32} {p1 : Nat}, HT ks (us σ 60 22 v1) ρ h1 → v1.toInt = (p1 : Int) → p1 ≤ T → p ≤ p1 → yM 201 (4 * (T - p1) + 10) 0 [.ref (60 + 1)] h1 (RCI ks ρ σ (RG 3 L T p1))) : yM 199 (4 * (T - p) + 11) 0 [.ref (60 + 1)] h (RCI ks ρ σ (RG 2 L T p)) := by
  refine yM.st xM_199 rfl rfl (fun lv g => ?_)
  have g0 := g 0 _ rfl
  have f101 : fl (us σ 60 22 v0) 22 = (p : Int) := fl_at.trans hv
  have f102 : fl (us σ 60 22 v0) 12 = (T : Int) := (fl_o rfl).trans tl.2.1
  have hTb := tl.2.2
  refine yT.aan (pc' := 1) g0 rfl rfl rfl ?_
  refine kRC (yT.cc (G2 := 0) (pc' := 4) rfl rfl rfl hT (K.up rfl : xnth ks 60 = some (19, 0)) xM_201 (R (p1 := p) hT (by omega) (by omega) (by omega)) rfl (by omega) (by decide) rfl) (fun h103 v107 p108 x106 hT104 hv109 E105 => ?_)
  obtain ⟨k110, k111, k112, k113⟩ := E105
  have f114 : fl (us σ 60 22 v107) 22 = (p108 : Int) := fl_at.trans hv109
  have f115 : fl (us σ 60 22 v107) 12 = (T : Int) := (fl_o rfl).trans tl.2.1
  refine yT.p (pc' := 5) (lv' := xst1 _ 1 (.int x106)) rfl rfl (fun _ _ _ _ => rfl) ?_
  have L116 : ∀ (n129 : Nat) (lv117 : xLv) (v118 : Int32) (q119 : Nat) (h121 : List xE) (x123 : Int32), HT ks (us σ 60 22 v118) ρ h121 → v118.toInt = (q119 : Int) → xget lv117 0 = some (.ref (60 + 1)) → xget lv117 1 = some (.int x123) → (x123.toInt) = 0 ∨ (x123.toInt) = 1 → p ≤ q119 ∧ q119 ≤ T → ((x123.toInt) = 1 → SP L 2 5 p q119) → T - q119 < n129 → yT 0 [] rX9_isTerm (4 * (T - p) + 11) 0 5 lv117 [] h121 (RCI ks ρ σ (RG 2 L T p)) := by
    intro n129
    induction n129 with
    | zero => intro lv117 v118 q119 h121 x123 hT122 hv120 g124 g125 i126 i127 i128 m130; exact absurd m130 (Nat.not_lt_zero _)
    | succ n129 ih131 =>
      intro lv117 v118 q119 h121 x123 hT122 hv120 g124 g125 i126 i127 i128 m130
      have f132 : fl (us σ 60 22 v118) 22 = (q119 : Int) := fl_at.trans hv120
      have f133 : fl (us σ 60 22 v118) 12 = (T : Int) := (fl_o rfl).trans tl.2.1
      refine yT.iln (pc' := 6) g125 rfl rfl ?_
      refine yT.if1 (t := 66) (pc' := 9) rfl rfl rfl (c1_eq rfl) (fun c134 => ?_) (fun c134 => ?_)
      · refine yT.iln (pc' := 67) g125 rfl rfl ?_
        exact yT.retZ rfl rfl (b01 (by omega) (by omega)) ⟨_, q119, _, hT122, (by omega), rfl, ⟨by omega, by omega, by omega, fun h => i128 (by omega) _ (PK.t0 (by omega))⟩⟩
      · refine yT.aan (pc' := 10) g124 rfl rfl rfl ?_
        refine yT.aan (pc' := 11) g124 rfl rfl rfl ?_
        refine yT.cgX (pc' := 14) rfl rfl hT122 (K.up rfl) rfl rfl (fun x135 _ i136 j137 z138 => ?_)
        have e139 : x135.toInt = (q119 : Int) := (congrArg Int32.toInt z138).trans f132
        refine kSI (yT.cc (G2 := 0) (pc' := 17) rfl rfl rfl hT122 (K.up rfl : xnth ks 60 = some (19, 0)) xM_195 (r195 (k := q119) K hT122 e139) rfl (by omega) (by decide) rfl) (fun h140 x143 hT141 E142 => ?_)
        have e144 : x143.toInt = L.1 (q119) := E142.trans (tp_us.trans (tl.1 _))
        refine yT.kb (pc' := 19) rfl rfl (by decide) (fun x145 e146 => ?_)
        refine yT.if2 (t := 48) (pc' := 22) rfl rfl rfl (c2_eq e144 e146) (fun c147 => ?_) (fun c147 => ?_)
        · have hlt := tl.in (j := q119) (by omega)
          refine yT.aan (pc' := 49) g124 rfl rfl rfl ?_
          refine yT.p (pc' := 50) rfl rfl (fun _ _ _ _ => rfl) ?_
          refine yT.cgX (pc' := 53) rfl rfl hT141 (K.up rfl) rfl rfl (fun x148 _ i149 j150 z151 => ?_)
          have e152 : x148.toInt = (q119 : Int) := (congrArg Int32.toInt z151).trans f132
          refine yT.kI (pc' := 54) rfl rfl (by decide) (fun x153 e154 => ?_)
          refine yT.ad2 (pc' := 55) (Z := (q119 : Int) + 1) e152 e154 rfl rfl (by omega) (fun x155 e156 => ?_)
          refine yT.cpX (c := x155) (pc' := 58) rfl rfl hT141 (K.up rfl) rfl rfl rfl e156 (by omega) rfl (fun h157 hT158 _ _ => ?_)
          rw [us_us] at hT158
          have f159 : fl (us σ 60 22 x155) 22 = (q119 : Int) + 1 := fl_at.trans e156
          have f160 : fl (us σ 60 22 x155) 12 = (T : Int) := (fl_o rfl).trans tl.2.1
          refine yT.aan (pc' := 59) g124 rfl rfl rfl ?_
          refine kRC (yT.cc (G2 := 0) (pc' := 62) rfl rfl rfl hT158 (K.up rfl : xnth ks 60 = some (19, 0)) xM_201 (R (p1 := q119 + 1) hT158 (by omega) (by omega) (by omega)) rfl (by omega) (by decide) rfl) (fun h161 v165 p166 x164 hT162 hv167 E163 => ?_)
          obtain ⟨k168, k169, k170, k171⟩ := E163
          have f172 : fl (us σ 60 22 v165) 22 = (p166 : Int) := fl_at.trans hv167
          have f173 : fl (us σ 60 22 v165) 12 = (T : Int) := (fl_o rfl).trans tl.2.1
          refine yT.p (pc' := 63) (lv' := xst1 _ 1 (.int x164)) rfl rfl (fun _ _ _ _ => rfl) ?_
          refine yT.p (pc' := 5) rfl rfl (fun _ _ _ _ => rfl) ?_
          exact ih131 _ _ (p166) _ x164 hT162 (by omega) (xg_ne g124 rfl) xg_eq (by omega) (by omega) (fun h => SP.t1 (i128 (by omega)) (by omega) (k171 (by omega))) (by omega)
        · refine yT.aan (pc' := 23) g124 rfl rfl rfl ?_
          refine yT.aan (pc' := 24) g124 rfl rfl rfl ?_
          refine yT.cgX (pc' := 27) rfl rfl hT141 (K.up rfl) rfl rfl (fun x174 _ i175 j176 z177 => ?_)
          have e178 : x174.toInt = (q119 : Int) := (congrArg Int32.toInt z177).trans f132
          refine kSI (yT.cc (G2 := 0) (pc' := 30) rfl rfl rfl hT141 (K.up rfl : xnth ks 60 = some (19, 0)) xM_195 (r195 (k := q119) K hT141 e178) rfl (by omega) (by decide) rfl) (fun h179 x182 hT180 E181 => ?_)
          have e183 : x182.toInt = L.1 (q119) := E181.trans (tp_us.trans (tl.1 _))
          refine yT.kb (pc' := 32) rfl rfl (by decide) (fun x184 e185 => ?_)
          refine yT.if2 (t := 48) (pc' := 35) rfl rfl rfl (c2_eq e183 e185) (fun c186 => ?_) (fun c186 => ?_)
          · have hlt := tl.in (j := q119) (by omega)
            refine yT.aan (pc' := 49) g124 rfl rfl rfl ?_
            refine yT.p (pc' := 50) rfl rfl (fun _ _ _ _ => rfl) ?_
            refine yT.cgX (pc' := 53) rfl rfl hT180 (K.up rfl) rfl rfl (fun x187 _ i188 j189 z190 => ?_)
            have e191 : x187.toInt = (q119 : Int) := (congrArg Int32.toInt z190).trans f132
            refine yT.kI (pc' := 54) rfl rfl (by decide) (fun x192 e193 => ?_)
            refine yT.ad2 (pc' := 55) (Z := (q119 : Int) + 1) e191 e193 rfl rfl (by omega) (fun x194 e195 => ?_)
            refine yT.cpX (c := x194) (pc' := 58) rfl rfl hT180 (K.up rfl) rfl rfl rfl e195 (by omega) rfl (fun h196 hT197 _ _ => ?_)
            rw [us_us] at hT197
            have f198 : fl (us σ 60 22 x194) 22 = (q119 : Int) + 1 := fl_at.trans e195
            have f199 : fl (us σ 60 22 x194) 12 = (T : Int) := (fl_o rfl).trans tl.2.1
            refine yT.aan (pc' := 59) g124 rfl rfl rfl ?_
            refine kRC (yT.cc (G2 := 0) (pc' := 62) rfl rfl rfl hT197 (K.up rfl : xnth ks 60 = some (19, 0)) xM_201 (R (p1 := q119 + 1) hT197 (by omega) (by omega) (by omega)) rfl (by omega) (by decide) rfl) (fun h200 v204 p205 x203 hT201 hv206 E202 => ?_)
            obtain ⟨k207, k208, k209, k210⟩ := E202
            have f211 : fl (us σ 60 22 v204) 22 = (p205 : Int) := fl_at.trans hv206
            have f212 : fl (us σ 60 22 v204) 12 = (T : Int) := (fl_o rfl).trans tl.2.1
            refine yT.p (pc' := 63) (lv' := xst1 _ 1 (.int x203)) rfl rfl (fun _ _ _ _ => rfl) ?_
            refine yT.p (pc' := 5) rfl rfl (fun _ _ _ _ => rfl) ?_
            exact ih131 _ _ (p205) _ x203 hT201 (by omega) (xg_ne g124 rfl) xg_eq (by omega) (by omega) (fun h => SP.t1 (i128 (by omega)) (by omega) (k210 (by omega))) (by omega)
          · refine yT.aan (pc' := 36) g124 rfl rfl rfl ?_
            refine yT.aan (pc' := 37) g124 rfl rfl rfl ?_
            refine yT.cgX (pc' := 40) rfl rfl hT180 (K.up rfl) rfl rfl (fun x213 _ i214 j215 z216 => ?_)
            have e217 : x213.toInt = (q119 : Int) := (congrArg Int32.toInt z216).trans f132
            refine kSI (yT.cc (G2 := 0) (pc' := 43) rfl rfl rfl hT180 (K.up rfl : xnth ks 60 = some (19, 0)) xM_195 (r195 (k := q119) K hT180 e217) rfl (by omega) (by decide) rfl) (fun h218 x221 hT219 E220 => ?_)
            have e222 : x221.toInt = L.1 (q119) := E220.trans (tp_us.trans (tl.1 _))
            refine yT.kb (pc' := 45) rfl rfl (by decide) (fun x223 e224 => ?_)
            refine yT.if2 (t := 66) (pc' := 48) rfl rfl rfl (c2_ne e222 e224) (fun c225 => ?_) (fun c225 => ?_)
            · refine yT.iln (pc' := 67) g125 rfl rfl ?_
              exact yT.retZ rfl rfl (b01 (by omega) (by omega)) ⟨_, q119, _, hT219, (by omega), rfl, ⟨by omega, by omega, by omega, fun h => i128 (by omega) _ (PK.t0 (by omega))⟩⟩
            · have hlt := tl.in (j := q119) (by omega)
              refine yT.aan (pc' := 49) g124 rfl rfl rfl ?_
              refine yT.p (pc' := 50) rfl rfl (fun _ _ _ _ => rfl) ?_
              refine yT.cgX (pc' := 53) rfl rfl hT219 (K.up rfl) rfl rfl (fun x226 _ i227 j228 z229 => ?_)
              have e230 : x226.toInt = (q119 : Int) := (congrArg Int32.toInt z229).trans f132
              refine yT.kI (pc' := 54) rfl rfl (by decide) (fun x231 e232 => ?_)
              refine yT.ad2 (pc' := 55) (Z := (q119 : Int) + 1) e230 e232 rfl rfl (by omega) (fun x233 e234 => ?_)
              refine yT.cpX (c := x233) (pc' := 58) rfl rfl hT219 (K.up rfl) rfl rfl rfl e234 (by omega) rfl (fun h235 hT236 _ _ => ?_)
              rw [us_us] at hT236
              have f237 : fl (us σ 60 22 x233) 22 = (q119 : Int) + 1 := fl_at.trans e234
              have f238 : fl (us σ 60 22 x233) 12 = (T : Int) := (fl_o rfl).trans tl.2.1
              refine yT.aan (pc' := 59) g124 rfl rfl rfl ?_
              refine kRC (yT.cc (G2 := 0) (pc' := 62) rfl rfl rfl hT236 (K.up rfl : xnth ks 60 = some (19, 0)) xM_201 (R (p1 := q119 + 1) hT236 (by omega) (by omega) (by omega)) rfl (by omega) (by decide) rfl) (fun h239 v243 p244 x242 hT240 hv245 E241 => ?_)
              obtain ⟨k246, k247, k248, k249⟩ := E241
              have f250 : fl (us σ 60 22 v243) 22 = (p244 : Int) := fl_at.trans hv245
              have f251 : fl (us σ 60 22 v243) 12 = (T : Int) := (fl_o rfl).trans tl.2.1
              refine yT.p (pc' := 63) (lv' := xst1 _ 1 (.int x242)) rfl rfl (fun _ _ _ _ => rfl) ?_
              refine yT.p (pc' := 5) rfl rfl (fun _ _ _ _ => rfl) ?_
              exact ih131 _ _ (p244) _ x242 hT240 (by omega) (xg_ne g124 rfl) xg_eq (by omega) (by omega) (fun h => SP.t1 (i128 (by omega)) (by omega) (k249 (by omega))) (by omega)
  exact L116 _ _ _ (p108) _ x106 hT104 (by omega) (xg_ne g0 rfl) xg_eq (by omega) (by omega) (fun h => SP.t (k113 (by omega))) (Nat.lt_succ_self _)
-- rX9_isSumr
set_option maxRecDepth 100000 in
set_option maxHeartbeats 4000000 in
theorem r198r {ks : List cT} {B0 : Nat} (K : KE KS0 ks B0) {σ : sg} {ρ : Nat → xE} {h : List xE} {v0 : Int32} {p : Nat} (hT : HT ks (us σ 60 22 v0) ρ h) (hv : v0.toInt = (p : Int)) {L : LT} {T : Nat} (tl : TL σ L T) (hp : p ≤ T) (R : ∀ {h1 : List xE} {v1 : Int32} {p1 : Nat}, HT ks (us σ 60 22 v1) ρ h1 → v1.toInt = (p1 : Int) → p1 ≤ T → p ≤ p1 → yM 199 (4 * (T - p1) + 11) 0 [.ref (60 + 1)] h1 (RCI ks ρ σ (RG 2 L T p1))) : yM 198 (4 * (T - p) + 12) 0 [.ref (60 + 1)] h (RCI ks ρ σ (RG 1 L T p)) := by
  refine yM.st xM_198 rfl rfl (fun lv g => ?_)
  have g0 := g 0 _ rfl
  have f101 : fl (us σ 60 22 v0) 22 = (p : Int) := fl_at.trans hv
  have f102 : fl (us σ 60 22 v0) 12 = (T : Int) := (fl_o rfl).trans tl.2.1
  have hTb := tl.2.2
  refine yT.aan (pc' := 1) g0 rfl rfl rfl ?_
  refine kRC (yT.cc (G2 := 0) (pc' := 4) rfl rfl rfl hT (K.up rfl : xnth ks 60 = some (19, 0)) xM_199 (R (p1 := p) hT (by omega) (by omega) (by omega)) rfl (by omega) (by decide) rfl) (fun h103 v107 p108 x106 hT104 hv109 E105 => ?_)
  obtain ⟨k110, k111, k112, k113⟩ := E105
  have f114 : fl (us σ 60 22 v107) 22 = (p108 : Int) := fl_at.trans hv109
  have f115 : fl (us σ 60 22 v107) 12 = (T : Int) := (fl_o rfl).trans tl.2.1
  refine yT.p (pc' := 5) (lv' := xst1 _ 1 (.int x106)) rfl rfl (fun _ _ _ _ => rfl) ?_
  have L116 : ∀ (n129 : Nat) (lv117 : xLv) (v118 : Int32) (q119 : Nat) (h121 : List xE) (x123 : Int32), HT ks (us σ 60 22 v118) ρ h121 → v118.toInt = (q119 : Int) → xget lv117 0 = some (.ref (60 + 1)) → xget lv117 1 = some (.int x123) → (x123.toInt) = 0 ∨ (x123.toInt) = 1 → p ≤ q119 ∧ q119 ≤ T → ((x123.toInt) = 1 → SP L 1 4 p q119) → T - q119 < n129 → yT 0 [] rX9_isSum (4 * (T - p) + 12) 0 5 lv117 [] h121 (RCI ks ρ σ (RG 1 L T p)) := by
    intro n129
    induction n129 with
    | zero => intro lv117 v118 q119 h121 x123 hT122 hv120 g124 g125 i126 i127 i128 m130; exact absurd m130 (Nat.not_lt_zero _)
    | succ n129 ih131 =>
      intro lv117 v118 q119 h121 x123 hT122 hv120 g124 g125 i126 i127 i128 m130
      have f132 : fl (us σ 60 22 v118) 22 = (q119 : Int) := fl_at.trans hv120
      have f133 : fl (us σ 60 22 v118) 12 = (T : Int) := (fl_o rfl).trans tl.2.1
      refine yT.iln (pc' := 6) g125 rfl rfl ?_
      refine yT.if1 (t := 53) (pc' := 9) rfl rfl rfl (c1_eq rfl) (fun c134 => ?_) (fun c134 => ?_)
      · refine yT.iln (pc' := 54) g125 rfl rfl ?_
        exact yT.retZ rfl rfl (b01 (by omega) (by omega)) ⟨_, q119, _, hT122, (by omega), rfl, ⟨by omega, by omega, by omega, fun h => i128 (by omega) _ (PK.s0 (by omega))⟩⟩
      · refine yT.aan (pc' := 10) g124 rfl rfl rfl ?_
        refine yT.aan (pc' := 11) g124 rfl rfl rfl ?_
        refine yT.cgX (pc' := 14) rfl rfl hT122 (K.up rfl) rfl rfl (fun x135 _ i136 j137 z138 => ?_)
        have e139 : x135.toInt = (q119 : Int) := (congrArg Int32.toInt z138).trans f132
        refine kSI (yT.cc (G2 := 0) (pc' := 17) rfl rfl rfl hT122 (K.up rfl : xnth ks 60 = some (19, 0)) xM_195 (r195 (k := q119) K hT122 e139) rfl (by omega) (by decide) rfl) (fun h140 x143 hT141 E142 => ?_)
        have e144 : x143.toInt = L.1 (q119) := E142.trans (tp_us.trans (tl.1 _))
        refine yT.kb (pc' := 19) rfl rfl (by decide) (fun x145 e146 => ?_)
        refine yT.if2 (t := 35) (pc' := 22) rfl rfl rfl (c2_eq e144 e146) (fun c147 => ?_) (fun c147 => ?_)
        · have hlt := tl.in (j := q119) (by omega)
          refine yT.aan (pc' := 36) g124 rfl rfl rfl ?_
          refine yT.p (pc' := 37) rfl rfl (fun _ _ _ _ => rfl) ?_
          refine yT.cgX (pc' := 40) rfl rfl hT141 (K.up rfl) rfl rfl (fun x148 _ i149 j150 z151 => ?_)
          have e152 : x148.toInt = (q119 : Int) := (congrArg Int32.toInt z151).trans f132
          refine yT.kI (pc' := 41) rfl rfl (by decide) (fun x153 e154 => ?_)
          refine yT.ad2 (pc' := 42) (Z := (q119 : Int) + 1) e152 e154 rfl rfl (by omega) (fun x155 e156 => ?_)
          refine yT.cpX (c := x155) (pc' := 45) rfl rfl hT141 (K.up rfl) rfl rfl rfl e156 (by omega) rfl (fun h157 hT158 _ _ => ?_)
          rw [us_us] at hT158
          have f159 : fl (us σ 60 22 x155) 22 = (q119 : Int) + 1 := fl_at.trans e156
          have f160 : fl (us σ 60 22 x155) 12 = (T : Int) := (fl_o rfl).trans tl.2.1
          refine yT.aan (pc' := 46) g124 rfl rfl rfl ?_
          refine kRC (yT.cc (G2 := 0) (pc' := 49) rfl rfl rfl hT158 (K.up rfl : xnth ks 60 = some (19, 0)) xM_199 (R (p1 := q119 + 1) hT158 (by omega) (by omega) (by omega)) rfl (by omega) (by decide) rfl) (fun h161 v165 p166 x164 hT162 hv167 E163 => ?_)
          obtain ⟨k168, k169, k170, k171⟩ := E163
          have f172 : fl (us σ 60 22 v165) 22 = (p166 : Int) := fl_at.trans hv167
          have f173 : fl (us σ 60 22 v165) 12 = (T : Int) := (fl_o rfl).trans tl.2.1
          refine yT.p (pc' := 50) (lv' := xst1 _ 1 (.int x164)) rfl rfl (fun _ _ _ _ => rfl) ?_
          refine yT.p (pc' := 5) rfl rfl (fun _ _ _ _ => rfl) ?_
          exact ih131 _ _ (p166) _ x164 hT162 (by omega) (xg_ne g124 rfl) xg_eq (by omega) (by omega) (fun h => SP.s1 (i128 (by omega)) (by omega) (k171 (by omega))) (by omega)
        · refine yT.aan (pc' := 23) g124 rfl rfl rfl ?_
          refine yT.aan (pc' := 24) g124 rfl rfl rfl ?_
          refine yT.cgX (pc' := 27) rfl rfl hT141 (K.up rfl) rfl rfl (fun x174 _ i175 j176 z177 => ?_)
          have e178 : x174.toInt = (q119 : Int) := (congrArg Int32.toInt z177).trans f132
          refine kSI (yT.cc (G2 := 0) (pc' := 30) rfl rfl rfl hT141 (K.up rfl : xnth ks 60 = some (19, 0)) xM_195 (r195 (k := q119) K hT141 e178) rfl (by omega) (by decide) rfl) (fun h179 x182 hT180 E181 => ?_)
          have e183 : x182.toInt = L.1 (q119) := E181.trans (tp_us.trans (tl.1 _))
          refine yT.kb (pc' := 32) rfl rfl (by decide) (fun x184 e185 => ?_)
          refine yT.if2 (t := 53) (pc' := 35) rfl rfl rfl (c2_ne e183 e185) (fun c186 => ?_) (fun c186 => ?_)
          · refine yT.iln (pc' := 54) g125 rfl rfl ?_
            exact yT.retZ rfl rfl (b01 (by omega) (by omega)) ⟨_, q119, _, hT180, (by omega), rfl, ⟨by omega, by omega, by omega, fun h => i128 (by omega) _ (PK.s0 (by omega))⟩⟩
          · have hlt := tl.in (j := q119) (by omega)
            refine yT.aan (pc' := 36) g124 rfl rfl rfl ?_
            refine yT.p (pc' := 37) rfl rfl (fun _ _ _ _ => rfl) ?_
            refine yT.cgX (pc' := 40) rfl rfl hT180 (K.up rfl) rfl rfl (fun x187 _ i188 j189 z190 => ?_)
            have e191 : x187.toInt = (q119 : Int) := (congrArg Int32.toInt z190).trans f132
            refine yT.kI (pc' := 41) rfl rfl (by decide) (fun x192 e193 => ?_)
            refine yT.ad2 (pc' := 42) (Z := (q119 : Int) + 1) e191 e193 rfl rfl (by omega) (fun x194 e195 => ?_)
            refine yT.cpX (c := x194) (pc' := 45) rfl rfl hT180 (K.up rfl) rfl rfl rfl e195 (by omega) rfl (fun h196 hT197 _ _ => ?_)
            rw [us_us] at hT197
            have f198 : fl (us σ 60 22 x194) 22 = (q119 : Int) + 1 := fl_at.trans e195
            have f199 : fl (us σ 60 22 x194) 12 = (T : Int) := (fl_o rfl).trans tl.2.1
            refine yT.aan (pc' := 46) g124 rfl rfl rfl ?_
            refine kRC (yT.cc (G2 := 0) (pc' := 49) rfl rfl rfl hT197 (K.up rfl : xnth ks 60 = some (19, 0)) xM_199 (R (p1 := q119 + 1) hT197 (by omega) (by omega) (by omega)) rfl (by omega) (by decide) rfl) (fun h200 v204 p205 x203 hT201 hv206 E202 => ?_)
            obtain ⟨k207, k208, k209, k210⟩ := E202
            have f211 : fl (us σ 60 22 v204) 22 = (p205 : Int) := fl_at.trans hv206
            have f212 : fl (us σ 60 22 v204) 12 = (T : Int) := (fl_o rfl).trans tl.2.1
            refine yT.p (pc' := 50) (lv' := xst1 _ 1 (.int x203)) rfl rfl (fun _ _ _ _ => rfl) ?_
            refine yT.p (pc' := 5) rfl rfl (fun _ _ _ _ => rfl) ?_
            exact ih131 _ _ (p205) _ x203 hT201 (by omega) (xg_ne g124 rfl) xg_eq (by omega) (by omega) (fun h => SP.s1 (i128 (by omega)) (by omega) (k210 (by omega))) (by omega)
  exact L116 _ _ _ (p108) _ x106 hT104 (by omega) (xg_ne g0 rfl) xg_eq (by omega) (by omega) (fun h => SP.s (k113 (by omega))) (Nat.lt_succ_self _)
-- rX9_isCompr
set_option maxRecDepth 100000 in
set_option maxHeartbeats 4000000 in
theorem r197r {ks : List cT} {B0 : Nat} (K : KE KS0 ks B0) {σ : sg} {ρ : Nat → xE} {h : List xE} {v0 : Int32} {p : Nat} (hT : HT ks (us σ 60 22 v0) ρ h) (hv : v0.toInt = (p : Int)) {L : LT} {T : Nat} (tl : TL σ L T) (hp : p ≤ T) (R : ∀ {h1 : List xE} {v1 : Int32} {p1 : Nat}, HT ks (us σ 60 22 v1) ρ h1 → v1.toInt = (p1 : Int) → p1 ≤ T → p ≤ p1 → yM 198 (4 * (T - p1) + 12) 0 [.ref (60 + 1)] h1 (RCI ks ρ σ (RG 1 L T p1))) : yM 197 (4 * (T - p) + 13) 0 [.ref (60 + 1)] h (RCI ks ρ σ (RG 0 L T p)) := by
  refine yM.st xM_197 rfl rfl (fun lv g => ?_)
  have g0 := g 0 _ rfl
  have f101 : fl (us σ 60 22 v0) 22 = (p : Int) := fl_at.trans hv
  have f102 : fl (us σ 60 22 v0) 12 = (T : Int) := (fl_o rfl).trans tl.2.1
  have hTb := tl.2.2
  refine yT.aan (pc' := 1) g0 rfl rfl rfl ?_
  refine kRC (yT.cc (G2 := 0) (pc' := 4) rfl rfl rfl hT (K.up rfl : xnth ks 60 = some (19, 0)) xM_198 (R (p1 := p) hT (by omega) (by omega) (by omega)) rfl (by omega) (by decide) rfl) (fun h103 v107 p108 x106 hT104 hv109 E105 => ?_)
  obtain ⟨k110, k111, k112, k113⟩ := E105
  have f114 : fl (us σ 60 22 v107) 22 = (p108 : Int) := fl_at.trans hv109
  have f115 : fl (us σ 60 22 v107) 12 = (T : Int) := (fl_o rfl).trans tl.2.1
  refine yT.if1 (t := 9) (pc' := 7) rfl rfl rfl (c1_ne rfl) (fun c116 => ?_) (fun c116 => ?_)
  · refine yT.aan (pc' := 10) g0 rfl rfl rfl ?_
    refine yT.aan (pc' := 11) g0 rfl rfl rfl ?_
    refine yT.cgX (pc' := 14) rfl rfl hT104 (K.up rfl) rfl rfl (fun x117 _ i118 j119 z120 => ?_)
    have e121 : x117.toInt = (p108 : Int) := (congrArg Int32.toInt z120).trans f114
    refine kSI (yT.cc (G2 := 0) (pc' := 17) rfl rfl rfl hT104 (K.up rfl : xnth ks 60 = some (19, 0)) xM_195 (r195 (k := p108) K hT104 e121) rfl (by omega) (by decide) rfl) (fun h122 x125 hT123 E124 => ?_)
    have e126 : x125.toInt = L.1 (p108) := E124.trans (tp_us.trans (tl.1 _))
    refine yT.p (pc' := 18) (lv' := xst1 _ 1 (.int x125)) rfl rfl (fun _ _ _ _ => rfl) ?_
    refine yT.iln (pc' := 19) xg_eq rfl rfl ?_
    refine yT.kb (pc' := 21) rfl rfl (by decide) (fun x127 e128 => ?_)
    refine yT.if2 (t := 38) (pc' := 24) rfl rfl rfl (c2_eq e126 e128) (fun c129 => ?_) (fun c129 => ?_)
    · have hlt := tl.in (j := (p108)) (by omega)
      refine yT.aan (pc' := 39) (xg_ne g0 rfl) rfl rfl rfl ?_
      refine yT.p (pc' := 40) rfl rfl (fun _ _ _ _ => rfl) ?_
      refine yT.cgX (pc' := 43) rfl rfl hT123 (K.up rfl) rfl rfl (fun x130 _ i131 j132 z133 => ?_)
      have e134 : x130.toInt = (p108 : Int) := (congrArg Int32.toInt z133).trans f114
      refine yT.kI (pc' := 44) rfl rfl (by decide) (fun x135 e136 => ?_)
      refine yT.ad2 (pc' := 45) (Z := (p108 : Int) + 1) e134 e136 rfl rfl (by omega) (fun x137 e138 => ?_)
      refine yT.cpX (c := x137) (pc' := 48) rfl rfl hT123 (K.up rfl) rfl rfl rfl e138 (by omega) rfl (fun h139 hT140 _ _ => ?_)
      rw [us_us] at hT140
      have f141 : fl (us σ 60 22 x137) 22 = (p108 : Int) + 1 := fl_at.trans e138
      have f142 : fl (us σ 60 22 x137) 12 = (T : Int) := (fl_o rfl).trans tl.2.1
      refine yT.aan (pc' := 49) (xg_ne g0 rfl) rfl rfl rfl ?_
      refine kRC (yT.cc (G2 := 0) (pc' := 52) rfl rfl rfl hT140 (K.up rfl : xnth ks 60 = some (19, 0)) xM_198 (R (p1 := p108 + 1) hT140 (by omega) (by omega) (by omega)) rfl (by omega) (by decide) rfl) (fun h143 v147 p148 x146 hT144 hv149 E145 => ?_)
      obtain ⟨k150, k151, k152, k153⟩ := E145
      have f154 : fl (us σ 60 22 v147) 22 = (p148 : Int) := fl_at.trans hv149
      have f155 : fl (us σ 60 22 v147) 12 = (T : Int) := (fl_o rfl).trans tl.2.1
      exact yT.retZ rfl rfl (b01 (by omega) (by omega)) ⟨_, p148, _, hT144, (by omega), rfl, ⟨by omega, by omega, by omega, fun h => (k113 (by omega)).c2 (by omega) (k153 (by omega))⟩⟩
    · refine yT.iln (pc' := 25) xg_eq rfl rfl ?_
      refine yT.kb (pc' := 27) rfl rfl (by decide) (fun x156 e157 => ?_)
      refine yT.if2 (t := 38) (pc' := 30) rfl rfl rfl (c2_eq e126 e157) (fun c158 => ?_) (fun c158 => ?_)
      · have hlt := tl.in (j := (p108)) (by omega)
        refine yT.aan (pc' := 39) (xg_ne g0 rfl) rfl rfl rfl ?_
        refine yT.p (pc' := 40) rfl rfl (fun _ _ _ _ => rfl) ?_
        refine yT.cgX (pc' := 43) rfl rfl hT123 (K.up rfl) rfl rfl (fun x159 _ i160 j161 z162 => ?_)
        have e163 : x159.toInt = (p108 : Int) := (congrArg Int32.toInt z162).trans f114
        refine yT.kI (pc' := 44) rfl rfl (by decide) (fun x164 e165 => ?_)
        refine yT.ad2 (pc' := 45) (Z := (p108 : Int) + 1) e163 e165 rfl rfl (by omega) (fun x166 e167 => ?_)
        refine yT.cpX (c := x166) (pc' := 48) rfl rfl hT123 (K.up rfl) rfl rfl rfl e167 (by omega) rfl (fun h168 hT169 _ _ => ?_)
        rw [us_us] at hT169
        have f170 : fl (us σ 60 22 x166) 22 = (p108 : Int) + 1 := fl_at.trans e167
        have f171 : fl (us σ 60 22 x166) 12 = (T : Int) := (fl_o rfl).trans tl.2.1
        refine yT.aan (pc' := 49) (xg_ne g0 rfl) rfl rfl rfl ?_
        refine kRC (yT.cc (G2 := 0) (pc' := 52) rfl rfl rfl hT169 (K.up rfl : xnth ks 60 = some (19, 0)) xM_198 (R (p1 := p108 + 1) hT169 (by omega) (by omega) (by omega)) rfl (by omega) (by decide) rfl) (fun h172 v176 p177 x175 hT173 hv178 E174 => ?_)
        obtain ⟨k179, k180, k181, k182⟩ := E174
        have f183 : fl (us σ 60 22 v176) 22 = (p177 : Int) := fl_at.trans hv178
        have f184 : fl (us σ 60 22 v176) 12 = (T : Int) := (fl_o rfl).trans tl.2.1
        exact yT.retZ rfl rfl (b01 (by omega) (by omega)) ⟨_, p177, _, hT173, (by omega), rfl, ⟨by omega, by omega, by omega, fun h => (k113 (by omega)).c2 (by omega) (k182 (by omega))⟩⟩
      · refine yT.iln (pc' := 31) xg_eq rfl rfl ?_
        refine yT.kb (pc' := 33) rfl rfl (by decide) (fun x185 e186 => ?_)
        refine yT.if2 (t := 38) (pc' := 36) rfl rfl rfl (c2_eq e126 e186) (fun c187 => ?_) (fun c187 => ?_)
        · have hlt := tl.in (j := (p108)) (by omega)
          refine yT.aan (pc' := 39) (xg_ne g0 rfl) rfl rfl rfl ?_
          refine yT.p (pc' := 40) rfl rfl (fun _ _ _ _ => rfl) ?_
          refine yT.cgX (pc' := 43) rfl rfl hT123 (K.up rfl) rfl rfl (fun x188 _ i189 j190 z191 => ?_)
          have e192 : x188.toInt = (p108 : Int) := (congrArg Int32.toInt z191).trans f114
          refine yT.kI (pc' := 44) rfl rfl (by decide) (fun x193 e194 => ?_)
          refine yT.ad2 (pc' := 45) (Z := (p108 : Int) + 1) e192 e194 rfl rfl (by omega) (fun x195 e196 => ?_)
          refine yT.cpX (c := x195) (pc' := 48) rfl rfl hT123 (K.up rfl) rfl rfl rfl e196 (by omega) rfl (fun h197 hT198 _ _ => ?_)
          rw [us_us] at hT198
          have f199 : fl (us σ 60 22 x195) 22 = (p108 : Int) + 1 := fl_at.trans e196
          have f200 : fl (us σ 60 22 x195) 12 = (T : Int) := (fl_o rfl).trans tl.2.1
          refine yT.aan (pc' := 49) (xg_ne g0 rfl) rfl rfl rfl ?_
          refine kRC (yT.cc (G2 := 0) (pc' := 52) rfl rfl rfl hT198 (K.up rfl : xnth ks 60 = some (19, 0)) xM_198 (R (p1 := p108 + 1) hT198 (by omega) (by omega) (by omega)) rfl (by omega) (by decide) rfl) (fun h201 v205 p206 x204 hT202 hv207 E203 => ?_)
          obtain ⟨k208, k209, k210, k211⟩ := E203
          have f212 : fl (us σ 60 22 v205) 22 = (p206 : Int) := fl_at.trans hv207
          have f213 : fl (us σ 60 22 v205) 12 = (T : Int) := (fl_o rfl).trans tl.2.1
          exact yT.retZ rfl rfl (b01 (by omega) (by omega)) ⟨_, p206, _, hT202, (by omega), rfl, ⟨by omega, by omega, by omega, fun h => (k113 (by omega)).c2 (by omega) (k211 (by omega))⟩⟩
        · refine yT.kI (pc' := 37) rfl rfl (by decide) (fun x214 e215 => ?_)
          exact yT.retZ rfl rfl (b01 (by omega) (by omega)) ⟨_, p108, _, hT123, (by omega), rfl, ⟨by omega, by omega, by omega, fun h => (k113 (by omega)).c1 (by omega)⟩⟩
  · refine yT.kI (pc' := 8) rfl rfl (by decide) (fun x216 e217 => ?_)
    exact yT.retZ rfl rfl (b01 (by omega) (by omega)) ⟨_, p108, _, hT104, (by omega), rfl, ⟨by omega, by omega, by omega, fun h => by omega⟩⟩
-- rX9_isPartr
set_option maxRecDepth 100000 in
set_option maxHeartbeats 4000000 in
theorem r201r {ks : List cT} {B0 : Nat} (K : KE KS0 ks B0) {σ : sg} {ρ : Nat → xE} {h : List xE} {v0 : Int32} {p : Nat} (hT : HT ks (us σ 60 22 v0) ρ h) (hv : v0.toInt = (p : Int)) {L : LT} {T : Nat} (tl : TL σ L T) (hp : p ≤ T) (hcm : (0 ≤ nw σ 6768 ∧ nw σ 6768 ≤ 24) ∧ L.2 = nw σ 6768) (R : ∀ {h1 : List xE} {v1 : Int32} {p1 : Nat}, HT ks (us σ 60 22 v1) ρ h1 → v1.toInt = (p1 : Int) → p1 ≤ T → p + 1 ≤ p1 → yM 201 (4 * (T - p1) + 10) 0 [.ref (60 + 1)] h1 (RCI ks ρ σ (RG 3 L T p1))) (R2 : ∀ {h1 : List xE} {v1 : Int32} {p1 : Nat}, HT ks (us σ 60 22 v1) ρ h1 → v1.toInt = (p1 : Int) → p1 ≤ T → p + 1 ≤ p1 → yM 197 (4 * (T - p1) + 13) 0 [.ref (60 + 1)] h1 (RCI ks ρ σ (RG 0 L T p1))) : yM 201 (4 * (T - p) + 10) 0 [.ref (60 + 1)] h (RCI ks ρ σ (RG 3 L T p)) := by
  refine yM.st xM_201 rfl rfl (fun lv g => ?_)
  have g0 := g 0 _ rfl
  have f101 : fl (us σ 60 22 v0) 22 = (p : Int) := fl_at.trans hv
  have f102 : fl (us σ 60 22 v0) 12 = (T : Int) := (fl_o rfl).trans tl.2.1
  have hTb := tl.2.2
  refine yT.aan (pc' := 1) g0 rfl rfl rfl ?_
  refine yT.aan (pc' := 2) g0 rfl rfl rfl ?_
  refine yT.cgX (pc' := 5) rfl rfl hT (K.up rfl) rfl rfl (fun x103 _ i104 j105 z106 => ?_)
  have e107 : x103.toInt = (p : Int) := (congrArg Int32.toInt z106).trans f101
  refine kSI (yT.cc (G2 := 0) (pc' := 8) rfl rfl rfl hT (K.up rfl : xnth ks 60 = some (19, 0)) xM_195 (r195 (k := p) K hT e107) rfl (by omega) (by decide) rfl) (fun h108 x111 hT109 E110 => ?_)
  have e112 : x111.toInt = L.1 (p) := E110.trans (tp_us.trans (tl.1 _))
  refine yT.p (pc' := 9) (lv' := xst1 _ 1 (.int x111)) rfl rfl (fun _ _ _ _ => rfl) ?_
  refine yT.iln (pc' := 10) xg_eq rfl rfl ?_
  refine yT.i2l2 (pc' := 11) (X := (L.1 (p))) e112 rfl rfl (fun y113 e114 => ?_)
  refine yT.ld2 (pc' := 14) (X := 48) rfl rfl rfl (by decide) (fun y115 e116 => ?_)
  refine yT.ld2 (pc' := 17) (X := 57) rfl rfl rfl (by decide) (fun y117 e118 => ?_)
  refine kSI (yT.cst (G2 := 0) (pc' := 20) rfl rfl xM_163 (r163 (v := (L.1 (p))) (lo := 48) (hi := 57) K hT109 e114 e116 e118) rfl (by omega) (by decide) rfl) (fun h119 x122 hT120 E121 => ?_)
  refine yT.if1 (t := 94) (pc' := 23) rfl rfl rfl (c1_eq rfl) (fun c123 => ?_) (fun c123 => ?_)
  · refine yT.iln (pc' := 95) xg_eq rfl rfl ?_
    refine yT.i2l2 (pc' := 96) (X := (L.1 (p))) e112 rfl rfl (fun y124 e125 => ?_)
    refine yT.ld2 (pc' := 99) (X := 97) rfl rfl rfl (by decide) (fun y126 e127 => ?_)
    refine yT.ld2 (pc' := 102) (X := 120) rfl rfl rfl (by decide) (fun y128 e129 => ?_)
    refine kSI (yT.cst (G2 := 0) (pc' := 105) rfl rfl xM_163 (r163 (v := (L.1 (p))) (lo := 97) (hi := 120) K hT120 e125 e127 e129) rfl (by omega) (by decide) rfl) (fun h130 x133 hT131 E132 => ?_)
    refine yT.if1 (t := 113) (pc' := 108) rfl rfl rfl (c1_eq rfl) (fun c134 => ?_) (fun c134 => ?_)
    · refine yT.iln (pc' := 114) xg_eq rfl rfl ?_
      refine yT.kb (pc' := 116) rfl rfl (by decide) (fun x135 e136 => ?_)
      refine yT.if2 (t := 145) (pc' := 119) rfl rfl rfl (c2_eq e112 e136) (fun c137 => ?_) (fun c137 => ?_)
      · have hlt := tl.in (j := p) (by omega)
        refine yT.aan (pc' := 146) (xg_ne g0 rfl) rfl rfl rfl ?_
        refine yT.p (pc' := 147) rfl rfl (fun _ _ _ _ => rfl) ?_
        refine yT.cgX (pc' := 150) rfl rfl hT131 (K.up rfl) rfl rfl (fun x138 _ i139 j140 z141 => ?_)
        have e142 : x138.toInt = (p : Int) := (congrArg Int32.toInt z141).trans f101
        refine yT.kI (pc' := 151) rfl rfl (by decide) (fun x143 e144 => ?_)
        refine yT.ad2 (pc' := 152) (Z := (p : Int) + 1) e142 e144 rfl rfl (by omega) (fun x145 e146 => ?_)
        refine yT.cpX (c := x145) (pc' := 155) rfl rfl hT131 (K.up rfl) rfl rfl rfl e146 (by omega) rfl (fun h147 hT148 _ _ => ?_)
        rw [us_us] at hT148
        have f149 : fl (us σ 60 22 x145) 22 = (p : Int) + 1 := fl_at.trans e146
        have f150 : fl (us σ 60 22 x145) 12 = (T : Int) := (fl_o rfl).trans tl.2.1
        refine yT.iln (pc' := 156) xg_eq rfl rfl ?_
        refine yT.kb (pc' := 158) rfl rfl (by decide) (fun x151 e152 => ?_)
        refine yT.if2 (t := 166) (pc' := 161) rfl rfl rfl (c2_ne e112 e152) (fun c153 => ?_) (fun c153 => ?_)
        · refine yT.iln (pc' := 167) xg_eq rfl rfl ?_
          refine yT.kb (pc' := 169) rfl rfl (by decide) (fun x154 e155 => ?_)
          refine yT.if2 (t := 177) (pc' := 172) rfl rfl rfl (c2_ne e112 e155) (fun c156 => ?_) (fun c156 => ?_)
          · refine yT.iln (pc' := 178) xg_eq rfl rfl ?_
            refine yT.kb (pc' := 180) rfl rfl (by decide) (fun x157 e158 => ?_)
            refine yT.if2 (t := 205) (pc' := 183) rfl rfl rfl (c2_ne e112 e158) (fun c159 => ?_) (fun c159 => ?_)
            · refine yT.iln (pc' := 206) xg_eq rfl rfl ?_
              refine yT.kb (pc' := 208) rfl rfl (by decide) (fun x160 e161 => ?_)
              refine yT.if2 (t := 265) (pc' := 211) rfl rfl rfl (c2_ne e112 e161) (fun c162 => ?_) (fun c162 => ?_)
              · refine yT.aan (pc' := 266) (xg_ne g0 rfl) rfl rfl rfl ?_
                refine yT.kb (pc' := 268) rfl rfl (by decide) (fun x163 e164 => ?_)
                refine kRC (yT.cc (G2 := 0) (pc' := 271) rfl rfl rfl hT148 (K.up rfl : xnth ks 60 = some (19, 0)) xM_196 (r196 (p := p + 1) K hT148 (by omega) tl (by omega) x163 (by omega)) rfl (by omega) (by decide) rfl) (fun h165 v169 p170 x168 hT166 hv171 E167 => ?_)
                obtain ⟨k172, k173, k174, k175⟩ := E167
                have f176 : fl (us σ 60 22 v169) 22 = (p170 : Int) := fl_at.trans hv171
                have f177 : fl (us σ 60 22 v169) 12 = (T : Int) := (fl_o rfl).trans tl.2.1
                refine yT.if1 (t := 310) (pc' := 274) rfl rfl rfl (c1_eq rfl) (fun c178 => ?_) (fun c178 => ?_)
                · refine yT.kI (pc' := 311) rfl rfl (by decide) (fun x179 e180 => ?_)
                  exact yT.retZ rfl rfl (b01 (by omega) (by omega)) ⟨_, p170, _, hT166, (by omega), rfl, ⟨by omega, by omega, by omega, fun h => by omega⟩⟩
                · refine yT.aan (pc' := 275) (xg_ne g0 rfl) rfl rfl rfl ?_
                  refine kRC (yT.cc (G2 := 0) (pc' := 278) rfl rfl rfl hT166 (K.up rfl : xnth ks 60 = some (19, 0)) xM_197 (R2 (p1 := p170) hT166 (by omega) (by omega) (by omega)) rfl (by omega) (by decide) rfl) (fun h181 v185 p186 x184 hT182 hv187 E183 => ?_)
                  obtain ⟨k188, k189, k190, k191⟩ := E183
                  have f192 : fl (us σ 60 22 v185) 22 = (p186 : Int) := fl_at.trans hv187
                  have f193 : fl (us σ 60 22 v185) 12 = (T : Int) := (fl_o rfl).trans tl.2.1
                  refine yT.if1 (t := 310) (pc' := 281) rfl rfl rfl (c1_eq rfl) (fun c194 => ?_) (fun c194 => ?_)
                  · refine yT.kI (pc' := 311) rfl rfl (by decide) (fun x195 e196 => ?_)
                    exact yT.retZ rfl rfl (b01 (by omega) (by omega)) ⟨_, p186, _, hT182, (by omega), rfl, ⟨by omega, by omega, by omega, fun h => by omega⟩⟩
                  · refine yT.aan (pc' := 282) (xg_ne g0 rfl) rfl rfl rfl ?_
                    refine yT.kb (pc' := 284) rfl rfl (by decide) (fun x197 e198 => ?_)
                    refine kRC (yT.cc (G2 := 0) (pc' := 287) rfl rfl rfl hT182 (K.up rfl : xnth ks 60 = some (19, 0)) xM_196 (r196 (p := p186) K hT182 (by omega) tl (by omega) x197 (by omega)) rfl (by omega) (by decide) rfl) (fun h199 v203 p204 x202 hT200 hv205 E201 => ?_)
                    obtain ⟨k206, k207, k208, k209⟩ := E201
                    have f210 : fl (us σ 60 22 v203) 22 = (p204 : Int) := fl_at.trans hv205
                    have f211 : fl (us σ 60 22 v203) 12 = (T : Int) := (fl_o rfl).trans tl.2.1
                    refine yT.if1 (t := 310) (pc' := 290) rfl rfl rfl (c1_eq rfl) (fun c212 => ?_) (fun c212 => ?_)
                    · refine yT.kI (pc' := 311) rfl rfl (by decide) (fun x213 e214 => ?_)
                      exact yT.retZ rfl rfl (b01 (by omega) (by omega)) ⟨_, p204, _, hT200, (by omega), rfl, ⟨by omega, by omega, by omega, fun h => by omega⟩⟩
                    · refine yT.aan (pc' := 291) (xg_ne g0 rfl) rfl rfl rfl ?_
                      refine kRC (yT.cc (G2 := 0) (pc' := 294) rfl rfl rfl hT200 (K.up rfl : xnth ks 60 = some (19, 0)) xM_197 (R2 (p1 := p204) hT200 (by omega) (by omega) (by omega)) rfl (by omega) (by decide) rfl) (fun h215 v219 p220 x218 hT216 hv221 E217 => ?_)
                      obtain ⟨k222, k223, k224, k225⟩ := E217
                      have f226 : fl (us σ 60 22 v219) 22 = (p220 : Int) := fl_at.trans hv221
                      have f227 : fl (us σ 60 22 v219) 12 = (T : Int) := (fl_o rfl).trans tl.2.1
                      refine yT.if1 (t := 310) (pc' := 297) rfl rfl rfl (c1_eq rfl) (fun c228 => ?_) (fun c228 => ?_)
                      · refine yT.kI (pc' := 311) rfl rfl (by decide) (fun x229 e230 => ?_)
                        exact yT.retZ rfl rfl (b01 (by omega) (by omega)) ⟨_, p220, _, hT216, (by omega), rfl, ⟨by omega, by omega, by omega, fun h => by omega⟩⟩
                      · refine yT.aan (pc' := 298) (xg_ne g0 rfl) rfl rfl rfl ?_
                        refine yT.kb (pc' := 300) rfl rfl (by decide) (fun x231 e232 => ?_)
                        refine kRC (yT.cc (G2 := 0) (pc' := 303) rfl rfl rfl hT216 (K.up rfl : xnth ks 60 = some (19, 0)) xM_196 (r196 (p := p220) K hT216 (by omega) tl (by omega) x231 (by omega)) rfl (by omega) (by decide) rfl) (fun h233 v237 p238 x236 hT234 hv239 E235 => ?_)
                        obtain ⟨k240, k241, k242, k243⟩ := E235
                        have f244 : fl (us σ 60 22 v237) 22 = (p238 : Int) := fl_at.trans hv239
                        have f245 : fl (us σ 60 22 v237) 12 = (T : Int) := (fl_o rfl).trans tl.2.1
                        refine yT.if1 (t := 310) (pc' := 306) rfl rfl rfl (c1_eq rfl) (fun c246 => ?_) (fun c246 => ?_)
                        · refine yT.kI (pc' := 311) rfl rfl (by decide) (fun x247 e248 => ?_)
                          exact yT.retZ rfl rfl (b01 (by omega) (by omega)) ⟨_, p238, _, hT234, (by omega), rfl, ⟨by omega, by omega, by omega, fun h => by omega⟩⟩
                        · refine yT.kI (pc' := 307) rfl rfl (by decide) (fun x249 e250 => ?_)
                          refine yT.p (pc' := 311) rfl rfl (fun _ _ _ _ => rfl) ?_
                          exact yT.retZ rfl rfl (b01 (by omega) (by omega)) ⟨_, p238, _, hT234, (by omega), rfl, ⟨by omega, by omega, by omega, fun h => (by have s0 := k175 (by omega); have s1 := k209 (by omega); have s2 := k243 (by omega); have c1 := k191 (by omega); rw [s0.2] at c1; have c2 := k225 (by omega); rw [s1.2] at c2; rw [s2.2]; exact PK.g (by omega) (by omega) c1 (by omega) c2 (by omega))⟩⟩
              · refine yT.aan (pc' := 212) (xg_ne g0 rfl) rfl rfl rfl ?_
                refine kRC (yT.cc (G2 := 0) (pc' := 215) rfl rfl rfl hT148 (K.up rfl : xnth ks 60 = some (19, 0)) xM_197 (R2 (p1 := p + 1) hT148 (by omega) (by omega) (by omega)) rfl (by omega) (by decide) rfl) (fun h251 v255 p256 x254 hT252 hv257 E253 => ?_)
                obtain ⟨k258, k259, k260, k261⟩ := E253
                have f262 : fl (us σ 60 22 v255) 22 = (p256 : Int) := fl_at.trans hv257
                have f263 : fl (us σ 60 22 v255) 12 = (T : Int) := (fl_o rfl).trans tl.2.1
                refine yT.if1 (t := 263) (pc' := 218) rfl rfl rfl (c1_eq rfl) (fun c264 => ?_) (fun c264 => ?_)
                · refine yT.kI (pc' := 264) rfl rfl (by decide) (fun x265 e266 => ?_)
                  exact yT.retZ rfl rfl (b01 (by omega) (by omega)) ⟨_, p256, _, hT252, (by omega), rfl, ⟨by omega, by omega, by omega, fun h => by omega⟩⟩
                · refine yT.aan (pc' := 219) (xg_ne g0 rfl) rfl rfl rfl ?_
                  refine yT.kb (pc' := 221) rfl rfl (by decide) (fun x267 e268 => ?_)
                  refine kRC (yT.cc (G2 := 0) (pc' := 224) rfl rfl rfl hT252 (K.up rfl : xnth ks 60 = some (19, 0)) xM_196 (r196 (p := p256) K hT252 (by omega) tl (by omega) x267 (by omega)) rfl (by omega) (by decide) rfl) (fun h269 v273 p274 x272 hT270 hv275 E271 => ?_)
                  obtain ⟨k276, k277, k278, k279⟩ := E271
                  have f280 : fl (us σ 60 22 v273) 22 = (p274 : Int) := fl_at.trans hv275
                  have f281 : fl (us σ 60 22 v273) 12 = (T : Int) := (fl_o rfl).trans tl.2.1
                  refine yT.if1 (t := 263) (pc' := 227) rfl rfl rfl (c1_eq rfl) (fun c282 => ?_) (fun c282 => ?_)
                  · refine yT.kI (pc' := 264) rfl rfl (by decide) (fun x283 e284 => ?_)
                    exact yT.retZ rfl rfl (b01 (by omega) (by omega)) ⟨_, p274, _, hT270, (by omega), rfl, ⟨by omega, by omega, by omega, fun h => by omega⟩⟩
                  · refine yT.aan (pc' := 228) (xg_ne g0 rfl) rfl rfl rfl ?_
                    refine kRC (yT.cc (G2 := 0) (pc' := 231) rfl rfl rfl hT270 (K.up rfl : xnth ks 60 = some (19, 0)) xM_197 (R2 (p1 := p274) hT270 (by omega) (by omega) (by omega)) rfl (by omega) (by decide) rfl) (fun h285 v289 p290 x288 hT286 hv291 E287 => ?_)
                    obtain ⟨k292, k293, k294, k295⟩ := E287
                    have f296 : fl (us σ 60 22 v289) 22 = (p290 : Int) := fl_at.trans hv291
                    have f297 : fl (us σ 60 22 v289) 12 = (T : Int) := (fl_o rfl).trans tl.2.1
                    refine yT.if1 (t := 263) (pc' := 234) rfl rfl rfl (c1_eq rfl) (fun c298 => ?_) (fun c298 => ?_)
                    · refine yT.kI (pc' := 264) rfl rfl (by decide) (fun x299 e300 => ?_)
                      exact yT.retZ rfl rfl (b01 (by omega) (by omega)) ⟨_, p290, _, hT286, (by omega), rfl, ⟨by omega, by omega, by omega, fun h => by omega⟩⟩
                    · refine yT.aan (pc' := 235) (xg_ne g0 rfl) rfl rfl rfl ?_
                      refine yT.kb (pc' := 237) rfl rfl (by decide) (fun x301 e302 => ?_)
                      refine kRC (yT.cc (G2 := 0) (pc' := 240) rfl rfl rfl hT286 (K.up rfl : xnth ks 60 = some (19, 0)) xM_196 (r196 (p := p290) K hT286 (by omega) tl (by omega) x301 (by omega)) rfl (by omega) (by decide) rfl) (fun h303 v307 p308 x306 hT304 hv309 E305 => ?_)
                      obtain ⟨k310, k311, k312, k313⟩ := E305
                      have f314 : fl (us σ 60 22 v307) 22 = (p308 : Int) := fl_at.trans hv309
                      have f315 : fl (us σ 60 22 v307) 12 = (T : Int) := (fl_o rfl).trans tl.2.1
                      refine yT.if1 (t := 263) (pc' := 243) rfl rfl rfl (c1_eq rfl) (fun c316 => ?_) (fun c316 => ?_)
                      · refine yT.kI (pc' := 264) rfl rfl (by decide) (fun x317 e318 => ?_)
                        exact yT.retZ rfl rfl (b01 (by omega) (by omega)) ⟨_, p308, _, hT304, (by omega), rfl, ⟨by omega, by omega, by omega, fun h => by omega⟩⟩
                      · refine yT.aan (pc' := 244) (xg_ne g0 rfl) rfl rfl rfl ?_
                        refine kRC (yT.cc (G2 := 0) (pc' := 247) rfl rfl rfl hT304 (K.up rfl : xnth ks 60 = some (19, 0)) xM_197 (R2 (p1 := p308) hT304 (by omega) (by omega) (by omega)) rfl (by omega) (by decide) rfl) (fun h319 v323 p324 x322 hT320 hv325 E321 => ?_)
                        obtain ⟨k326, k327, k328, k329⟩ := E321
                        have f330 : fl (us σ 60 22 v323) 22 = (p324 : Int) := fl_at.trans hv325
                        have f331 : fl (us σ 60 22 v323) 12 = (T : Int) := (fl_o rfl).trans tl.2.1
                        refine yT.if1 (t := 263) (pc' := 250) rfl rfl rfl (c1_eq rfl) (fun c332 => ?_) (fun c332 => ?_)
                        · refine yT.kI (pc' := 264) rfl rfl (by decide) (fun x333 e334 => ?_)
                          exact yT.retZ rfl rfl (b01 (by omega) (by omega)) ⟨_, p324, _, hT320, (by omega), rfl, ⟨by omega, by omega, by omega, fun h => by omega⟩⟩
                        · refine yT.aan (pc' := 251) (xg_ne g0 rfl) rfl rfl rfl ?_
                          refine yT.kb (pc' := 253) rfl rfl (by decide) (fun x335 e336 => ?_)
                          refine kRC (yT.cc (G2 := 0) (pc' := 256) rfl rfl rfl hT320 (K.up rfl : xnth ks 60 = some (19, 0)) xM_196 (r196 (p := p324) K hT320 (by omega) tl (by omega) x335 (by omega)) rfl (by omega) (by decide) rfl) (fun h337 v341 p342 x340 hT338 hv343 E339 => ?_)
                          obtain ⟨k344, k345, k346, k347⟩ := E339
                          have f348 : fl (us σ 60 22 v341) 22 = (p342 : Int) := fl_at.trans hv343
                          have f349 : fl (us σ 60 22 v341) 12 = (T : Int) := (fl_o rfl).trans tl.2.1
                          refine yT.if1 (t := 263) (pc' := 259) rfl rfl rfl (c1_eq rfl) (fun c350 => ?_) (fun c350 => ?_)
                          · refine yT.kI (pc' := 264) rfl rfl (by decide) (fun x351 e352 => ?_)
                            exact yT.retZ rfl rfl (b01 (by omega) (by omega)) ⟨_, p342, _, hT338, (by omega), rfl, ⟨by omega, by omega, by omega, fun h => by omega⟩⟩
                          · refine yT.kI (pc' := 260) rfl rfl (by decide) (fun x353 e354 => ?_)
                            refine yT.p (pc' := 264) rfl rfl (fun _ _ _ _ => rfl) ?_
                            exact yT.retZ rfl rfl (b01 (by omega) (by omega)) ⟨_, p342, _, hT338, (by omega), rfl, ⟨by omega, by omega, by omega, fun h => (by have s1 := k279 (by omega); have s2 := k313 (by omega); have s3 := k347 (by omega); have c2 := k295 (by omega); rw [s1.2] at c2; have c3 := k329 (by omega); rw [s2.2] at c3; rw [s3.2]; exact PK.q (by omega) (k261 (by omega)) (by omega) c2 (by omega) c3 (by omega))⟩⟩
            · refine yT.aan (pc' := 184) (xg_ne g0 rfl) rfl rfl rfl ?_
              refine kRC (yT.cc (G2 := 0) (pc' := 187) rfl rfl rfl hT148 (K.up rfl : xnth ks 60 = some (19, 0)) xM_197 (R2 (p1 := p + 1) hT148 (by omega) (by omega) (by omega)) rfl (by omega) (by decide) rfl) (fun h355 v359 p360 x358 hT356 hv361 E357 => ?_)
              obtain ⟨k362, k363, k364, k365⟩ := E357
              have f366 : fl (us σ 60 22 v359) 22 = (p360 : Int) := fl_at.trans hv361
              have f367 : fl (us σ 60 22 v359) 12 = (T : Int) := (fl_o rfl).trans tl.2.1
              refine yT.if1 (t := 203) (pc' := 190) rfl rfl rfl (c1_eq rfl) (fun c368 => ?_) (fun c368 => ?_)
              · refine yT.kI (pc' := 204) rfl rfl (by decide) (fun x369 e370 => ?_)
                exact yT.retZ rfl rfl (b01 (by omega) (by omega)) ⟨_, p360, _, hT356, (by omega), rfl, ⟨by omega, by omega, by omega, fun h => by omega⟩⟩
              · refine yT.aan (pc' := 191) (xg_ne g0 rfl) rfl rfl rfl ?_
                refine yT.kb (pc' := 193) rfl rfl (by decide) (fun x371 e372 => ?_)
                refine kRC (yT.cc (G2 := 0) (pc' := 196) rfl rfl rfl hT356 (K.up rfl : xnth ks 60 = some (19, 0)) xM_196 (r196 (p := p360) K hT356 (by omega) tl (by omega) x371 (by omega)) rfl (by omega) (by decide) rfl) (fun h373 v377 p378 x376 hT374 hv379 E375 => ?_)
                obtain ⟨k380, k381, k382, k383⟩ := E375
                have f384 : fl (us σ 60 22 v377) 22 = (p378 : Int) := fl_at.trans hv379
                have f385 : fl (us σ 60 22 v377) 12 = (T : Int) := (fl_o rfl).trans tl.2.1
                refine yT.if1 (t := 203) (pc' := 199) rfl rfl rfl (c1_eq rfl) (fun c386 => ?_) (fun c386 => ?_)
                · refine yT.kI (pc' := 204) rfl rfl (by decide) (fun x387 e388 => ?_)
                  exact yT.retZ rfl rfl (b01 (by omega) (by omega)) ⟨_, p378, _, hT374, (by omega), rfl, ⟨by omega, by omega, by omega, fun h => by omega⟩⟩
                · refine yT.kI (pc' := 200) rfl rfl (by decide) (fun x389 e390 => ?_)
                  refine yT.p (pc' := 204) rfl rfl (fun _ _ _ _ => rfl) ?_
                  exact yT.retZ rfl rfl (b01 (by omega) (by omega)) ⟨_, p378, _, hT374, (by omega), rfl, ⟨by omega, by omega, by omega, fun h => (by have s1 := k383 (by omega); rw [s1.2]; exact PK.b (by omega) (k365 (by omega)) (by omega))⟩⟩
          · refine yT.aan (pc' := 173) (xg_ne g0 rfl) rfl rfl rfl ?_
            refine kRC (yT.cc (G2 := 0) (pc' := 176) rfl rfl rfl hT148 (K.up rfl : xnth ks 60 = some (19, 0)) xM_201 (R (p1 := p + 1) hT148 (by omega) (by omega) (by omega)) rfl (by omega) (by decide) rfl) (fun h391 v395 p396 x394 hT392 hv397 E393 => ?_)
            obtain ⟨k398, k399, k400, k401⟩ := E393
            have f402 : fl (us σ 60 22 v395) 22 = (p396 : Int) := fl_at.trans hv397
            have f403 : fl (us σ 60 22 v395) 12 = (T : Int) := (fl_o rfl).trans tl.2.1
            exact yT.retZ rfl rfl (b01 (by omega) (by omega)) ⟨_, p396, _, hT392, (by omega), rfl, ⟨by omega, by omega, by omega, fun h => (by exact PK.m (by omega) (k401 (by omega)))⟩⟩
        · refine yT.aan (pc' := 162) (xg_ne g0 rfl) rfl rfl rfl ?_
          refine kRC (yT.cc (G2 := 0) (pc' := 165) rfl rfl rfl hT148 (K.up rfl : xnth ks 60 = some (19, 0)) xM_200 (r200 (p := p + 1) K hT148 (by omega) tl (by omega) hcm) rfl (by omega) (by decide) rfl) (fun h404 v408 p409 x407 hT405 hv410 E406 => ?_)
          obtain ⟨k411, k412, k413, k414⟩ := E406
          have f415 : fl (us σ 60 22 v408) 22 = (p409 : Int) := fl_at.trans hv410
          have f416 : fl (us σ 60 22 v408) 12 = (T : Int) := (fl_o rfl).trans tl.2.1
          exact yT.retZ rfl rfl (b01 (by omega) (by omega)) ⟨_, p409, _, hT405, (by omega), rfl, ⟨by omega, by omega, by omega, fun h => (by have h1 := k414 (by omega); rw [h1.2]; exact PK.u (by omega) h1.1)⟩⟩
      · refine yT.iln (pc' := 120) xg_eq rfl rfl ?_
        refine yT.kb (pc' := 122) rfl rfl (by decide) (fun x417 e418 => ?_)
        refine yT.if2 (t := 145) (pc' := 125) rfl rfl rfl (c2_eq e112 e418) (fun c419 => ?_) (fun c419 => ?_)
        · have hlt := tl.in (j := p) (by omega)
          refine yT.aan (pc' := 146) (xg_ne g0 rfl) rfl rfl rfl ?_
          refine yT.p (pc' := 147) rfl rfl (fun _ _ _ _ => rfl) ?_
          refine yT.cgX (pc' := 150) rfl rfl hT131 (K.up rfl) rfl rfl (fun x420 _ i421 j422 z423 => ?_)
          have e424 : x420.toInt = (p : Int) := (congrArg Int32.toInt z423).trans f101
          refine yT.kI (pc' := 151) rfl rfl (by decide) (fun x425 e426 => ?_)
          refine yT.ad2 (pc' := 152) (Z := (p : Int) + 1) e424 e426 rfl rfl (by omega) (fun x427 e428 => ?_)
          refine yT.cpX (c := x427) (pc' := 155) rfl rfl hT131 (K.up rfl) rfl rfl rfl e428 (by omega) rfl (fun h429 hT430 _ _ => ?_)
          rw [us_us] at hT430
          have f431 : fl (us σ 60 22 x427) 22 = (p : Int) + 1 := fl_at.trans e428
          have f432 : fl (us σ 60 22 x427) 12 = (T : Int) := (fl_o rfl).trans tl.2.1
          refine yT.iln (pc' := 156) xg_eq rfl rfl ?_
          refine yT.kb (pc' := 158) rfl rfl (by decide) (fun x433 e434 => ?_)
          refine yT.if2 (t := 166) (pc' := 161) rfl rfl rfl (c2_ne e112 e434) (fun c435 => ?_) (fun c435 => ?_)
          · refine yT.iln (pc' := 167) xg_eq rfl rfl ?_
            refine yT.kb (pc' := 169) rfl rfl (by decide) (fun x436 e437 => ?_)
            refine yT.if2 (t := 177) (pc' := 172) rfl rfl rfl (c2_ne e112 e437) (fun c438 => ?_) (fun c438 => ?_)
            · refine yT.iln (pc' := 178) xg_eq rfl rfl ?_
              refine yT.kb (pc' := 180) rfl rfl (by decide) (fun x439 e440 => ?_)
              refine yT.if2 (t := 205) (pc' := 183) rfl rfl rfl (c2_ne e112 e440) (fun c441 => ?_) (fun c441 => ?_)
              · refine yT.iln (pc' := 206) xg_eq rfl rfl ?_
                refine yT.kb (pc' := 208) rfl rfl (by decide) (fun x442 e443 => ?_)
                refine yT.if2 (t := 265) (pc' := 211) rfl rfl rfl (c2_ne e112 e443) (fun c444 => ?_) (fun c444 => ?_)
                · refine yT.aan (pc' := 266) (xg_ne g0 rfl) rfl rfl rfl ?_
                  refine yT.kb (pc' := 268) rfl rfl (by decide) (fun x445 e446 => ?_)
                  refine kRC (yT.cc (G2 := 0) (pc' := 271) rfl rfl rfl hT430 (K.up rfl : xnth ks 60 = some (19, 0)) xM_196 (r196 (p := p + 1) K hT430 (by omega) tl (by omega) x445 (by omega)) rfl (by omega) (by decide) rfl) (fun h447 v451 p452 x450 hT448 hv453 E449 => ?_)
                  obtain ⟨k454, k455, k456, k457⟩ := E449
                  have f458 : fl (us σ 60 22 v451) 22 = (p452 : Int) := fl_at.trans hv453
                  have f459 : fl (us σ 60 22 v451) 12 = (T : Int) := (fl_o rfl).trans tl.2.1
                  refine yT.if1 (t := 310) (pc' := 274) rfl rfl rfl (c1_eq rfl) (fun c460 => ?_) (fun c460 => ?_)
                  · refine yT.kI (pc' := 311) rfl rfl (by decide) (fun x461 e462 => ?_)
                    exact yT.retZ rfl rfl (b01 (by omega) (by omega)) ⟨_, p452, _, hT448, (by omega), rfl, ⟨by omega, by omega, by omega, fun h => by omega⟩⟩
                  · refine yT.aan (pc' := 275) (xg_ne g0 rfl) rfl rfl rfl ?_
                    refine kRC (yT.cc (G2 := 0) (pc' := 278) rfl rfl rfl hT448 (K.up rfl : xnth ks 60 = some (19, 0)) xM_197 (R2 (p1 := p452) hT448 (by omega) (by omega) (by omega)) rfl (by omega) (by decide) rfl) (fun h463 v467 p468 x466 hT464 hv469 E465 => ?_)
                    obtain ⟨k470, k471, k472, k473⟩ := E465
                    have f474 : fl (us σ 60 22 v467) 22 = (p468 : Int) := fl_at.trans hv469
                    have f475 : fl (us σ 60 22 v467) 12 = (T : Int) := (fl_o rfl).trans tl.2.1
                    refine yT.if1 (t := 310) (pc' := 281) rfl rfl rfl (c1_eq rfl) (fun c476 => ?_) (fun c476 => ?_)
                    · refine yT.kI (pc' := 311) rfl rfl (by decide) (fun x477 e478 => ?_)
                      exact yT.retZ rfl rfl (b01 (by omega) (by omega)) ⟨_, p468, _, hT464, (by omega), rfl, ⟨by omega, by omega, by omega, fun h => by omega⟩⟩
                    · refine yT.aan (pc' := 282) (xg_ne g0 rfl) rfl rfl rfl ?_
                      refine yT.kb (pc' := 284) rfl rfl (by decide) (fun x479 e480 => ?_)
                      refine kRC (yT.cc (G2 := 0) (pc' := 287) rfl rfl rfl hT464 (K.up rfl : xnth ks 60 = some (19, 0)) xM_196 (r196 (p := p468) K hT464 (by omega) tl (by omega) x479 (by omega)) rfl (by omega) (by decide) rfl) (fun h481 v485 p486 x484 hT482 hv487 E483 => ?_)
                      obtain ⟨k488, k489, k490, k491⟩ := E483
                      have f492 : fl (us σ 60 22 v485) 22 = (p486 : Int) := fl_at.trans hv487
                      have f493 : fl (us σ 60 22 v485) 12 = (T : Int) := (fl_o rfl).trans tl.2.1
                      refine yT.if1 (t := 310) (pc' := 290) rfl rfl rfl (c1_eq rfl) (fun c494 => ?_) (fun c494 => ?_)
                      · refine yT.kI (pc' := 311) rfl rfl (by decide) (fun x495 e496 => ?_)
                        exact yT.retZ rfl rfl (b01 (by omega) (by omega)) ⟨_, p486, _, hT482, (by omega), rfl, ⟨by omega, by omega, by omega, fun h => by omega⟩⟩
                      · refine yT.aan (pc' := 291) (xg_ne g0 rfl) rfl rfl rfl ?_
                        refine kRC (yT.cc (G2 := 0) (pc' := 294) rfl rfl rfl hT482 (K.up rfl : xnth ks 60 = some (19, 0)) xM_197 (R2 (p1 := p486) hT482 (by omega) (by omega) (by omega)) rfl (by omega) (by decide) rfl) (fun h497 v501 p502 x500 hT498 hv503 E499 => ?_)
                        obtain ⟨k504, k505, k506, k507⟩ := E499
                        have f508 : fl (us σ 60 22 v501) 22 = (p502 : Int) := fl_at.trans hv503
                        have f509 : fl (us σ 60 22 v501) 12 = (T : Int) := (fl_o rfl).trans tl.2.1
                        refine yT.if1 (t := 310) (pc' := 297) rfl rfl rfl (c1_eq rfl) (fun c510 => ?_) (fun c510 => ?_)
                        · refine yT.kI (pc' := 311) rfl rfl (by decide) (fun x511 e512 => ?_)
                          exact yT.retZ rfl rfl (b01 (by omega) (by omega)) ⟨_, p502, _, hT498, (by omega), rfl, ⟨by omega, by omega, by omega, fun h => by omega⟩⟩
                        · refine yT.aan (pc' := 298) (xg_ne g0 rfl) rfl rfl rfl ?_
                          refine yT.kb (pc' := 300) rfl rfl (by decide) (fun x513 e514 => ?_)
                          refine kRC (yT.cc (G2 := 0) (pc' := 303) rfl rfl rfl hT498 (K.up rfl : xnth ks 60 = some (19, 0)) xM_196 (r196 (p := p502) K hT498 (by omega) tl (by omega) x513 (by omega)) rfl (by omega) (by decide) rfl) (fun h515 v519 p520 x518 hT516 hv521 E517 => ?_)
                          obtain ⟨k522, k523, k524, k525⟩ := E517
                          have f526 : fl (us σ 60 22 v519) 22 = (p520 : Int) := fl_at.trans hv521
                          have f527 : fl (us σ 60 22 v519) 12 = (T : Int) := (fl_o rfl).trans tl.2.1
                          refine yT.if1 (t := 310) (pc' := 306) rfl rfl rfl (c1_eq rfl) (fun c528 => ?_) (fun c528 => ?_)
                          · refine yT.kI (pc' := 311) rfl rfl (by decide) (fun x529 e530 => ?_)
                            exact yT.retZ rfl rfl (b01 (by omega) (by omega)) ⟨_, p520, _, hT516, (by omega), rfl, ⟨by omega, by omega, by omega, fun h => by omega⟩⟩
                          · refine yT.kI (pc' := 307) rfl rfl (by decide) (fun x531 e532 => ?_)
                            refine yT.p (pc' := 311) rfl rfl (fun _ _ _ _ => rfl) ?_
                            exact yT.retZ rfl rfl (b01 (by omega) (by omega)) ⟨_, p520, _, hT516, (by omega), rfl, ⟨by omega, by omega, by omega, fun h => (by have s0 := k457 (by omega); have s1 := k491 (by omega); have s2 := k525 (by omega); have c1 := k473 (by omega); rw [s0.2] at c1; have c2 := k507 (by omega); rw [s1.2] at c2; rw [s2.2]; exact PK.g (by omega) (by omega) c1 (by omega) c2 (by omega))⟩⟩
                · refine yT.aan (pc' := 212) (xg_ne g0 rfl) rfl rfl rfl ?_
                  refine kRC (yT.cc (G2 := 0) (pc' := 215) rfl rfl rfl hT430 (K.up rfl : xnth ks 60 = some (19, 0)) xM_197 (R2 (p1 := p + 1) hT430 (by omega) (by omega) (by omega)) rfl (by omega) (by decide) rfl) (fun h533 v537 p538 x536 hT534 hv539 E535 => ?_)
                  obtain ⟨k540, k541, k542, k543⟩ := E535
                  have f544 : fl (us σ 60 22 v537) 22 = (p538 : Int) := fl_at.trans hv539
                  have f545 : fl (us σ 60 22 v537) 12 = (T : Int) := (fl_o rfl).trans tl.2.1
                  refine yT.if1 (t := 263) (pc' := 218) rfl rfl rfl (c1_eq rfl) (fun c546 => ?_) (fun c546 => ?_)
                  · refine yT.kI (pc' := 264) rfl rfl (by decide) (fun x547 e548 => ?_)
                    exact yT.retZ rfl rfl (b01 (by omega) (by omega)) ⟨_, p538, _, hT534, (by omega), rfl, ⟨by omega, by omega, by omega, fun h => by omega⟩⟩
                  · refine yT.aan (pc' := 219) (xg_ne g0 rfl) rfl rfl rfl ?_
                    refine yT.kb (pc' := 221) rfl rfl (by decide) (fun x549 e550 => ?_)
                    refine kRC (yT.cc (G2 := 0) (pc' := 224) rfl rfl rfl hT534 (K.up rfl : xnth ks 60 = some (19, 0)) xM_196 (r196 (p := p538) K hT534 (by omega) tl (by omega) x549 (by omega)) rfl (by omega) (by decide) rfl) (fun h551 v555 p556 x554 hT552 hv557 E553 => ?_)
                    obtain ⟨k558, k559, k560, k561⟩ := E553
                    have f562 : fl (us σ 60 22 v555) 22 = (p556 : Int) := fl_at.trans hv557
                    have f563 : fl (us σ 60 22 v555) 12 = (T : Int) := (fl_o rfl).trans tl.2.1
                    refine yT.if1 (t := 263) (pc' := 227) rfl rfl rfl (c1_eq rfl) (fun c564 => ?_) (fun c564 => ?_)
                    · refine yT.kI (pc' := 264) rfl rfl (by decide) (fun x565 e566 => ?_)
                      exact yT.retZ rfl rfl (b01 (by omega) (by omega)) ⟨_, p556, _, hT552, (by omega), rfl, ⟨by omega, by omega, by omega, fun h => by omega⟩⟩
                    · refine yT.aan (pc' := 228) (xg_ne g0 rfl) rfl rfl rfl ?_
                      refine kRC (yT.cc (G2 := 0) (pc' := 231) rfl rfl rfl hT552 (K.up rfl : xnth ks 60 = some (19, 0)) xM_197 (R2 (p1 := p556) hT552 (by omega) (by omega) (by omega)) rfl (by omega) (by decide) rfl) (fun h567 v571 p572 x570 hT568 hv573 E569 => ?_)
                      obtain ⟨k574, k575, k576, k577⟩ := E569
                      have f578 : fl (us σ 60 22 v571) 22 = (p572 : Int) := fl_at.trans hv573
                      have f579 : fl (us σ 60 22 v571) 12 = (T : Int) := (fl_o rfl).trans tl.2.1
                      refine yT.if1 (t := 263) (pc' := 234) rfl rfl rfl (c1_eq rfl) (fun c580 => ?_) (fun c580 => ?_)
                      · refine yT.kI (pc' := 264) rfl rfl (by decide) (fun x581 e582 => ?_)
                        exact yT.retZ rfl rfl (b01 (by omega) (by omega)) ⟨_, p572, _, hT568, (by omega), rfl, ⟨by omega, by omega, by omega, fun h => by omega⟩⟩
                      · refine yT.aan (pc' := 235) (xg_ne g0 rfl) rfl rfl rfl ?_
                        refine yT.kb (pc' := 237) rfl rfl (by decide) (fun x583 e584 => ?_)
                        refine kRC (yT.cc (G2 := 0) (pc' := 240) rfl rfl rfl hT568 (K.up rfl : xnth ks 60 = some (19, 0)) xM_196 (r196 (p := p572) K hT568 (by omega) tl (by omega) x583 (by omega)) rfl (by omega) (by decide) rfl) (fun h585 v589 p590 x588 hT586 hv591 E587 => ?_)
                        obtain ⟨k592, k593, k594, k595⟩ := E587
                        have f596 : fl (us σ 60 22 v589) 22 = (p590 : Int) := fl_at.trans hv591
                        have f597 : fl (us σ 60 22 v589) 12 = (T : Int) := (fl_o rfl).trans tl.2.1
                        refine yT.if1 (t := 263) (pc' := 243) rfl rfl rfl (c1_eq rfl) (fun c598 => ?_) (fun c598 => ?_)
                        · refine yT.kI (pc' := 264) rfl rfl (by decide) (fun x599 e600 => ?_)
                          exact yT.retZ rfl rfl (b01 (by omega) (by omega)) ⟨_, p590, _, hT586, (by omega), rfl, ⟨by omega, by omega, by omega, fun h => by omega⟩⟩
                        · refine yT.aan (pc' := 244) (xg_ne g0 rfl) rfl rfl rfl ?_
                          refine kRC (yT.cc (G2 := 0) (pc' := 247) rfl rfl rfl hT586 (K.up rfl : xnth ks 60 = some (19, 0)) xM_197 (R2 (p1 := p590) hT586 (by omega) (by omega) (by omega)) rfl (by omega) (by decide) rfl) (fun h601 v605 p606 x604 hT602 hv607 E603 => ?_)
                          obtain ⟨k608, k609, k610, k611⟩ := E603
                          have f612 : fl (us σ 60 22 v605) 22 = (p606 : Int) := fl_at.trans hv607
                          have f613 : fl (us σ 60 22 v605) 12 = (T : Int) := (fl_o rfl).trans tl.2.1
                          refine yT.if1 (t := 263) (pc' := 250) rfl rfl rfl (c1_eq rfl) (fun c614 => ?_) (fun c614 => ?_)
                          · refine yT.kI (pc' := 264) rfl rfl (by decide) (fun x615 e616 => ?_)
                            exact yT.retZ rfl rfl (b01 (by omega) (by omega)) ⟨_, p606, _, hT602, (by omega), rfl, ⟨by omega, by omega, by omega, fun h => by omega⟩⟩
                          · refine yT.aan (pc' := 251) (xg_ne g0 rfl) rfl rfl rfl ?_
                            refine yT.kb (pc' := 253) rfl rfl (by decide) (fun x617 e618 => ?_)
                            refine kRC (yT.cc (G2 := 0) (pc' := 256) rfl rfl rfl hT602 (K.up rfl : xnth ks 60 = some (19, 0)) xM_196 (r196 (p := p606) K hT602 (by omega) tl (by omega) x617 (by omega)) rfl (by omega) (by decide) rfl) (fun h619 v623 p624 x622 hT620 hv625 E621 => ?_)
                            obtain ⟨k626, k627, k628, k629⟩ := E621
                            have f630 : fl (us σ 60 22 v623) 22 = (p624 : Int) := fl_at.trans hv625
                            have f631 : fl (us σ 60 22 v623) 12 = (T : Int) := (fl_o rfl).trans tl.2.1
                            refine yT.if1 (t := 263) (pc' := 259) rfl rfl rfl (c1_eq rfl) (fun c632 => ?_) (fun c632 => ?_)
                            · refine yT.kI (pc' := 264) rfl rfl (by decide) (fun x633 e634 => ?_)
                              exact yT.retZ rfl rfl (b01 (by omega) (by omega)) ⟨_, p624, _, hT620, (by omega), rfl, ⟨by omega, by omega, by omega, fun h => by omega⟩⟩
                            · refine yT.kI (pc' := 260) rfl rfl (by decide) (fun x635 e636 => ?_)
                              refine yT.p (pc' := 264) rfl rfl (fun _ _ _ _ => rfl) ?_
                              exact yT.retZ rfl rfl (b01 (by omega) (by omega)) ⟨_, p624, _, hT620, (by omega), rfl, ⟨by omega, by omega, by omega, fun h => (by have s1 := k561 (by omega); have s2 := k595 (by omega); have s3 := k629 (by omega); have c2 := k577 (by omega); rw [s1.2] at c2; have c3 := k611 (by omega); rw [s2.2] at c3; rw [s3.2]; exact PK.q (by omega) (k543 (by omega)) (by omega) c2 (by omega) c3 (by omega))⟩⟩
              · refine yT.aan (pc' := 184) (xg_ne g0 rfl) rfl rfl rfl ?_
                refine kRC (yT.cc (G2 := 0) (pc' := 187) rfl rfl rfl hT430 (K.up rfl : xnth ks 60 = some (19, 0)) xM_197 (R2 (p1 := p + 1) hT430 (by omega) (by omega) (by omega)) rfl (by omega) (by decide) rfl) (fun h637 v641 p642 x640 hT638 hv643 E639 => ?_)
                obtain ⟨k644, k645, k646, k647⟩ := E639
                have f648 : fl (us σ 60 22 v641) 22 = (p642 : Int) := fl_at.trans hv643
                have f649 : fl (us σ 60 22 v641) 12 = (T : Int) := (fl_o rfl).trans tl.2.1
                refine yT.if1 (t := 203) (pc' := 190) rfl rfl rfl (c1_eq rfl) (fun c650 => ?_) (fun c650 => ?_)
                · refine yT.kI (pc' := 204) rfl rfl (by decide) (fun x651 e652 => ?_)
                  exact yT.retZ rfl rfl (b01 (by omega) (by omega)) ⟨_, p642, _, hT638, (by omega), rfl, ⟨by omega, by omega, by omega, fun h => by omega⟩⟩
                · refine yT.aan (pc' := 191) (xg_ne g0 rfl) rfl rfl rfl ?_
                  refine yT.kb (pc' := 193) rfl rfl (by decide) (fun x653 e654 => ?_)
                  refine kRC (yT.cc (G2 := 0) (pc' := 196) rfl rfl rfl hT638 (K.up rfl : xnth ks 60 = some (19, 0)) xM_196 (r196 (p := p642) K hT638 (by omega) tl (by omega) x653 (by omega)) rfl (by omega) (by decide) rfl) (fun h655 v659 p660 x658 hT656 hv661 E657 => ?_)
                  obtain ⟨k662, k663, k664, k665⟩ := E657
                  have f666 : fl (us σ 60 22 v659) 22 = (p660 : Int) := fl_at.trans hv661
                  have f667 : fl (us σ 60 22 v659) 12 = (T : Int) := (fl_o rfl).trans tl.2.1
                  refine yT.if1 (t := 203) (pc' := 199) rfl rfl rfl (c1_eq rfl) (fun c668 => ?_) (fun c668 => ?_)
                  · refine yT.kI (pc' := 204) rfl rfl (by decide) (fun x669 e670 => ?_)
                    exact yT.retZ rfl rfl (b01 (by omega) (by omega)) ⟨_, p660, _, hT656, (by omega), rfl, ⟨by omega, by omega, by omega, fun h => by omega⟩⟩
                  · refine yT.kI (pc' := 200) rfl rfl (by decide) (fun x671 e672 => ?_)
                    refine yT.p (pc' := 204) rfl rfl (fun _ _ _ _ => rfl) ?_
                    exact yT.retZ rfl rfl (b01 (by omega) (by omega)) ⟨_, p660, _, hT656, (by omega), rfl, ⟨by omega, by omega, by omega, fun h => (by have s1 := k665 (by omega); rw [s1.2]; exact PK.b (by omega) (k647 (by omega)) (by omega))⟩⟩
            · refine yT.aan (pc' := 173) (xg_ne g0 rfl) rfl rfl rfl ?_
              refine kRC (yT.cc (G2 := 0) (pc' := 176) rfl rfl rfl hT430 (K.up rfl : xnth ks 60 = some (19, 0)) xM_201 (R (p1 := p + 1) hT430 (by omega) (by omega) (by omega)) rfl (by omega) (by decide) rfl) (fun h673 v677 p678 x676 hT674 hv679 E675 => ?_)
              obtain ⟨k680, k681, k682, k683⟩ := E675
              have f684 : fl (us σ 60 22 v677) 22 = (p678 : Int) := fl_at.trans hv679
              have f685 : fl (us σ 60 22 v677) 12 = (T : Int) := (fl_o rfl).trans tl.2.1
              exact yT.retZ rfl rfl (b01 (by omega) (by omega)) ⟨_, p678, _, hT674, (by omega), rfl, ⟨by omega, by omega, by omega, fun h => (by exact PK.m (by omega) (k683 (by omega)))⟩⟩
          · refine yT.aan (pc' := 162) (xg_ne g0 rfl) rfl rfl rfl ?_
            refine kRC (yT.cc (G2 := 0) (pc' := 165) rfl rfl rfl hT430 (K.up rfl : xnth ks 60 = some (19, 0)) xM_200 (r200 (p := p + 1) K hT430 (by omega) tl (by omega) hcm) rfl (by omega) (by decide) rfl) (fun h686 v690 p691 x689 hT687 hv692 E688 => ?_)
            obtain ⟨k693, k694, k695, k696⟩ := E688
            have f697 : fl (us σ 60 22 v690) 22 = (p691 : Int) := fl_at.trans hv692
            have f698 : fl (us σ 60 22 v690) 12 = (T : Int) := (fl_o rfl).trans tl.2.1
            exact yT.retZ rfl rfl (b01 (by omega) (by omega)) ⟨_, p691, _, hT687, (by omega), rfl, ⟨by omega, by omega, by omega, fun h => (by have h1 := k696 (by omega); rw [h1.2]; exact PK.u (by omega) h1.1)⟩⟩
        · refine yT.iln (pc' := 126) xg_eq rfl rfl ?_
          refine yT.kb (pc' := 128) rfl rfl (by decide) (fun x699 e700 => ?_)
          refine yT.if2 (t := 145) (pc' := 131) rfl rfl rfl (c2_eq e112 e700) (fun c701 => ?_) (fun c701 => ?_)
          · have hlt := tl.in (j := p) (by omega)
            refine yT.aan (pc' := 146) (xg_ne g0 rfl) rfl rfl rfl ?_
            refine yT.p (pc' := 147) rfl rfl (fun _ _ _ _ => rfl) ?_
            refine yT.cgX (pc' := 150) rfl rfl hT131 (K.up rfl) rfl rfl (fun x702 _ i703 j704 z705 => ?_)
            have e706 : x702.toInt = (p : Int) := (congrArg Int32.toInt z705).trans f101
            refine yT.kI (pc' := 151) rfl rfl (by decide) (fun x707 e708 => ?_)
            refine yT.ad2 (pc' := 152) (Z := (p : Int) + 1) e706 e708 rfl rfl (by omega) (fun x709 e710 => ?_)
            refine yT.cpX (c := x709) (pc' := 155) rfl rfl hT131 (K.up rfl) rfl rfl rfl e710 (by omega) rfl (fun h711 hT712 _ _ => ?_)
            rw [us_us] at hT712
            have f713 : fl (us σ 60 22 x709) 22 = (p : Int) + 1 := fl_at.trans e710
            have f714 : fl (us σ 60 22 x709) 12 = (T : Int) := (fl_o rfl).trans tl.2.1
            refine yT.iln (pc' := 156) xg_eq rfl rfl ?_
            refine yT.kb (pc' := 158) rfl rfl (by decide) (fun x715 e716 => ?_)
            refine yT.if2 (t := 166) (pc' := 161) rfl rfl rfl (c2_ne e112 e716) (fun c717 => ?_) (fun c717 => ?_)
            · refine yT.iln (pc' := 167) xg_eq rfl rfl ?_
              refine yT.kb (pc' := 169) rfl rfl (by decide) (fun x718 e719 => ?_)
              refine yT.if2 (t := 177) (pc' := 172) rfl rfl rfl (c2_ne e112 e719) (fun c720 => ?_) (fun c720 => ?_)
              · refine yT.iln (pc' := 178) xg_eq rfl rfl ?_
                refine yT.kb (pc' := 180) rfl rfl (by decide) (fun x721 e722 => ?_)
                refine yT.if2 (t := 205) (pc' := 183) rfl rfl rfl (c2_ne e112 e722) (fun c723 => ?_) (fun c723 => ?_)
                · refine yT.iln (pc' := 206) xg_eq rfl rfl ?_
                  refine yT.kb (pc' := 208) rfl rfl (by decide) (fun x724 e725 => ?_)
                  refine yT.if2 (t := 265) (pc' := 211) rfl rfl rfl (c2_ne e112 e725) (fun c726 => ?_) (fun c726 => ?_)
                  · refine yT.aan (pc' := 266) (xg_ne g0 rfl) rfl rfl rfl ?_
                    refine yT.kb (pc' := 268) rfl rfl (by decide) (fun x727 e728 => ?_)
                    refine kRC (yT.cc (G2 := 0) (pc' := 271) rfl rfl rfl hT712 (K.up rfl : xnth ks 60 = some (19, 0)) xM_196 (r196 (p := p + 1) K hT712 (by omega) tl (by omega) x727 (by omega)) rfl (by omega) (by decide) rfl) (fun h729 v733 p734 x732 hT730 hv735 E731 => ?_)
                    obtain ⟨k736, k737, k738, k739⟩ := E731
                    have f740 : fl (us σ 60 22 v733) 22 = (p734 : Int) := fl_at.trans hv735
                    have f741 : fl (us σ 60 22 v733) 12 = (T : Int) := (fl_o rfl).trans tl.2.1
                    refine yT.if1 (t := 310) (pc' := 274) rfl rfl rfl (c1_eq rfl) (fun c742 => ?_) (fun c742 => ?_)
                    · refine yT.kI (pc' := 311) rfl rfl (by decide) (fun x743 e744 => ?_)
                      exact yT.retZ rfl rfl (b01 (by omega) (by omega)) ⟨_, p734, _, hT730, (by omega), rfl, ⟨by omega, by omega, by omega, fun h => by omega⟩⟩
                    · refine yT.aan (pc' := 275) (xg_ne g0 rfl) rfl rfl rfl ?_
                      refine kRC (yT.cc (G2 := 0) (pc' := 278) rfl rfl rfl hT730 (K.up rfl : xnth ks 60 = some (19, 0)) xM_197 (R2 (p1 := p734) hT730 (by omega) (by omega) (by omega)) rfl (by omega) (by decide) rfl) (fun h745 v749 p750 x748 hT746 hv751 E747 => ?_)
                      obtain ⟨k752, k753, k754, k755⟩ := E747
                      have f756 : fl (us σ 60 22 v749) 22 = (p750 : Int) := fl_at.trans hv751
                      have f757 : fl (us σ 60 22 v749) 12 = (T : Int) := (fl_o rfl).trans tl.2.1
                      refine yT.if1 (t := 310) (pc' := 281) rfl rfl rfl (c1_eq rfl) (fun c758 => ?_) (fun c758 => ?_)
                      · refine yT.kI (pc' := 311) rfl rfl (by decide) (fun x759 e760 => ?_)
                        exact yT.retZ rfl rfl (b01 (by omega) (by omega)) ⟨_, p750, _, hT746, (by omega), rfl, ⟨by omega, by omega, by omega, fun h => by omega⟩⟩
                      · refine yT.aan (pc' := 282) (xg_ne g0 rfl) rfl rfl rfl ?_
                        refine yT.kb (pc' := 284) rfl rfl (by decide) (fun x761 e762 => ?_)
                        refine kRC (yT.cc (G2 := 0) (pc' := 287) rfl rfl rfl hT746 (K.up rfl : xnth ks 60 = some (19, 0)) xM_196 (r196 (p := p750) K hT746 (by omega) tl (by omega) x761 (by omega)) rfl (by omega) (by decide) rfl) (fun h763 v767 p768 x766 hT764 hv769 E765 => ?_)
                        obtain ⟨k770, k771, k772, k773⟩ := E765
                        have f774 : fl (us σ 60 22 v767) 22 = (p768 : Int) := fl_at.trans hv769
                        have f775 : fl (us σ 60 22 v767) 12 = (T : Int) := (fl_o rfl).trans tl.2.1
                        refine yT.if1 (t := 310) (pc' := 290) rfl rfl rfl (c1_eq rfl) (fun c776 => ?_) (fun c776 => ?_)
                        · refine yT.kI (pc' := 311) rfl rfl (by decide) (fun x777 e778 => ?_)
                          exact yT.retZ rfl rfl (b01 (by omega) (by omega)) ⟨_, p768, _, hT764, (by omega), rfl, ⟨by omega, by omega, by omega, fun h => by omega⟩⟩
                        · refine yT.aan (pc' := 291) (xg_ne g0 rfl) rfl rfl rfl ?_
                          refine kRC (yT.cc (G2 := 0) (pc' := 294) rfl rfl rfl hT764 (K.up rfl : xnth ks 60 = some (19, 0)) xM_197 (R2 (p1 := p768) hT764 (by omega) (by omega) (by omega)) rfl (by omega) (by decide) rfl) (fun h779 v783 p784 x782 hT780 hv785 E781 => ?_)
                          obtain ⟨k786, k787, k788, k789⟩ := E781
                          have f790 : fl (us σ 60 22 v783) 22 = (p784 : Int) := fl_at.trans hv785
                          have f791 : fl (us σ 60 22 v783) 12 = (T : Int) := (fl_o rfl).trans tl.2.1
                          refine yT.if1 (t := 310) (pc' := 297) rfl rfl rfl (c1_eq rfl) (fun c792 => ?_) (fun c792 => ?_)
                          · refine yT.kI (pc' := 311) rfl rfl (by decide) (fun x793 e794 => ?_)
                            exact yT.retZ rfl rfl (b01 (by omega) (by omega)) ⟨_, p784, _, hT780, (by omega), rfl, ⟨by omega, by omega, by omega, fun h => by omega⟩⟩
                          · refine yT.aan (pc' := 298) (xg_ne g0 rfl) rfl rfl rfl ?_
                            refine yT.kb (pc' := 300) rfl rfl (by decide) (fun x795 e796 => ?_)
                            refine kRC (yT.cc (G2 := 0) (pc' := 303) rfl rfl rfl hT780 (K.up rfl : xnth ks 60 = some (19, 0)) xM_196 (r196 (p := p784) K hT780 (by omega) tl (by omega) x795 (by omega)) rfl (by omega) (by decide) rfl) (fun h797 v801 p802 x800 hT798 hv803 E799 => ?_)
                            obtain ⟨k804, k805, k806, k807⟩ := E799
                            have f808 : fl (us σ 60 22 v801) 22 = (p802 : Int) := fl_at.trans hv803
                            have f809 : fl (us σ 60 22 v801) 12 = (T : Int) := (fl_o rfl).trans tl.2.1
                            refine yT.if1 (t := 310) (pc' := 306) rfl rfl rfl (c1_eq rfl) (fun c810 => ?_) (fun c810 => ?_)
                            · refine yT.kI (pc' := 311) rfl rfl (by decide) (fun x811 e812 => ?_)
                              exact yT.retZ rfl rfl (b01 (by omega) (by omega)) ⟨_, p802, _, hT798, (by omega), rfl, ⟨by omega, by omega, by omega, fun h => by omega⟩⟩
                            · refine yT.kI (pc' := 307) rfl rfl (by decide) (fun x813 e814 => ?_)
                              refine yT.p (pc' := 311) rfl rfl (fun _ _ _ _ => rfl) ?_
                              exact yT.retZ rfl rfl (b01 (by omega) (by omega)) ⟨_, p802, _, hT798, (by omega), rfl, ⟨by omega, by omega, by omega, fun h => (by have s0 := k739 (by omega); have s1 := k773 (by omega); have s2 := k807 (by omega); have c1 := k755 (by omega); rw [s0.2] at c1; have c2 := k789 (by omega); rw [s1.2] at c2; rw [s2.2]; exact PK.g (by omega) (by omega) c1 (by omega) c2 (by omega))⟩⟩
                  · refine yT.aan (pc' := 212) (xg_ne g0 rfl) rfl rfl rfl ?_
                    refine kRC (yT.cc (G2 := 0) (pc' := 215) rfl rfl rfl hT712 (K.up rfl : xnth ks 60 = some (19, 0)) xM_197 (R2 (p1 := p + 1) hT712 (by omega) (by omega) (by omega)) rfl (by omega) (by decide) rfl) (fun h815 v819 p820 x818 hT816 hv821 E817 => ?_)
                    obtain ⟨k822, k823, k824, k825⟩ := E817
                    have f826 : fl (us σ 60 22 v819) 22 = (p820 : Int) := fl_at.trans hv821
                    have f827 : fl (us σ 60 22 v819) 12 = (T : Int) := (fl_o rfl).trans tl.2.1
                    refine yT.if1 (t := 263) (pc' := 218) rfl rfl rfl (c1_eq rfl) (fun c828 => ?_) (fun c828 => ?_)
                    · refine yT.kI (pc' := 264) rfl rfl (by decide) (fun x829 e830 => ?_)
                      exact yT.retZ rfl rfl (b01 (by omega) (by omega)) ⟨_, p820, _, hT816, (by omega), rfl, ⟨by omega, by omega, by omega, fun h => by omega⟩⟩
                    · refine yT.aan (pc' := 219) (xg_ne g0 rfl) rfl rfl rfl ?_
                      refine yT.kb (pc' := 221) rfl rfl (by decide) (fun x831 e832 => ?_)
                      refine kRC (yT.cc (G2 := 0) (pc' := 224) rfl rfl rfl hT816 (K.up rfl : xnth ks 60 = some (19, 0)) xM_196 (r196 (p := p820) K hT816 (by omega) tl (by omega) x831 (by omega)) rfl (by omega) (by decide) rfl) (fun h833 v837 p838 x836 hT834 hv839 E835 => ?_)
                      obtain ⟨k840, k841, k842, k843⟩ := E835
                      have f844 : fl (us σ 60 22 v837) 22 = (p838 : Int) := fl_at.trans hv839
                      have f845 : fl (us σ 60 22 v837) 12 = (T : Int) := (fl_o rfl).trans tl.2.1
                      refine yT.if1 (t := 263) (pc' := 227) rfl rfl rfl (c1_eq rfl) (fun c846 => ?_) (fun c846 => ?_)
                      · refine yT.kI (pc' := 264) rfl rfl (by decide) (fun x847 e848 => ?_)
                        exact yT.retZ rfl rfl (b01 (by omega) (by omega)) ⟨_, p838, _, hT834, (by omega), rfl, ⟨by omega, by omega, by omega, fun h => by omega⟩⟩
                      · refine yT.aan (pc' := 228) (xg_ne g0 rfl) rfl rfl rfl ?_
                        refine kRC (yT.cc (G2 := 0) (pc' := 231) rfl rfl rfl hT834 (K.up rfl : xnth ks 60 = some (19, 0)) xM_197 (R2 (p1 := p838) hT834 (by omega) (by omega) (by omega)) rfl (by omega) (by decide) rfl) (fun h849 v853 p854 x852 hT850 hv855 E851 => ?_)
                        obtain ⟨k856, k857, k858, k859⟩ := E851
                        have f860 : fl (us σ 60 22 v853) 22 = (p854 : Int) := fl_at.trans hv855
                        have f861 : fl (us σ 60 22 v853) 12 = (T : Int) := (fl_o rfl).trans tl.2.1
                        refine yT.if1 (t := 263) (pc' := 234) rfl rfl rfl (c1_eq rfl) (fun c862 => ?_) (fun c862 => ?_)
                        · refine yT.kI (pc' := 264) rfl rfl (by decide) (fun x863 e864 => ?_)
                          exact yT.retZ rfl rfl (b01 (by omega) (by omega)) ⟨_, p854, _, hT850, (by omega), rfl, ⟨by omega, by omega, by omega, fun h => by omega⟩⟩
                        · refine yT.aan (pc' := 235) (xg_ne g0 rfl) rfl rfl rfl ?_
                          refine yT.kb (pc' := 237) rfl rfl (by decide) (fun x865 e866 => ?_)
                          refine kRC (yT.cc (G2 := 0) (pc' := 240) rfl rfl rfl hT850 (K.up rfl : xnth ks 60 = some (19, 0)) xM_196 (r196 (p := p854) K hT850 (by omega) tl (by omega) x865 (by omega)) rfl (by omega) (by decide) rfl) (fun h867 v871 p872 x870 hT868 hv873 E869 => ?_)
                          obtain ⟨k874, k875, k876, k877⟩ := E869
                          have f878 : fl (us σ 60 22 v871) 22 = (p872 : Int) := fl_at.trans hv873
                          have f879 : fl (us σ 60 22 v871) 12 = (T : Int) := (fl_o rfl).trans tl.2.1
                          refine yT.if1 (t := 263) (pc' := 243) rfl rfl rfl (c1_eq rfl) (fun c880 => ?_) (fun c880 => ?_)
                          · refine yT.kI (pc' := 264) rfl rfl (by decide) (fun x881 e882 => ?_)
                            exact yT.retZ rfl rfl (b01 (by omega) (by omega)) ⟨_, p872, _, hT868, (by omega), rfl, ⟨by omega, by omega, by omega, fun h => by omega⟩⟩
                          · refine yT.aan (pc' := 244) (xg_ne g0 rfl) rfl rfl rfl ?_
                            refine kRC (yT.cc (G2 := 0) (pc' := 247) rfl rfl rfl hT868 (K.up rfl : xnth ks 60 = some (19, 0)) xM_197 (R2 (p1 := p872) hT868 (by omega) (by omega) (by omega)) rfl (by omega) (by decide) rfl) (fun h883 v887 p888 x886 hT884 hv889 E885 => ?_)
                            obtain ⟨k890, k891, k892, k893⟩ := E885
                            have f894 : fl (us σ 60 22 v887) 22 = (p888 : Int) := fl_at.trans hv889
                            have f895 : fl (us σ 60 22 v887) 12 = (T : Int) := (fl_o rfl).trans tl.2.1
                            refine yT.if1 (t := 263) (pc' := 250) rfl rfl rfl (c1_eq rfl) (fun c896 => ?_) (fun c896 => ?_)
                            · refine yT.kI (pc' := 264) rfl rfl (by decide) (fun x897 e898 => ?_)
                              exact yT.retZ rfl rfl (b01 (by omega) (by omega)) ⟨_, p888, _, hT884, (by omega), rfl, ⟨by omega, by omega, by omega, fun h => by omega⟩⟩
                            · refine yT.aan (pc' := 251) (xg_ne g0 rfl) rfl rfl rfl ?_
                              refine yT.kb (pc' := 253) rfl rfl (by decide) (fun x899 e900 => ?_)
                              refine kRC (yT.cc (G2 := 0) (pc' := 256) rfl rfl rfl hT884 (K.up rfl : xnth ks 60 = some (19, 0)) xM_196 (r196 (p := p888) K hT884 (by omega) tl (by omega) x899 (by omega)) rfl (by omega) (by decide) rfl) (fun h901 v905 p906 x904 hT902 hv907 E903 => ?_)
                              obtain ⟨k908, k909, k910, k911⟩ := E903
                              have f912 : fl (us σ 60 22 v905) 22 = (p906 : Int) := fl_at.trans hv907
                              have f913 : fl (us σ 60 22 v905) 12 = (T : Int) := (fl_o rfl).trans tl.2.1
                              refine yT.if1 (t := 263) (pc' := 259) rfl rfl rfl (c1_eq rfl) (fun c914 => ?_) (fun c914 => ?_)
                              · refine yT.kI (pc' := 264) rfl rfl (by decide) (fun x915 e916 => ?_)
                                exact yT.retZ rfl rfl (b01 (by omega) (by omega)) ⟨_, p906, _, hT902, (by omega), rfl, ⟨by omega, by omega, by omega, fun h => by omega⟩⟩
                              · refine yT.kI (pc' := 260) rfl rfl (by decide) (fun x917 e918 => ?_)
                                refine yT.p (pc' := 264) rfl rfl (fun _ _ _ _ => rfl) ?_
                                exact yT.retZ rfl rfl (b01 (by omega) (by omega)) ⟨_, p906, _, hT902, (by omega), rfl, ⟨by omega, by omega, by omega, fun h => (by have s1 := k843 (by omega); have s2 := k877 (by omega); have s3 := k911 (by omega); have c2 := k859 (by omega); rw [s1.2] at c2; have c3 := k893 (by omega); rw [s2.2] at c3; rw [s3.2]; exact PK.q (by omega) (k825 (by omega)) (by omega) c2 (by omega) c3 (by omega))⟩⟩
                · refine yT.aan (pc' := 184) (xg_ne g0 rfl) rfl rfl rfl ?_
                  refine kRC (yT.cc (G2 := 0) (pc' := 187) rfl rfl rfl hT712 (K.up rfl : xnth ks 60 = some (19, 0)) xM_197 (R2 (p1 := p + 1) hT712 (by omega) (by omega) (by omega)) rfl (by omega) (by decide) rfl) (fun h919 v923 p924 x922 hT920 hv925 E921 => ?_)
                  obtain ⟨k926, k927, k928, k929⟩ := E921
                  have f930 : fl (us σ 60 22 v923) 22 = (p924 : Int) := fl_at.trans hv925
                  have f931 : fl (us σ 60 22 v923) 12 = (T : Int) := (fl_o rfl).trans tl.2.1
                  refine yT.if1 (t := 203) (pc' := 190) rfl rfl rfl (c1_eq rfl) (fun c932 => ?_) (fun c932 => ?_)
                  · refine yT.kI (pc' := 204) rfl rfl (by decide) (fun x933 e934 => ?_)
                    exact yT.retZ rfl rfl (b01 (by omega) (by omega)) ⟨_, p924, _, hT920, (by omega), rfl, ⟨by omega, by omega, by omega, fun h => by omega⟩⟩
                  · refine yT.aan (pc' := 191) (xg_ne g0 rfl) rfl rfl rfl ?_
                    refine yT.kb (pc' := 193) rfl rfl (by decide) (fun x935 e936 => ?_)
                    refine kRC (yT.cc (G2 := 0) (pc' := 196) rfl rfl rfl hT920 (K.up rfl : xnth ks 60 = some (19, 0)) xM_196 (r196 (p := p924) K hT920 (by omega) tl (by omega) x935 (by omega)) rfl (by omega) (by decide) rfl) (fun h937 v941 p942 x940 hT938 hv943 E939 => ?_)
                    obtain ⟨k944, k945, k946, k947⟩ := E939
                    have f948 : fl (us σ 60 22 v941) 22 = (p942 : Int) := fl_at.trans hv943
                    have f949 : fl (us σ 60 22 v941) 12 = (T : Int) := (fl_o rfl).trans tl.2.1
                    refine yT.if1 (t := 203) (pc' := 199) rfl rfl rfl (c1_eq rfl) (fun c950 => ?_) (fun c950 => ?_)
                    · refine yT.kI (pc' := 204) rfl rfl (by decide) (fun x951 e952 => ?_)
                      exact yT.retZ rfl rfl (b01 (by omega) (by omega)) ⟨_, p942, _, hT938, (by omega), rfl, ⟨by omega, by omega, by omega, fun h => by omega⟩⟩
                    · refine yT.kI (pc' := 200) rfl rfl (by decide) (fun x953 e954 => ?_)
                      refine yT.p (pc' := 204) rfl rfl (fun _ _ _ _ => rfl) ?_
                      exact yT.retZ rfl rfl (b01 (by omega) (by omega)) ⟨_, p942, _, hT938, (by omega), rfl, ⟨by omega, by omega, by omega, fun h => (by have s1 := k947 (by omega); rw [s1.2]; exact PK.b (by omega) (k929 (by omega)) (by omega))⟩⟩
              · refine yT.aan (pc' := 173) (xg_ne g0 rfl) rfl rfl rfl ?_
                refine kRC (yT.cc (G2 := 0) (pc' := 176) rfl rfl rfl hT712 (K.up rfl : xnth ks 60 = some (19, 0)) xM_201 (R (p1 := p + 1) hT712 (by omega) (by omega) (by omega)) rfl (by omega) (by decide) rfl) (fun h955 v959 p960 x958 hT956 hv961 E957 => ?_)
                obtain ⟨k962, k963, k964, k965⟩ := E957
                have f966 : fl (us σ 60 22 v959) 22 = (p960 : Int) := fl_at.trans hv961
                have f967 : fl (us σ 60 22 v959) 12 = (T : Int) := (fl_o rfl).trans tl.2.1
                exact yT.retZ rfl rfl (b01 (by omega) (by omega)) ⟨_, p960, _, hT956, (by omega), rfl, ⟨by omega, by omega, by omega, fun h => (by exact PK.m (by omega) (k965 (by omega)))⟩⟩
            · refine yT.aan (pc' := 162) (xg_ne g0 rfl) rfl rfl rfl ?_
              refine kRC (yT.cc (G2 := 0) (pc' := 165) rfl rfl rfl hT712 (K.up rfl : xnth ks 60 = some (19, 0)) xM_200 (r200 (p := p + 1) K hT712 (by omega) tl (by omega) hcm) rfl (by omega) (by decide) rfl) (fun h968 v972 p973 x971 hT969 hv974 E970 => ?_)
              obtain ⟨k975, k976, k977, k978⟩ := E970
              have f979 : fl (us σ 60 22 v972) 22 = (p973 : Int) := fl_at.trans hv974
              have f980 : fl (us σ 60 22 v972) 12 = (T : Int) := (fl_o rfl).trans tl.2.1
              exact yT.retZ rfl rfl (b01 (by omega) (by omega)) ⟨_, p973, _, hT969, (by omega), rfl, ⟨by omega, by omega, by omega, fun h => (by have h1 := k978 (by omega); rw [h1.2]; exact PK.u (by omega) h1.1)⟩⟩
          · refine yT.iln (pc' := 132) xg_eq rfl rfl ?_
            refine yT.kb (pc' := 134) rfl rfl (by decide) (fun x981 e982 => ?_)
            refine yT.if2 (t := 145) (pc' := 137) rfl rfl rfl (c2_eq e112 e982) (fun c983 => ?_) (fun c983 => ?_)
            · have hlt := tl.in (j := p) (by omega)
              refine yT.aan (pc' := 146) (xg_ne g0 rfl) rfl rfl rfl ?_
              refine yT.p (pc' := 147) rfl rfl (fun _ _ _ _ => rfl) ?_
              refine yT.cgX (pc' := 150) rfl rfl hT131 (K.up rfl) rfl rfl (fun x984 _ i985 j986 z987 => ?_)
              have e988 : x984.toInt = (p : Int) := (congrArg Int32.toInt z987).trans f101
              refine yT.kI (pc' := 151) rfl rfl (by decide) (fun x989 e990 => ?_)
              refine yT.ad2 (pc' := 152) (Z := (p : Int) + 1) e988 e990 rfl rfl (by omega) (fun x991 e992 => ?_)
              refine yT.cpX (c := x991) (pc' := 155) rfl rfl hT131 (K.up rfl) rfl rfl rfl e992 (by omega) rfl (fun h993 hT994 _ _ => ?_)
              rw [us_us] at hT994
              have f995 : fl (us σ 60 22 x991) 22 = (p : Int) + 1 := fl_at.trans e992
              have f996 : fl (us σ 60 22 x991) 12 = (T : Int) := (fl_o rfl).trans tl.2.1
              refine yT.iln (pc' := 156) xg_eq rfl rfl ?_
              refine yT.kb (pc' := 158) rfl rfl (by decide) (fun x997 e998 => ?_)
              refine yT.if2 (t := 166) (pc' := 161) rfl rfl rfl (c2_ne e112 e998) (fun c999 => ?_) (fun c999 => ?_)
              · refine yT.iln (pc' := 167) xg_eq rfl rfl ?_
                refine yT.kb (pc' := 169) rfl rfl (by decide) (fun x1000 e1001 => ?_)
                refine yT.if2 (t := 177) (pc' := 172) rfl rfl rfl (c2_ne e112 e1001) (fun c1002 => ?_) (fun c1002 => ?_)
                · refine yT.iln (pc' := 178) xg_eq rfl rfl ?_
                  refine yT.kb (pc' := 180) rfl rfl (by decide) (fun x1003 e1004 => ?_)
                  refine yT.if2 (t := 205) (pc' := 183) rfl rfl rfl (c2_ne e112 e1004) (fun c1005 => ?_) (fun c1005 => ?_)
                  · refine yT.iln (pc' := 206) xg_eq rfl rfl ?_
                    refine yT.kb (pc' := 208) rfl rfl (by decide) (fun x1006 e1007 => ?_)
                    refine yT.if2 (t := 265) (pc' := 211) rfl rfl rfl (c2_ne e112 e1007) (fun c1008 => ?_) (fun c1008 => ?_)
                    · refine yT.aan (pc' := 266) (xg_ne g0 rfl) rfl rfl rfl ?_
                      refine yT.kb (pc' := 268) rfl rfl (by decide) (fun x1009 e1010 => ?_)
                      refine kRC (yT.cc (G2 := 0) (pc' := 271) rfl rfl rfl hT994 (K.up rfl : xnth ks 60 = some (19, 0)) xM_196 (r196 (p := p + 1) K hT994 (by omega) tl (by omega) x1009 (by omega)) rfl (by omega) (by decide) rfl) (fun h1011 v1015 p1016 x1014 hT1012 hv1017 E1013 => ?_)
                      obtain ⟨k1018, k1019, k1020, k1021⟩ := E1013
                      have f1022 : fl (us σ 60 22 v1015) 22 = (p1016 : Int) := fl_at.trans hv1017
                      have f1023 : fl (us σ 60 22 v1015) 12 = (T : Int) := (fl_o rfl).trans tl.2.1
                      refine yT.if1 (t := 310) (pc' := 274) rfl rfl rfl (c1_eq rfl) (fun c1024 => ?_) (fun c1024 => ?_)
                      · refine yT.kI (pc' := 311) rfl rfl (by decide) (fun x1025 e1026 => ?_)
                        exact yT.retZ rfl rfl (b01 (by omega) (by omega)) ⟨_, p1016, _, hT1012, (by omega), rfl, ⟨by omega, by omega, by omega, fun h => by omega⟩⟩
                      · refine yT.aan (pc' := 275) (xg_ne g0 rfl) rfl rfl rfl ?_
                        refine kRC (yT.cc (G2 := 0) (pc' := 278) rfl rfl rfl hT1012 (K.up rfl : xnth ks 60 = some (19, 0)) xM_197 (R2 (p1 := p1016) hT1012 (by omega) (by omega) (by omega)) rfl (by omega) (by decide) rfl) (fun h1027 v1031 p1032 x1030 hT1028 hv1033 E1029 => ?_)
                        obtain ⟨k1034, k1035, k1036, k1037⟩ := E1029
                        have f1038 : fl (us σ 60 22 v1031) 22 = (p1032 : Int) := fl_at.trans hv1033
                        have f1039 : fl (us σ 60 22 v1031) 12 = (T : Int) := (fl_o rfl).trans tl.2.1
                        refine yT.if1 (t := 310) (pc' := 281) rfl rfl rfl (c1_eq rfl) (fun c1040 => ?_) (fun c1040 => ?_)
                        · refine yT.kI (pc' := 311) rfl rfl (by decide) (fun x1041 e1042 => ?_)
                          exact yT.retZ rfl rfl (b01 (by omega) (by omega)) ⟨_, p1032, _, hT1028, (by omega), rfl, ⟨by omega, by omega, by omega, fun h => by omega⟩⟩
                        · refine yT.aan (pc' := 282) (xg_ne g0 rfl) rfl rfl rfl ?_
                          refine yT.kb (pc' := 284) rfl rfl (by decide) (fun x1043 e1044 => ?_)
                          refine kRC (yT.cc (G2 := 0) (pc' := 287) rfl rfl rfl hT1028 (K.up rfl : xnth ks 60 = some (19, 0)) xM_196 (r196 (p := p1032) K hT1028 (by omega) tl (by omega) x1043 (by omega)) rfl (by omega) (by decide) rfl) (fun h1045 v1049 p1050 x1048 hT1046 hv1051 E1047 => ?_)
                          obtain ⟨k1052, k1053, k1054, k1055⟩ := E1047
                          have f1056 : fl (us σ 60 22 v1049) 22 = (p1050 : Int) := fl_at.trans hv1051
                          have f1057 : fl (us σ 60 22 v1049) 12 = (T : Int) := (fl_o rfl).trans tl.2.1
                          refine yT.if1 (t := 310) (pc' := 290) rfl rfl rfl (c1_eq rfl) (fun c1058 => ?_) (fun c1058 => ?_)
                          · refine yT.kI (pc' := 311) rfl rfl (by decide) (fun x1059 e1060 => ?_)
                            exact yT.retZ rfl rfl (b01 (by omega) (by omega)) ⟨_, p1050, _, hT1046, (by omega), rfl, ⟨by omega, by omega, by omega, fun h => by omega⟩⟩
                          · refine yT.aan (pc' := 291) (xg_ne g0 rfl) rfl rfl rfl ?_
                            refine kRC (yT.cc (G2 := 0) (pc' := 294) rfl rfl rfl hT1046 (K.up rfl : xnth ks 60 = some (19, 0)) xM_197 (R2 (p1 := p1050) hT1046 (by omega) (by omega) (by omega)) rfl (by omega) (by decide) rfl) (fun h1061 v1065 p1066 x1064 hT1062 hv1067 E1063 => ?_)
                            obtain ⟨k1068, k1069, k1070, k1071⟩ := E1063
                            have f1072 : fl (us σ 60 22 v1065) 22 = (p1066 : Int) := fl_at.trans hv1067
                            have f1073 : fl (us σ 60 22 v1065) 12 = (T : Int) := (fl_o rfl).trans tl.2.1
                            refine yT.if1 (t := 310) (pc' := 297) rfl rfl rfl (c1_eq rfl) (fun c1074 => ?_) (fun c1074 => ?_)
                            · refine yT.kI (pc' := 311) rfl rfl (by decide) (fun x1075 e1076 => ?_)
                              exact yT.retZ rfl rfl (b01 (by omega) (by omega)) ⟨_, p1066, _, hT1062, (by omega), rfl, ⟨by omega, by omega, by omega, fun h => by omega⟩⟩
                            · refine yT.aan (pc' := 298) (xg_ne g0 rfl) rfl rfl rfl ?_
                              refine yT.kb (pc' := 300) rfl rfl (by decide) (fun x1077 e1078 => ?_)
                              refine kRC (yT.cc (G2 := 0) (pc' := 303) rfl rfl rfl hT1062 (K.up rfl : xnth ks 60 = some (19, 0)) xM_196 (r196 (p := p1066) K hT1062 (by omega) tl (by omega) x1077 (by omega)) rfl (by omega) (by decide) rfl) (fun h1079 v1083 p1084 x1082 hT1080 hv1085 E1081 => ?_)
                              obtain ⟨k1086, k1087, k1088, k1089⟩ := E1081
                              have f1090 : fl (us σ 60 22 v1083) 22 = (p1084 : Int) := fl_at.trans hv1085
                              have f1091 : fl (us σ 60 22 v1083) 12 = (T : Int) := (fl_o rfl).trans tl.2.1
                              refine yT.if1 (t := 310) (pc' := 306) rfl rfl rfl (c1_eq rfl) (fun c1092 => ?_) (fun c1092 => ?_)
                              · refine yT.kI (pc' := 311) rfl rfl (by decide) (fun x1093 e1094 => ?_)
                                exact yT.retZ rfl rfl (b01 (by omega) (by omega)) ⟨_, p1084, _, hT1080, (by omega), rfl, ⟨by omega, by omega, by omega, fun h => by omega⟩⟩
                              · refine yT.kI (pc' := 307) rfl rfl (by decide) (fun x1095 e1096 => ?_)
                                refine yT.p (pc' := 311) rfl rfl (fun _ _ _ _ => rfl) ?_
                                exact yT.retZ rfl rfl (b01 (by omega) (by omega)) ⟨_, p1084, _, hT1080, (by omega), rfl, ⟨by omega, by omega, by omega, fun h => (by have s0 := k1021 (by omega); have s1 := k1055 (by omega); have s2 := k1089 (by omega); have c1 := k1037 (by omega); rw [s0.2] at c1; have c2 := k1071 (by omega); rw [s1.2] at c2; rw [s2.2]; exact PK.g (by omega) (by omega) c1 (by omega) c2 (by omega))⟩⟩
                    · refine yT.aan (pc' := 212) (xg_ne g0 rfl) rfl rfl rfl ?_
                      refine kRC (yT.cc (G2 := 0) (pc' := 215) rfl rfl rfl hT994 (K.up rfl : xnth ks 60 = some (19, 0)) xM_197 (R2 (p1 := p + 1) hT994 (by omega) (by omega) (by omega)) rfl (by omega) (by decide) rfl) (fun h1097 v1101 p1102 x1100 hT1098 hv1103 E1099 => ?_)
                      obtain ⟨k1104, k1105, k1106, k1107⟩ := E1099
                      have f1108 : fl (us σ 60 22 v1101) 22 = (p1102 : Int) := fl_at.trans hv1103
                      have f1109 : fl (us σ 60 22 v1101) 12 = (T : Int) := (fl_o rfl).trans tl.2.1
                      refine yT.if1 (t := 263) (pc' := 218) rfl rfl rfl (c1_eq rfl) (fun c1110 => ?_) (fun c1110 => ?_)
                      · refine yT.kI (pc' := 264) rfl rfl (by decide) (fun x1111 e1112 => ?_)
                        exact yT.retZ rfl rfl (b01 (by omega) (by omega)) ⟨_, p1102, _, hT1098, (by omega), rfl, ⟨by omega, by omega, by omega, fun h => by omega⟩⟩
                      · refine yT.aan (pc' := 219) (xg_ne g0 rfl) rfl rfl rfl ?_
                        refine yT.kb (pc' := 221) rfl rfl (by decide) (fun x1113 e1114 => ?_)
                        refine kRC (yT.cc (G2 := 0) (pc' := 224) rfl rfl rfl hT1098 (K.up rfl : xnth ks 60 = some (19, 0)) xM_196 (r196 (p := p1102) K hT1098 (by omega) tl (by omega) x1113 (by omega)) rfl (by omega) (by decide) rfl) (fun h1115 v1119 p1120 x1118 hT1116 hv1121 E1117 => ?_)
                        obtain ⟨k1122, k1123, k1124, k1125⟩ := E1117
                        have f1126 : fl (us σ 60 22 v1119) 22 = (p1120 : Int) := fl_at.trans hv1121
                        have f1127 : fl (us σ 60 22 v1119) 12 = (T : Int) := (fl_o rfl).trans tl.2.1
                        refine yT.if1 (t := 263) (pc' := 227) rfl rfl rfl (c1_eq rfl) (fun c1128 => ?_) (fun c1128 => ?_)
                        · refine yT.kI (pc' := 264) rfl rfl (by decide) (fun x1129 e1130 => ?_)
                          exact yT.retZ rfl rfl (b01 (by omega) (by omega)) ⟨_, p1120, _, hT1116, (by omega), rfl, ⟨by omega, by omega, by omega, fun h => by omega⟩⟩
                        · refine yT.aan (pc' := 228) (xg_ne g0 rfl) rfl rfl rfl ?_
                          refine kRC (yT.cc (G2 := 0) (pc' := 231) rfl rfl rfl hT1116 (K.up rfl : xnth ks 60 = some (19, 0)) xM_197 (R2 (p1 := p1120) hT1116 (by omega) (by omega) (by omega)) rfl (by omega) (by decide) rfl) (fun h1131 v1135 p1136 x1134 hT1132 hv1137 E1133 => ?_)
                          obtain ⟨k1138, k1139, k1140, k1141⟩ := E1133
                          have f1142 : fl (us σ 60 22 v1135) 22 = (p1136 : Int) := fl_at.trans hv1137
                          have f1143 : fl (us σ 60 22 v1135) 12 = (T : Int) := (fl_o rfl).trans tl.2.1
                          refine yT.if1 (t := 263) (pc' := 234) rfl rfl rfl (c1_eq rfl) (fun c1144 => ?_) (fun c1144 => ?_)
                          · refine yT.kI (pc' := 264) rfl rfl (by decide) (fun x1145 e1146 => ?_)
                            exact yT.retZ rfl rfl (b01 (by omega) (by omega)) ⟨_, p1136, _, hT1132, (by omega), rfl, ⟨by omega, by omega, by omega, fun h => by omega⟩⟩
                          · refine yT.aan (pc' := 235) (xg_ne g0 rfl) rfl rfl rfl ?_
                            refine yT.kb (pc' := 237) rfl rfl (by decide) (fun x1147 e1148 => ?_)
                            refine kRC (yT.cc (G2 := 0) (pc' := 240) rfl rfl rfl hT1132 (K.up rfl : xnth ks 60 = some (19, 0)) xM_196 (r196 (p := p1136) K hT1132 (by omega) tl (by omega) x1147 (by omega)) rfl (by omega) (by decide) rfl) (fun h1149 v1153 p1154 x1152 hT1150 hv1155 E1151 => ?_)
                            obtain ⟨k1156, k1157, k1158, k1159⟩ := E1151
                            have f1160 : fl (us σ 60 22 v1153) 22 = (p1154 : Int) := fl_at.trans hv1155
                            have f1161 : fl (us σ 60 22 v1153) 12 = (T : Int) := (fl_o rfl).trans tl.2.1
                            refine yT.if1 (t := 263) (pc' := 243) rfl rfl rfl (c1_eq rfl) (fun c1162 => ?_) (fun c1162 => ?_)
                            · refine yT.kI (pc' := 264) rfl rfl (by decide) (fun x1163 e1164 => ?_)
                              exact yT.retZ rfl rfl (b01 (by omega) (by omega)) ⟨_, p1154, _, hT1150, (by omega), rfl, ⟨by omega, by omega, by omega, fun h => by omega⟩⟩
                            · refine yT.aan (pc' := 244) (xg_ne g0 rfl) rfl rfl rfl ?_
                              refine kRC (yT.cc (G2 := 0) (pc' := 247) rfl rfl rfl hT1150 (K.up rfl : xnth ks 60 = some (19, 0)) xM_197 (R2 (p1 := p1154) hT1150 (by omega) (by omega) (by omega)) rfl (by omega) (by decide) rfl) (fun h1165 v1169 p1170 x1168 hT1166 hv1171 E1167 => ?_)
                              obtain ⟨k1172, k1173, k1174, k1175⟩ := E1167
                              have f1176 : fl (us σ 60 22 v1169) 22 = (p1170 : Int) := fl_at.trans hv1171
                              have f1177 : fl (us σ 60 22 v1169) 12 = (T : Int) := (fl_o rfl).trans tl.2.1
                              refine yT.if1 (t := 263) (pc' := 250) rfl rfl rfl (c1_eq rfl) (fun c1178 => ?_) (fun c1178 => ?_)
                              · refine yT.kI (pc' := 264) rfl rfl (by decide) (fun x1179 e1180 => ?_)
                                exact yT.retZ rfl rfl (b01 (by omega) (by omega)) ⟨_, p1170, _, hT1166, (by omega), rfl, ⟨by omega, by omega, by omega, fun h => by omega⟩⟩
                              · refine yT.aan (pc' := 251) (xg_ne g0 rfl) rfl rfl rfl ?_
                                refine yT.kb (pc' := 253) rfl rfl (by decide) (fun x1181 e1182 => ?_)
                                refine kRC (yT.cc (G2 := 0) (pc' := 256) rfl rfl rfl hT1166 (K.up rfl : xnth ks 60 = some (19, 0)) xM_196 (r196 (p := p1170) K hT1166 (by omega) tl (by omega) x1181 (by omega)) rfl (by omega) (by decide) rfl) (fun h1183 v1187 p1188 x1186 hT1184 hv1189 E1185 => ?_)
                                obtain ⟨k1190, k1191, k1192, k1193⟩ := E1185
                                have f1194 : fl (us σ 60 22 v1187) 22 = (p1188 : Int) := fl_at.trans hv1189
                                have f1195 : fl (us σ 60 22 v1187) 12 = (T : Int) := (fl_o rfl).trans tl.2.1
                                refine yT.if1 (t := 263) (pc' := 259) rfl rfl rfl (c1_eq rfl) (fun c1196 => ?_) (fun c1196 => ?_)
                                · refine yT.kI (pc' := 264) rfl rfl (by decide) (fun x1197 e1198 => ?_)
                                  exact yT.retZ rfl rfl (b01 (by omega) (by omega)) ⟨_, p1188, _, hT1184, (by omega), rfl, ⟨by omega, by omega, by omega, fun h => by omega⟩⟩
                                · refine yT.kI (pc' := 260) rfl rfl (by decide) (fun x1199 e1200 => ?_)
                                  refine yT.p (pc' := 264) rfl rfl (fun _ _ _ _ => rfl) ?_
                                  exact yT.retZ rfl rfl (b01 (by omega) (by omega)) ⟨_, p1188, _, hT1184, (by omega), rfl, ⟨by omega, by omega, by omega, fun h => (by have s1 := k1125 (by omega); have s2 := k1159 (by omega); have s3 := k1193 (by omega); have c2 := k1141 (by omega); rw [s1.2] at c2; have c3 := k1175 (by omega); rw [s2.2] at c3; rw [s3.2]; exact PK.q (by omega) (k1107 (by omega)) (by omega) c2 (by omega) c3 (by omega))⟩⟩
                  · refine yT.aan (pc' := 184) (xg_ne g0 rfl) rfl rfl rfl ?_
                    refine kRC (yT.cc (G2 := 0) (pc' := 187) rfl rfl rfl hT994 (K.up rfl : xnth ks 60 = some (19, 0)) xM_197 (R2 (p1 := p + 1) hT994 (by omega) (by omega) (by omega)) rfl (by omega) (by decide) rfl) (fun h1201 v1205 p1206 x1204 hT1202 hv1207 E1203 => ?_)
                    obtain ⟨k1208, k1209, k1210, k1211⟩ := E1203
                    have f1212 : fl (us σ 60 22 v1205) 22 = (p1206 : Int) := fl_at.trans hv1207
                    have f1213 : fl (us σ 60 22 v1205) 12 = (T : Int) := (fl_o rfl).trans tl.2.1
                    refine yT.if1 (t := 203) (pc' := 190) rfl rfl rfl (c1_eq rfl) (fun c1214 => ?_) (fun c1214 => ?_)
                    · refine yT.kI (pc' := 204) rfl rfl (by decide) (fun x1215 e1216 => ?_)
                      exact yT.retZ rfl rfl (b01 (by omega) (by omega)) ⟨_, p1206, _, hT1202, (by omega), rfl, ⟨by omega, by omega, by omega, fun h => by omega⟩⟩
                    · refine yT.aan (pc' := 191) (xg_ne g0 rfl) rfl rfl rfl ?_
                      refine yT.kb (pc' := 193) rfl rfl (by decide) (fun x1217 e1218 => ?_)
                      refine kRC (yT.cc (G2 := 0) (pc' := 196) rfl rfl rfl hT1202 (K.up rfl : xnth ks 60 = some (19, 0)) xM_196 (r196 (p := p1206) K hT1202 (by omega) tl (by omega) x1217 (by omega)) rfl (by omega) (by decide) rfl) (fun h1219 v1223 p1224 x1222 hT1220 hv1225 E1221 => ?_)
                      obtain ⟨k1226, k1227, k1228, k1229⟩ := E1221
                      have f1230 : fl (us σ 60 22 v1223) 22 = (p1224 : Int) := fl_at.trans hv1225
                      have f1231 : fl (us σ 60 22 v1223) 12 = (T : Int) := (fl_o rfl).trans tl.2.1
                      refine yT.if1 (t := 203) (pc' := 199) rfl rfl rfl (c1_eq rfl) (fun c1232 => ?_) (fun c1232 => ?_)
                      · refine yT.kI (pc' := 204) rfl rfl (by decide) (fun x1233 e1234 => ?_)
                        exact yT.retZ rfl rfl (b01 (by omega) (by omega)) ⟨_, p1224, _, hT1220, (by omega), rfl, ⟨by omega, by omega, by omega, fun h => by omega⟩⟩
                      · refine yT.kI (pc' := 200) rfl rfl (by decide) (fun x1235 e1236 => ?_)
                        refine yT.p (pc' := 204) rfl rfl (fun _ _ _ _ => rfl) ?_
                        exact yT.retZ rfl rfl (b01 (by omega) (by omega)) ⟨_, p1224, _, hT1220, (by omega), rfl, ⟨by omega, by omega, by omega, fun h => (by have s1 := k1229 (by omega); rw [s1.2]; exact PK.b (by omega) (k1211 (by omega)) (by omega))⟩⟩
                · refine yT.aan (pc' := 173) (xg_ne g0 rfl) rfl rfl rfl ?_
                  refine kRC (yT.cc (G2 := 0) (pc' := 176) rfl rfl rfl hT994 (K.up rfl : xnth ks 60 = some (19, 0)) xM_201 (R (p1 := p + 1) hT994 (by omega) (by omega) (by omega)) rfl (by omega) (by decide) rfl) (fun h1237 v1241 p1242 x1240 hT1238 hv1243 E1239 => ?_)
                  obtain ⟨k1244, k1245, k1246, k1247⟩ := E1239
                  have f1248 : fl (us σ 60 22 v1241) 22 = (p1242 : Int) := fl_at.trans hv1243
                  have f1249 : fl (us σ 60 22 v1241) 12 = (T : Int) := (fl_o rfl).trans tl.2.1
                  exact yT.retZ rfl rfl (b01 (by omega) (by omega)) ⟨_, p1242, _, hT1238, (by omega), rfl, ⟨by omega, by omega, by omega, fun h => (by exact PK.m (by omega) (k1247 (by omega)))⟩⟩
              · refine yT.aan (pc' := 162) (xg_ne g0 rfl) rfl rfl rfl ?_
                refine kRC (yT.cc (G2 := 0) (pc' := 165) rfl rfl rfl hT994 (K.up rfl : xnth ks 60 = some (19, 0)) xM_200 (r200 (p := p + 1) K hT994 (by omega) tl (by omega) hcm) rfl (by omega) (by decide) rfl) (fun h1250 v1254 p1255 x1253 hT1251 hv1256 E1252 => ?_)
                obtain ⟨k1257, k1258, k1259, k1260⟩ := E1252
                have f1261 : fl (us σ 60 22 v1254) 22 = (p1255 : Int) := fl_at.trans hv1256
                have f1262 : fl (us σ 60 22 v1254) 12 = (T : Int) := (fl_o rfl).trans tl.2.1
                exact yT.retZ rfl rfl (b01 (by omega) (by omega)) ⟨_, p1255, _, hT1251, (by omega), rfl, ⟨by omega, by omega, by omega, fun h => (by have h1 := k1260 (by omega); rw [h1.2]; exact PK.u (by omega) h1.1)⟩⟩
            · refine yT.iln (pc' := 138) xg_eq rfl rfl ?_
              refine yT.kb (pc' := 140) rfl rfl (by decide) (fun x1263 e1264 => ?_)
              refine yT.if2 (t := 145) (pc' := 143) rfl rfl rfl (c2_eq e112 e1264) (fun c1265 => ?_) (fun c1265 => ?_)
              · have hlt := tl.in (j := p) (by omega)
                refine yT.aan (pc' := 146) (xg_ne g0 rfl) rfl rfl rfl ?_
                refine yT.p (pc' := 147) rfl rfl (fun _ _ _ _ => rfl) ?_
                refine yT.cgX (pc' := 150) rfl rfl hT131 (K.up rfl) rfl rfl (fun x1266 _ i1267 j1268 z1269 => ?_)
                have e1270 : x1266.toInt = (p : Int) := (congrArg Int32.toInt z1269).trans f101
                refine yT.kI (pc' := 151) rfl rfl (by decide) (fun x1271 e1272 => ?_)
                refine yT.ad2 (pc' := 152) (Z := (p : Int) + 1) e1270 e1272 rfl rfl (by omega) (fun x1273 e1274 => ?_)
                refine yT.cpX (c := x1273) (pc' := 155) rfl rfl hT131 (K.up rfl) rfl rfl rfl e1274 (by omega) rfl (fun h1275 hT1276 _ _ => ?_)
                rw [us_us] at hT1276
                have f1277 : fl (us σ 60 22 x1273) 22 = (p : Int) + 1 := fl_at.trans e1274
                have f1278 : fl (us σ 60 22 x1273) 12 = (T : Int) := (fl_o rfl).trans tl.2.1
                refine yT.iln (pc' := 156) xg_eq rfl rfl ?_
                refine yT.kb (pc' := 158) rfl rfl (by decide) (fun x1279 e1280 => ?_)
                refine yT.if2 (t := 166) (pc' := 161) rfl rfl rfl (c2_ne e112 e1280) (fun c1281 => ?_) (fun c1281 => ?_)
                · refine yT.iln (pc' := 167) xg_eq rfl rfl ?_
                  refine yT.kb (pc' := 169) rfl rfl (by decide) (fun x1282 e1283 => ?_)
                  refine yT.if2 (t := 177) (pc' := 172) rfl rfl rfl (c2_ne e112 e1283) (fun c1284 => ?_) (fun c1284 => ?_)
                  · refine yT.iln (pc' := 178) xg_eq rfl rfl ?_
                    refine yT.kb (pc' := 180) rfl rfl (by decide) (fun x1285 e1286 => ?_)
                    refine yT.if2 (t := 205) (pc' := 183) rfl rfl rfl (c2_ne e112 e1286) (fun c1287 => ?_) (fun c1287 => ?_)
                    · refine yT.iln (pc' := 206) xg_eq rfl rfl ?_
                      refine yT.kb (pc' := 208) rfl rfl (by decide) (fun x1288 e1289 => ?_)
                      refine yT.if2 (t := 265) (pc' := 211) rfl rfl rfl (c2_ne e112 e1289) (fun c1290 => ?_) (fun c1290 => ?_)
                      · refine yT.aan (pc' := 266) (xg_ne g0 rfl) rfl rfl rfl ?_
                        refine yT.kb (pc' := 268) rfl rfl (by decide) (fun x1291 e1292 => ?_)
                        refine kRC (yT.cc (G2 := 0) (pc' := 271) rfl rfl rfl hT1276 (K.up rfl : xnth ks 60 = some (19, 0)) xM_196 (r196 (p := p + 1) K hT1276 (by omega) tl (by omega) x1291 (by omega)) rfl (by omega) (by decide) rfl) (fun h1293 v1297 p1298 x1296 hT1294 hv1299 E1295 => ?_)
                        obtain ⟨k1300, k1301, k1302, k1303⟩ := E1295
                        have f1304 : fl (us σ 60 22 v1297) 22 = (p1298 : Int) := fl_at.trans hv1299
                        have f1305 : fl (us σ 60 22 v1297) 12 = (T : Int) := (fl_o rfl).trans tl.2.1
                        refine yT.if1 (t := 310) (pc' := 274) rfl rfl rfl (c1_eq rfl) (fun c1306 => ?_) (fun c1306 => ?_)
                        · refine yT.kI (pc' := 311) rfl rfl (by decide) (fun x1307 e1308 => ?_)
                          exact yT.retZ rfl rfl (b01 (by omega) (by omega)) ⟨_, p1298, _, hT1294, (by omega), rfl, ⟨by omega, by omega, by omega, fun h => by omega⟩⟩
                        · refine yT.aan (pc' := 275) (xg_ne g0 rfl) rfl rfl rfl ?_
                          refine kRC (yT.cc (G2 := 0) (pc' := 278) rfl rfl rfl hT1294 (K.up rfl : xnth ks 60 = some (19, 0)) xM_197 (R2 (p1 := p1298) hT1294 (by omega) (by omega) (by omega)) rfl (by omega) (by decide) rfl) (fun h1309 v1313 p1314 x1312 hT1310 hv1315 E1311 => ?_)
                          obtain ⟨k1316, k1317, k1318, k1319⟩ := E1311
                          have f1320 : fl (us σ 60 22 v1313) 22 = (p1314 : Int) := fl_at.trans hv1315
                          have f1321 : fl (us σ 60 22 v1313) 12 = (T : Int) := (fl_o rfl).trans tl.2.1
                          refine yT.if1 (t := 310) (pc' := 281) rfl rfl rfl (c1_eq rfl) (fun c1322 => ?_) (fun c1322 => ?_)
                          · refine yT.kI (pc' := 311) rfl rfl (by decide) (fun x1323 e1324 => ?_)
                            exact yT.retZ rfl rfl (b01 (by omega) (by omega)) ⟨_, p1314, _, hT1310, (by omega), rfl, ⟨by omega, by omega, by omega, fun h => by omega⟩⟩
                          · refine yT.aan (pc' := 282) (xg_ne g0 rfl) rfl rfl rfl ?_
                            refine yT.kb (pc' := 284) rfl rfl (by decide) (fun x1325 e1326 => ?_)
                            refine kRC (yT.cc (G2 := 0) (pc' := 287) rfl rfl rfl hT1310 (K.up rfl : xnth ks 60 = some (19, 0)) xM_196 (r196 (p := p1314) K hT1310 (by omega) tl (by omega) x1325 (by omega)) rfl (by omega) (by decide) rfl) (fun h1327 v1331 p1332 x1330 hT1328 hv1333 E1329 => ?_)
                            obtain ⟨k1334, k1335, k1336, k1337⟩ := E1329
                            have f1338 : fl (us σ 60 22 v1331) 22 = (p1332 : Int) := fl_at.trans hv1333
                            have f1339 : fl (us σ 60 22 v1331) 12 = (T : Int) := (fl_o rfl).trans tl.2.1
                            refine yT.if1 (t := 310) (pc' := 290) rfl rfl rfl (c1_eq rfl) (fun c1340 => ?_) (fun c1340 => ?_)
                            · refine yT.kI (pc' := 311) rfl rfl (by decide) (fun x1341 e1342 => ?_)
                              exact yT.retZ rfl rfl (b01 (by omega) (by omega)) ⟨_, p1332, _, hT1328, (by omega), rfl, ⟨by omega, by omega, by omega, fun h => by omega⟩⟩
                            · refine yT.aan (pc' := 291) (xg_ne g0 rfl) rfl rfl rfl ?_
                              refine kRC (yT.cc (G2 := 0) (pc' := 294) rfl rfl rfl hT1328 (K.up rfl : xnth ks 60 = some (19, 0)) xM_197 (R2 (p1 := p1332) hT1328 (by omega) (by omega) (by omega)) rfl (by omega) (by decide) rfl) (fun h1343 v1347 p1348 x1346 hT1344 hv1349 E1345 => ?_)
                              obtain ⟨k1350, k1351, k1352, k1353⟩ := E1345
                              have f1354 : fl (us σ 60 22 v1347) 22 = (p1348 : Int) := fl_at.trans hv1349
                              have f1355 : fl (us σ 60 22 v1347) 12 = (T : Int) := (fl_o rfl).trans tl.2.1
                              refine yT.if1 (t := 310) (pc' := 297) rfl rfl rfl (c1_eq rfl) (fun c1356 => ?_) (fun c1356 => ?_)
                              · refine yT.kI (pc' := 311) rfl rfl (by decide) (fun x1357 e1358 => ?_)
                                exact yT.retZ rfl rfl (b01 (by omega) (by omega)) ⟨_, p1348, _, hT1344, (by omega), rfl, ⟨by omega, by omega, by omega, fun h => by omega⟩⟩
                              · refine yT.aan (pc' := 298) (xg_ne g0 rfl) rfl rfl rfl ?_
                                refine yT.kb (pc' := 300) rfl rfl (by decide) (fun x1359 e1360 => ?_)
                                refine kRC (yT.cc (G2 := 0) (pc' := 303) rfl rfl rfl hT1344 (K.up rfl : xnth ks 60 = some (19, 0)) xM_196 (r196 (p := p1348) K hT1344 (by omega) tl (by omega) x1359 (by omega)) rfl (by omega) (by decide) rfl) (fun h1361 v1365 p1366 x1364 hT1362 hv1367 E1363 => ?_)
                                obtain ⟨k1368, k1369, k1370, k1371⟩ := E1363
                                have f1372 : fl (us σ 60 22 v1365) 22 = (p1366 : Int) := fl_at.trans hv1367
                                have f1373 : fl (us σ 60 22 v1365) 12 = (T : Int) := (fl_o rfl).trans tl.2.1
                                refine yT.if1 (t := 310) (pc' := 306) rfl rfl rfl (c1_eq rfl) (fun c1374 => ?_) (fun c1374 => ?_)
                                · refine yT.kI (pc' := 311) rfl rfl (by decide) (fun x1375 e1376 => ?_)
                                  exact yT.retZ rfl rfl (b01 (by omega) (by omega)) ⟨_, p1366, _, hT1362, (by omega), rfl, ⟨by omega, by omega, by omega, fun h => by omega⟩⟩
                                · refine yT.kI (pc' := 307) rfl rfl (by decide) (fun x1377 e1378 => ?_)
                                  refine yT.p (pc' := 311) rfl rfl (fun _ _ _ _ => rfl) ?_
                                  exact yT.retZ rfl rfl (b01 (by omega) (by omega)) ⟨_, p1366, _, hT1362, (by omega), rfl, ⟨by omega, by omega, by omega, fun h => (by have s0 := k1303 (by omega); have s1 := k1337 (by omega); have s2 := k1371 (by omega); have c1 := k1319 (by omega); rw [s0.2] at c1; have c2 := k1353 (by omega); rw [s1.2] at c2; rw [s2.2]; exact PK.g (by omega) (by omega) c1 (by omega) c2 (by omega))⟩⟩
                      · refine yT.aan (pc' := 212) (xg_ne g0 rfl) rfl rfl rfl ?_
                        refine kRC (yT.cc (G2 := 0) (pc' := 215) rfl rfl rfl hT1276 (K.up rfl : xnth ks 60 = some (19, 0)) xM_197 (R2 (p1 := p + 1) hT1276 (by omega) (by omega) (by omega)) rfl (by omega) (by decide) rfl) (fun h1379 v1383 p1384 x1382 hT1380 hv1385 E1381 => ?_)
                        obtain ⟨k1386, k1387, k1388, k1389⟩ := E1381
                        have f1390 : fl (us σ 60 22 v1383) 22 = (p1384 : Int) := fl_at.trans hv1385
                        have f1391 : fl (us σ 60 22 v1383) 12 = (T : Int) := (fl_o rfl).trans tl.2.1
                        refine yT.if1 (t := 263) (pc' := 218) rfl rfl rfl (c1_eq rfl) (fun c1392 => ?_) (fun c1392 => ?_)
                        · refine yT.kI (pc' := 264) rfl rfl (by decide) (fun x1393 e1394 => ?_)
                          exact yT.retZ rfl rfl (b01 (by omega) (by omega)) ⟨_, p1384, _, hT1380, (by omega), rfl, ⟨by omega, by omega, by omega, fun h => by omega⟩⟩
                        · refine yT.aan (pc' := 219) (xg_ne g0 rfl) rfl rfl rfl ?_
                          refine yT.kb (pc' := 221) rfl rfl (by decide) (fun x1395 e1396 => ?_)
                          refine kRC (yT.cc (G2 := 0) (pc' := 224) rfl rfl rfl hT1380 (K.up rfl : xnth ks 60 = some (19, 0)) xM_196 (r196 (p := p1384) K hT1380 (by omega) tl (by omega) x1395 (by omega)) rfl (by omega) (by decide) rfl) (fun h1397 v1401 p1402 x1400 hT1398 hv1403 E1399 => ?_)
                          obtain ⟨k1404, k1405, k1406, k1407⟩ := E1399
                          have f1408 : fl (us σ 60 22 v1401) 22 = (p1402 : Int) := fl_at.trans hv1403
                          have f1409 : fl (us σ 60 22 v1401) 12 = (T : Int) := (fl_o rfl).trans tl.2.1
                          refine yT.if1 (t := 263) (pc' := 227) rfl rfl rfl (c1_eq rfl) (fun c1410 => ?_) (fun c1410 => ?_)
                          · refine yT.kI (pc' := 264) rfl rfl (by decide) (fun x1411 e1412 => ?_)
                            exact yT.retZ rfl rfl (b01 (by omega) (by omega)) ⟨_, p1402, _, hT1398, (by omega), rfl, ⟨by omega, by omega, by omega, fun h => by omega⟩⟩
                          · refine yT.aan (pc' := 228) (xg_ne g0 rfl) rfl rfl rfl ?_
                            refine kRC (yT.cc (G2 := 0) (pc' := 231) rfl rfl rfl hT1398 (K.up rfl : xnth ks 60 = some (19, 0)) xM_197 (R2 (p1 := p1402) hT1398 (by omega) (by omega) (by omega)) rfl (by omega) (by decide) rfl) (fun h1413 v1417 p1418 x1416 hT1414 hv1419 E1415 => ?_)
                            obtain ⟨k1420, k1421, k1422, k1423⟩ := E1415
                            have f1424 : fl (us σ 60 22 v1417) 22 = (p1418 : Int) := fl_at.trans hv1419
                            have f1425 : fl (us σ 60 22 v1417) 12 = (T : Int) := (fl_o rfl).trans tl.2.1
                            refine yT.if1 (t := 263) (pc' := 234) rfl rfl rfl (c1_eq rfl) (fun c1426 => ?_) (fun c1426 => ?_)
                            · refine yT.kI (pc' := 264) rfl rfl (by decide) (fun x1427 e1428 => ?_)
                              exact yT.retZ rfl rfl (b01 (by omega) (by omega)) ⟨_, p1418, _, hT1414, (by omega), rfl, ⟨by omega, by omega, by omega, fun h => by omega⟩⟩
                            · refine yT.aan (pc' := 235) (xg_ne g0 rfl) rfl rfl rfl ?_
                              refine yT.kb (pc' := 237) rfl rfl (by decide) (fun x1429 e1430 => ?_)
                              refine kRC (yT.cc (G2 := 0) (pc' := 240) rfl rfl rfl hT1414 (K.up rfl : xnth ks 60 = some (19, 0)) xM_196 (r196 (p := p1418) K hT1414 (by omega) tl (by omega) x1429 (by omega)) rfl (by omega) (by decide) rfl) (fun h1431 v1435 p1436 x1434 hT1432 hv1437 E1433 => ?_)
                              obtain ⟨k1438, k1439, k1440, k1441⟩ := E1433
                              have f1442 : fl (us σ 60 22 v1435) 22 = (p1436 : Int) := fl_at.trans hv1437
                              have f1443 : fl (us σ 60 22 v1435) 12 = (T : Int) := (fl_o rfl).trans tl.2.1
                              refine yT.if1 (t := 263) (pc' := 243) rfl rfl rfl (c1_eq rfl) (fun c1444 => ?_) (fun c1444 => ?_)
                              · refine yT.kI (pc' := 264) rfl rfl (by decide) (fun x1445 e1446 => ?_)
                                exact yT.retZ rfl rfl (b01 (by omega) (by omega)) ⟨_, p1436, _, hT1432, (by omega), rfl, ⟨by omega, by omega, by omega, fun h => by omega⟩⟩
                              · refine yT.aan (pc' := 244) (xg_ne g0 rfl) rfl rfl rfl ?_
                                refine kRC (yT.cc (G2 := 0) (pc' := 247) rfl rfl rfl hT1432 (K.up rfl : xnth ks 60 = some (19, 0)) xM_197 (R2 (p1 := p1436) hT1432 (by omega) (by omega) (by omega)) rfl (by omega) (by decide) rfl) (fun h1447 v1451 p1452 x1450 hT1448 hv1453 E1449 => ?_)
                                obtain ⟨k1454, k1455, k1456, k1457⟩ := E1449
                                have f1458 : fl (us σ 60 22 v1451) 22 = (p1452 : Int) := fl_at.trans hv1453
                                have f1459 : fl (us σ 60 22 v1451) 12 = (T : Int) := (fl_o rfl).trans tl.2.1
                                refine yT.if1 (t := 263) (pc' := 250) rfl rfl rfl (c1_eq rfl) (fun c1460 => ?_) (fun c1460 => ?_)
                                · refine yT.kI (pc' := 264) rfl rfl (by decide) (fun x1461 e1462 => ?_)
                                  exact yT.retZ rfl rfl (b01 (by omega) (by omega)) ⟨_, p1452, _, hT1448, (by omega), rfl, ⟨by omega, by omega, by omega, fun h => by omega⟩⟩
                                · refine yT.aan (pc' := 251) (xg_ne g0 rfl) rfl rfl rfl ?_
                                  refine yT.kb (pc' := 253) rfl rfl (by decide) (fun x1463 e1464 => ?_)
                                  refine kRC (yT.cc (G2 := 0) (pc' := 256) rfl rfl rfl hT1448 (K.up rfl : xnth ks 60 = some (19, 0)) xM_196 (r196 (p := p1452) K hT1448 (by omega) tl (by omega) x1463 (by omega)) rfl (by omega) (by decide) rfl) (fun h1465 v1469 p1470 x1468 hT1466 hv1471 E1467 => ?_)
                                  obtain ⟨k1472, k1473, k1474, k1475⟩ := E1467
                                  have f1476 : fl (us σ 60 22 v1469) 22 = (p1470 : Int) := fl_at.trans hv1471
                                  have f1477 : fl (us σ 60 22 v1469) 12 = (T : Int) := (fl_o rfl).trans tl.2.1
                                  refine yT.if1 (t := 263) (pc' := 259) rfl rfl rfl (c1_eq rfl) (fun c1478 => ?_) (fun c1478 => ?_)
                                  · refine yT.kI (pc' := 264) rfl rfl (by decide) (fun x1479 e1480 => ?_)
                                    exact yT.retZ rfl rfl (b01 (by omega) (by omega)) ⟨_, p1470, _, hT1466, (by omega), rfl, ⟨by omega, by omega, by omega, fun h => by omega⟩⟩
                                  · refine yT.kI (pc' := 260) rfl rfl (by decide) (fun x1481 e1482 => ?_)
                                    refine yT.p (pc' := 264) rfl rfl (fun _ _ _ _ => rfl) ?_
                                    exact yT.retZ rfl rfl (b01 (by omega) (by omega)) ⟨_, p1470, _, hT1466, (by omega), rfl, ⟨by omega, by omega, by omega, fun h => (by have s1 := k1407 (by omega); have s2 := k1441 (by omega); have s3 := k1475 (by omega); have c2 := k1423 (by omega); rw [s1.2] at c2; have c3 := k1457 (by omega); rw [s2.2] at c3; rw [s3.2]; exact PK.q (by omega) (k1389 (by omega)) (by omega) c2 (by omega) c3 (by omega))⟩⟩
                    · refine yT.aan (pc' := 184) (xg_ne g0 rfl) rfl rfl rfl ?_
                      refine kRC (yT.cc (G2 := 0) (pc' := 187) rfl rfl rfl hT1276 (K.up rfl : xnth ks 60 = some (19, 0)) xM_197 (R2 (p1 := p + 1) hT1276 (by omega) (by omega) (by omega)) rfl (by omega) (by decide) rfl) (fun h1483 v1487 p1488 x1486 hT1484 hv1489 E1485 => ?_)
                      obtain ⟨k1490, k1491, k1492, k1493⟩ := E1485
                      have f1494 : fl (us σ 60 22 v1487) 22 = (p1488 : Int) := fl_at.trans hv1489
                      have f1495 : fl (us σ 60 22 v1487) 12 = (T : Int) := (fl_o rfl).trans tl.2.1
                      refine yT.if1 (t := 203) (pc' := 190) rfl rfl rfl (c1_eq rfl) (fun c1496 => ?_) (fun c1496 => ?_)
                      · refine yT.kI (pc' := 204) rfl rfl (by decide) (fun x1497 e1498 => ?_)
                        exact yT.retZ rfl rfl (b01 (by omega) (by omega)) ⟨_, p1488, _, hT1484, (by omega), rfl, ⟨by omega, by omega, by omega, fun h => by omega⟩⟩
                      · refine yT.aan (pc' := 191) (xg_ne g0 rfl) rfl rfl rfl ?_
                        refine yT.kb (pc' := 193) rfl rfl (by decide) (fun x1499 e1500 => ?_)
                        refine kRC (yT.cc (G2 := 0) (pc' := 196) rfl rfl rfl hT1484 (K.up rfl : xnth ks 60 = some (19, 0)) xM_196 (r196 (p := p1488) K hT1484 (by omega) tl (by omega) x1499 (by omega)) rfl (by omega) (by decide) rfl) (fun h1501 v1505 p1506 x1504 hT1502 hv1507 E1503 => ?_)
                        obtain ⟨k1508, k1509, k1510, k1511⟩ := E1503
                        have f1512 : fl (us σ 60 22 v1505) 22 = (p1506 : Int) := fl_at.trans hv1507
                        have f1513 : fl (us σ 60 22 v1505) 12 = (T : Int) := (fl_o rfl).trans tl.2.1
                        refine yT.if1 (t := 203) (pc' := 199) rfl rfl rfl (c1_eq rfl) (fun c1514 => ?_) (fun c1514 => ?_)
                        · refine yT.kI (pc' := 204) rfl rfl (by decide) (fun x1515 e1516 => ?_)
                          exact yT.retZ rfl rfl (b01 (by omega) (by omega)) ⟨_, p1506, _, hT1502, (by omega), rfl, ⟨by omega, by omega, by omega, fun h => by omega⟩⟩
                        · refine yT.kI (pc' := 200) rfl rfl (by decide) (fun x1517 e1518 => ?_)
                          refine yT.p (pc' := 204) rfl rfl (fun _ _ _ _ => rfl) ?_
                          exact yT.retZ rfl rfl (b01 (by omega) (by omega)) ⟨_, p1506, _, hT1502, (by omega), rfl, ⟨by omega, by omega, by omega, fun h => (by have s1 := k1511 (by omega); rw [s1.2]; exact PK.b (by omega) (k1493 (by omega)) (by omega))⟩⟩
                  · refine yT.aan (pc' := 173) (xg_ne g0 rfl) rfl rfl rfl ?_
                    refine kRC (yT.cc (G2 := 0) (pc' := 176) rfl rfl rfl hT1276 (K.up rfl : xnth ks 60 = some (19, 0)) xM_201 (R (p1 := p + 1) hT1276 (by omega) (by omega) (by omega)) rfl (by omega) (by decide) rfl) (fun h1519 v1523 p1524 x1522 hT1520 hv1525 E1521 => ?_)
                    obtain ⟨k1526, k1527, k1528, k1529⟩ := E1521
                    have f1530 : fl (us σ 60 22 v1523) 22 = (p1524 : Int) := fl_at.trans hv1525
                    have f1531 : fl (us σ 60 22 v1523) 12 = (T : Int) := (fl_o rfl).trans tl.2.1
                    exact yT.retZ rfl rfl (b01 (by omega) (by omega)) ⟨_, p1524, _, hT1520, (by omega), rfl, ⟨by omega, by omega, by omega, fun h => (by exact PK.m (by omega) (k1529 (by omega)))⟩⟩
                · refine yT.aan (pc' := 162) (xg_ne g0 rfl) rfl rfl rfl ?_
                  refine kRC (yT.cc (G2 := 0) (pc' := 165) rfl rfl rfl hT1276 (K.up rfl : xnth ks 60 = some (19, 0)) xM_200 (r200 (p := p + 1) K hT1276 (by omega) tl (by omega) hcm) rfl (by omega) (by decide) rfl) (fun h1532 v1536 p1537 x1535 hT1533 hv1538 E1534 => ?_)
                  obtain ⟨k1539, k1540, k1541, k1542⟩ := E1534
                  have f1543 : fl (us σ 60 22 v1536) 22 = (p1537 : Int) := fl_at.trans hv1538
                  have f1544 : fl (us σ 60 22 v1536) 12 = (T : Int) := (fl_o rfl).trans tl.2.1
                  exact yT.retZ rfl rfl (b01 (by omega) (by omega)) ⟨_, p1537, _, hT1533, (by omega), rfl, ⟨by omega, by omega, by omega, fun h => (by have h1 := k1542 (by omega); rw [h1.2]; exact PK.u (by omega) h1.1)⟩⟩
              · refine yT.kI (pc' := 144) rfl rfl (by decide) (fun x1545 e1546 => ?_)
                exact yT.retZ rfl rfl (b01 (by omega) (by omega)) ⟨_, p, _, hT131, (by omega), rfl, ⟨by omega, by omega, by omega, fun h => by omega⟩⟩
    · refine yT.aan (pc' := 109) (xg_ne g0 rfl) rfl rfl rfl ?_
      refine kRC (yT.cc (G2 := 0) (pc' := 112) rfl rfl rfl hT131 (K.up rfl : xnth ks 60 = some (19, 0)) xM_200 (r200 (p := p) K hT131 (by omega) tl (by omega) hcm) rfl (by omega) (by decide) rfl) (fun h1547 v1551 p1552 x1550 hT1548 hv1553 E1549 => ?_)
      obtain ⟨k1554, k1555, k1556, k1557⟩ := E1549
      have f1558 : fl (us σ 60 22 v1551) 22 = (p1552 : Int) := fl_at.trans hv1553
      have f1559 : fl (us σ 60 22 v1551) 12 = (T : Int) := (fl_o rfl).trans tl.2.1
      exact yT.retZ rfl rfl (b01 (by omega) (by omega)) ⟨_, p1552, _, hT1548, (by omega), rfl, ⟨by omega, by omega, by omega, fun h => (by have h1 := k1557 (by omega); rw [h1.2]; exact PK.l h1.1)⟩⟩
  · refine yT.kI (pc' := 24) rfl rfl (by decide) (fun x1560 e1561 => ?_)
    refine yT.p (pc' := 25) (lv' := xst1 _ 2 (.int x1560)) rfl rfl (fun _ _ _ _ => rfl) ?_
    have L1562 : ∀ (n1578 : Nat) (lv1563 : xLv) (v1564 : Int32) (q1565 : Nat) (h1567 : List xE) (k1570 : Nat) (x1569 : Int32), HT ks (us σ 60 22 v1564) ρ h1567 → v1564.toInt = (q1565 : Int) → x1569.toInt = (k1570 : Int) → xget lv1563 0 = some (.ref (60 + 1)) → xget lv1563 2 = some (.int x1569) → q1565 = p + (k1570) → (k1570) ≤ 3 → DG L p (k1570) → q1565 ≤ T → 3 - (k1570) < n1578 → yT 0 [] rX9_isPart (4 * (T - p) + 10) 0 25 lv1563 [] h1567 (RCI ks ρ σ (RG 3 L T p)) := by
      intro n1578
      induction n1578 with
      | zero => intro lv1563 v1564 q1565 h1567 k1570 x1569 hT1568 hv1566 e1571 g1572 g1573 i1574 i1575 i1576 i1577 m1579; exact absurd m1579 (Nat.not_lt_zero _)
      | succ n1578 ih1580 =>
        intro lv1563 v1564 q1565 h1567 k1570 x1569 hT1568 hv1566 e1571 g1572 g1573 i1574 i1575 i1576 i1577 m1579
        have f1581 : fl (us σ 60 22 v1564) 22 = (q1565 : Int) := fl_at.trans hv1566
        have f1582 : fl (us σ 60 22 v1564) 12 = (T : Int) := (fl_o rfl).trans tl.2.1
        refine yT.iln (pc' := 26) g1573 rfl rfl ?_
        refine yT.kI (pc' := 27) rfl rfl (by decide) (fun x1583 e1584 => ?_)
        refine yT.if2 (t := 67) (pc' := 30) rfl rfl rfl (c2_ge e1571 e1584) (fun c1585 => ?_) (fun c1585 => ?_)
        · refine yT.aan (pc' := 68) g1572 rfl rfl rfl ?_
          refine yT.aan (pc' := 69) g1572 rfl rfl rfl ?_
          refine yT.cgX (pc' := 72) rfl rfl hT1568 (K.up rfl) rfl rfl (fun x1586 _ i1587 j1588 z1589 => ?_)
          have e1590 : x1586.toInt = (q1565 : Int) := (congrArg Int32.toInt z1589).trans f1581
          refine kSI (yT.cc (G2 := 0) (pc' := 75) rfl rfl rfl hT1568 (K.up rfl : xnth ks 60 = some (19, 0)) xM_195 (r195 (k := q1565) K hT1568 e1590) rfl (by omega) (by decide) rfl) (fun h1591 x1594 hT1592 E1593 => ?_)
          have e1595 : x1594.toInt = L.1 (q1565) := E1593.trans (tp_us.trans (tl.1 _))
          refine yT.i2l2 (pc' := 76) (X := (L.1 (q1565))) e1595 rfl rfl (fun y1596 e1597 => ?_)
          refine yT.ld2 (pc' := 79) (X := 48) rfl rfl rfl (by decide) (fun y1598 e1599 => ?_)
          refine yT.ld2 (pc' := 82) (X := 57) rfl rfl rfl (by decide) (fun y1600 e1601 => ?_)
          refine kSI (yT.cst (G2 := 0) (pc' := 85) rfl rfl xM_163 (r163 (v := (L.1 (q1565))) (lo := 48) (hi := 57) K hT1592 e1597 e1599 e1601) rfl (by omega) (by decide) rfl) (fun h1602 x1605 hT1603 E1604 => ?_)
          refine yT.if1 (t := 92) (pc' := 88) rfl rfl rfl (c1_ne rfl) (fun c1606 => ?_) (fun c1606 => ?_)
          · refine yT.kI (pc' := 93) rfl rfl (by decide) (fun x1607 e1608 => ?_)
            exact yT.retZ rfl rfl (b01 (by omega) (by omega)) ⟨_, q1565, _, hT1603, (by omega), rfl, ⟨by omega, by omega, by omega, fun h => by omega⟩⟩
          · refine yT.kI (pc' := 89) rfl rfl (by decide) (fun x1609 e1610 => ?_)
            refine yT.p (pc' := 93) rfl rfl (fun _ _ _ _ => rfl) ?_
            exact yT.retZ rfl rfl (b01 (by omega) (by omega)) ⟨_, q1565, _, hT1603, (by omega), rfl, ⟨by omega, by omega, by omega, fun h => (by exact PK.nk (by omega) i1575 i1574 i1576 (by omega))⟩⟩
        · refine yT.aan (pc' := 31) g1572 rfl rfl rfl ?_
          refine yT.aan (pc' := 32) g1572 rfl rfl rfl ?_
          refine yT.cgX (pc' := 35) rfl rfl hT1568 (K.up rfl) rfl rfl (fun x1611 _ i1612 j1613 z1614 => ?_)
          have e1615 : x1611.toInt = (q1565 : Int) := (congrArg Int32.toInt z1614).trans f1581
          refine kSI (yT.cc (G2 := 0) (pc' := 38) rfl rfl rfl hT1568 (K.up rfl : xnth ks 60 = some (19, 0)) xM_195 (r195 (k := q1565) K hT1568 e1615) rfl (by omega) (by decide) rfl) (fun h1616 x1619 hT1617 E1618 => ?_)
          have e1620 : x1619.toInt = L.1 (q1565) := E1618.trans (tp_us.trans (tl.1 _))
          refine yT.i2l2 (pc' := 39) (X := (L.1 (q1565))) e1620 rfl rfl (fun y1621 e1622 => ?_)
          refine yT.ld2 (pc' := 42) (X := 48) rfl rfl rfl (by decide) (fun y1623 e1624 => ?_)
          refine yT.ld2 (pc' := 45) (X := 57) rfl rfl rfl (by decide) (fun y1625 e1626 => ?_)
          refine kSI (yT.cst (G2 := 0) (pc' := 48) rfl rfl xM_163 (r163 (v := (L.1 (q1565))) (lo := 48) (hi := 57) K hT1617 e1622 e1624 e1626) rfl (by omega) (by decide) rfl) (fun h1627 x1630 hT1628 E1629 => ?_)
          refine yT.if1 (t := 67) (pc' := 51) rfl rfl rfl (c1_eq rfl) (fun c1631 => ?_) (fun c1631 => ?_)
          · refine yT.aan (pc' := 68) g1572 rfl rfl rfl ?_
            refine yT.aan (pc' := 69) g1572 rfl rfl rfl ?_
            refine yT.cgX (pc' := 72) rfl rfl hT1628 (K.up rfl) rfl rfl (fun x1632 _ i1633 j1634 z1635 => ?_)
            have e1636 : x1632.toInt = (q1565 : Int) := (congrArg Int32.toInt z1635).trans f1581
            refine kSI (yT.cc (G2 := 0) (pc' := 75) rfl rfl rfl hT1628 (K.up rfl : xnth ks 60 = some (19, 0)) xM_195 (r195 (k := q1565) K hT1628 e1636) rfl (by omega) (by decide) rfl) (fun h1637 x1640 hT1638 E1639 => ?_)
            have e1641 : x1640.toInt = L.1 (q1565) := E1639.trans (tp_us.trans (tl.1 _))
            refine yT.i2l2 (pc' := 76) (X := (L.1 (q1565))) e1641 rfl rfl (fun y1642 e1643 => ?_)
            refine yT.ld2 (pc' := 79) (X := 48) rfl rfl rfl (by decide) (fun y1644 e1645 => ?_)
            refine yT.ld2 (pc' := 82) (X := 57) rfl rfl rfl (by decide) (fun y1646 e1647 => ?_)
            refine kSI (yT.cst (G2 := 0) (pc' := 85) rfl rfl xM_163 (r163 (v := (L.1 (q1565))) (lo := 48) (hi := 57) K hT1638 e1643 e1645 e1647) rfl (by omega) (by decide) rfl) (fun h1648 x1651 hT1649 E1650 => ?_)
            refine yT.if1 (t := 92) (pc' := 88) rfl rfl rfl (c1_ne rfl) (fun c1652 => ?_) (fun c1652 => ?_)
            · refine yT.kI (pc' := 93) rfl rfl (by decide) (fun x1653 e1654 => ?_)
              exact yT.retZ rfl rfl (b01 (by omega) (by omega)) ⟨_, q1565, _, hT1649, (by omega), rfl, ⟨by omega, by omega, by omega, fun h => by omega⟩⟩
            · refine yT.kI (pc' := 89) rfl rfl (by decide) (fun x1655 e1656 => ?_)
              refine yT.p (pc' := 93) rfl rfl (fun _ _ _ _ => rfl) ?_
              exact yT.retZ rfl rfl (b01 (by omega) (by omega)) ⟨_, q1565, _, hT1649, (by omega), rfl, ⟨by omega, by omega, by omega, fun h => (by exact PK.nk (by omega) i1575 i1574 i1576 (by omega))⟩⟩
          · have hlt := tl.in (j := (q1565)) (by omega)
            refine yT.aan (pc' := 52) g1572 rfl rfl rfl ?_
            refine yT.p (pc' := 53) rfl rfl (fun _ _ _ _ => rfl) ?_
            refine yT.cgX (pc' := 56) rfl rfl hT1628 (K.up rfl) rfl rfl (fun x1657 _ i1658 j1659 z1660 => ?_)
            have e1661 : x1657.toInt = (q1565 : Int) := (congrArg Int32.toInt z1660).trans f1581
            refine yT.kI (pc' := 57) rfl rfl (by decide) (fun x1662 e1663 => ?_)
            refine yT.ad2 (pc' := 58) (Z := (q1565 : Int) + 1) e1661 e1663 rfl rfl (by omega) (fun x1664 e1665 => ?_)
            refine yT.cpX (c := x1664) (pc' := 61) rfl rfl hT1628 (K.up rfl) rfl rfl rfl e1665 (by omega) rfl (fun h1666 hT1667 _ _ => ?_)
            rw [us_us] at hT1667
            have f1668 : fl (us σ 60 22 x1664) 22 = (q1565 : Int) + 1 := fl_at.trans e1665
            have f1669 : fl (us σ 60 22 x1664) 12 = (T : Int) := (fl_o rfl).trans tl.2.1
            refine yT.inc2 (pc' := 64) (Z := (k1570 : Int) + 1) g1573 e1571 rfl rfl rfl ⟨by decide, by omega⟩ (fun x1670 e1671 => ?_)
            refine yT.p (pc' := 25) rfl rfl (fun _ _ _ _ => rfl) ?_
            exact ih1580 _ _ (q1565 + 1) _ (k1570 + 1) x1670 hT1667 (by omega) (by omega) (xg_ne g1572 rfl) xg_eq (by omega) (by omega) (i1576.s i1574 (by omega)) (by omega) (by omega)
    exact L1562 _ _ _ (p) _ (0) x1560 hT120 (by omega) (by omega) (xg_ne (xg_ne g0 rfl) rfl) xg_eq (by omega) (by omega) DG.z (by omega) (Nat.lt_succ_self _)
