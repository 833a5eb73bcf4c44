-- rX9_disposesOwnr
set_option maxRecDepth 100000 in
set_option maxHeartbeats 4000000 in
theorem r189r {ks : List cT} {B0 : Nat} (K : KE KS0 ks B0) {σ : sg} {ρ : Nat → xE} {h : List xE} (hT : HT ks σ ρ h) {c : Nat} {x1 : Int32} (e1 : x1.toInt = (c : Int)) (R : ∀ {σ1 : sg} {h1 : List xE} {k : Nat} {x : Int32}, KE KS0 ks B0 → HT ks σ1 ρ h1 → x.toInt = (k : Int) → k < 24 → c < k → RO σ1 → 0 ≤ nw σ1 6856 ∧ gm σ1 ≤ 1000000 → nw σ1 (282 * k + 2) ≠ 1 → yM 190 (2 * (24 - k) + 8) 0 [.ref (60 + 1), .int x] h1 (RQV ks ρ (DF k σ1))) (p0 : c < 24) (p1 : RO σ) (p2 : 0 ≤ nw σ 6856 ∧ gm σ ≤ 1000000) : yM 189 (2 * (23 - c) + 9) 0 [.ref (60 + 1), .int x1] h (RQV ks ρ (fun σ' => DF (c + 1) σ σ')) := by
  refine yM.st xM_189 rfl rfl (fun lv g => ?_)
  have g0 := g 0 _ rfl
  have g1 := g 1 _ rfl
  have hcm := p1.1
  refine yT.aan (pc' := 1) g0 rfl rfl rfl ?_
  refine yT.cg8 (pc' := 4) rfl rfl hT (K.up rfl) rfl rfl (fun _ => ?_)
  refine yT.ks (pc' := 7) rfl rfl (by decide) (fun x101 e102 => ?_)
  refine yT.tia (6768) (pc' := 8) rfl rfl hT (K.up rfl) e102 (by omega) (fun x103 z105 => ?_)
  have e104 : x103.toInt = nw σ (6768) := congrArg Int32.toInt z105
  refine yT.kI (pc' := 9) rfl rfl (by decide) (fun x106 e107 => ?_)
  refine yT.sb2 (pc' := 10) (Z := (nw σ (6768)) - 1) e104 e107 rfl rfl (by omega) (fun x108 e109 => ?_)
  refine yT.p (pc' := 11) (lv' := xst1 _ 2 (.int x108)) rfl rfl (fun _ _ _ _ => rfl) ?_
  have L110 : ∀ (n121 : Nat) (lv111 : xLv) (σ112 : sg) (h113 : List xE) (x115 : Int32), HT ks σ112 ρ h113 → xget lv111 0 = some (.ref (60 + 1)) → xget lv111 1 = some (.int x1) → xget lv111 2 = some (.int x115) → DF (c + 1) σ σ112 → -1 ≤ (x115.toInt) ∧ (x115.toInt) < nw σ 6768 → ((x115.toInt) + 1).toNat < n121 → yT 0 [] rX9_disposesOwn (2 * (23 - c) + 9) 0 11 lv111 [] h113 (RQV ks ρ (fun σ' => DF (c + 1) σ σ')) := by
    intro n121
    induction n121 with
    | zero => intro lv111 σ112 h113 x115 hT114 g116 g117 g118 i119 i120 m122; exact absurd m122 (Nat.not_lt_zero _)
    | succ n121 ih123 =>
      intro lv111 σ112 h113 x115 hT114 g116 g117 g118 i119 i120 m122
      have hcm1 := i119.2.1 6768 (by unfold sd; omega)
      refine yT.iln (pc' := 12) g118 rfl rfl ?_
      refine yT.if1 (t := 45) (pc' := 15) rfl rfl rfl (c1_lt rfl) (fun c124 => ?_) (fun c124 => ?_)
      · exact yT.retV rfl rfl ⟨_, hT114, rfl, i119⟩
      · refine yT.aan (pc' := 16) g116 rfl rfl rfl ?_
        refine yT.iln (pc' := 17) g118 rfl rfl ?_
        refine yT.kI (pc' := 18) rfl rfl (by decide) (fun x125 e126 => ?_)
        refine kSI (yT.cc (G2 := 0) (pc' := 21) rfl rfl rfl hT114 (K.up rfl : xnth ks 60 = some (19, 0)) xM_166 (r166 (c := (x115.toInt).toNat) (w := 1) K hT114 (by omega) (by omega) (by omega)) rfl (by omega) (by decide) rfl) (fun h127 x130 hT128 E129 => ?_)
        refine yT.iln (pc' := 22) g117 rfl rfl ?_
        refine yT.if2 (t := 39) (pc' := 25) rfl rfl rfl (c2_ne E129 e1) (fun c131 => ?_) (fun c131 => ?_)
        · refine yT.inc2 (pc' := 42) (Z := x115.toInt - 1) g118 rfl rfl rfl rfl ⟨by decide, by omega⟩ (fun x132 e133 => ?_)
          refine yT.p (pc' := 11) rfl rfl (fun _ _ _ _ => rfl) ?_
          exact ih123 _ σ112 _ x132 hT128 (xg_ne g116 rfl) (xg_ne g117 rfl) xg_eq (by first | exact i119 | exact DF.tr i119 trivial (by omega)) (by omega) (by omega)
        · refine yT.aan (pc' := 26) g116 rfl rfl rfl ?_
          refine yT.iln (pc' := 27) g118 rfl rfl ?_
          refine yT.kI (pc' := 28) rfl rfl (by decide) (fun x134 e135 => ?_)
          refine kSI (yT.cc (G2 := 0) (pc' := 31) rfl rfl rfl hT128 (K.up rfl : xnth ks 60 = some (19, 0)) xM_166 (r166 (c := (x115.toInt).toNat) (w := 2) K hT128 (by omega) (by omega) (by omega)) rfl (by omega) (by decide) rfl) (fun h136 x139 hT137 E138 => ?_)
          refine yT.if1 (t := 39) (pc' := 34) rfl rfl rfl (c1_ne E138) (fun c140 => ?_) (fun c140 => ?_)
          · refine yT.inc2 (pc' := 42) (Z := x115.toInt - 1) g118 rfl rfl rfl rfl ⟨by decide, by omega⟩ (fun x141 e142 => ?_)
            refine yT.p (pc' := 11) rfl rfl (fun _ _ _ _ => rfl) ?_
            exact ih123 _ σ112 _ x141 hT137 (xg_ne g116 rfl) (xg_ne g117 rfl) xg_eq (by first | exact i119 | exact DF.tr i119 trivial (by omega)) (by omega) (by omega)
          · refine yT.aan (pc' := 35) g116 rfl rfl rfl ?_
            refine yT.iln (pc' := 36) g118 rfl rfl ?_
            have hck : c < ((x115.toInt)).toNat := by have := (i119.2.2.2.1).2.2.2 ((x115.toInt)).toNat (by omega); omega
            refine kRV (yT.cc (G2 := 0) (pc' := 39) rfl rfl rfl hT137 (K.up rfl : xnth ks 60 = some (19, 0)) xM_190 (R (k := (x115.toInt).toNat) K hT137 (by omega) (by omega) hck i119.2.2.2.1 ⟨i119.2.2.2.2.1, Int.le_trans i119.2.2.2.2.2 p2.2⟩ (by omega)) rfl (by omega) (by decide) rfl) (fun h143 σ147 hT144 E145 => ?_)
            refine yT.inc2 (pc' := 42) (Z := x115.toInt - 1) g118 rfl rfl rfl rfl ⟨by decide, by omega⟩ (fun x148 e149 => ?_)
            refine yT.p (pc' := 11) rfl rfl (fun _ _ _ _ => rfl) ?_
            exact ih123 _ σ147 _ x148 hT144 (xg_ne g116 rfl) (xg_ne g117 rfl) xg_eq (by first | exact i119 | exact DF.tr i119 E145 (by omega)) (by omega) (by omega)
  exact L110 _ _ σ _ x108 hT (xg_ne g0 rfl) (xg_ne g1 rfl) xg_eq (DF.rf p1 p2.1) (by omega) (Nat.lt_succ_self _)
-- rX9_disposesr
set_option maxRecDepth 100000 in
set_option maxHeartbeats 4000000 in
theorem r190r {ks : List cT} {B0 : Nat} (K : KE KS0 ks B0) {σ : sg} {ρ : Nat → xE} {h : List xE} (hT : HT ks σ ρ h) {c : Nat} {x1 : Int32} (e1 : x1.toInt = (c : Int)) (O : ∀ {σ1 : sg} {h1 : List xE} {k : Nat} {x : Int32}, KE KS0 ks B0 → HT ks σ1 ρ h1 → x.toInt = (k : Int) → k = c → RO σ1 → 0 ≤ nw σ1 6856 ∧ gm σ1 ≤ 1000000 → yM 189 (2 * (23 - k) + 9) 0 [.ref (60 + 1), .int x] h1 (RQV ks ρ (DF (k + 1) σ1))) (p0 : c < 24) (p1 : RO σ) (p2 : 0 ≤ nw σ 6856 ∧ gm σ ≤ 1000000) (p3 : nw σ (282 * c + 2) ≠ 1) : yM 190 (2 * (24 - c) + 8) 0 [.ref (60 + 1), .int x1] h (RQV ks ρ (fun σ' => DF c σ σ')) := by
  refine yM.st xM_190 rfl rfl (fun lv g => ?_)
  have g0 := g 0 _ rfl
  have g1 := g 1 _ rfl
  refine yT.aan (pc' := 1) g0 rfl rfl rfl ?_
  refine yT.iln (pc' := 2) g1 rfl rfl ?_
  refine kRV (yT.cc (G2 := 0) (pc' := 5) rfl rfl rfl hT (K.up rfl : xnth ks 60 = some (19, 0)) xM_189 (O (k := c) K hT e1 (by omega) p1 p2) rfl (by omega) (by decide) rfl) (fun h101 σ105 hT102 E103 => ?_)
  have d0 := E103
  have hg := d0.2.2.1 c (by omega)
  have hg : nw σ105 (282 * c + 2) ≠ 1 := by rw [hg]; exact p3
  have hgm := cnt_b (σ := σ105) 24
  have hgl := d0.2.2.2.2.2
  unfold gm at hgl p2
  refine yT.aan (pc' := 6) g0 rfl rfl rfl ?_
  refine yT.iln (pc' := 7) g1 rfl rfl ?_
  refine yT.kI (pc' := 8) rfl rfl (by decide) (fun x106 e107 => ?_)
  refine yT.kI (pc' := 9) rfl rfl (by decide) (fun x108 e109 => ?_)
  refine kRV (yT.cc (G2 := 0) (pc' := 12) rfl rfl rfl hT102 (K.up rfl : xnth ks 60 = some (19, 0)) xM_167 (r167 (c := c) (w := 2) K hT102 e1 (by omega) x108 (by omega)) rfl (by omega) (by decide) rfl) (fun h110 σ114 hT111 E112 => ?_)
  have ee1 := E112
  have h1 := d0.2.2.2.1.s2 (c := c) (v := x108) p0 (Or.inl rfl)
  rw [← ee1] at h1
  refine yT.aan (pc' := 13) g0 rfl rfl rfl ?_
  refine yT.iln (pc' := 14) g1 rfl rfl ?_
  refine kRV (yT.cc (G2 := 0) (pc' := 17) rfl rfl rfl hT111 (K.up rfl : xnth ks 60 = some (19, 0)) xM_187 (r187  K hT111 x1 h1.2.1) rfl (by omega) (by decide) rfl) (fun h115 σ119 hT116 E117 => ?_)
  have q2 := E117
  have h2 := h1.qs q2
  refine yT.aan (pc' := 18) g0 rfl rfl rfl ?_
  refine yT.iln (pc' := 19) g1 rfl rfl ?_
  refine yT.kI (pc' := 20) rfl rfl (by decide) (fun x120 e121 => ?_)
  refine yT.kI (pc' := 21) rfl rfl (by decide) (fun x122 e123 => ?_)
  refine kRV (yT.cc (G2 := 0) (pc' := 24) rfl rfl rfl hT116 (K.up rfl : xnth ks 60 = some (19, 0)) xM_167 (r167 (c := c) (w := 3) K hT116 e1 (by omega) x122 (by omega)) rfl (by omega) (by decide) rfl) (fun h124 σ128 hT125 E126 => ?_)
  have ee3 := E126
  have h3 : RO σ128 := by rw [ee3]; exact h2.s2 p0 (Or.inr rfl)
  have hn : nw σ128 6856 = nw σ105 6856 := gone_eq p0 ee1 q2 ee3
  have hn0 := d0.2.2.2.2.1
  refine yT.aan (pc' := 25) g0 rfl rfl rfl ?_
  refine yT.cg8 (pc' := 28) rfl rfl hT125 (K.up rfl) rfl rfl (fun _ => ?_)
  refine yT.ks (pc' := 31) rfl rfl (by decide) (fun x129 e130 => ?_)
  refine yT.tia (6856) (pc' := 32) rfl rfl hT125 (K.up rfl) e130 (by omega) (fun x131 z133 => ?_)
  have e132 : x131.toInt = nw σ128 (6856) := congrArg Int32.toInt z133
  refine yT.p (pc' := 33) (lv' := xst1 _ 2 (.int x131)) rfl rfl (fun _ _ _ _ => rfl) ?_
  refine yT.iln (pc' := 34) xg_eq rfl rfl ?_
  refine yT.kb (pc' := 36) rfl rfl (by decide) (fun x134 e135 => ?_)
  refine yT.if2 (t := 50) (pc' := 39) rfl rfl rfl (c2_ge e132 e135) (fun c136 => ?_) (fun c136 => ?_)
  · refine yT.aan (pc' := 51) (xg_ne g0 rfl) rfl rfl rfl ?_
    refine yT.cg8 (pc' := 54) rfl rfl hT125 (K.up rfl) rfl rfl (fun _ => ?_)
    refine yT.ks (pc' := 57) rfl rfl (by decide) (fun x137 e138 => ?_)
    refine yT.iln (pc' := 58) xg_eq rfl rfl ?_
    refine yT.kI (pc' := 59) rfl rfl (by decide) (fun x139 e140 => ?_)
    refine yT.ad2 (pc' := 60) (Z := (nw σ128 (6856)) + 1) e132 e140 rfl rfl (by omega) (fun x141 e142 => ?_)
    refine yT.tis (6856) (pc' := 61) rfl rfl hT125 (K.up rfl) e138 (by omega) (fun h143 hT144 => ?_)
    have h4 : RO (us σ128 61 (6856) x141) := h3.sg1
    have ee4 : (∀ q, q ≠ 61 → (us σ128 61 (6856) x141) q = σ128 q) ∧ (∀ i, i < 6856 ∨ i = 6917 → nw (us σ128 61 (6856) x141) i = nw σ128 i) ∧ nw (us σ128 61 (6856) x141) 6856 = nw σ128 6856 + 1 := e4b (by omega)
    refine yT.aan (pc' := 62) (xg_ne g0 rfl) rfl rfl rfl ?_
    refine yT.p (pc' := 63) rfl rfl (fun _ _ _ _ => rfl) ?_
    refine yT.cgI (pc' := 66) rfl rfl hT144 (K.up rfl) rfl rfl (fun x145 _ => ?_)
    refine yT.kI (pc' := 67) rfl rfl (by decide) (fun x146 e147 => ?_)
    refine yT.fi (pc' := 68) rfl rfl (fun _ _ _ _ => rfl) (fun x148 => ?_)
    refine yT.cpI (pc' := 71) rfl rfl hT144 (K.up rfl) rfl rfl rfl (fun h149 hT150 _ _ => ?_)
    refine yT.aan (pc' := 72) (xg_ne g0 rfl) rfl rfl rfl ?_
    refine yT.iln (pc' := 73) (xg_ne g1 rfl) rfl rfl ?_
    refine yT.kb (pc' := 75) rfl rfl (by decide) (fun x151 e152 => ?_)
    refine yT.kI (pc' := 76) rfl rfl (by decide) (fun x153 e154 => ?_)
    refine kRV (yT.cc (G2 := 0) (pc' := 79) rfl rfl rfl hT150 (K.up rfl : xnth ks 60 = some (19, 0)) xM_167 (r167 (c := c) (w := 6) K hT150 e1 (by omega) x153 (by omega)) rfl (by omega) (by decide) rfl) (fun h155 σ159 hT156 E157 => ?_)
    have ee5 := E157
    have h5 : RO σ159 := by rw [ee5]; exact h4.rm p0 (by omega)
    refine yT.aan (pc' := 80) (xg_ne g0 rfl) rfl rfl rfl ?_
    refine yT.iln (pc' := 81) (xg_ne g1 rfl) rfl rfl ?_
    refine yT.kI (pc' := 82) rfl rfl (by decide) (fun x160 e161 => ?_)
    refine kRV (yT.cc (G2 := 0) (pc' := 85) rfl rfl rfl hT156 (K.up rfl : xnth ks 60 = some (19, 0)) xM_188 (r188  K hT156 x1 x160 h5.1 h5.2.1 h5.rd) rfl (by omega) (by decide) rfl) (fun h162 σ166 hT163 E164 => ?_)
    exact yT.retV rfl rfl ⟨_, hT163, rfl, (DF.go d0 p0 hg ee1 (by omega) q2 ee3 ee4 ee5 h5 E164)⟩
  · refine yT.aan (pc' := 40) (xg_ne g0 rfl) rfl rfl rfl ?_
    refine yT.cg8 (pc' := 43) rfl rfl hT125 (K.up rfl) rfl rfl (fun _ => ?_)
    refine yT.ks (pc' := 46) rfl rfl (by decide) (fun x167 e168 => ?_)
    refine yT.iln (pc' := 47) xg_eq rfl rfl ?_
    refine yT.ad2 (pc' := 48) (Z := (nw σ128 (6856)) + 6857) e168 e132 rfl rfl (by omega) (fun x169 e170 => ?_)
    refine yT.iln (pc' := 49) (xg_ne g1 rfl) rfl rfl ?_
    refine yT.tis ((nw σ128 (6856)).toNat + 6857) (pc' := 50) rfl rfl hT125 (K.up rfl) e170 (by omega) (fun h171 hT172 => ?_)
    refine yT.aan (pc' := 51) (xg_ne g0 rfl) rfl rfl rfl ?_
    refine yT.cg8 (pc' := 54) rfl rfl hT172 (K.up rfl) rfl rfl (fun _ => ?_)
    refine yT.ks (pc' := 57) rfl rfl (by decide) (fun x173 e174 => ?_)
    refine yT.iln (pc' := 58) xg_eq rfl rfl ?_
    refine yT.kI (pc' := 59) rfl rfl (by decide) (fun x175 e176 => ?_)
    refine yT.ad2 (pc' := 60) (Z := (nw σ128 (6856)) + 1) e132 e176 rfl rfl (by omega) (fun x177 e178 => ?_)
    refine yT.tis (6856) (pc' := 61) rfl rfl hT172 (K.up rfl) e174 (by omega) (fun h179 hT180 => ?_)
    have h4 : RO (us (us σ128 61 ((nw σ128 (6856)).toNat + 6857) x1) 61 (6856) x177) := h3.sg2
    have ee4 : (∀ q, q ≠ 61 → (us (us σ128 61 ((nw σ128 (6856)).toNat + 6857) x1) 61 (6856) x177) q = σ128 q) ∧ (∀ i, i < 6856 ∨ i = 6917 → nw (us (us σ128 61 ((nw σ128 (6856)).toNat + 6857) x1) 61 (6856) x177) i = nw σ128 i) ∧ nw (us (us σ128 61 ((nw σ128 (6856)).toNat + 6857) x1) 61 (6856) x177) 6856 = nw σ128 6856 + 1 := e4a (by omega) (by omega)
    refine yT.aan (pc' := 62) (xg_ne g0 rfl) rfl rfl rfl ?_
    refine yT.p (pc' := 63) rfl rfl (fun _ _ _ _ => rfl) ?_
    refine yT.cgI (pc' := 66) rfl rfl hT180 (K.up rfl) rfl rfl (fun x181 _ => ?_)
    refine yT.kI (pc' := 67) rfl rfl (by decide) (fun x182 e183 => ?_)
    refine yT.fi (pc' := 68) rfl rfl (fun _ _ _ _ => rfl) (fun x184 => ?_)
    refine yT.cpI (pc' := 71) rfl rfl hT180 (K.up rfl) rfl rfl rfl (fun h185 hT186 _ _ => ?_)
    refine yT.aan (pc' := 72) (xg_ne g0 rfl) rfl rfl rfl ?_
    refine yT.iln (pc' := 73) (xg_ne g1 rfl) rfl rfl ?_
    refine yT.kb (pc' := 75) rfl rfl (by decide) (fun x187 e188 => ?_)
    refine yT.kI (pc' := 76) rfl rfl (by decide) (fun x189 e190 => ?_)
    refine kRV (yT.cc (G2 := 0) (pc' := 79) rfl rfl rfl hT186 (K.up rfl : xnth ks 60 = some (19, 0)) xM_167 (r167 (c := c) (w := 6) K hT186 e1 (by omega) x189 (by omega)) rfl (by omega) (by decide) rfl) (fun h191 σ195 hT192 E193 => ?_)
    have ee5 := E193
    have h5 : RO σ195 := by rw [ee5]; exact h4.rm p0 (by omega)
    refine yT.aan (pc' := 80) (xg_ne g0 rfl) rfl rfl rfl ?_
    refine yT.iln (pc' := 81) (xg_ne g1 rfl) rfl rfl ?_
    refine yT.kI (pc' := 82) rfl rfl (by decide) (fun x196 e197 => ?_)
    refine kRV (yT.cc (G2 := 0) (pc' := 85) rfl rfl rfl hT192 (K.up rfl : xnth ks 60 = some (19, 0)) xM_188 (r188  K hT192 x1 x196 h5.1 h5.2.1 h5.rd) rfl (by omega) (by decide) rfl) (fun h198 σ202 hT199 E200 => ?_)
    exact yT.retV rfl rfl ⟨_, hT199, rfl, (DF.go d0 p0 hg ee1 (by omega) q2 ee3 ee4 ee5 h5 E200)⟩
