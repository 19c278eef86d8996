set_option maxHeartbeats 4000000 in
set_option maxRecDepth 100000 in
theorem s_X12_told_L38 (s_nights : Int32) (s_code : Nat → Int32) (s_codeArg : Nat → Int32) (s_codeFrom : Nat → Int32) (s_found : Nat → Int32) (s_many : Nat → Int32) (s_nightDay : Nat → Int32) (s_sumFrom : Nat → Int32) (p1 : Int32) (x3_86 : Int32) (K81 : Int32 → Int32 → Int32 → Int32 → Int32 → Int32 → Int32 → Int32 → Int32 → Int32 → Int32 → Int32 → Int32 → Int32 → Int32 → (Nat → Int32) → (Nat → Int32) → Option (Int32 × Int32 × Int32 × Int32 × Int32 × Int32 × Int32 × Int32 × Int32 × Int32 × Int32 × Int32 × Int32 × Int32 × (Nat → Int32) × (Nat → Int32))) (hp0 : 0 ≤ s_nights.toInt) (hp1 : s_nights.toInt ≤ 30) (hp2 : tlOK s_code s_codeFrom s_sumFrom s_many) (hK81 : ∀ (a0 : Int32) (a1 : Int32) (a2 : Int32) (a3 : Int32) (a4 : Int32) (a5 : Int32) (a6 : Int32) (a7 : Int32) (a8 : Int32) (a9 : Int32) (a10 : Int32) (a11 : Int32) (a12 : Int32) (a13 : Int32) (a14 : Int32) (a15 : Nat → Int32) (a16 : Nat → Int32), Sf (K81 a0 a1 a2 a3 a4 a5 a6 a7 a8 a9 a10 a11 a12 a13 a14 a15 a16) (fun (y : Int32 × Int32 × Int32 × Int32 × Int32 × Int32 × Int32 × Int32 × Int32 × Int32 × Int32 × Int32 × Int32 × Int32 × (Nat → Int32) × (Nat → Int32)) => True)) : ∀ (n : Nat) (x4_148 : Int32) (x5_149 : Int32) (x6_150 : Int32) (atA__151 : Int32) (atB__152 : Int32) (atD__153 : Int32) (atF__154 : Int32) (atG__155 : Int32) (atH__156 : Int32) (atL__157 : Int32) (atM__158 : Int32) (atN__159 : Int32) (atS__160 : Int32) (atT__161 : Int32) (atU__162 : Int32) (atX__163 : Int32) (isRefused__164 : Nat → Int32) (worth__165 : Nat → Int32), (0 ≤ x6_150.toInt) → (x6_150.toInt ≤ 6) → (7 - x6_150.toInt < (n : Int)) → Sf (f_X12_told_L38 s_nights s_code s_codeArg s_codeFrom s_found s_many s_nightDay s_sumFrom p1 x3_86 K81 n x4_148 x5_149 x6_150 atA__151 atB__152 atD__153 atF__154 atG__155 atH__156 atL__157 atM__158 atN__159 atS__160 atT__161 atU__162 atX__163 isRefused__164 worth__165) (fun (y : Int32 × Int32 × Int32 × Int32 × Int32 × Int32 × Int32 × Int32 × Int32 × Int32 × Int32 × Int32 × Int32 × Int32 × (Nat → Int32) × (Nat → Int32)) => True) := by
  have hFU : (100000 : Int) ≤ (FU : Int) := Int.ofNat_le.mpr FU_ge
  have g1 := rgI s_nights
  have g2 := rgI p1
  have g3 := rgI x3_86
  intro n
  induction n with
  | zero =>
    intro x4_148 x5_149 x6_150 atA__151 atB__152 atD__153 atF__154 atG__155 atH__156 atL__157 atM__158 atN__159 atS__160 atT__161 atU__162 atX__163 isRefused__164 worth__165 hi0 hi1 hm
    have g4 := rgI x4_148
    have g5 := rgI x5_149
    have g6 := rgI x6_150
    have g7 := rgI atA__151
    have g8 := rgI atB__152
    have g9 := rgI atD__153
    have g10 := rgI atF__154
    have g11 := rgI atG__155
    have g12 := rgI atH__156
    have g13 := rgI atL__157
    have g14 := rgI atM__158
    have g15 := rgI atN__159
    have g16 := rgI atS__160
    have g17 := rgI atT__161
    have g18 := rgI atU__162
    have g19 := rgI atX__163
    exact absurd hm (by omega)
  | succ n ih =>
    intro x4_148 x5_149 x6_150 atA__151 atB__152 atD__153 atF__154 atG__155 atH__156 atL__157 atM__158 atN__159 atS__160 atT__161 atU__162 atX__163 isRefused__164 worth__165 hi0 hi1 hm
    rw [f_X12_told_L38]
    have g20 := rgI x4_148
    have g21 := rgI x5_149
    have g22 := rgI x6_150
    have g23 := rgI atA__151
    have g24 := rgI atB__152
    have g25 := rgI atD__153
    have g26 := rgI atF__154
    have g27 := rgI atG__155
    have g28 := rgI atH__156
    have g29 := rgI atL__157
    have g30 := rgI atM__158
    have g31 := rgI atN__159
    have g32 := rgI atS__160
    have g33 := rgI atT__161
    have g34 := rgI atU__162
    have g35 := rgI atX__163
    refine Sf_ite (fun h36 => ?_) (fun h36 => ?_)
    · skip
      have l37 : (6 : Int32).toInt = 6 := by decide
      have c38 := leI h36
      exact hK81 x4_148 x5_149 atA__151 atB__152 atD__153 atF__154 atG__155 atH__156 atL__157 atM__158 atN__159 atS__160 atT__161 atU__162 atX__163 isRefused__164 worth__165 
    · skip
      have l39 : (6 : Int32).toInt = 6 := by decide
      have c40 := nleI h36
      refine Sf_cb1 (s_X12_isTold s_many x6_150 ) (fun r48_169 hp41 => ?_)
      have hp41 : ((r48_169.toInt = 0 ∨ r48_169.toInt = 1)) ∧ (r48_169.toInt = 0 ∨ (0 ≤ x6_150.toInt ∧ x6_150.toInt ≤ 5 ∧ 0 < (s_many (14 + x6_150).toNatClampNeg).toInt)) := hp41
      obtain ⟨hq42, hq43⟩ := hp41
      have g44 := rgI r48_169
      refine Sf_ite (fun h45 => ?_) (fun h45 => ?_)
      · skip
        have l46 : (0 : Int32).toInt = 0 := by decide
        have c47 := eqI h45
        refine Sf_nmI (fun v75_177 hv48 => ?_)
        have g49 := rgI (x6_150 + 1)
        first | have e50 := adN x6_150 1 (1) (by decide) (by omega) (by omega) | skip
        have q51 := eqI hv48
        exact ih x4_148 x5_149 v75_177 atA__151 atB__152 atD__153 atF__154 atG__155 atH__156 atL__157 atM__158 atN__159 atS__160 atT__161 atU__162 atX__163 isRefused__164 worth__165 (by omega) (by omega) (by omega)
      · skip
        have l52 : (0 : Int32).toInt = 0 := by decide
        have c53 := neI h45
        refine Sf_cb16 (s_X12_fallsAt s_nights atA__151 atB__152 atD__153 atF__154 atG__155 atH__156 atL__157 atM__158 atN__159 atS__160 atT__161 atU__162 atX__163 s_code s_codeArg s_codeFrom s_found isRefused__164 s_nightDay s_sumFrom worth__165 x6_150 p1 (by omega) (by omega) (by omega) (by omega) (by first | assumption | exact tl_sg (by assumption) (by omega) (by omega) (by omega))) (fun r58_181 o_atA58_182 o_atB58_183 o_atD58_184 o_atF58_185 o_atG58_186 o_atH58_187 o_atL58_188 o_atM58_189 o_atN58_190 o_atS58_191 o_atT58_192 o_atU58_193 o_atX58_194 o_isRefused58_195 o_worth58_196 hp54 => ?_)
        have g55 := rgI r58_181
        have g56 := rgI o_atA58_182
        have g57 := rgI o_atB58_183
        have g58 := rgI o_atD58_184
        have g59 := rgI o_atF58_185
        have g60 := rgI o_atG58_186
        have g61 := rgI o_atH58_187
        have g62 := rgI o_atL58_188
        have g63 := rgI o_atM58_189
        have g64 := rgI o_atN58_190
        have g65 := rgI o_atS58_191
        have g66 := rgI o_atT58_192
        have g67 := rgI o_atU58_193
        have g68 := rgI o_atX58_194
        refine Sf_ite (fun h69 => ?_) (fun h69 => ?_)
        · skip
          have c70 := ltI h69
          refine Sf_nmI (fun v68_204 hv71 => ?_)
          have g72 := rgI (x4_148 + 1)
          first | have e73 := adN x4_148 1 (1) (by decide) (by omega) (by omega) | skip
          have q74 := eqI hv71
          refine Sf_nmI (fun v75_209 hv75 => ?_)
          have g76 := rgI (x6_150 + 1)
          first | have e77 := adN x6_150 1 (1) (by decide) (by omega) (by omega) | skip
          have q78 := eqI hv75
          exact ih v68_204 x6_150 v75_209 o_atA58_182 o_atB58_183 o_atD58_184 o_atF58_185 o_atG58_186 o_atH58_187 o_atL58_188 o_atM58_189 o_atN58_190 o_atS58_191 o_atT58_192 o_atU58_193 o_atX58_194 o_isRefused58_195 o_worth58_196 (by omega) (by omega) (by omega)
        · skip
          have c79 := nltI h69
          refine Sf_nmI (fun v75_213 hv80 => ?_)
          have g81 := rgI (x6_150 + 1)
          first | have e82 := adN x6_150 1 (1) (by decide) (by omega) (by omega) | skip
          have q83 := eqI hv80
          exact ih x4_148 x5_149 v75_213 o_atA58_182 o_atB58_183 o_atD58_184 o_atF58_185 o_atG58_186 o_atH58_187 o_atL58_188 o_atM58_189 o_atN58_190 o_atS58_191 o_atT58_192 o_atU58_193 o_atX58_194 o_isRefused58_195 o_worth58_196 (by omega) (by omega) (by omega)
set_option maxHeartbeats 4000000 in
set_option maxRecDepth 100000 in
theorem s_X12_told_L21 (s_nights : Int32) (s_code : Nat → Int32) (s_codeArg : Nat → Int32) (s_codeFrom : Nat → Int32) (s_found : Nat → Int32) (s_many : Nat → Int32) (s_nightDay : Nat → Int32) (s_sumFrom : Nat → Int32) (p1 : Int32) (K87 : Int32 → Int32 → Int32 → Int32 → Int32 → Int32 → Int32 → Int32 → Int32 → Int32 → Int32 → Int32 → Int32 → Int32 → Int32 → (Nat → Int32) → (Nat → Int32) → Option (Int32 × Int32 × Int32 × Int32 × Int32 × Int32 × Int32 × Int32 × Int32 × Int32 × Int32 × Int32 × Int32 × Int32 × (Nat → Int32) × (Nat → Int32))) (hp0 : 0 ≤ s_nights.toInt) (hp1 : s_nights.toInt ≤ 30) (hp2 : tlOK s_code s_codeFrom s_sumFrom s_many) (hK87 : ∀ (a0 : Int32) (a1 : Int32) (a2 : Int32) (a3 : Int32) (a4 : Int32) (a5 : Int32) (a6 : Int32) (a7 : Int32) (a8 : Int32) (a9 : Int32) (a10 : Int32) (a11 : Int32) (a12 : Int32) (a13 : Int32) (a14 : Int32) (a15 : Nat → Int32) (a16 : Nat → Int32), Sf (K87 a0 a1 a2 a3 a4 a5 a6 a7 a8 a9 a10 a11 a12 a13 a14 a15 a16) (fun (y : Int32 × Int32 × Int32 × Int32 × Int32 × Int32 × Int32 × Int32 × Int32 × Int32 × Int32 × Int32 × Int32 × Int32 × (Nat → Int32) × (Nat → Int32)) => True)) : ∀ (n : Nat) (x3_86 : Int32) (atA__87 : Int32) (atB__88 : Int32) (atD__89 : Int32) (atF__90 : Int32) (atG__91 : Int32) (atH__92 : Int32) (atL__93 : Int32) (atM__94 : Int32) (atN__95 : Int32) (atS__96 : Int32) (atT__97 : Int32) (atU__98 : Int32) (atX__99 : Int32) (isRefused__100 : Nat → Int32) (worth__101 : Nat → Int32), (0 ≤ x3_86.toInt) → (x3_86.toInt ≤ 30) → (31 - x3_86.toInt < (n : Int)) → Sf (f_X12_told_L21 s_nights s_code s_codeArg s_codeFrom s_found s_many s_nightDay s_sumFrom p1 K87 n x3_86 atA__87 atB__88 atD__89 atF__90 atG__91 atH__92 atL__93 atM__94 atN__95 atS__96 atT__97 atU__98 atX__99 isRefused__100 worth__101) (fun (y : Int32 × Int32 × Int32 × Int32 × Int32 × Int32 × Int32 × Int32 × Int32 × Int32 × Int32 × Int32 × Int32 × Int32 × (Nat → Int32) × (Nat → Int32)) => True) := by
  have hFU : (100000 : Int) ≤ (FU : Int) := Int.ofNat_le.mpr FU_ge
  have g1 := rgI s_nights
  have g2 := rgI p1
  intro n
  induction n with
  | zero =>
    intro x3_86 atA__87 atB__88 atD__89 atF__90 atG__91 atH__92 atL__93 atM__94 atN__95 atS__96 atT__97 atU__98 atX__99 isRefused__100 worth__101 hi0 hi1 hm
    have g3 := rgI x3_86
    have g4 := rgI atA__87
    have g5 := rgI atB__88
    have g6 := rgI atD__89
    have g7 := rgI atF__90
    have g8 := rgI atG__91
    have g9 := rgI atH__92
    have g10 := rgI atL__93
    have g11 := rgI atM__94
    have g12 := rgI atN__95
    have g13 := rgI atS__96
    have g14 := rgI atT__97
    have g15 := rgI atU__98
    have g16 := rgI atX__99
    exact absurd hm (by omega)
  | succ n ih =>
    intro x3_86 atA__87 atB__88 atD__89 atF__90 atG__91 atH__92 atL__93 atM__94 atN__95 atS__96 atT__97 atU__98 atX__99 isRefused__100 worth__101 hi0 hi1 hm
    rw [f_X12_told_L21]
    have g17 := rgI x3_86
    have g18 := rgI atA__87
    have g19 := rgI atB__88
    have g20 := rgI atD__89
    have g21 := rgI atF__90
    have g22 := rgI atG__91
    have g23 := rgI atH__92
    have g24 := rgI atL__93
    have g25 := rgI atM__94
    have g26 := rgI atN__95
    have g27 := rgI atS__96
    have g28 := rgI atT__97
    have g29 := rgI atU__98
    have g30 := rgI atX__99
    refine Sf_ite (fun h31 => ?_) (fun h31 => ?_)
    · skip
      have c32 := leI h31
      exact Sf_some trivial
    · skip
      have c33 := nleI h31
      have l34 : (0 : Int32).toInt = 0 := by decide
      have l35 : ((-1) : Int32).toInt = -1 := by decide
      refine s_X12_told_L38 s_nights s_code s_codeArg s_codeFrom s_found s_many s_nightDay s_sumFrom p1 x3_86 (f_X12_told_J81 x3_86 (f_X12_told_L21 s_nights s_code s_codeArg s_codeFrom s_found s_many s_nightDay s_sumFrom p1 K87 n) K87) (by omega) (by omega) (by assumption) ?_ FU 0 (-1) 0 atA__87 atB__88 atD__89 atF__90 atG__91 atH__92 atL__93 atM__94 atN__95 atS__96 atT__97 atU__98 atX__99 isRefused__100 worth__101 (by omega) (by omega) (by omega)
      · intro z36 z37 z38 z39 z40 z41 z42 z43 z44 z45 z46 z47 z48 z49 z50 z51 z52
        have g53 := rgI z36
        have g54 := rgI z37
        have g55 := rgI z38
        have g56 := rgI z39
        have g57 := rgI z40
        have g58 := rgI z41
        have g59 := rgI z42
        have g60 := rgI z43
        have g61 := rgI z44
        have g62 := rgI z45
        have g63 := rgI z46
        have g64 := rgI z47
        have g65 := rgI z48
        have g66 := rgI z49
        have g67 := rgI z50
        rw [f_X12_told_J81]
        refine Sf_ite (fun h68 => ?_) (fun h68 => ?_)
        · skip
          have l69 : (1 : Int32).toInt = 1 := by decide
          have c70 := eqI h68
          exact hK87 x3_86 z37 z38 z39 z40 z41 z42 z43 z44 z45 z46 z47 z48 z49 z50 z51 z52 
        · skip
          have l71 : (1 : Int32).toInt = 1 := by decide
          have c72 := neI h68
          refine Sf_nmI (fun v98_144 hv73 => ?_)
          have g74 := rgI (x3_86 + 1)
          first | have e75 := adN x3_86 1 (1) (by decide) (by omega) (by omega) | skip
          have q76 := eqI hv73
          exact ih v98_144 z38 z39 z40 z41 z42 z43 z44 z45 z46 z47 z48 z49 z50 z51 z52 (by omega) (by omega) (by omega)
set_option maxHeartbeats 4000000 in
set_option maxRecDepth 100000 in
theorem s_X12_told (s_nights : Int32) (s_atA : Int32) (s_atB : Int32) (s_atD : Int32) (s_atF : Int32) (s_atG : Int32) (s_atH : Int32) (s_atL : Int32) (s_atM : Int32) (s_atN : Int32) (s_atS : Int32) (s_atT : Int32) (s_atU : Int32) (s_atX : Int32) (s_code : Nat → Int32) (s_codeArg : Nat → Int32) (s_codeFrom : Nat → Int32) (s_found : Nat → Int32) (s_isRefused : Nat → Int32) (s_many : Nat → Int32) (s_nightDay : Nat → Int32) (s_sumFrom : Nat → Int32) (s_worth : Nat → Int32) (p1 : Int32) (p2 : Int32) (hp0 : 0 ≤ s_nights.toInt) (hp1 : s_nights.toInt ≤ 30) (hp2 : tlOK s_code s_codeFrom s_sumFrom s_many) : Sf (f_X12_told s_nights s_atA s_atB s_atD s_atF s_atG s_atH s_atL s_atM s_atN s_atS s_atT s_atU s_atX s_code s_codeArg s_codeFrom s_found s_isRefused s_many s_nightDay s_sumFrom s_worth p1 p2) (fun (y : Int32 × Int32 × Int32 × Int32 × Int32 × Int32 × Int32 × Int32 × Int32 × Int32 × Int32 × Int32 × Int32 × Int32 × (Nat → Int32) × (Nat → Int32)) => True) := by
  have g1 := rgI s_nights
  have g2 := rgI s_atA
  have g3 := rgI s_atB
  have g4 := rgI s_atD
  have g5 := rgI s_atF
  have g6 := rgI s_atG
  have g7 := rgI s_atH
  have g8 := rgI s_atL
  have g9 := rgI s_atM
  have g10 := rgI s_atN
  have g11 := rgI s_atS
  have g12 := rgI s_atT
  have g13 := rgI s_atU
  have g14 := rgI s_atX
  have g15 := rgI p1
  have g16 := rgI p2
  have hFU : (100000 : Int) ≤ (FU : Int) := Int.ofNat_le.mpr FU_ge
  rw [f_X12_told]
  refine Sf_cb1 (s_X12_isError p1 ) (fun r1_1 hp17 => ?_)
  have hp17 : ((r1_1.toInt = 0 ∨ r1_1.toInt = 1)) ∧ ((r1_1.toInt = 1 ∧ 0 ≤ p1.toInt ∧ p1.toInt ≤ 100000) ∨ (r1_1.toInt = 0 ∧ (p1.toInt < 0 ∨ 100000 < p1.toInt))) := hp17
  obtain ⟨hq18, hq19⟩ := hp17
  have g20 := rgI r1_1
  refine Sf_ite (fun h21 => ?_) (fun h21 => ?_)
  · skip
    have l22 : (0 : Int32).toInt = 0 := by decide
    have c23 := eqI h21
    exact Sf_some trivial
  · skip
    have l24 : (0 : Int32).toInt = 0 := by decide
    have c25 := neI h21
    have t26 := t64 p2
    have l27 : (0 : Int64).toInt = 0 := by decide
    have l28 : (1 : Int64).toInt = 1 := by decide
    refine Sf_cb1 (s_X12_lies (Int32.toInt64 p2) 0 1 ) (fun r11_25 hp29 => ?_)
    have hp29 : ((r11_25.toInt = 0 ∨ r11_25.toInt = 1)) ∧ ((r11_25.toInt = 1 ∧ (0 : Int64).toInt ≤ (Int32.toInt64 p2).toInt ∧ (Int32.toInt64 p2).toInt ≤ (1 : Int64).toInt) ∨ (r11_25.toInt = 0 ∧ ((Int32.toInt64 p2).toInt < (0 : Int64).toInt ∨ (1 : Int64).toInt < (Int32.toInt64 p2).toInt))) := hp29
    obtain ⟨hq30, hq31⟩ := hp29
    have g32 := rgI r11_25
    refine Sf_ite (fun h33 => ?_) (fun h33 => ?_)
    · skip
      have c34 := eqI h33
      exact Sf_some trivial
    · skip
      have c35 := neI h33
      refine s_X12_told_L21 s_nights s_code s_codeArg s_codeFrom s_found s_many s_nightDay s_sumFrom p1 (f_X12_told_J87 p2) (by omega) (by omega) (by assumption) ?_ FU 0 s_atA s_atB s_atD s_atF s_atG s_atH s_atL s_atM s_atN s_atS s_atT s_atU s_atX s_isRefused s_worth (by omega) (by omega) (by omega)
      · intro z36 z37 z38 z39 z40 z41 z42 z43 z44 z45 z46 z47 z48 z49 z50 z51 z52
        have g53 := rgI z36
        have g54 := rgI z37
        have g55 := rgI z38
        have g56 := rgI z39
        have g57 := rgI z40
        have g58 := rgI z41
        have g59 := rgI z42
        have g60 := rgI z43
        have g61 := rgI z44
        have g62 := rgI z45
        have g63 := rgI z46
        have g64 := rgI z47
        have g65 := rgI z48
        have g66 := rgI z49
        have g67 := rgI z50
        rw [f_X12_told_J87]
        refine Sf_ite (fun h68 => ?_) (fun h68 => ?_)
        · skip
          have c69 := eqI h68
          exact Sf_some trivial
        · skip
          have c70 := neI h68
          exact Sf_some trivial
