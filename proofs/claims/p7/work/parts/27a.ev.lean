set_option maxHeartbeats 4000000 in
set_option maxRecDepth 100000 in
theorem s_X12_looks_L15 (s_sources : Int32) (s_seed : Int32) (s_byStar : Nat → Int32) (s_code : Nat → Int32) (s_codeArg : Nat → Int32) (s_codeFrom : Nat → Int32) (s_codeTo : Nat → Int32) (s_many : Nat → Int32) (s_minuteOf : Nat → Int32) (s_shape : Nat → Int32) (s_sumFrom : Nat → Int32) (s_weekdays : Nat → Int32) (s_wide : Nat → Int32) (p1 : Int32) (p2 : Int32) (hp0 : 0 ≤ s_sources.toInt) (hp1 : s_sources.toInt ≤ 10) (hp2 : rOK s_code s_codeFrom s_codeTo s_sumFrom s_many) : ∀ (n : Nat) (x3_5 : Int32) (x4_6 : Int32) (atA__7 : Int32) (atB__8 : Int32) (atD__9 : Int32) (atF__10 : Int32) (atG__11 : Int32) (atH__12 : Int32) (atL__13 : Int32) (atM__14 : Int32) (atN__15 : Int32) (atS__16 : Int32) (atT__17 : Int32) (atU__18 : Int32) (atX__19 : Int32) (paperHigh__20 : Int32) (paperShape__21 : Int32) (isRefused__22 : Nat → Int32) (worth__23 : Nat → Int32), (0 ≤ x4_6.toInt) → (x4_6.toInt ≤ 10) → (11 - x4_6.toInt < (n : Int)) → Sf (f_X12_looks_L15 s_sources s_seed s_byStar s_code s_codeArg s_codeFrom s_codeTo s_many s_minuteOf s_shape s_sumFrom s_weekdays s_wide p1 p2 n x3_5 x4_6 atA__7 atB__8 atD__9 atF__10 atG__11 atH__12 atL__13 atM__14 atN__15 atS__16 atT__17 atU__18 atX__19 paperHigh__20 paperShape__21 isRefused__22 worth__23) (fun (y : Int32 × Int32 × Int32 × Int32 × Int32 × Int32 × Int32 × Int32 × Int32 × Int32 × Int32 × Int32 × Int32 × Int32 × Int32 × (Nat → Int32) × (Nat → Int32)) => True) := by
  have hFU : (100000 : Int) ≤ (FU : Int) := Int.ofNat_le.mpr FU_ge
  have g1 := rgI s_sources
  have g2 := rgI s_seed
  have g3 := rgI p1
  have g4 := rgI p2
  intro n
  induction n with
  | zero =>
    intro x3_5 x4_6 atA__7 atB__8 atD__9 atF__10 atG__11 atH__12 atL__13 atM__14 atN__15 atS__16 atT__17 atU__18 atX__19 paperHigh__20 paperShape__21 isRefused__22 worth__23 hi0 hi1 hm
    have g5 := rgI x3_5
    have g6 := rgI x4_6
    have g7 := rgI atA__7
    have g8 := rgI atB__8
    have g9 := rgI atD__9
    have g10 := rgI atF__10
    have g11 := rgI atG__11
    have g12 := rgI atH__12
    have g13 := rgI atL__13
    have g14 := rgI atM__14
    have g15 := rgI atN__15
    have g16 := rgI atS__16
    have g17 := rgI atT__17
    have g18 := rgI atU__18
    have g19 := rgI atX__19
    have g20 := rgI paperHigh__20
    have g21 := rgI paperShape__21
    exact absurd hm (by omega)
  | succ n ih =>
    intro x3_5 x4_6 atA__7 atB__8 atD__9 atF__10 atG__11 atH__12 atL__13 atM__14 atN__15 atS__16 atT__17 atU__18 atX__19 paperHigh__20 paperShape__21 isRefused__22 worth__23 hi0 hi1 hm
    rw [f_X12_looks_L15]
    have g22 := rgI x3_5
    have g23 := rgI x4_6
    have g24 := rgI atA__7
    have g25 := rgI atB__8
    have g26 := rgI atD__9
    have g27 := rgI atF__10
    have g28 := rgI atG__11
    have g29 := rgI atH__12
    have g30 := rgI atL__13
    have g31 := rgI atM__14
    have g32 := rgI atN__15
    have g33 := rgI atS__16
    have g34 := rgI atT__17
    have g35 := rgI atU__18
    have g36 := rgI atX__19
    have g37 := rgI paperHigh__20
    have g38 := rgI paperShape__21
    refine Sf_ite (fun h39 => ?_) (fun h39 => ?_)
    · skip
      have c40 := leI h39
      exact Sf_some trivial
    · skip
      have c41 := nleI h39
      refine Sf_cb16 (s_X12_heightOf s_seed atA__7 atB__8 atD__9 atF__10 atG__11 atH__12 atL__13 atM__14 atN__15 atS__16 atT__17 atU__18 atX__19 s_byStar s_code s_codeArg s_codeFrom s_codeTo isRefused__22 s_many s_minuteOf s_sumFrom s_weekdays s_wide worth__23 x4_6 p1 p2 (by omega) (by omega) (by assumption)) (fun r29_44 o_atA29_45 o_atB29_46 o_atD29_47 o_atF29_48 o_atG29_49 o_atH29_50 o_atL29_51 o_atM29_52 o_atN29_53 o_atS29_54 o_atT29_55 o_atU29_56 o_atX29_57 o_isRefused29_58 o_worth29_59 hp42 => ?_)
      have hp42 : (0 ≤ r29_44.toInt ∧ r29_44.toInt ≤ 1000) := hp42
      have g43 := rgI r29_44
      have g44 := rgI o_atA29_45
      have g45 := rgI o_atB29_46
      have g46 := rgI o_atD29_47
      have g47 := rgI o_atF29_48
      have g48 := rgI o_atG29_49
      have g49 := rgI o_atH29_50
      have g50 := rgI o_atL29_51
      have g51 := rgI o_atM29_52
      have g52 := rgI o_atN29_53
      have g53 := rgI o_atS29_54
      have g54 := rgI o_atT29_55
      have g55 := rgI o_atU29_56
      have g56 := rgI o_atX29_57
      refine Sf_nmI (fun v42_65 hv57 => ?_)
      have g58 := rgI (paperHigh__20 + r29_44)
      first | have e59 := adX paperHigh__20 r29_44 (by omega) (by omega) | skip
      have q60 := eqI hv57
      refine Sf_ite (fun h61 => ?_) (fun h61 => ?_)
      · skip
        have c62 := ltI h61
        refine Sf_rdI (by omega) (by omega) (fun v64_73 hv63 => ?_)
        have g64 := rgI v64_73
        refine Sf_nmI (fun v68_78 hv65 => ?_)
        have g66 := rgI (x4_6 + 1)
        first | have e67 := adN x4_6 1 (1) (by decide) (by omega) (by omega) | skip
        have q68 := eqI hv65
        exact ih r29_44 v68_78 o_atA29_45 o_atB29_46 o_atD29_47 o_atF29_48 o_atG29_49 o_atH29_50 o_atL29_51 o_atM29_52 o_atN29_53 o_atS29_54 o_atT29_55 o_atU29_56 o_atX29_57 v42_65 v64_73 o_isRefused29_58 o_worth29_59 (by omega) (by omega) (by omega)
      · skip
        have c69 := nltI h61
        refine Sf_nmI (fun v68_82 hv70 => ?_)
        have g71 := rgI (x4_6 + 1)
        first | have e72 := adN x4_6 1 (1) (by decide) (by omega) (by omega) | skip
        have q73 := eqI hv70
        exact ih x3_5 v68_82 o_atA29_45 o_atB29_46 o_atD29_47 o_atF29_48 o_atG29_49 o_atH29_50 o_atL29_51 o_atM29_52 o_atN29_53 o_atS29_54 o_atT29_55 o_atU29_56 o_atX29_57 v42_65 paperShape__21 o_isRefused29_58 o_worth29_59 (by omega) (by omega) (by omega)
set_option maxHeartbeats 4000000 in
set_option maxRecDepth 100000 in
theorem s_X12_looks (s_sources : Int32) (s_seed : Int32) (s_atA : Int32) (s_atB : Int32) (s_atD : Int32) (s_atF : Int32) (s_atG : Int32) (s_atH : Int32) (s_atL : Int32) (s_atM : Int32) (s_atN : Int32) (s_atS : Int32) (s_atT : Int32) (s_atU : Int32) (s_atX : Int32) (s_paperHigh : Int32) (s_paperShape : Int32) (s_byStar : Nat → Int32) (s_code : Nat → Int32) (s_codeArg : Nat → Int32) (s_codeFrom : Nat → Int32) (s_codeTo : Nat → Int32) (s_isRefused : Nat → Int32) (s_many : Nat → Int32) (s_minuteOf : Nat → Int32) (s_shape : Nat → Int32) (s_sumFrom : Nat → Int32) (s_weekdays : Nat → Int32) (s_wide : Nat → Int32) (s_worth : Nat → Int32) (p1 : Int32) (p2 : Int32) (hp0 : 0 ≤ s_sources.toInt) (hp1 : s_sources.toInt ≤ 10) (hp2 : rOK s_code s_codeFrom s_codeTo s_sumFrom s_many) : Sf (f_X12_looks s_sources s_seed s_atA s_atB s_atD s_atF s_atG s_atH s_atL s_atM s_atN s_atS s_atT s_atU s_atX s_paperHigh s_paperShape s_byStar s_code s_codeArg s_codeFrom s_codeTo s_isRefused s_many s_minuteOf s_shape s_sumFrom s_weekdays s_wide s_worth p1 p2) (fun (y : Int32 × Int32 × Int32 × Int32 × Int32 × Int32 × Int32 × Int32 × Int32 × Int32 × Int32 × Int32 × Int32 × Int32 × Int32 × (Nat → Int32) × (Nat → Int32)) => True) := by
  have g1 := rgI s_sources
  have g2 := rgI s_seed
  have g3 := rgI s_atA
  have g4 := rgI s_atB
  have g5 := rgI s_atD
  have g6 := rgI s_atF
  have g7 := rgI s_atG
  have g8 := rgI s_atH
  have g9 := rgI s_atL
  have g10 := rgI s_atM
  have g11 := rgI s_atN
  have g12 := rgI s_atS
  have g13 := rgI s_atT
  have g14 := rgI s_atU
  have g15 := rgI s_atX
  have g16 := rgI s_paperHigh
  have g17 := rgI s_paperShape
  have g18 := rgI p1
  have g19 := rgI p2
  have hFU : (100000 : Int) ≤ (FU : Int) := Int.ofNat_le.mpr FU_ge
  rw [f_X12_looks]
  have l20 : (0 : Int32).toInt = 0 := by decide
  have l21 : (4 : Int32).toInt = 4 := by decide
  refine s_X12_looks_L15 s_sources s_seed s_byStar s_code s_codeArg s_codeFrom s_codeTo s_many s_minuteOf s_shape s_sumFrom s_weekdays s_wide p1 p2 (by omega) (by omega) (by assumption)  FU 0 0 s_atA s_atB s_atD s_atF s_atG s_atH s_atL s_atM s_atN s_atS s_atT s_atU s_atX 0 4 s_isRefused s_worth (by omega) (by omega) (by omega)
set_option maxHeartbeats 4000000 in
set_option maxRecDepth 100000 in
theorem s_X12_lays_L2 (s_sources : Int32) (s_seed : Int32) (s_byStar : Nat → Int32) (s_code : Nat → Int32) (s_codeArg : Nat → Int32) (s_codeFrom : Nat → Int32) (s_codeTo : Nat → Int32) (s_many : Nat → Int32) (s_minuteOf : Nat → Int32) (s_shape : Nat → Int32) (s_sumFrom : Nat → Int32) (s_weekdays : Nat → Int32) (s_wide : Nat → Int32) (p1 : Int32) (hp0 : 0 ≤ s_sources.toInt) (hp1 : s_sources.toInt ≤ 10) (hp2 : rOK s_code s_codeFrom s_codeTo s_sumFrom s_many) : ∀ (n : Nat) (x2_2 : Int32) (atA__3 : Int32) (atB__4 : Int32) (atD__5 : Int32) (atF__6 : Int32) (atG__7 : Int32) (atH__8 : Int32) (atL__9 : Int32) (atM__10 : Int32) (atN__11 : Int32) (atS__12 : Int32) (atT__13 : Int32) (atU__14 : Int32) (atX__15 : Int32) (paperHigh__16 : Int32) (paperShape__17 : Int32) (highAt__18 : Nat → Int32) (isRefused__19 : Nat → Int32) (shapeAt__20 : Nat → Int32) (worth__21 : Nat → Int32), (0 ≤ x2_2.toInt) → (x2_2.toInt ≤ 1440) → (1441 - x2_2.toInt < (n : Int)) → Sf (f_X12_lays_L2 s_sources s_seed s_byStar s_code s_codeArg s_codeFrom s_codeTo s_many s_minuteOf s_shape s_sumFrom s_weekdays s_wide p1 n x2_2 atA__3 atB__4 atD__5 atF__6 atG__7 atH__8 atL__9 atM__10 atN__11 atS__12 atT__13 atU__14 atX__15 paperHigh__16 paperShape__17 highAt__18 isRefused__19 shapeAt__20 worth__21) (fun (y : Int32 × Int32 × Int32 × Int32 × Int32 × Int32 × Int32 × Int32 × Int32 × Int32 × Int32 × Int32 × Int32 × Int32 × Int32 × (Nat → Int32) × (Nat → Int32) × (Nat → Int32) × (Nat → Int32)) => True) := by
  have hFU : (100000 : Int) ≤ (FU : Int) := Int.ofNat_le.mpr FU_ge
  have g1 := rgI s_sources
  have g2 := rgI s_seed
  have g3 := rgI p1
  intro n
  induction n with
  | zero =>
    intro x2_2 atA__3 atB__4 atD__5 atF__6 atG__7 atH__8 atL__9 atM__10 atN__11 atS__12 atT__13 atU__14 atX__15 paperHigh__16 paperShape__17 highAt__18 isRefused__19 shapeAt__20 worth__21 hi0 hi1 hm
    have g4 := rgI x2_2
    have g5 := rgI atA__3
    have g6 := rgI atB__4
    have g7 := rgI atD__5
    have g8 := rgI atF__6
    have g9 := rgI atG__7
    have g10 := rgI atH__8
    have g11 := rgI atL__9
    have g12 := rgI atM__10
    have g13 := rgI atN__11
    have g14 := rgI atS__12
    have g15 := rgI atT__13
    have g16 := rgI atU__14
    have g17 := rgI atX__15
    have g18 := rgI paperHigh__16
    have g19 := rgI paperShape__17
    exact absurd hm (by omega)
  | succ n ih =>
    intro x2_2 atA__3 atB__4 atD__5 atF__6 atG__7 atH__8 atL__9 atM__10 atN__11 atS__12 atT__13 atU__14 atX__15 paperHigh__16 paperShape__17 highAt__18 isRefused__19 shapeAt__20 worth__21 hi0 hi1 hm
    rw [f_X12_lays_L2]
    have g20 := rgI x2_2
    have g21 := rgI atA__3
    have g22 := rgI atB__4
    have g23 := rgI atD__5
    have g24 := rgI atF__6
    have g25 := rgI atG__7
    have g26 := rgI atH__8
    have g27 := rgI atL__9
    have g28 := rgI atM__10
    have g29 := rgI atN__11
    have g30 := rgI atS__12
    have g31 := rgI atT__13
    have g32 := rgI atU__14
    have g33 := rgI atX__15
    have g34 := rgI paperHigh__16
    have g35 := rgI paperShape__17
    refine Sf_ite (fun h36 => ?_) (fun h36 => ?_)
    · skip
      have l37 : (1440 : Int32).toInt = 1440 := by decide
      have c38 := leI h36
      exact Sf_some trivial
    · skip
      have l39 : (1440 : Int32).toInt = 1440 := by decide
      have c40 := nleI h36
      refine Sf_cb17 (s_X12_looks s_sources s_seed atA__3 atB__4 atD__5 atF__6 atG__7 atH__8 atL__9 atM__10 atN__11 atS__12 atT__13 atU__14 atX__15 paperHigh__16 paperShape__17 s_byStar s_code s_codeArg s_codeFrom s_codeTo isRefused__19 s_many s_minuteOf s_shape s_sumFrom s_weekdays s_wide worth__21 p1 x2_2 (by omega) (by omega) (by assumption)) (fun o_atA12_44 o_atB12_45 o_atD12_46 o_atF12_47 o_atG12_48 o_atH12_49 o_atL12_50 o_atM12_51 o_atN12_52 o_atS12_53 o_atT12_54 o_atU12_55 o_atX12_56 o_paperHigh12_57 o_paperShape12_58 o_isRefused12_59 o_worth12_60 hp41 => ?_)
      have g42 := rgI o_atA12_44
      have g43 := rgI o_atB12_45
      have g44 := rgI o_atD12_46
      have g45 := rgI o_atF12_47
      have g46 := rgI o_atG12_48
      have g47 := rgI o_atH12_49
      have g48 := rgI o_atL12_50
      have g49 := rgI o_atM12_51
      have g50 := rgI o_atN12_52
      have g51 := rgI o_atS12_53
      have g52 := rgI o_atT12_54
      have g53 := rgI o_atU12_55
      have g54 := rgI o_atX12_56
      have g55 := rgI o_paperHigh12_57
      have g56 := rgI o_paperShape12_58
      refine Sf_wrI (by omega) (by omega) (fun g24_65 hw57 => ?_)
      refine Sf_wrI (by omega) (by omega) (fun g34_70 hw58 => ?_)
      refine Sf_nmI (fun v35_75 hv59 => ?_)
      have g60 := rgI (x2_2 + 1)
      first | have e61 := adN x2_2 1 (1) (by decide) (by omega) (by omega) | skip
      have q62 := eqI hv59
      exact ih v35_75 o_atA12_44 o_atB12_45 o_atD12_46 o_atF12_47 o_atG12_48 o_atH12_49 o_atL12_50 o_atM12_51 o_atN12_52 o_atS12_53 o_atT12_54 o_atU12_55 o_atX12_56 o_paperHigh12_57 o_paperShape12_58 g24_65 o_isRefused12_59 g34_70 o_worth12_60 (by omega) (by omega) (by omega)
set_option maxHeartbeats 4000000 in
set_option maxRecDepth 100000 in
theorem s_X12_lays (s_sources : Int32) (s_seed : Int32) (s_atA : Int32) (s_atB : Int32) (s_atD : Int32) (s_atF : Int32) (s_atG : Int32) (s_atH : Int32) (s_atL : Int32) (s_atM : Int32) (s_atN : Int32) (s_atS : Int32) (s_atT : Int32) (s_atU : Int32) (s_atX : Int32) (s_paperHigh : Int32) (s_paperShape : Int32) (s_byStar : Nat → Int32) (s_code : Nat → Int32) (s_codeArg : Nat → Int32) (s_codeFrom : Nat → Int32) (s_codeTo : Nat → Int32) (s_highAt : Nat → Int32) (s_isRefused : Nat → Int32) (s_many : Nat → Int32) (s_minuteOf : Nat → Int32) (s_shape : Nat → Int32) (s_shapeAt : Nat → Int32) (s_sumFrom : Nat → Int32) (s_weekdays : Nat → Int32) (s_wide : Nat → Int32) (s_worth : Nat → Int32) (p1 : Int32) (hp0 : 0 ≤ s_sources.toInt) (hp1 : s_sources.toInt ≤ 10) (hp2 : rOK s_code s_codeFrom s_codeTo s_sumFrom s_many) : Sf (f_X12_lays s_sources s_seed s_atA s_atB s_atD s_atF s_atG s_atH s_atL s_atM s_atN s_atS s_atT s_atU s_atX s_paperHigh s_paperShape s_byStar s_code s_codeArg s_codeFrom s_codeTo s_highAt s_isRefused s_many s_minuteOf s_shape s_shapeAt s_sumFrom s_weekdays s_wide s_worth p1) (fun (y : Int32 × Int32 × Int32 × Int32 × Int32 × Int32 × Int32 × Int32 × Int32 × Int32 × Int32 × Int32 × Int32 × Int32 × Int32 × (Nat → Int32) × (Nat → Int32) × (Nat → Int32) × (Nat → Int32)) => True) := by
  have g1 := rgI s_sources
  have g2 := rgI s_seed
  have g3 := rgI s_atA
  have g4 := rgI s_atB
  have g5 := rgI s_atD
  have g6 := rgI s_atF
  have g7 := rgI s_atG
  have g8 := rgI s_atH
  have g9 := rgI s_atL
  have g10 := rgI s_atM
  have g11 := rgI s_atN
  have g12 := rgI s_atS
  have g13 := rgI s_atT
  have g14 := rgI s_atU
  have g15 := rgI s_atX
  have g16 := rgI s_paperHigh
  have g17 := rgI s_paperShape
  have g18 := rgI p1
  have hFU : (100000 : Int) ≤ (FU : Int) := Int.ofNat_le.mpr FU_ge
  rw [f_X12_lays]
  have l19 : (0 : Int32).toInt = 0 := by decide
  refine s_X12_lays_L2 s_sources s_seed s_byStar s_code s_codeArg s_codeFrom s_codeTo s_many s_minuteOf s_shape s_sumFrom s_weekdays s_wide p1 (by omega) (by omega) (by assumption)  FU 0 s_atA s_atB s_atD s_atF s_atG s_atH s_atL s_atM s_atN s_atS s_atT s_atU s_atX s_paperHigh s_paperShape s_highAt s_isRefused s_shapeAt s_worth (by omega) (by omega) (by omega)
set_option maxHeartbeats 4000000 in
set_option maxRecDepth 100000 in
theorem s_X12_isMarked_L146 (s_code : Nat → Int32) (s_codeArg : Nat → Int32) (s_codeFrom : Nat → Int32) (s_codeTo : Nat → Int32) (s_many : Nat → Int32) (p1 : Int32) (p2 : Int32) (p3 : Int32) (p4 : Int32) (o_atA1_1 : Int32) (o_atN1_9 : Int32) (o_atU1_12 : Int32) (o_atX1_13 : Int32) (v10_18 : Int32) (t1_23 : Int32) (atG__27 : Int32) (v100_28 : Int32) (r112_34 : Int32) (v128_41 : Int32) (hp0 : 0 ≤ p1.toInt) (hp1 : p1.toInt ≤ 3) (hp2 : hOK s_code s_codeFrom s_codeTo s_many) : ∀ (n : Nat) (x5_50 : Int32) (isRefused__51 : Nat → Int32) (worth__52 : Nat → Int32), (120 + 12 * p1.toInt ≤ x5_50.toInt) → (x5_50.toInt ≤ 132 + 12 * p1.toInt) → (133 + 12 * p1.toInt - x5_50.toInt < (n : Int)) → Sf (f_X12_isMarked_L146 s_code s_codeArg s_codeFrom s_codeTo s_many p1 p2 p3 p4 o_atA1_1 o_atN1_9 o_atU1_12 o_atX1_13 v10_18 t1_23 atG__27 v100_28 r112_34 v128_41 n x5_50 isRefused__51 worth__52) (fun (y : Int32 × Int32 × Int32 × Int32 × Int32 × Int32 × Int32 × Int32 × Int32 × Int32 × Int32 × Int32 × Int32 × Int32 × (Nat → Int32) × (Nat → Int32)) => (((y.1).toInt = 0 ∨ (y.1).toInt = 1))) := by
  have hFU : (100000 : Int) ≤ (FU : Int) := Int.ofNat_le.mpr FU_ge
  have g1 := rgI p1
  have g2 := rgI p2
  have g3 := rgI p3
  have g4 := rgI p4
  have g5 := rgI o_atA1_1
  have g6 := rgI o_atN1_9
  have g7 := rgI o_atU1_12
  have g8 := rgI o_atX1_13
  have g9 := rgI v10_18
  have g10 := rgI t1_23
  have g11 := rgI atG__27
  have g12 := rgI v100_28
  have g13 := rgI r112_34
  have g14 := rgI v128_41
  intro n
  induction n with
  | zero =>
    intro x5_50 isRefused__51 worth__52 hi0 hi1 hm
    have g15 := rgI x5_50
    exact absurd hm (by omega)
  | succ n ih =>
    intro x5_50 isRefused__51 worth__52 hi0 hi1 hm
    rw [f_X12_isMarked_L146]
    have g16 := rgI x5_50
    have l17 : (10 : Int32).toInt = 10 := by decide
    have g18 := rgI (10 + p1)
    first | have e19 := adX 10 p1 (by omega) (by omega) | skip
    refine Sf_rdI (by omega) (by omega) (fun v163_53 hv20 => ?_)
    have g21 := rgI v163_53
    obtain ⟨hmz, hmw, hsg⟩ := hOK_rd (by assumption : hOK s_code s_codeFrom s_codeTo s_many) (i := (10 + p1)) (by omega) (by omega) hv20
    refine Sf_ite (fun h22 => ?_) (fun h22 => ?_)
    · skip
      have l23 : (12 : Int32).toInt = 12 := by decide
      have g24 := rgI (12 * (10 + p1))
      first | have e25 := mlY 12 (10 + p1) (12) (by decide) (by omega) (by omega) | skip
      have g26 := rgI ((12 * (10 + p1)) + v163_53)
      first | have e27 := adX (12 * (10 + p1)) v163_53 (by omega) (by omega) | skip
      have c28 := leI h22
      have l29 : (0 : Int32).toInt = 0 := by decide
      refine Sf_some (show (((0 : Int32).toInt = 0 ∨ (0 : Int32).toInt = 1)) from ?_)
      (omega)
    · skip
      have l30 : (12 : Int32).toInt = 12 := by decide
      have g31 := rgI (12 * (10 + p1))
      first | have e32 := mlY 12 (10 + p1) (12) (by decide) (by omega) (by omega) | skip
      have g33 := rgI ((12 * (10 + p1)) + v163_53)
      first | have e34 := adX (12 * (10 + p1)) v163_53 (by omega) (by omega) | skip
      have c35 := nleI h22
      refine Sf_cb3 (s_X12_holds o_atA1_1 t1_23 p2 v128_41 atG__27 v10_18 v100_28 p3 o_atN1_9 r112_34 p4 o_atU1_12 o_atX1_13 s_code s_codeArg s_codeFrom s_codeTo isRefused__51 worth__52 x5_50 (by omega) (by omega) (by exact hsg _ (by omega) (by omega))) (fun r171_76 o_isRefused171_77 o_worth171_78 hp36 => ?_)
      have hp36 : ((r171_76.toInt = 0 ∨ r171_76.toInt = 1)) := hp36
      have g37 := rgI r171_76
      refine Sf_ite (fun h38 => ?_) (fun h38 => ?_)
      · skip
        have l39 : (0 : Int32).toInt = 0 := by decide
        have c40 := eqI h38
        refine Sf_nmI (fun v179_86 hv41 => ?_)
        have g42 := rgI (x5_50 + 1)
        first | have e43 := adN x5_50 1 (1) (by decide) (by omega) (by omega) | skip
        have q44 := eqI hv41
        exact ih v179_86 o_isRefused171_77 o_worth171_78 (by omega) (by omega) (by omega)
      · skip
        have l45 : (0 : Int32).toInt = 0 := by decide
        have c46 := neI h38
        have l47 : (1 : Int32).toInt = 1 := by decide
        refine Sf_some (show (((1 : Int32).toInt = 0 ∨ (1 : Int32).toInt = 1)) from ?_)
        (omega)
set_option maxHeartbeats 4000000 in
set_option maxRecDepth 100000 in
theorem s_X12_isMarked_L50 (s_highAt : Nat → Int32) (p3 : Int32) (K94 : Int32 → Option (Int32 × Int32 × Int32 × Int32 × Int32 × Int32 × Int32 × Int32 × Int32 × Int32 × Int32 × Int32 × Int32 × Int32 × (Nat → Int32) × (Nat → Int32))) (hp0 : 0 ≤ p3.toInt) (hp1 : p3.toInt < 1440) (hK94 : ∀ (a0 : Int32), Sf (K94 a0) (fun (y : Int32 × Int32 × Int32 × Int32 × Int32 × Int32 × Int32 × Int32 × Int32 × Int32 × Int32 × Int32 × Int32 × Int32 × (Nat → Int32) × (Nat → Int32)) => (((y.1).toInt = 0 ∨ (y.1).toInt = 1)))) : ∀ (n : Nat) (x5_106 : Int32) (atG__107 : Int32), (0 ≤ x5_106.toInt) → (x5_106.toInt ≤ 1440) → (1441 - x5_106.toInt < (n : Int)) → Sf (f_X12_isMarked_L50 s_highAt p3 K94 n x5_106 atG__107) (fun (y : Int32 × Int32 × Int32 × Int32 × Int32 × Int32 × Int32 × Int32 × Int32 × Int32 × Int32 × Int32 × Int32 × Int32 × (Nat → Int32) × (Nat → Int32)) => (((y.1).toInt = 0 ∨ (y.1).toInt = 1))) := by
  have hFU : (100000 : Int) ≤ (FU : Int) := Int.ofNat_le.mpr FU_ge
  have g1 := rgI p3
  intro n
  induction n with
  | zero =>
    intro x5_106 atG__107 hi0 hi1 hm
    have g2 := rgI x5_106
    have g3 := rgI atG__107
    exact absurd hm (by omega)
  | succ n ih =>
    intro x5_106 atG__107 hi0 hi1 hm
    rw [f_X12_isMarked_L50]
    have g4 := rgI x5_106
    have g5 := rgI atG__107
    refine Sf_ite (fun h6 => ?_) (fun h6 => ?_)
    · skip
      have c7 := leI h6
      exact hK94 atG__107 
    · skip
      have c8 := nleI h6
      refine Sf_rdI (by omega) (by omega) (fun v63_111 hv9 => ?_)
      have g10 := rgI v63_111
      refine Sf_ite (fun h11 => ?_) (fun h11 => ?_)
      · skip
        have c12 := leI h11
        refine Sf_nmI (fun v88_119 hv13 => ?_)
        have g14 := rgI (x5_106 + 1)
        first | have e15 := adN x5_106 1 (1) (by decide) (by omega) (by omega) | skip
        have q16 := eqI hv13
        exact ih v88_119 atG__107 (by omega) (by omega) (by omega)
      · skip
        have c17 := nleI h11
        refine Sf_rdI (by omega) (by omega) (fun v77_123 hv18 => ?_)
        have g19 := rgI v77_123
        refine Sf_nmI (fun v88_128 hv20 => ?_)
        have g21 := rgI (x5_106 + 1)
        first | have e22 := adN x5_106 1 (1) (by decide) (by omega) (by omega) | skip
        have q23 := eqI hv20
        exact ih v88_128 v77_123 (by omega) (by omega) (by omega)
set_option maxHeartbeats 4000000 in
set_option maxRecDepth 100000 in
theorem s_X12_isMarked (s_atA : Int32) (s_atB : Int32) (s_atD : Int32) (s_atF : Int32) (s_atG : Int32) (s_atH : Int32) (s_atL : Int32) (s_atM : Int32) (s_atN : Int32) (s_atS : Int32) (s_atT : Int32) (s_atU : Int32) (s_atX : Int32) (s_code : Nat → Int32) (s_codeArg : Nat → Int32) (s_codeFrom : Nat → Int32) (s_codeTo : Nat → Int32) (s_highAt : Nat → Int32) (s_isRefused : Nat → Int32) (s_many : Nat → Int32) (s_shapeAt : Nat → Int32) (s_worth : Nat → Int32) (p1 : Int32) (p2 : Int32) (p3 : Int32) (p4 : Int32) (hp0 : 0 ≤ p1.toInt) (hp1 : p1.toInt ≤ 3) (hp2 : 0 ≤ p3.toInt) (hp3 : p3.toInt < 1440) (hp4 : hOK s_code s_codeFrom s_codeTo s_many) : Sf (f_X12_isMarked s_atA s_atB s_atD s_atF s_atG s_atH s_atL s_atM s_atN s_atS s_atT s_atU s_atX s_code s_codeArg s_codeFrom s_codeTo s_highAt s_isRefused s_many s_shapeAt s_worth p1 p2 p3 p4) (fun (y : Int32 × Int32 × Int32 × Int32 × Int32 × Int32 × Int32 × Int32 × Int32 × Int32 × Int32 × Int32 × Int32 × Int32 × (Nat → Int32) × (Nat → Int32)) => (((y.1).toInt = 0 ∨ (y.1).toInt = 1))) := by
  have g1 := rgI s_atA
  have g2 := rgI s_atB
  have g3 := rgI s_atD
  have g4 := rgI s_atF
  have g5 := rgI s_atG
  have g6 := rgI s_atH
  have g7 := rgI s_atL
  have g8 := rgI s_atM
  have g9 := rgI s_atN
  have g10 := rgI s_atS
  have g11 := rgI s_atT
  have g12 := rgI s_atU
  have g13 := rgI s_atX
  have g14 := rgI p1
  have g15 := rgI p2
  have g16 := rgI p3
  have g17 := rgI p4
  have hFU : (100000 : Int) ≤ (FU : Int) := Int.ofNat_le.mpr FU_ge
  rw [f_X12_isMarked]
  refine Sf_cb13 (s_X12_clears s_atA s_atB s_atD s_atF s_atG s_atH s_atL s_atM s_atN s_atS s_atT s_atU s_atX ) (fun o_atA1_1 o_atB1_2 o_atD1_3 o_atF1_4 o_atG1_5 o_atH1_6 o_atL1_7 o_atM1_8 o_atN1_9 o_atS1_10 o_atT1_11 o_atU1_12 o_atX1_13 hp18 => ?_)
  have g19 := rgI o_atA1_1
  have g20 := rgI o_atB1_2
  have g21 := rgI o_atD1_3
  have g22 := rgI o_atF1_4
  have g23 := rgI o_atG1_5
  have g24 := rgI o_atH1_6
  have g25 := rgI o_atL1_7
  have g26 := rgI o_atM1_8
  have g27 := rgI o_atN1_9
  have g28 := rgI o_atS1_10
  have g29 := rgI o_atT1_11
  have g30 := rgI o_atU1_12
  have g31 := rgI o_atX1_13
  refine Sf_rdI (by omega) (by omega) (fun v10_18 hv32 => ?_)
  have g33 := rgI v10_18
  refine Sf_ite (fun h34 => ?_) (fun h34 => ?_)
  · skip
    have l35 : (0 : Int32).toInt = 0 := by decide
    have c36 := eqI h34
    rw [f_X12_isMarked_J31]
    refine Sf_ite (fun h37 => ?_) (fun h37 => ?_)
    · skip
      have l38 : (10 : Int32).toInt = 10 := by decide
      have c39 := leI h37
      rw [f_X12_isMarked_J48]
      have g40 := rgI (p3 - 10)
      first | have e41 := sbN p3 10 (10) (by decide) (by omega) (by omega) | skip
      refine s_X12_isMarked_L50 s_highAt p3 (f_X12_isMarked_J94 s_code s_codeArg s_codeFrom s_codeTo s_isRefused s_many s_shapeAt s_worth p1 p2 p3 p4 o_atA1_1 o_atN1_9 o_atU1_12 o_atX1_13 v10_18 0) (by omega) (by omega) ?_ FU (p3 - 10) o_atG1_5 (by omega) (by omega) (by omega)
      · intro z42
        have g43 := rgI z42
        rw [f_X12_isMarked_J94]
        refine Sf_rdI (by omega) (by omega) (fun v100_28 hv44 => ?_)
        have g45 := rgI v100_28
        refine Sf_cb1 (s_X12_starAt p2 p3 ) (fun r112_34 hp46 => ?_)
        have g47 := rgI r112_34
        refine Sf_nmI (fun v128_41 hv48 => ?_)
        have l49 : (7 : Int32).toInt = 7 := by decide
        have g50 := rgI (jrem p2 7)
        have m51 := rm_ p2 7 (by decide)
        have q52 := eqI hv48
        refine Sf_nmI (fun v144_46 hv53 => ?_)
        have l54 : (12 : Int32).toInt = 12 := by decide
        have g55 := rgI (10 + p1)
        first | have e56 := adX 10 p1 (by omega) (by omega) | skip
        have g57 := rgI (12 * (10 + p1))
        first | have e58 := mlY 12 (10 + p1) (12) (by decide) (by omega) (by omega) | skip
        have q59 := eqI hv53
        refine s_X12_isMarked_L146 s_code s_codeArg s_codeFrom s_codeTo s_many p1 p2 p3 p4 o_atA1_1 o_atN1_9 o_atU1_12 o_atX1_13 v10_18 0 z42 v100_28 r112_34 v128_41 (by omega) (by omega) (by first | assumption | exact ⟨_, ‹_›⟩)  FU v144_46 s_isRefused s_worth (by omega) (by omega) (by omega)
    · skip
      have l60 : (10 : Int32).toInt = 10 := by decide
      have c61 := nleI h37
      rw [f_X12_isMarked_J48]
      refine s_X12_isMarked_L50 s_highAt p3 (f_X12_isMarked_J94 s_code s_codeArg s_codeFrom s_codeTo s_isRefused s_many s_shapeAt s_worth p1 p2 p3 p4 o_atA1_1 o_atN1_9 o_atU1_12 o_atX1_13 v10_18 0) (by omega) (by omega) ?_ FU 0 o_atG1_5 (by omega) (by omega) (by omega)
      · intro z62
        have g63 := rgI z62
        rw [f_X12_isMarked_J94]
        refine Sf_rdI (by omega) (by omega) (fun v100_28 hv64 => ?_)
        have g65 := rgI v100_28
        refine Sf_cb1 (s_X12_starAt p2 p3 ) (fun r112_34 hp66 => ?_)
        have g67 := rgI r112_34
        refine Sf_nmI (fun v128_41 hv68 => ?_)
        have l69 : (7 : Int32).toInt = 7 := by decide
        have g70 := rgI (jrem p2 7)
        have m71 := rm_ p2 7 (by decide)
        have q72 := eqI hv68
        refine Sf_nmI (fun v144_46 hv73 => ?_)
        have l74 : (12 : Int32).toInt = 12 := by decide
        have g75 := rgI (10 + p1)
        first | have e76 := adX 10 p1 (by omega) (by omega) | skip
        have g77 := rgI (12 * (10 + p1))
        first | have e78 := mlY 12 (10 + p1) (12) (by decide) (by omega) (by omega) | skip
        have q79 := eqI hv73
        refine s_X12_isMarked_L146 s_code s_codeArg s_codeFrom s_codeTo s_many p1 p2 p3 p4 o_atA1_1 o_atN1_9 o_atU1_12 o_atX1_13 v10_18 0 z62 v100_28 r112_34 v128_41 (by omega) (by omega) (by first | assumption | exact ⟨_, ‹_›⟩)  FU v144_46 s_isRefused s_worth (by omega) (by omega) (by omega)
  · skip
    have l80 : (0 : Int32).toInt = 0 := by decide
    have c81 := neI h34
    have g82 := rgI (p3 - 1)
    first | have e83 := sbN p3 1 (1) (by decide) (by omega) (by omega) | skip
    refine Sf_rdI (by omega) (by omega) (fun v30_138 hv84 => ?_)
    have g85 := rgI v30_138
    rw [f_X12_isMarked_J31]
    refine Sf_ite (fun h86 => ?_) (fun h86 => ?_)
    · skip
      have l87 : (10 : Int32).toInt = 10 := by decide
      have c88 := leI h86
      rw [f_X12_isMarked_J48]
      have g89 := rgI (p3 - 10)
      first | have e90 := sbN p3 10 (10) (by decide) (by omega) (by omega) | skip
      refine s_X12_isMarked_L50 s_highAt p3 (f_X12_isMarked_J94 s_code s_codeArg s_codeFrom s_codeTo s_isRefused s_many s_shapeAt s_worth p1 p2 p3 p4 o_atA1_1 o_atN1_9 o_atU1_12 o_atX1_13 v10_18 v30_138) (by omega) (by omega) ?_ FU (p3 - 10) o_atG1_5 (by omega) (by omega) (by omega)
      · intro z91
        have g92 := rgI z91
        rw [f_X12_isMarked_J94]
        refine Sf_rdI (by omega) (by omega) (fun v100_28 hv93 => ?_)
        have g94 := rgI v100_28
        refine Sf_cb1 (s_X12_starAt p2 p3 ) (fun r112_34 hp95 => ?_)
        have g96 := rgI r112_34
        refine Sf_nmI (fun v128_41 hv97 => ?_)
        have l98 : (7 : Int32).toInt = 7 := by decide
        have g99 := rgI (jrem p2 7)
        have m100 := rm_ p2 7 (by decide)
        have q101 := eqI hv97
        refine Sf_nmI (fun v144_46 hv102 => ?_)
        have l103 : (12 : Int32).toInt = 12 := by decide
        have g104 := rgI (10 + p1)
        first | have e105 := adX 10 p1 (by omega) (by omega) | skip
        have g106 := rgI (12 * (10 + p1))
        first | have e107 := mlY 12 (10 + p1) (12) (by decide) (by omega) (by omega) | skip
        have q108 := eqI hv102
        refine s_X12_isMarked_L146 s_code s_codeArg s_codeFrom s_codeTo s_many p1 p2 p3 p4 o_atA1_1 o_atN1_9 o_atU1_12 o_atX1_13 v10_18 v30_138 z91 v100_28 r112_34 v128_41 (by omega) (by omega) (by first | assumption | exact ⟨_, ‹_›⟩)  FU v144_46 s_isRefused s_worth (by omega) (by omega) (by omega)
    · skip
      have l109 : (10 : Int32).toInt = 10 := by decide
      have c110 := nleI h86
      rw [f_X12_isMarked_J48]
      refine s_X12_isMarked_L50 s_highAt p3 (f_X12_isMarked_J94 s_code s_codeArg s_codeFrom s_codeTo s_isRefused s_many s_shapeAt s_worth p1 p2 p3 p4 o_atA1_1 o_atN1_9 o_atU1_12 o_atX1_13 v10_18 v30_138) (by omega) (by omega) ?_ FU 0 o_atG1_5 (by omega) (by omega) (by omega)
      · intro z111
        have g112 := rgI z111
        rw [f_X12_isMarked_J94]
        refine Sf_rdI (by omega) (by omega) (fun v100_28 hv113 => ?_)
        have g114 := rgI v100_28
        refine Sf_cb1 (s_X12_starAt p2 p3 ) (fun r112_34 hp115 => ?_)
        have g116 := rgI r112_34
        refine Sf_nmI (fun v128_41 hv117 => ?_)
        have l118 : (7 : Int32).toInt = 7 := by decide
        have g119 := rgI (jrem p2 7)
        have m120 := rm_ p2 7 (by decide)
        have q121 := eqI hv117
        refine Sf_nmI (fun v144_46 hv122 => ?_)
        have l123 : (12 : Int32).toInt = 12 := by decide
        have g124 := rgI (10 + p1)
        first | have e125 := adX 10 p1 (by omega) (by omega) | skip
        have g126 := rgI (12 * (10 + p1))
        first | have e127 := mlY 12 (10 + p1) (12) (by decide) (by omega) (by omega) | skip
        have q128 := eqI hv122
        refine s_X12_isMarked_L146 s_code s_codeArg s_codeFrom s_codeTo s_many p1 p2 p3 p4 o_atA1_1 o_atN1_9 o_atU1_12 o_atX1_13 v10_18 v30_138 z111 v100_28 r112_34 v128_41 (by omega) (by omega) (by first | assumption | exact ⟨_, ‹_›⟩)  FU v144_46 s_isRefused s_worth (by omega) (by omega) (by omega)
set_option maxHeartbeats 4000000 in
set_option maxRecDepth 100000 in
theorem s_X12_goesOver_L9 (s_code : Nat → Int32) (s_codeArg : Nat → Int32) (s_codeFrom : Nat → Int32) (s_codeTo : Nat → Int32) (s_highAt : Nat → Int32) (s_many : Nat → Int32) (s_shapeAt : Nat → Int32) (p1 : Int32) (p2 : Int32) (p3 : Int32) (K160 : Int32 → Int32 → Int32 → Int32 → Int32 → Int32 → Int32 → Int32 → Int32 → Int32 → Int32 → Int32 → Int32 → Int32 → (Nat → Int32) → (Nat → Int32) → (Nat → Int32) → (Nat → Int32) → (Nat → Int32) → Option (Int32 × Int32 × Int32 × Int32 × Int32 × Int32 × Int32 × Int32 × Int32 × Int32 × Int32 × Int32 × Int32 × (Nat → Int32) × (Nat → Int32) × (Nat → Int32) × (Nat → Int32) × (Nat → Int32) × (Nat → Int32))) (hp0 : 0 ≤ p1.toInt) (hp1 : p1.toInt ≤ 3) (hp2 : 0 ≤ p3.toInt) (hp3 : p3.toInt ≤ 1) (hp4 : hOK s_code s_codeFrom s_codeTo s_many) (hK160 : ∀ (a0 : Int32) (a1 : Int32) (a2 : Int32) (a3 : Int32) (a4 : Int32) (a5 : Int32) (a6 : Int32) (a7 : Int32) (a8 : Int32) (a9 : Int32) (a10 : Int32) (a11 : Int32) (a12 : Int32) (a13 : Int32) (a14 : Nat → Int32) (a15 : Nat → Int32) (a16 : Nat → Int32) (a17 : Nat → Int32) (a18 : Nat → Int32), (0 ≤ a0.toInt) → (a0.toInt ≤ 720) → Sf (K160 a0 a1 a2 a3 a4 a5 a6 a7 a8 a9 a10 a11 a12 a13 a14 a15 a16 a17 a18) (fun (y : Int32 × Int32 × Int32 × Int32 × Int32 × Int32 × Int32 × Int32 × Int32 × Int32 × Int32 × Int32 × Int32 × (Nat → Int32) × (Nat → Int32) × (Nat → Int32) × (Nat → Int32) × (Nat → Int32) × (Nat → Int32)) => (mkOK (y.2.2.2.2.2.2.2.2.2.2.2.2.2.2.2.2.2.1)))) : ∀ (n : Nat) (x4_47 : Int32) (x5_48 : Int32) (x6_49 : Int32) (atA__50 : Int32) (atB__51 : Int32) (atD__52 : Int32) (atF__53 : Int32) (atG__54 : Int32) (atH__55 : Int32) (atL__56 : Int32) (atM__57 : Int32) (atN__58 : Int32) (atS__59 : Int32) (atT__60 : Int32) (atU__61 : Int32) (atX__62 : Int32) (first__63 : Nat → Int32) (greatest__64 : Nat → Int32) (isRefused__65 : Nat → Int32) (last__66 : Nat → Int32) (worth__67 : Nat → Int32), (0 ≤ x4_47.toInt) → (0 ≤ x6_49.toInt) → (x6_49.toInt ≤ 1440) → ((x5_48.toInt = 0 ∧ 2 * x4_47.toInt ≤ x6_49.toInt) ∨ (¬ x5_48.toInt = 0 ∧ 1 ≤ x4_47.toInt ∧ 2 * x4_47.toInt ≤ x6_49.toInt + 1)) → (1441 - x6_49.toInt < (n : Int)) → Sf (f_X12_goesOver_L9 s_code s_codeArg s_codeFrom s_codeTo s_highAt s_many s_shapeAt p1 p2 p3 K160 n x4_47 x5_48 x6_49 atA__50 atB__51 atD__52 atF__53 atG__54 atH__55 atL__56 atM__57 atN__58 atS__59 atT__60 atU__61 atX__62 first__63 greatest__64 isRefused__65 last__66 worth__67) (fun (y : Int32 × Int32 × Int32 × Int32 × Int32 × Int32 × Int32 × Int32 × Int32 × Int32 × Int32 × Int32 × Int32 × (Nat → Int32) × (Nat → Int32) × (Nat → Int32) × (Nat → Int32) × (Nat → Int32) × (Nat → Int32)) => (mkOK (y.2.2.2.2.2.2.2.2.2.2.2.2.2.2.2.2.2.1))) := by
  have hFU : (100000 : Int) ≤ (FU : Int) := Int.ofNat_le.mpr FU_ge
  have g1 := rgI p1
  have g2 := rgI p2
  have g3 := rgI p3
  intro n
  induction n with
  | zero =>
    intro x4_47 x5_48 x6_49 atA__50 atB__51 atD__52 atF__53 atG__54 atH__55 atL__56 atM__57 atN__58 atS__59 atT__60 atU__61 atX__62 first__63 greatest__64 isRefused__65 last__66 worth__67 hi0 hi1 hi2 hi3 hm
    have g4 := rgI x4_47
    have g5 := rgI x5_48
    have g6 := rgI x6_49
    have g7 := rgI atA__50
    have g8 := rgI atB__51
    have g9 := rgI atD__52
    have g10 := rgI atF__53
    have g11 := rgI atG__54
    have g12 := rgI atH__55
    have g13 := rgI atL__56
    have g14 := rgI atM__57
    have g15 := rgI atN__58
    have g16 := rgI atS__59
    have g17 := rgI atT__60
    have g18 := rgI atU__61
    have g19 := rgI atX__62
    exact absurd hm (by omega)
  | succ n ih =>
    intro x4_47 x5_48 x6_49 atA__50 atB__51 atD__52 atF__53 atG__54 atH__55 atL__56 atM__57 atN__58 atS__59 atT__60 atU__61 atX__62 first__63 greatest__64 isRefused__65 last__66 worth__67 hi0 hi1 hi2 hi3 hm
    rw [f_X12_goesOver_L9]
    have g20 := rgI x4_47
    have g21 := rgI x5_48
    have g22 := rgI x6_49
    have g23 := rgI atA__50
    have g24 := rgI atB__51
    have g25 := rgI atD__52
    have g26 := rgI atF__53
    have g27 := rgI atG__54
    have g28 := rgI atH__55
    have g29 := rgI atL__56
    have g30 := rgI atM__57
    have g31 := rgI atN__58
    have g32 := rgI atS__59
    have g33 := rgI atT__60
    have g34 := rgI atU__61
    have g35 := rgI atX__62
    refine Sf_ite (fun h36 => ?_) (fun h36 => ?_)
    · skip
      have l37 : (1440 : Int32).toInt = 1440 := by decide
      have c38 := leI h36
      exact hK160 x4_47 atA__50 atB__51 atD__52 atF__53 atG__54 atH__55 atL__56 atM__57 atN__58 atS__59 atT__60 atU__61 atX__62 first__63 greatest__64 isRefused__65 last__66 worth__67 (by omega) (by omega)
    · skip
      have l39 : (1440 : Int32).toInt = 1440 := by decide
      have c40 := nleI h36
      refine Sf_ite (fun h41 => ?_) (fun h41 => ?_)
      · skip
        have l42 : (0 : Int32).toInt = 0 := by decide
        have c43 := eqI h41
        rw [f_X12_goesOver_J36]
        refine Sf_cb16 (s_X12_isMarked atA__50 atB__51 atD__52 atF__53 atG__54 atH__55 atL__56 atM__57 atN__58 atS__59 atT__60 atU__61 atX__62 s_code s_codeArg s_codeFrom s_codeTo s_highAt isRefused__65 s_many s_shapeAt worth__67 p1 p2 x6_49 x4_47 (by omega) (by omega) (by omega) (by omega) (by first | assumption | exact ⟨_, ‹_›⟩)) (fun r36_72 o_atA36_73 o_atB36_74 o_atD36_75 o_atF36_76 o_atG36_77 o_atH36_78 o_atL36_79 o_atM36_80 o_atN36_81 o_atS36_82 o_atT36_83 o_atU36_84 o_atX36_85 o_isRefused36_86 o_worth36_87 hp44 => ?_)
        have hp44 : ((r36_72.toInt = 0 ∨ r36_72.toInt = 1)) := hp44
        have g45 := rgI r36_72
        have g46 := rgI o_atA36_73
        have g47 := rgI o_atB36_74
        have g48 := rgI o_atD36_75
        have g49 := rgI o_atF36_76
        have g50 := rgI o_atG36_77
        have g51 := rgI o_atH36_78
        have g52 := rgI o_atL36_79
        have g53 := rgI o_atM36_80
        have g54 := rgI o_atN36_81
        have g55 := rgI o_atS36_82
        have g56 := rgI o_atT36_83
        have g57 := rgI o_atU36_84
        have g58 := rgI o_atX36_85
        refine Sf_ite (fun h59 => ?_) (fun h59 => ?_)
        · skip
          have c60 := eqI h59
          rw [f_X12_goesOver_J83]
          refine Sf_ite (fun h61 => ?_) (fun h61 => ?_)
          · skip
            have c62 := eqI h61
            refine Sf_nmI (fun v154_100 hv63 => ?_)
            have g64 := rgI (x6_49 + 1)
            first | have e65 := adN x6_49 1 (1) (by decide) (by omega) (by omega) | skip
            have q66 := eqI hv63
            exact ih x4_47 r36_72 v154_100 o_atA36_73 o_atB36_74 o_atD36_75 o_atF36_76 o_atG36_77 o_atH36_78 o_atL36_79 o_atM36_80 o_atN36_81 o_atS36_82 o_atT36_83 o_atU36_84 o_atX36_85 first__63 greatest__64 o_isRefused36_86 last__66 o_worth36_87 (by omega) (by omega) (by omega) (by omega) (by omega)
          · skip
            have c67 := neI h61
            refine Sf_nmI (fun v98_104 hv68 => ?_)
            have l69 : (720 : Int32).toInt = 720 := by decide
            have g70 := rgI (720 * p3)
            first | have e71 := mlY 720 p3 (720) (by decide) (by omega) (by omega) | skip
            have g72 := rgI ((720 * p3) + x4_47)
            first | have e73 := adX (720 * p3) x4_47 (by omega) (by omega) | skip
            have g74 := rgI (((720 * p3) + x4_47) - 1)
            first | have e75 := sbN ((720 * p3) + x4_47) 1 (1) (by decide) (by omega) (by omega) | skip
            have q76 := eqI hv68
            refine Sf_wrI (by omega) (by omega) (fun g108_108 hw77 => ?_)
            refine Sf_rdI (by omega) (by omega) (fun v121_113 hv78 => ?_)
            have g79 := rgI v121_113
            refine Sf_rdI (by omega) (by omega) (fun v128_117 hv80 => ?_)
            have g81 := rgI v128_117
            refine Sf_ite (fun h82 => ?_) (fun h82 => ?_)
            · skip
              have c83 := leI h82
              refine Sf_rdI (by omega) (by omega) (fun v148_135 hv84 => ?_)
              have g85 := rgI v148_135
              rw [f_X12_goesOver_J149]
              refine Sf_wrI (by omega) (by omega) (fun g149_122 hw86 => ?_)
              refine Sf_nmI (fun v154_128 hv87 => ?_)
              have g88 := rgI (x6_49 + 1)
              first | have e89 := adN x6_49 1 (1) (by decide) (by omega) (by omega) | skip
              have q90 := eqI hv87
              exact ih x4_47 r36_72 v154_128 o_atA36_73 o_atB36_74 o_atD36_75 o_atF36_76 o_atG36_77 o_atH36_78 o_atL36_79 o_atM36_80 o_atN36_81 o_atS36_82 o_atT36_83 o_atU36_84 o_atX36_85 first__63 g149_122 o_isRefused36_86 g108_108 o_worth36_87 (by omega) (by omega) (by omega) (by omega) (by omega)
            · skip
              have c91 := nleI h82
              refine Sf_rdI (by omega) (by omega) (fun v138_139 hv92 => ?_)
              have g93 := rgI v138_139
              rw [f_X12_goesOver_J149]
              refine Sf_wrI (by omega) (by omega) (fun g149_122 hw94 => ?_)
              refine Sf_nmI (fun v154_128 hv95 => ?_)
              have g96 := rgI (x6_49 + 1)
              first | have e97 := adN x6_49 1 (1) (by decide) (by omega) (by omega) | skip
              have q98 := eqI hv95
              exact ih x4_47 r36_72 v154_128 o_atA36_73 o_atB36_74 o_atD36_75 o_atF36_76 o_atG36_77 o_atH36_78 o_atL36_79 o_atM36_80 o_atN36_81 o_atS36_82 o_atT36_83 o_atU36_84 o_atX36_85 first__63 g149_122 o_isRefused36_86 g108_108 o_worth36_87 (by omega) (by omega) (by omega) (by omega) (by omega)
        · skip
          have c99 := neI h59
          refine Sf_ite (fun h100 => ?_) (fun h100 => ?_)
          · skip
            have c101 := eqI h100
            have l102 : (720 : Int32).toInt = 720 := by decide
            have g103 := rgI (720 * p3)
            first | have e104 := mlY 720 p3 (720) (by decide) (by omega) (by omega) | skip
            have g105 := rgI ((720 * p3) + x4_47)
            first | have e106 := adX (720 * p3) x4_47 (by omega) (by omega) | skip
            refine Sf_wrI (by omega) (by omega) (fun g65_149 hw107 => ?_)
            refine Sf_wrI (by omega) (by omega) (fun g79_154 hw108 => ?_)
            refine Sf_nmI (fun v80_159 hv109 => ?_)
            have g110 := rgI (x4_47 + 1)
            first | have e111 := adN x4_47 1 (1) (by decide) (by omega) (by omega) | skip
            have q112 := eqI hv109
            rw [f_X12_goesOver_J83]
            refine Sf_ite (fun h113 => ?_) (fun h113 => ?_)
            · skip
              have c114 := eqI h113
              refine Sf_nmI (fun v154_100 hv115 => ?_)
              have g116 := rgI (x6_49 + 1)
              first | have e117 := adN x6_49 1 (1) (by decide) (by omega) (by omega) | skip
              have q118 := eqI hv115
              exact ih v80_159 r36_72 v154_100 o_atA36_73 o_atB36_74 o_atD36_75 o_atF36_76 o_atG36_77 o_atH36_78 o_atL36_79 o_atM36_80 o_atN36_81 o_atS36_82 o_atT36_83 o_atU36_84 o_atX36_85 g65_149 g79_154 o_isRefused36_86 last__66 o_worth36_87 (by omega) (by omega) (by omega) (by omega) (by omega)
            · skip
              have c119 := neI h113
              refine Sf_nmI (fun v98_104 hv120 => ?_)
              have g121 := rgI ((720 * p3) + v80_159)
              first | have e122 := adX (720 * p3) v80_159 (by omega) (by omega) | skip
              have g123 := rgI (((720 * p3) + v80_159) - 1)
              first | have e124 := sbN ((720 * p3) + v80_159) 1 (1) (by decide) (by omega) (by omega) | skip
              have q125 := eqI hv120
              refine Sf_wrI (by omega) (by omega) (fun g108_108 hw126 => ?_)
              refine Sf_rdI (by omega) (by omega) (fun v121_113 hv127 => ?_)
              have g128 := rgI v121_113
              refine Sf_rdI (by omega) (by omega) (fun v128_117 hv129 => ?_)
              have g130 := rgI v128_117
              refine Sf_ite (fun h131 => ?_) (fun h131 => ?_)
              · skip
                have c132 := leI h131
                refine Sf_rdI (by omega) (by omega) (fun v148_135 hv133 => ?_)
                have g134 := rgI v148_135
                rw [f_X12_goesOver_J149]
                refine Sf_wrI (by omega) (by omega) (fun g149_122 hw135 => ?_)
                refine Sf_nmI (fun v154_128 hv136 => ?_)
                have g137 := rgI (x6_49 + 1)
                first | have e138 := adN x6_49 1 (1) (by decide) (by omega) (by omega) | skip
                have q139 := eqI hv136
                exact ih v80_159 r36_72 v154_128 o_atA36_73 o_atB36_74 o_atD36_75 o_atF36_76 o_atG36_77 o_atH36_78 o_atL36_79 o_atM36_80 o_atN36_81 o_atS36_82 o_atT36_83 o_atU36_84 o_atX36_85 g65_149 g149_122 o_isRefused36_86 g108_108 o_worth36_87 (by omega) (by omega) (by omega) (by omega) (by omega)
              · skip
                have c140 := nleI h131
                refine Sf_rdI (by omega) (by omega) (fun v138_139 hv141 => ?_)
                have g142 := rgI v138_139
                rw [f_X12_goesOver_J149]
                refine Sf_wrI (by omega) (by omega) (fun g149_122 hw143 => ?_)
                refine Sf_nmI (fun v154_128 hv144 => ?_)
                have g145 := rgI (x6_49 + 1)
                first | have e146 := adN x6_49 1 (1) (by decide) (by omega) (by omega) | skip
                have q147 := eqI hv144
                exact ih v80_159 r36_72 v154_128 o_atA36_73 o_atB36_74 o_atD36_75 o_atF36_76 o_atG36_77 o_atH36_78 o_atL36_79 o_atM36_80 o_atN36_81 o_atS36_82 o_atT36_83 o_atU36_84 o_atX36_85 g65_149 g149_122 o_isRefused36_86 g108_108 o_worth36_87 (by omega) (by omega) (by omega) (by omega) (by omega)
          · skip
            have c148 := neI h100
            rw [f_X12_goesOver_J83]
            refine Sf_ite (fun h149 => ?_) (fun h149 => ?_)
            · skip
              have c150 := eqI h149
              refine Sf_nmI (fun v154_100 hv151 => ?_)
              have g152 := rgI (x6_49 + 1)
              first | have e153 := adN x6_49 1 (1) (by decide) (by omega) (by omega) | skip
              have q154 := eqI hv151
              exact ih x4_47 r36_72 v154_100 o_atA36_73 o_atB36_74 o_atD36_75 o_atF36_76 o_atG36_77 o_atH36_78 o_atL36_79 o_atM36_80 o_atN36_81 o_atS36_82 o_atT36_83 o_atU36_84 o_atX36_85 first__63 greatest__64 o_isRefused36_86 last__66 o_worth36_87 (by omega) (by omega) (by omega) (by omega) (by omega)
            · skip
              have c155 := neI h149
              refine Sf_nmI (fun v98_104 hv156 => ?_)
              have l157 : (720 : Int32).toInt = 720 := by decide
              have g158 := rgI (720 * p3)
              first | have e159 := mlY 720 p3 (720) (by decide) (by omega) (by omega) | skip
              have g160 := rgI ((720 * p3) + x4_47)
              first | have e161 := adX (720 * p3) x4_47 (by omega) (by omega) | skip
              have g162 := rgI (((720 * p3) + x4_47) - 1)
              first | have e163 := sbN ((720 * p3) + x4_47) 1 (1) (by decide) (by omega) (by omega) | skip
              have q164 := eqI hv156
              refine Sf_wrI (by omega) (by omega) (fun g108_108 hw165 => ?_)
              refine Sf_rdI (by omega) (by omega) (fun v121_113 hv166 => ?_)
              have g167 := rgI v121_113
              refine Sf_rdI (by omega) (by omega) (fun v128_117 hv168 => ?_)
              have g169 := rgI v128_117
              refine Sf_ite (fun h170 => ?_) (fun h170 => ?_)
              · skip
                have c171 := leI h170
                refine Sf_rdI (by omega) (by omega) (fun v148_135 hv172 => ?_)
                have g173 := rgI v148_135
                rw [f_X12_goesOver_J149]
                refine Sf_wrI (by omega) (by omega) (fun g149_122 hw174 => ?_)
                refine Sf_nmI (fun v154_128 hv175 => ?_)
                have g176 := rgI (x6_49 + 1)
                first | have e177 := adN x6_49 1 (1) (by decide) (by omega) (by omega) | skip
                have q178 := eqI hv175
                exact ih x4_47 r36_72 v154_128 o_atA36_73 o_atB36_74 o_atD36_75 o_atF36_76 o_atG36_77 o_atH36_78 o_atL36_79 o_atM36_80 o_atN36_81 o_atS36_82 o_atT36_83 o_atU36_84 o_atX36_85 first__63 g149_122 o_isRefused36_86 g108_108 o_worth36_87 (by omega) (by omega) (by omega) (by omega) (by omega)
              · skip
                have c179 := nleI h170
                refine Sf_rdI (by omega) (by omega) (fun v138_139 hv180 => ?_)
                have g181 := rgI v138_139
                rw [f_X12_goesOver_J149]
                refine Sf_wrI (by omega) (by omega) (fun g149_122 hw182 => ?_)
                refine Sf_nmI (fun v154_128 hv183 => ?_)
                have g184 := rgI (x6_49 + 1)
                first | have e185 := adN x6_49 1 (1) (by decide) (by omega) (by omega) | skip
                have q186 := eqI hv183
                exact ih x4_47 r36_72 v154_128 o_atA36_73 o_atB36_74 o_atD36_75 o_atF36_76 o_atG36_77 o_atH36_78 o_atL36_79 o_atM36_80 o_atN36_81 o_atS36_82 o_atT36_83 o_atU36_84 o_atX36_85 first__63 g149_122 o_isRefused36_86 g108_108 o_worth36_87 (by omega) (by omega) (by omega) (by omega) (by omega)
      · skip
        have l187 : (0 : Int32).toInt = 0 := by decide
        have c188 := neI h41
        rw [f_X12_goesOver_J36]
        have g189 := rgI (x4_47 - 1)
        first | have e190 := sbN x4_47 1 (1) (by decide) (by omega) (by omega) | skip
        refine Sf_cb16 (s_X12_isMarked atA__50 atB__51 atD__52 atF__53 atG__54 atH__55 atL__56 atM__57 atN__58 atS__59 atT__60 atU__61 atX__62 s_code s_codeArg s_codeFrom s_codeTo s_highAt isRefused__65 s_many s_shapeAt worth__67 p1 p2 x6_49 (x4_47 - 1) (by omega) (by omega) (by omega) (by omega) (by first | assumption | exact ⟨_, ‹_›⟩)) (fun r36_72 o_atA36_73 o_atB36_74 o_atD36_75 o_atF36_76 o_atG36_77 o_atH36_78 o_atL36_79 o_atM36_80 o_atN36_81 o_atS36_82 o_atT36_83 o_atU36_84 o_atX36_85 o_isRefused36_86 o_worth36_87 hp191 => ?_)
        have hp191 : ((r36_72.toInt = 0 ∨ r36_72.toInt = 1)) := hp191
        have g192 := rgI r36_72
        have g193 := rgI o_atA36_73
        have g194 := rgI o_atB36_74
        have g195 := rgI o_atD36_75
        have g196 := rgI o_atF36_76
        have g197 := rgI o_atG36_77
        have g198 := rgI o_atH36_78
        have g199 := rgI o_atL36_79
        have g200 := rgI o_atM36_80
        have g201 := rgI o_atN36_81
        have g202 := rgI o_atS36_82
        have g203 := rgI o_atT36_83
        have g204 := rgI o_atU36_84
        have g205 := rgI o_atX36_85
        refine Sf_ite (fun h206 => ?_) (fun h206 => ?_)
        · skip
          have c207 := eqI h206
          rw [f_X12_goesOver_J83]
          refine Sf_ite (fun h208 => ?_) (fun h208 => ?_)
          · skip
            have c209 := eqI h208
            refine Sf_nmI (fun v154_100 hv210 => ?_)
            have g211 := rgI (x6_49 + 1)
            first | have e212 := adN x6_49 1 (1) (by decide) (by omega) (by omega) | skip
            have q213 := eqI hv210
            exact ih x4_47 r36_72 v154_100 o_atA36_73 o_atB36_74 o_atD36_75 o_atF36_76 o_atG36_77 o_atH36_78 o_atL36_79 o_atM36_80 o_atN36_81 o_atS36_82 o_atT36_83 o_atU36_84 o_atX36_85 first__63 greatest__64 o_isRefused36_86 last__66 o_worth36_87 (by omega) (by omega) (by omega) (by omega) (by omega)
          · skip
            have c214 := neI h208
            refine Sf_nmI (fun v98_104 hv215 => ?_)
            have l216 : (720 : Int32).toInt = 720 := by decide
            have g217 := rgI (720 * p3)
            first | have e218 := mlY 720 p3 (720) (by decide) (by omega) (by omega) | skip
            have g219 := rgI ((720 * p3) + x4_47)
            first | have e220 := adX (720 * p3) x4_47 (by omega) (by omega) | skip
            have g221 := rgI (((720 * p3) + x4_47) - 1)
            first | have e222 := sbN ((720 * p3) + x4_47) 1 (1) (by decide) (by omega) (by omega) | skip
            have q223 := eqI hv215
            refine Sf_wrI (by omega) (by omega) (fun g108_108 hw224 => ?_)
            refine Sf_rdI (by omega) (by omega) (fun v121_113 hv225 => ?_)
            have g226 := rgI v121_113
            refine Sf_rdI (by omega) (by omega) (fun v128_117 hv227 => ?_)
            have g228 := rgI v128_117
            refine Sf_ite (fun h229 => ?_) (fun h229 => ?_)
            · skip
              have c230 := leI h229
              refine Sf_rdI (by omega) (by omega) (fun v148_135 hv231 => ?_)
              have g232 := rgI v148_135
              rw [f_X12_goesOver_J149]
              refine Sf_wrI (by omega) (by omega) (fun g149_122 hw233 => ?_)
              refine Sf_nmI (fun v154_128 hv234 => ?_)
              have g235 := rgI (x6_49 + 1)
              first | have e236 := adN x6_49 1 (1) (by decide) (by omega) (by omega) | skip
              have q237 := eqI hv234
              exact ih x4_47 r36_72 v154_128 o_atA36_73 o_atB36_74 o_atD36_75 o_atF36_76 o_atG36_77 o_atH36_78 o_atL36_79 o_atM36_80 o_atN36_81 o_atS36_82 o_atT36_83 o_atU36_84 o_atX36_85 first__63 g149_122 o_isRefused36_86 g108_108 o_worth36_87 (by omega) (by omega) (by omega) (by omega) (by omega)
            · skip
              have c238 := nleI h229
              refine Sf_rdI (by omega) (by omega) (fun v138_139 hv239 => ?_)
              have g240 := rgI v138_139
              rw [f_X12_goesOver_J149]
              refine Sf_wrI (by omega) (by omega) (fun g149_122 hw241 => ?_)
              refine Sf_nmI (fun v154_128 hv242 => ?_)
              have g243 := rgI (x6_49 + 1)
              first | have e244 := adN x6_49 1 (1) (by decide) (by omega) (by omega) | skip
              have q245 := eqI hv242
              exact ih x4_47 r36_72 v154_128 o_atA36_73 o_atB36_74 o_atD36_75 o_atF36_76 o_atG36_77 o_atH36_78 o_atL36_79 o_atM36_80 o_atN36_81 o_atS36_82 o_atT36_83 o_atU36_84 o_atX36_85 first__63 g149_122 o_isRefused36_86 g108_108 o_worth36_87 (by omega) (by omega) (by omega) (by omega) (by omega)
        · skip
          have c246 := neI h206
          refine Sf_ite (fun h247 => ?_) (fun h247 => ?_)
          · skip
            have c248 := eqI h247
            have l249 : (720 : Int32).toInt = 720 := by decide
            have g250 := rgI (720 * p3)
            first | have e251 := mlY 720 p3 (720) (by decide) (by omega) (by omega) | skip
            have g252 := rgI ((720 * p3) + x4_47)
            first | have e253 := adX (720 * p3) x4_47 (by omega) (by omega) | skip
            refine Sf_wrI (by omega) (by omega) (fun g65_149 hw254 => ?_)
            refine Sf_wrI (by omega) (by omega) (fun g79_154 hw255 => ?_)
            refine Sf_nmI (fun v80_159 hv256 => ?_)
            have g257 := rgI (x4_47 + 1)
            first | have e258 := adN x4_47 1 (1) (by decide) (by omega) (by omega) | skip
            have q259 := eqI hv256
            rw [f_X12_goesOver_J83]
            refine Sf_ite (fun h260 => ?_) (fun h260 => ?_)
            · skip
              have c261 := eqI h260
              refine Sf_nmI (fun v154_100 hv262 => ?_)
              have g263 := rgI (x6_49 + 1)
              first | have e264 := adN x6_49 1 (1) (by decide) (by omega) (by omega) | skip
              have q265 := eqI hv262
              exact ih v80_159 r36_72 v154_100 o_atA36_73 o_atB36_74 o_atD36_75 o_atF36_76 o_atG36_77 o_atH36_78 o_atL36_79 o_atM36_80 o_atN36_81 o_atS36_82 o_atT36_83 o_atU36_84 o_atX36_85 g65_149 g79_154 o_isRefused36_86 last__66 o_worth36_87 (by omega) (by omega) (by omega) (by omega) (by omega)
            · skip
              have c266 := neI h260
              refine Sf_nmI (fun v98_104 hv267 => ?_)
              have g268 := rgI ((720 * p3) + v80_159)
              first | have e269 := adX (720 * p3) v80_159 (by omega) (by omega) | skip
              have g270 := rgI (((720 * p3) + v80_159) - 1)
              first | have e271 := sbN ((720 * p3) + v80_159) 1 (1) (by decide) (by omega) (by omega) | skip
              have q272 := eqI hv267
              refine Sf_wrI (by omega) (by omega) (fun g108_108 hw273 => ?_)
              refine Sf_rdI (by omega) (by omega) (fun v121_113 hv274 => ?_)
              have g275 := rgI v121_113
              refine Sf_rdI (by omega) (by omega) (fun v128_117 hv276 => ?_)
              have g277 := rgI v128_117
              refine Sf_ite (fun h278 => ?_) (fun h278 => ?_)
              · skip
                have c279 := leI h278
                refine Sf_rdI (by omega) (by omega) (fun v148_135 hv280 => ?_)
                have g281 := rgI v148_135
                rw [f_X12_goesOver_J149]
                refine Sf_wrI (by omega) (by omega) (fun g149_122 hw282 => ?_)
                refine Sf_nmI (fun v154_128 hv283 => ?_)
                have g284 := rgI (x6_49 + 1)
                first | have e285 := adN x6_49 1 (1) (by decide) (by omega) (by omega) | skip
                have q286 := eqI hv283
                exact ih v80_159 r36_72 v154_128 o_atA36_73 o_atB36_74 o_atD36_75 o_atF36_76 o_atG36_77 o_atH36_78 o_atL36_79 o_atM36_80 o_atN36_81 o_atS36_82 o_atT36_83 o_atU36_84 o_atX36_85 g65_149 g149_122 o_isRefused36_86 g108_108 o_worth36_87 (by omega) (by omega) (by omega) (by omega) (by omega)
              · skip
                have c287 := nleI h278
                refine Sf_rdI (by omega) (by omega) (fun v138_139 hv288 => ?_)
                have g289 := rgI v138_139
                rw [f_X12_goesOver_J149]
                refine Sf_wrI (by omega) (by omega) (fun g149_122 hw290 => ?_)
                refine Sf_nmI (fun v154_128 hv291 => ?_)
                have g292 := rgI (x6_49 + 1)
                first | have e293 := adN x6_49 1 (1) (by decide) (by omega) (by omega) | skip
                have q294 := eqI hv291
                exact ih v80_159 r36_72 v154_128 o_atA36_73 o_atB36_74 o_atD36_75 o_atF36_76 o_atG36_77 o_atH36_78 o_atL36_79 o_atM36_80 o_atN36_81 o_atS36_82 o_atT36_83 o_atU36_84 o_atX36_85 g65_149 g149_122 o_isRefused36_86 g108_108 o_worth36_87 (by omega) (by omega) (by omega) (by omega) (by omega)
          · skip
            have c295 := neI h247
            rw [f_X12_goesOver_J83]
            refine Sf_ite (fun h296 => ?_) (fun h296 => ?_)
            · skip
              have c297 := eqI h296
              refine Sf_nmI (fun v154_100 hv298 => ?_)
              have g299 := rgI (x6_49 + 1)
              first | have e300 := adN x6_49 1 (1) (by decide) (by omega) (by omega) | skip
              have q301 := eqI hv298
              exact ih x4_47 r36_72 v154_100 o_atA36_73 o_atB36_74 o_atD36_75 o_atF36_76 o_atG36_77 o_atH36_78 o_atL36_79 o_atM36_80 o_atN36_81 o_atS36_82 o_atT36_83 o_atU36_84 o_atX36_85 first__63 greatest__64 o_isRefused36_86 last__66 o_worth36_87 (by omega) (by omega) (by omega) (by omega) (by omega)
            · skip
              have c302 := neI h296
              refine Sf_nmI (fun v98_104 hv303 => ?_)
              have l304 : (720 : Int32).toInt = 720 := by decide
              have g305 := rgI (720 * p3)
              first | have e306 := mlY 720 p3 (720) (by decide) (by omega) (by omega) | skip
              have g307 := rgI ((720 * p3) + x4_47)
              first | have e308 := adX (720 * p3) x4_47 (by omega) (by omega) | skip
              have g309 := rgI (((720 * p3) + x4_47) - 1)
              first | have e310 := sbN ((720 * p3) + x4_47) 1 (1) (by decide) (by omega) (by omega) | skip
              have q311 := eqI hv303
              refine Sf_wrI (by omega) (by omega) (fun g108_108 hw312 => ?_)
              refine Sf_rdI (by omega) (by omega) (fun v121_113 hv313 => ?_)
              have g314 := rgI v121_113
              refine Sf_rdI (by omega) (by omega) (fun v128_117 hv315 => ?_)
              have g316 := rgI v128_117
              refine Sf_ite (fun h317 => ?_) (fun h317 => ?_)
              · skip
                have c318 := leI h317
                refine Sf_rdI (by omega) (by omega) (fun v148_135 hv319 => ?_)
                have g320 := rgI v148_135
                rw [f_X12_goesOver_J149]
                refine Sf_wrI (by omega) (by omega) (fun g149_122 hw321 => ?_)
                refine Sf_nmI (fun v154_128 hv322 => ?_)
                have g323 := rgI (x6_49 + 1)
                first | have e324 := adN x6_49 1 (1) (by decide) (by omega) (by omega) | skip
                have q325 := eqI hv322
                exact ih x4_47 r36_72 v154_128 o_atA36_73 o_atB36_74 o_atD36_75 o_atF36_76 o_atG36_77 o_atH36_78 o_atL36_79 o_atM36_80 o_atN36_81 o_atS36_82 o_atT36_83 o_atU36_84 o_atX36_85 first__63 g149_122 o_isRefused36_86 g108_108 o_worth36_87 (by omega) (by omega) (by omega) (by omega) (by omega)
              · skip
                have c326 := nleI h317
                refine Sf_rdI (by omega) (by omega) (fun v138_139 hv327 => ?_)
                have g328 := rgI v138_139
                rw [f_X12_goesOver_J149]
                refine Sf_wrI (by omega) (by omega) (fun g149_122 hw329 => ?_)
                refine Sf_nmI (fun v154_128 hv330 => ?_)
                have g331 := rgI (x6_49 + 1)
                first | have e332 := adN x6_49 1 (1) (by decide) (by omega) (by omega) | skip
                have q333 := eqI hv330
                exact ih x4_47 r36_72 v154_128 o_atA36_73 o_atB36_74 o_atD36_75 o_atF36_76 o_atG36_77 o_atH36_78 o_atL36_79 o_atM36_80 o_atN36_81 o_atS36_82 o_atT36_83 o_atU36_84 o_atX36_85 first__63 g149_122 o_isRefused36_86 g108_108 o_worth36_87 (by omega) (by omega) (by omega) (by omega) (by omega)
set_option maxHeartbeats 4000000 in
set_option maxRecDepth 100000 in
theorem s_X12_goesOver (s_atA : Int32) (s_atB : Int32) (s_atD : Int32) (s_atF : Int32) (s_atG : Int32) (s_atH : Int32) (s_atL : Int32) (s_atM : Int32) (s_atN : Int32) (s_atS : Int32) (s_atT : Int32) (s_atU : Int32) (s_atX : Int32) (s_code : Nat → Int32) (s_codeArg : Nat → Int32) (s_codeFrom : Nat → Int32) (s_codeTo : Nat → Int32) (s_first : Nat → Int32) (s_greatest : Nat → Int32) (s_highAt : Nat → Int32) (s_isRefused : Nat → Int32) (s_last : Nat → Int32) (s_many : Nat → Int32) (s_marked : Nat → Int32) (s_shapeAt : Nat → Int32) (s_worth : Nat → Int32) (p1 : Int32) (p2 : Int32) (p3 : Int32) (hp0 : 0 ≤ p1.toInt) (hp1 : p1.toInt ≤ 3) (hp2 : 0 ≤ p3.toInt) (hp3 : p3.toInt ≤ 1) (hp4 : hOK s_code s_codeFrom s_codeTo s_many) (hp5 : mkOK s_marked) : Sf (f_X12_goesOver s_atA s_atB s_atD s_atF s_atG s_atH s_atL s_atM s_atN s_atS s_atT s_atU s_atX s_code s_codeArg s_codeFrom s_codeTo s_first s_greatest s_highAt s_isRefused s_last s_many s_marked s_shapeAt s_worth p1 p2 p3) (fun (y : Int32 × Int32 × Int32 × Int32 × Int32 × Int32 × Int32 × Int32 × Int32 × Int32 × Int32 × Int32 × Int32 × (Nat → Int32) × (Nat → Int32) × (Nat → Int32) × (Nat → Int32) × (Nat → Int32) × (Nat → Int32)) => (mkOK (y.2.2.2.2.2.2.2.2.2.2.2.2.2.2.2.2.2.1))) := by
  have g1 := rgI s_atA
  have g2 := rgI s_atB
  have g3 := rgI s_atD
  have g4 := rgI s_atF
  have g5 := rgI s_atG
  have g6 := rgI s_atH
  have g7 := rgI s_atL
  have g8 := rgI s_atM
  have g9 := rgI s_atN
  have g10 := rgI s_atS
  have g11 := rgI s_atT
  have g12 := rgI s_atU
  have g13 := rgI s_atX
  have g14 := rgI p1
  have g15 := rgI p2
  have g16 := rgI p3
  have hFU : (100000 : Int) ≤ (FU : Int) := Int.ofNat_le.mpr FU_ge
  rw [f_X12_goesOver]
  have l17 : (0 : Int32).toInt = 0 := by decide
  refine s_X12_goesOver_L9 s_code s_codeArg s_codeFrom s_codeTo s_highAt s_many s_shapeAt p1 p2 p3 (f_X12_goesOver_J160 s_marked p3) (by omega) (by omega) (by omega) (by omega) (by first | assumption | exact ⟨_, ‹_›⟩) ?_ FU 0 0 0 s_atA s_atB s_atD s_atF s_atG s_atH s_atL s_atM s_atN s_atS s_atT s_atU s_atX s_first s_greatest s_isRefused s_last s_worth (by omega) (by omega) (by omega) (by omega) (by omega)
  · intro z18 z19 z20 z21 z22 z23 z24 z25 z26 z27 z28 z29 z30 z31 z32 z33 z34 z35 z36 hk37 hk38
    have g39 := rgI z18
    have g40 := rgI z19
    have g41 := rgI z20
    have g42 := rgI z21
    have g43 := rgI z22
    have g44 := rgI z23
    have g45 := rgI z24
    have g46 := rgI z25
    have g47 := rgI z26
    have g48 := rgI z27
    have g49 := rgI z28
    have g50 := rgI z29
    have g51 := rgI z30
    have g52 := rgI z31
    have hk37 : 0 ≤ z18.toInt := hk37
    have hk38 : z18.toInt ≤ 720 := hk38
    rw [f_X12_goesOver_J160]
    refine Sf_wrI (by omega) (by omega) (fun g167_23 hw53 => ?_)
    have hmk := mkOK_wr (by assumption : mkOK s_marked) hw53 (by omega) (by omega)
    refine Sf_some (show (mkOK g167_23) from ?_)
    (exact hmk)
set_option maxHeartbeats 4000000 in
set_option maxRecDepth 100000 in
theorem s_X12_isAlone_L2 (s_first : Nat → Int32) (s_last : Nat → Int32) (s_marked : Nat → Int32) (p1 : Int32) (hp0 : mkOK s_marked) (hp1 : 0 ≤ p1.toInt) (hp2 : p1.toInt < 720) : ∀ (n : Nat) (x2_2 : Int32), (0 ≤ x2_2.toInt) → (x2_2.toInt ≤ 720) → (721 - x2_2.toInt < (n : Int)) → Sf (f_X12_isAlone_L2 s_first s_last s_marked p1 n x2_2) (fun (y : Int32) => ((y.toInt = 0 ∨ y.toInt = 1))) := by
  have hFU : (100000 : Int) ≤ (FU : Int) := Int.ofNat_le.mpr FU_ge
  have g1 := rgI p1
  intro n
  induction n with
  | zero =>
    intro x2_2 hi0 hi1 hm
    have g2 := rgI x2_2
    exact absurd hm (by omega)
  | succ n ih =>
    intro x2_2 hi0 hi1 hm
    rw [f_X12_isAlone_L2]
    have g3 := rgI x2_2
    have l4 : (0 : Int32).toInt = 0 := by decide
    refine Sf_rdI (by omega) (by omega) (fun v8_3 hv5 => ?_)
    have g6 := rgI v8_3
    have hmr := mkOK_rd (by assumption : mkOK s_marked) hv5
    refine Sf_ite (fun h7 => ?_) (fun h7 => ?_)
    · skip
      have c8 := leI h7
      have l9 : (1 : Int32).toInt = 1 := by decide
      refine Sf_some (show (((1 : Int32).toInt = 0 ∨ (1 : Int32).toInt = 1)) from ?_)
      (omega)
    · skip
      have c10 := nleI h7
      refine Sf_rdI (by omega) (by omega) (fun v17_11 hv11 => ?_)
      have g12 := rgI v17_11
      have l13 : (720 : Int32).toInt = 720 := by decide
      have g14 := rgI (720 + p1)
      first | have e15 := adX 720 p1 (by omega) (by omega) | skip
      refine Sf_rdI (by omega) (by omega) (fun v27_15 hv16 => ?_)
      have g17 := rgI v27_15
      refine Sf_ite (fun h18 => ?_) (fun h18 => ?_)
      · skip
        have c19 := ltI h18
        refine Sf_nmI (fun v52_22 hv20 => ?_)
        have g21 := rgI (x2_2 + 1)
        first | have e22 := adN x2_2 1 (1) (by decide) (by omega) (by omega) | skip
        have q23 := eqI hv20
        exact ih v52_22 (by omega) (by omega) (by omega)
      · skip
        have c24 := nltI h18
        refine Sf_rdI (by omega) (by omega) (fun v36_26 hv25 => ?_)
        have g26 := rgI v36_26
        refine Sf_rdI (by omega) (by omega) (fun v46_30 hv27 => ?_)
        have g28 := rgI v46_30
        refine Sf_ite (fun h29 => ?_) (fun h29 => ?_)
        · skip
          have c30 := ltI h29
          refine Sf_nmI (fun v52_37 hv31 => ?_)
          have g32 := rgI (x2_2 + 1)
          first | have e33 := adN x2_2 1 (1) (by decide) (by omega) (by omega) | skip
          have q34 := eqI hv31
          exact ih v52_37 (by omega) (by omega) (by omega)
        · skip
          have c35 := nltI h29
          refine Sf_some (show (((0 : Int32).toInt = 0 ∨ (0 : Int32).toInt = 1)) from ?_)
          (omega)
set_option maxHeartbeats 4000000 in
set_option maxRecDepth 100000 in
theorem s_X12_isAlone (s_first : Nat → Int32) (s_last : Nat → Int32) (s_marked : Nat → Int32) (p1 : Int32) (hp0 : mkOK s_marked) (hp1 : 0 ≤ p1.toInt) (hp2 : p1.toInt < 720) : Sf (f_X12_isAlone s_first s_last s_marked p1) (fun (y : Int32) => ((y.toInt = 0 ∨ y.toInt = 1))) := by
  have g1 := rgI p1
  have hFU : (100000 : Int) ≤ (FU : Int) := Int.ofNat_le.mpr FU_ge
  rw [f_X12_isAlone]
  have l2 : (0 : Int32).toInt = 0 := by decide
  refine s_X12_isAlone_L2 s_first s_last s_marked p1 (by assumption) (by omega) (by omega)  FU 0 (by omega) (by omega) (by omega)
