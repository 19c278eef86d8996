theorem s_X12_sumOf_x (aA aB aD aF aG aH aL aM aN aS aT aU aX : Int32) (code ca cf ir sf wo : Nat → Int32) (x : Int32) (h1 : 0 ≤ x.toInt) (h2 : x.toInt < 240) (hS : SG code (sf x.toNatClampNeg) (cf x.toNatClampNeg)) : Sf (f_X12_sumOf aA aB aD aF aG aH aL aM aN aS aT aU aX code ca cf ir sf wo x) (fun _ => True) := s_X12_sumOf h1 h2 hS
/-- the kept texts, for the stories -/
def tlOK (code cf sf many : Nat → Int32) : Prop := ∃ ct, rOK code cf ct sf many
theorem tl_sg {code cf sf many : Nat → Int32} {p : Int32} (h : tlOK code cf sf many) (h1 : 0 ≤ p.toInt) (h2 : p.toInt ≤ 5) (h3 : 0 < (many (14 + p).toNatClampNeg).toInt) : SG code (sf (12 * (14 + p)).toNatClampNeg) (cf (12 * (14 + p)).toNatClampNeg) := by
  obtain ⟨ct, h⟩ := h
  have l : (14 : Int32).toInt = 14 := by decide
  have e0 := adX 14 p (by omega) (by omega)
  have e1 := mlY 12 (14 + p) 12 (by decide) (by omega) (by omega)
  obtain ⟨m1, m2, m3⟩ := rOK_rd h (i := 14 + p) (by omega) (by omega) rfl
  exact (m3 (12 * (14 + p)) (by omega) (by omega)).2
set_option maxHeartbeats 4000000 in
set_option maxRecDepth 100000 in
theorem s_X12_marks (s_sources : Int32) (s_seed : Int32) (s_atA : Int32) (s_atB : Int32) (s_atD : Int32) (s_atF : Int32) (s_atG : Int32) (s_atH : Int32) (s_atL : Int32) (s_atM : Int32) (s_atN : Int32) (s_atS : Int32) (s_atT : Int32) (s_atU : Int32) (s_atX : Int32) (s_paperHigh : Int32) (s_paperShape : Int32) (s_byStar : Nat → Int32) (s_code : Nat → Int32) (s_codeArg : Nat → Int32) (s_codeFrom : Nat → Int32) (s_codeTo : Nat → Int32) (s_first : Nat → Int32) (s_greatest : Nat → Int32) (s_highAt : Nat → Int32) (s_isRefused : Nat → Int32) (s_last : Nat → Int32) (s_many : Nat → Int32) (s_marked : Nat → Int32) (s_minuteOf : Nat → Int32) (s_shape : Nat → Int32) (s_shapeAt : Nat → Int32) (s_sumFrom : Nat → Int32) (s_weekdays : Nat → Int32) (s_wide : Nat → Int32) (s_worth : Nat → Int32) (p1 : Int32) (p2 : Int32) (p3 : Int32) (hp0 : 0 ≤ s_sources.toInt) (hp1 : s_sources.toInt ≤ 10) (hp2 : rOK s_code s_codeFrom s_codeTo s_sumFrom s_many) (hp3 : mkOK s_marked) : Sf (f_X12_marks s_sources s_seed s_atA s_atB s_atD s_atF s_atG s_atH s_atL s_atM s_atN s_atS s_atT s_atU s_atX s_paperHigh s_paperShape s_byStar s_code s_codeArg s_codeFrom s_codeTo s_first s_greatest s_highAt s_isRefused s_last s_many s_marked s_minuteOf s_shape s_shapeAt s_sumFrom s_weekdays s_wide s_worth p1 p2 p3) (fun (y : Int32 × Int32 × Int32 × Int32 × Int32 × Int32 × Int32 × Int32 × Int32 × Int32 × Int32 × Int32 × Int32 × Int32 × Int32 × Int32 × (Nat → Int32) × (Nat → Int32) × (Nat → Int32) × (Nat → Int32) × (Nat → Int32) × (Nat → Int32) × (Nat → Int32) × (Nat → Int32)) => (mkOK (y.2.2.2.2.2.2.2.2.2.2.2.2.2.2.2.2.2.2.2.2.2.1))) := by
  have g1 := rgI s_sources
  have g2 := rgI s_seed
  have g3 := rgI s_atA
  have g4 := rgI s_atB
  have g5 := rgI s_atD
  have g6 := rgI s_atF
  have g7 := rgI s_atG
  have g8 := rgI s_atH
  have g9 := rgI s_atL
  have g10 := rgI s_atM
  have g11 := rgI s_atN
  have g12 := rgI s_atS
  have g13 := rgI s_atT
  have g14 := rgI s_atU
  have g15 := rgI s_atX
  have g16 := rgI s_paperHigh
  have g17 := rgI s_paperShape
  have g18 := rgI p1
  have g19 := rgI p2
  have g20 := rgI p3
  have hFU : (100000 : Int) ≤ (FU : Int) := Int.ofNat_le.mpr FU_ge
  rw [f_X12_marks]
  refine Sf_cb1 (s_X12_isReader p1 ) (fun r1_1 hp21 => ?_)
  have hp21 : ((r1_1.toInt = 0 ∨ r1_1.toInt = 1)) ∧ ((r1_1.toInt = 1 ∧ 0 ≤ p1.toInt ∧ p1.toInt ≤ 3) ∨ (r1_1.toInt = 0 ∧ (p1.toInt < 0 ∨ 3 < p1.toInt))) := hp21
  obtain ⟨hq22, hq23⟩ := hp21
  have g24 := rgI r1_1
  refine Sf_ite (fun h25 => ?_) (fun h25 => ?_)
  · skip
    have l26 : (0 : Int32).toInt = 0 := by decide
    have c27 := eqI h25
    have l28 : ((-1) : Int32).toInt = -1 := by decide
    refine Sf_some (show (mkOK s_marked) from ?_)
    (assumption)
  · skip
    have l29 : (0 : Int32).toInt = 0 := by decide
    have c30 := neI h25
    refine Sf_cb1 (s_X12_isDay p2 ) (fun r8_33 hp31 => ?_)
    have hp31 : ((r8_33.toInt = 0 ∨ r8_33.toInt = 1)) ∧ ((r8_33.toInt = 1 ∧ 0 ≤ p2.toInt ∧ p2.toInt ≤ 399) ∨ (r8_33.toInt = 0 ∧ (p2.toInt < 0 ∨ 399 < p2.toInt))) := hp31
    obtain ⟨hq32, hq33⟩ := hp31
    have g34 := rgI r8_33
    refine Sf_ite (fun h35 => ?_) (fun h35 => ?_)
    · skip
      have c36 := eqI h35
      have l37 : ((-1) : Int32).toInt = -1 := by decide
      refine Sf_some (show (mkOK s_marked) from ?_)
      (assumption)
    · skip
      have c38 := neI h35
      refine Sf_ite (fun h39 => ?_) (fun h39 => ?_)
      · skip
        have l40 : ((-1) : Int32).toInt = -1 := by decide
        have c41 := leI h39
        refine Sf_cb19 (s_X12_lays s_sources s_seed s_atA s_atB s_atD s_atF s_atG s_atH s_atL s_atM s_atN s_atS s_atT s_atU s_atX s_paperHigh s_paperShape s_byStar s_code s_codeArg s_codeFrom s_codeTo s_highAt s_isRefused s_many s_minuteOf s_shape s_shapeAt s_sumFrom s_weekdays s_wide s_worth p2 (by omega) (by omega) (by assumption)) (fun o_atA23_68 o_atB23_69 o_atD23_70 o_atF23_71 o_atG23_72 o_atH23_73 o_atL23_74 o_atM23_75 o_atN23_76 o_atS23_77 o_atT23_78 o_atU23_79 o_atX23_80 o_paperHigh23_81 o_paperShape23_82 o_highAt23_83 o_isRefused23_84 o_shapeAt23_85 o_worth23_86 hp42 => ?_)
        have g43 := rgI o_atA23_68
        have g44 := rgI o_atB23_69
        have g45 := rgI o_atD23_70
        have g46 := rgI o_atF23_71
        have g47 := rgI o_atG23_72
        have g48 := rgI o_atH23_73
        have g49 := rgI o_atL23_74
        have g50 := rgI o_atM23_75
        have g51 := rgI o_atN23_76
        have g52 := rgI o_atS23_77
        have g53 := rgI o_atT23_78
        have g54 := rgI o_atU23_79
        have g55 := rgI o_atX23_80
        have g56 := rgI o_paperHigh23_81
        have g57 := rgI o_paperShape23_82
        refine Sf_cb19 (s_X12_goesOver o_atA23_68 o_atB23_69 o_atD23_70 o_atF23_71 o_atG23_72 o_atH23_73 o_atL23_74 o_atM23_75 o_atN23_76 o_atS23_77 o_atT23_78 o_atU23_79 o_atX23_80 s_code s_codeArg s_codeFrom s_codeTo s_first s_greatest o_highAt23_83 o_isRefused23_84 s_last s_many s_marked o_shapeAt23_85 o_worth23_86 p1 p2 0 (by omega) (by omega) (by omega) (by omega) (by first | assumption | exact ⟨_, ‹_›⟩) (by assumption)) (fun o_atA30_91 o_atB30_92 o_atD30_93 o_atF30_94 o_atG30_95 o_atH30_96 o_atL30_97 o_atM30_98 o_atN30_99 o_atS30_100 o_atT30_101 o_atU30_102 o_atX30_103 o_first30_104 o_greatest30_105 o_isRefused30_106 o_last30_107 o_marked30_108 o_worth30_109 hp58 => ?_)
        have hp58 : (mkOK o_marked30_108) := hp58
        have g59 := rgI o_atA30_91
        have g60 := rgI o_atB30_92
        have g61 := rgI o_atD30_93
        have g62 := rgI o_atF30_94
        have g63 := rgI o_atG30_95
        have g64 := rgI o_atH30_96
        have g65 := rgI o_atL30_97
        have g66 := rgI o_atM30_98
        have g67 := rgI o_atN30_99
        have g68 := rgI o_atS30_100
        have g69 := rgI o_atT30_101
        have g70 := rgI o_atU30_102
        have g71 := rgI o_atX30_103
        refine Sf_ite (fun h72 => ?_) (fun h72 => ?_)
        · skip
          have c73 := eqI h72
          refine Sf_rdI (by omega) (by omega) (fun v43_238 hv74 => ?_)
          have g75 := rgI v43_238
          have hmrv43_238 := mkOK_rd (by assumption : mkOK o_marked30_108) hv74
          refine Sf_some (show (mkOK o_marked30_108) from ?_)
          (assumption)
        · skip
          have c76 := neI h72
          refine Sf_rdI (by omega) (by omega) (fun v53_117 hv77 => ?_)
          have g78 := rgI v53_117
          have hmrv53_117 := mkOK_rd (by assumption : mkOK o_marked30_108) hv77
          refine Sf_ite (fun h79 => ?_) (fun h79 => ?_)
          · skip
            have l80 : (3 : Int32).toInt = 3 := by decide
            have g81 := rgI (p3 / 3)
            have d82 := dn_ p3 3 3 (by decide) (by decide)
            have c83 := ltI h79
            refine Sf_ite (fun h84 => ?_) (fun h84 => ?_)
            · skip
              have g85 := rgI (jrem p3 3)
              have m86 := rm_ p3 3 (by decide)
              have c87 := eqI h84
              refine Sf_rdI (by omega) (by omega) (fun v72_186 hv88 => ?_)
              have g89 := rgI v72_186
              refine Sf_some (show (mkOK o_marked30_108) from ?_)
              (assumption)
            · skip
              have g90 := rgI (jrem p3 3)
              have m91 := rm_ p3 3 (by decide)
              have c92 := neI h84
              refine Sf_ite (fun h93 => ?_) (fun h93 => ?_)
              · skip
                have l94 : (1 : Int32).toInt = 1 := by decide
                have c95 := eqI h93
                refine Sf_rdI (by omega) (by omega) (fun v90_158 hv96 => ?_)
                have g97 := rgI v90_158
                refine Sf_some (show (mkOK o_marked30_108) from ?_)
                (assumption)
              · skip
                have l98 : (1 : Int32).toInt = 1 := by decide
                have c99 := neI h93
                refine Sf_rdI (by omega) (by omega) (fun v101_130 hv100 => ?_)
                have g101 := rgI v101_130
                refine Sf_some (show (mkOK o_marked30_108) from ?_)
                (assumption)
          · skip
            have l102 : (3 : Int32).toInt = 3 := by decide
            have g103 := rgI (p3 / 3)
            have d104 := dn_ p3 3 3 (by decide) (by decide)
            have c105 := nltI h79
            refine Sf_some (show (mkOK o_marked30_108) from ?_)
            (assumption)
      · skip
        have l106 : ((-1) : Int32).toInt = -1 := by decide
        have c107 := nleI h39
        refine Sf_some (show (mkOK s_marked) from ?_)
        (assumption)
set_option maxHeartbeats 4000000 in
set_option maxRecDepth 100000 in
theorem s_X12_height (s_sources : Int32) (s_seed : Int32) (s_atA : Int32) (s_atB : Int32) (s_atD : Int32) (s_atF : Int32) (s_atG : Int32) (s_atH : Int32) (s_atL : Int32) (s_atM : Int32) (s_atN : Int32) (s_atS : Int32) (s_atT : Int32) (s_atU : Int32) (s_atX : Int32) (s_byStar : Nat → Int32) (s_code : Nat → Int32) (s_codeArg : Nat → Int32) (s_codeFrom : Nat → Int32) (s_codeTo : Nat → Int32) (s_isRefused : Nat → Int32) (s_many : Nat → Int32) (s_minuteOf : Nat → Int32) (s_sumFrom : Nat → Int32) (s_weekdays : Nat → Int32) (s_wide : Nat → Int32) (s_worth : Nat → Int32) (p1 : Int32) (p2 : Int32) (p3 : Int32) (hp0 : 0 ≤ s_sources.toInt) (hp1 : s_sources.toInt ≤ 10) (hp2 : rOK s_code s_codeFrom s_codeTo s_sumFrom s_many) : Sf (f_X12_height s_sources s_seed s_atA s_atB s_atD s_atF s_atG s_atH s_atL s_atM s_atN s_atS s_atT s_atU s_atX s_byStar s_code s_codeArg s_codeFrom s_codeTo s_isRefused s_many s_minuteOf s_sumFrom s_weekdays s_wide s_worth p1 p2 p3) (fun (y : Int32 × Int32 × Int32 × Int32 × Int32 × Int32 × Int32 × Int32 × Int32 × Int32 × Int32 × Int32 × Int32 × Int32 × (Nat → Int32) × (Nat → Int32)) => True) := by
  have g1 := rgI s_sources
  have g2 := rgI s_seed
  have g3 := rgI s_atA
  have g4 := rgI s_atB
  have g5 := rgI s_atD
  have g6 := rgI s_atF
  have g7 := rgI s_atG
  have g8 := rgI s_atH
  have g9 := rgI s_atL
  have g10 := rgI s_atM
  have g11 := rgI s_atN
  have g12 := rgI s_atS
  have g13 := rgI s_atT
  have g14 := rgI s_atU
  have g15 := rgI s_atX
  have g16 := rgI p1
  have g17 := rgI p2
  have g18 := rgI p3
  have hFU : (100000 : Int) ≤ (FU : Int) := Int.ofNat_le.mpr FU_ge
  rw [f_X12_height]
  refine Sf_cb1 (s_X12_isSource s_sources p1 (by omega) (by omega)) (fun r2_1 hp19 => ?_)
  have hp19 : ((r2_1.toInt = 0 ∨ r2_1.toInt = 1)) ∧ (r2_1.toInt = 0 ∨ (0 ≤ p1.toInt ∧ p1.toInt < s_sources.toInt)) := hp19
  obtain ⟨hq20, hq21⟩ := hp19
  have g22 := rgI r2_1
  refine Sf_ite (fun h23 => ?_) (fun h23 => ?_)
  · skip
    have l24 : (0 : Int32).toInt = 0 := by decide
    have c25 := eqI h23
    exact Sf_some trivial
  · skip
    have l26 : (0 : Int32).toInt = 0 := by decide
    have c27 := neI h23
    refine Sf_cb1 (s_X12_isDay p2 ) (fun r9_25 hp28 => ?_)
    have hp28 : ((r9_25.toInt = 0 ∨ r9_25.toInt = 1)) ∧ ((r9_25.toInt = 1 ∧ 0 ≤ p2.toInt ∧ p2.toInt ≤ 399) ∨ (r9_25.toInt = 0 ∧ (p2.toInt < 0 ∨ 399 < p2.toInt))) := hp28
    obtain ⟨hq29, hq30⟩ := hp28
    have g31 := rgI r9_25
    refine Sf_ite (fun h32 => ?_) (fun h32 => ?_)
    · skip
      have c33 := eqI h32
      exact Sf_some trivial
    · skip
      have c34 := neI h32
      refine Sf_cb1 (s_X12_isMinute p3 ) (fun r16_49 hp35 => ?_)
      have hp35 : ((r16_49.toInt = 0 ∨ r16_49.toInt = 1)) ∧ ((r16_49.toInt = 1 ∧ 0 ≤ p3.toInt ∧ p3.toInt ≤ 1439) ∨ (r16_49.toInt = 0 ∧ (p3.toInt < 0 ∨ 1439 < p3.toInt))) := hp35
      obtain ⟨hq36, hq37⟩ := hp35
      have g38 := rgI r16_49
      refine Sf_ite (fun h39 => ?_) (fun h39 => ?_)
      · skip
        have c40 := eqI h39
        exact Sf_some trivial
      · skip
        have c41 := neI h39
        refine Sf_cb16 (s_X12_heightOf s_seed s_atA s_atB s_atD s_atF s_atG s_atH s_atL s_atM s_atN s_atS s_atT s_atU s_atX s_byStar s_code s_codeArg s_codeFrom s_codeTo s_isRefused s_many s_minuteOf s_sumFrom s_weekdays s_wide s_worth p1 p2 p3 (by omega) (by omega) (by assumption)) (fun r26_73 o_atA26_74 o_atB26_75 o_atD26_76 o_atF26_77 o_atG26_78 o_atH26_79 o_atL26_80 o_atM26_81 o_atN26_82 o_atS26_83 o_atT26_84 o_atU26_85 o_atX26_86 o_isRefused26_87 o_worth26_88 hp42 => ?_)
        have hp42 : (0 ≤ r26_73.toInt ∧ r26_73.toInt ≤ 1000) := hp42
        have g43 := rgI r26_73
        have g44 := rgI o_atA26_74
        have g45 := rgI o_atB26_75
        have g46 := rgI o_atD26_76
        have g47 := rgI o_atF26_77
        have g48 := rgI o_atG26_78
        have g49 := rgI o_atH26_79
        have g50 := rgI o_atL26_80
        have g51 := rgI o_atM26_81
        have g52 := rgI o_atN26_82
        have g53 := rgI o_atS26_83
        have g54 := rgI o_atT26_84
        have g55 := rgI o_atU26_85
        have g56 := rgI o_atX26_86
        exact Sf_some trivial
set_option maxHeartbeats 4000000 in
set_option maxRecDepth 100000 in
theorem s_X12_paper (s_sources : Int32) (s_seed : Int32) (s_atA : Int32) (s_atB : Int32) (s_atD : Int32) (s_atF : Int32) (s_atG : Int32) (s_atH : Int32) (s_atL : Int32) (s_atM : Int32) (s_atN : Int32) (s_atS : Int32) (s_atT : Int32) (s_atU : Int32) (s_atX : Int32) (s_paperHigh : Int32) (s_paperShape : Int32) (s_byStar : Nat → Int32) (s_code : Nat → Int32) (s_codeArg : Nat → Int32) (s_codeFrom : Nat → Int32) (s_codeTo : Nat → Int32) (s_isRefused : Nat → Int32) (s_many : Nat → Int32) (s_minuteOf : Nat → Int32) (s_shape : Nat → Int32) (s_sumFrom : Nat → Int32) (s_weekdays : Nat → Int32) (s_wide : Nat → Int32) (s_worth : Nat → Int32) (p1 : Int32) (p2 : Int32) (p3 : Int32) (hp0 : 0 ≤ s_sources.toInt) (hp1 : s_sources.toInt ≤ 10) (hp2 : rOK s_code s_codeFrom s_codeTo s_sumFrom s_many) : Sf (f_X12_paper s_sources s_seed s_atA s_atB s_atD s_atF s_atG s_atH s_atL s_atM s_atN s_atS s_atT s_atU s_atX s_paperHigh s_paperShape s_byStar s_code s_codeArg s_codeFrom s_codeTo s_isRefused s_many s_minuteOf s_shape s_sumFrom s_weekdays s_wide s_worth p1 p2 p3) (fun (y : Int32 × Int32 × Int32 × Int32 × Int32 × Int32 × Int32 × Int32 × Int32 × Int32 × Int32 × Int32 × Int32 × Int32 × Int32 × Int32 × (Nat → Int32) × (Nat → Int32)) => True) := by
  have g1 := rgI s_sources
  have g2 := rgI s_seed
  have g3 := rgI s_atA
  have g4 := rgI s_atB
  have g5 := rgI s_atD
  have g6 := rgI s_atF
  have g7 := rgI s_atG
  have g8 := rgI s_atH
  have g9 := rgI s_atL
  have g10 := rgI s_atM
  have g11 := rgI s_atN
  have g12 := rgI s_atS
  have g13 := rgI s_atT
  have g14 := rgI s_atU
  have g15 := rgI s_atX
  have g16 := rgI s_paperHigh
  have g17 := rgI s_paperShape
  have g18 := rgI p1
  have g19 := rgI p2
  have g20 := rgI p3
  have hFU : (100000 : Int) ≤ (FU : Int) := Int.ofNat_le.mpr FU_ge
  rw [f_X12_paper]
  refine Sf_cb1 (s_X12_isDay p1 ) (fun r1_1 hp21 => ?_)
  have hp21 : ((r1_1.toInt = 0 ∨ r1_1.toInt = 1)) ∧ ((r1_1.toInt = 1 ∧ 0 ≤ p1.toInt ∧ p1.toInt ≤ 399) ∨ (r1_1.toInt = 0 ∧ (p1.toInt < 0 ∨ 399 < p1.toInt))) := hp21
  obtain ⟨hq22, hq23⟩ := hp21
  have g24 := rgI r1_1
  refine Sf_ite (fun h25 => ?_) (fun h25 => ?_)
  · skip
    have l26 : (0 : Int32).toInt = 0 := by decide
    have c27 := eqI h25
    exact Sf_some trivial
  · skip
    have l28 : (0 : Int32).toInt = 0 := by decide
    have c29 := neI h25
    refine Sf_cb1 (s_X12_isMinute p2 ) (fun r8_27 hp30 => ?_)
    have hp30 : ((r8_27.toInt = 0 ∨ r8_27.toInt = 1)) ∧ ((r8_27.toInt = 1 ∧ 0 ≤ p2.toInt ∧ p2.toInt ≤ 1439) ∨ (r8_27.toInt = 0 ∧ (p2.toInt < 0 ∨ 1439 < p2.toInt))) := hp30
    obtain ⟨hq31, hq32⟩ := hp30
    have g33 := rgI r8_27
    refine Sf_ite (fun h34 => ?_) (fun h34 => ?_)
    · skip
      have c35 := eqI h34
      exact Sf_some trivial
    · skip
      have c36 := neI h34
      have t37 := t64 p3
      have l38 : (0 : Int64).toInt = 0 := by decide
      have l39 : (1 : Int64).toInt = 1 := by decide
      refine Sf_cb1 (s_X12_lies (Int32.toInt64 p3) 0 1 ) (fun r18_53 hp40 => ?_)
      have hp40 : ((r18_53.toInt = 0 ∨ r18_53.toInt = 1)) ∧ ((r18_53.toInt = 1 ∧ (0 : Int64).toInt ≤ (Int32.toInt64 p3).toInt ∧ (Int32.toInt64 p3).toInt ≤ (1 : Int64).toInt) ∨ (r18_53.toInt = 0 ∧ ((Int32.toInt64 p3).toInt < (0 : Int64).toInt ∨ (1 : Int64).toInt < (Int32.toInt64 p3).toInt))) := hp40
      obtain ⟨hq41, hq42⟩ := hp40
      have g43 := rgI r18_53
      refine Sf_ite (fun h44 => ?_) (fun h44 => ?_)
      · skip
        have c45 := eqI h44
        exact Sf_some trivial
      · skip
        have c46 := neI h44
        refine Sf_cb17 (s_X12_looks s_sources s_seed s_atA s_atB s_atD s_atF s_atG s_atH s_atL s_atM s_atN s_atS s_atT s_atU s_atX s_paperHigh s_paperShape s_byStar s_code s_codeArg s_codeFrom s_codeTo s_isRefused s_many s_minuteOf s_shape s_sumFrom s_weekdays s_wide s_worth p1 p2 (by omega) (by omega) (by assumption)) (fun o_atA29_61 o_atB29_62 o_atD29_63 o_atF29_64 o_atG29_65 o_atH29_66 o_atL29_67 o_atM29_68 o_atN29_69 o_atS29_70 o_atT29_71 o_atU29_72 o_atX29_73 o_paperHigh29_74 o_paperShape29_75 o_isRefused29_76 o_worth29_77 hp47 => ?_)
        have g48 := rgI o_atA29_61
        have g49 := rgI o_atB29_62
        have g50 := rgI o_atD29_63
        have g51 := rgI o_atF29_64
        have g52 := rgI o_atG29_65
        have g53 := rgI o_atH29_66
        have g54 := rgI o_atL29_67
        have g55 := rgI o_atM29_68
        have g56 := rgI o_atN29_69
        have g57 := rgI o_atS29_70
        have g58 := rgI o_atT29_71
        have g59 := rgI o_atU29_72
        have g60 := rgI o_atX29_73
        have g61 := rgI o_paperHigh29_74
        have g62 := rgI o_paperShape29_75
        refine Sf_ite (fun h63 => ?_) (fun h63 => ?_)
        · skip
          have c64 := eqI h63
          exact Sf_some trivial
        · skip
          have c65 := neI h63
          exact Sf_some trivial
set_option maxHeartbeats 4000000 in
set_option maxRecDepth 100000 in
theorem s_X12_isTold (s_many : Nat → Int32) (p1 : Int32)  : Sf (f_X12_isTold s_many p1) (fun (y : Int32) => ((y.toInt = 0 ∨ y.toInt = 1)) ∧ (y.toInt = 0 ∨ (0 ≤ p1.toInt ∧ p1.toInt ≤ 5 ∧ 0 < (s_many (14 + p1).toNatClampNeg).toInt))) := by
  have g1 := rgI p1
  have hFU : (100000 : Int) ≤ (FU : Int) := Int.ofNat_le.mpr FU_ge
  rw [f_X12_isTold]
  refine Sf_cb1 (s_X12_isTale p1 ) (fun r1_1 hp2 => ?_)
  have hp2 : ((r1_1.toInt = 0 ∨ r1_1.toInt = 1)) ∧ ((r1_1.toInt = 1 ∧ 0 ≤ p1.toInt ∧ p1.toInt ≤ 5) ∨ (r1_1.toInt = 0 ∧ (p1.toInt < 0 ∨ 5 < p1.toInt))) := hp2
  obtain ⟨hq3, hq4⟩ := hp2
  have g5 := rgI r1_1
  refine Sf_ite (fun h6 => ?_) (fun h6 => ?_)
  · skip
    have l7 : (0 : Int32).toInt = 0 := by decide
    have c8 := eqI h6
    refine Sf_some (show (((0 : Int32).toInt = 0 ∨ (0 : Int32).toInt = 1)) ∧ ((0 : Int32).toInt = 0 ∨ (0 ≤ p1.toInt ∧ p1.toInt ≤ 5 ∧ 0 < (s_many (14 + p1).toNatClampNeg).toInt)) from ?_)
    refine ⟨?_, ?_⟩ <;> (omega)
  · skip
    have l9 : (0 : Int32).toInt = 0 := by decide
    have c10 := neI h6
    have l11 : (14 : Int32).toInt = 14 := by decide
    have g12 := rgI (14 + p1)
    first | have e13 := adX 14 p1 (by omega) (by omega) | skip
    refine Sf_rdI (by omega) (by omega) (fun v15_10 hv14 => ?_)
    have g15 := rgI v15_10
    have hme := eqI hv14
    refine Sf_ite (fun h16 => ?_) (fun h16 => ?_)
    · skip
      have c17 := leI h16
      refine Sf_some (show (((0 : Int32).toInt = 0 ∨ (0 : Int32).toInt = 1)) ∧ ((0 : Int32).toInt = 0 ∨ (0 ≤ p1.toInt ∧ p1.toInt ≤ 5 ∧ 0 < (s_many (14 + p1).toNatClampNeg).toInt)) from ?_)
      refine ⟨?_, ?_⟩ <;> (omega)
    · skip
      have c18 := nleI h16
      have l19 : (1 : Int32).toInt = 1 := by decide
      refine Sf_some (show (((1 : Int32).toInt = 0 ∨ (1 : Int32).toInt = 1)) ∧ ((1 : Int32).toInt = 0 ∨ (0 ≤ p1.toInt ∧ p1.toInt ≤ 5 ∧ 0 < (s_many (14 + p1).toNatClampNeg).toInt)) from ?_)
      refine ⟨?_, ?_⟩ <;> (omega)
set_option maxHeartbeats 4000000 in
set_option maxRecDepth 100000 in
theorem s_X12_saysOf (s_atA : Int32) (s_atB : Int32) (s_atD : Int32) (s_atF : Int32) (s_atG : Int32) (s_atH : Int32) (s_atL : Int32) (s_atM : Int32) (s_atN : Int32) (s_atS : Int32) (s_atT : Int32) (s_atU : Int32) (s_atX : Int32) (s_code : Nat → Int32) (s_codeArg : Nat → Int32) (s_codeFrom : Nat → Int32) (s_isRefused : Nat → Int32) (s_nightDay : Nat → Int32) (s_sumFrom : Nat → Int32) (s_worth : Nat → Int32) (p1 : Int32) (p2 : Int32) (hp0 : 0 ≤ p1.toInt) (hp1 : p1.toInt ≤ 5) (hp2 : 0 ≤ p2.toInt) (hp3 : p2.toInt < 30) (hp4 : SG s_code (s_sumFrom (12 * (14 + p1)).toNatClampNeg) (s_codeFrom (12 * (14 + p1)).toNatClampNeg)) : Sf (f_X12_saysOf s_atA s_atB s_atD s_atF s_atG s_atH s_atL s_atM s_atN s_atS s_atT s_atU s_atX s_code s_codeArg s_codeFrom s_isRefused s_nightDay s_sumFrom s_worth p1 p2) (fun (y : Int32 × Int32 × Int32 × Int32 × Int32 × Int32 × Int32 × Int32 × Int32 × Int32 × Int32 × Int32 × Int32 × Int32 × (Nat → Int32) × (Nat → Int32)) => True) := by
  have g1 := rgI s_atA
  have g2 := rgI s_atB
  have g3 := rgI s_atD
  have g4 := rgI s_atF
  have g5 := rgI s_atG
  have g6 := rgI s_atH
  have g7 := rgI s_atL
  have g8 := rgI s_atM
  have g9 := rgI s_atN
  have g10 := rgI s_atS
  have g11 := rgI s_atT
  have g12 := rgI s_atU
  have g13 := rgI s_atX
  have g14 := rgI p1
  have g15 := rgI p2
  have hFU : (100000 : Int) ≤ (FU : Int) := Int.ofNat_le.mpr FU_ge
  rw [f_X12_saysOf]
  refine Sf_cb13 (s_X12_clears s_atA s_atB s_atD s_atF s_atG s_atH s_atL s_atM s_atN s_atS s_atT s_atU s_atX ) (fun o_atA1_1 o_atB1_2 o_atD1_3 o_atF1_4 o_atG1_5 o_atH1_6 o_atL1_7 o_atM1_8 o_atN1_9 o_atS1_10 o_atT1_11 o_atU1_12 o_atX1_13 hp16 => ?_)
  have g17 := rgI o_atA1_1
  have g18 := rgI o_atB1_2
  have g19 := rgI o_atD1_3
  have g20 := rgI o_atF1_4
  have g21 := rgI o_atG1_5
  have g22 := rgI o_atH1_6
  have g23 := rgI o_atL1_7
  have g24 := rgI o_atM1_8
  have g25 := rgI o_atN1_9
  have g26 := rgI o_atS1_10
  have g27 := rgI o_atT1_11
  have g28 := rgI o_atU1_12
  have g29 := rgI o_atX1_13
  refine Sf_rdI (by omega) (by omega) (fun v10_18 hv30 => ?_)
  have g31 := rgI v10_18
  have l32 : (12 : Int32).toInt = 12 := by decide
  have l33 : (14 : Int32).toInt = 14 := by decide
  have g34 := rgI (14 + p1)
  first | have e35 := adX 14 p1 (by omega) (by omega) | skip
  have g36 := rgI (12 * (14 + p1))
  first | have e37 := mlY 12 (14 + p1) (12) (by decide) (by omega) (by omega) | skip
  refine Sf_cb3 (s_X12_sumOf_x o_atA1_1 o_atB1_2 v10_18 o_atF1_4 o_atG1_5 o_atH1_6 o_atL1_7 o_atM1_8 p2 o_atS1_10 o_atT1_11 o_atU1_12 o_atX1_13 s_code s_codeArg s_codeFrom s_isRefused s_sumFrom s_worth (12 * (14 + p1)) (by omega) (by omega) (by assumption)) (fun r27_24 o_isRefused27_25 o_worth27_26 hp38 => ?_)
  have g39 := rgI r27_24
  exact Sf_some trivial
set_option maxHeartbeats 4000000 in
set_option maxRecDepth 100000 in
theorem s_X12_fallsAt_L2 (s_nights : Int32) (s_code : Nat → Int32) (s_codeArg : Nat → Int32) (s_codeFrom : Nat → Int32) (s_found : Nat → Int32) (s_nightDay : Nat → Int32) (s_sumFrom : Nat → Int32) (p1 : Int32) (p2 : Int32) (hp0 : 0 ≤ s_nights.toInt) (hp1 : s_nights.toInt ≤ 30) (hp2 : 0 ≤ p1.toInt) (hp3 : p1.toInt ≤ 5) (hp4 : SG s_code (s_sumFrom (12 * (14 + p1)).toNatClampNeg) (s_codeFrom (12 * (14 + p1)).toNatClampNeg)) : ∀ (n : Nat) (x3_2 : Int32) (atA__3 : Int32) (atB__4 : Int32) (atD__5 : Int32) (atF__6 : Int32) (atG__7 : Int32) (atH__8 : Int32) (atL__9 : Int32) (atM__10 : Int32) (atN__11 : Int32) (atS__12 : Int32) (atT__13 : Int32) (atU__14 : Int32) (atX__15 : Int32) (isRefused__16 : Nat → Int32) (worth__17 : Nat → Int32), (0 ≤ x3_2.toInt) → (x3_2.toInt ≤ 30) → (31 - x3_2.toInt < (n : Int)) → Sf (f_X12_fallsAt_L2 s_nights s_code s_codeArg s_codeFrom s_found s_nightDay s_sumFrom p1 p2 n x3_2 atA__3 atB__4 atD__5 atF__6 atG__7 atH__8 atL__9 atM__10 atN__11 atS__12 atT__13 atU__14 atX__15 isRefused__16 worth__17) (fun (y : Int32 × Int32 × Int32 × Int32 × Int32 × Int32 × Int32 × Int32 × Int32 × Int32 × Int32 × Int32 × Int32 × Int32 × (Nat → Int32) × (Nat → Int32)) => True) := by
  have hFU : (100000 : Int) ≤ (FU : Int) := Int.ofNat_le.mpr FU_ge
  have g1 := rgI s_nights
  have g2 := rgI p1
  have g3 := rgI p2
  intro n
  induction n with
  | zero =>
    intro x3_2 atA__3 atB__4 atD__5 atF__6 atG__7 atH__8 atL__9 atM__10 atN__11 atS__12 atT__13 atU__14 atX__15 isRefused__16 worth__17 hi0 hi1 hm
    have g4 := rgI x3_2
    have g5 := rgI atA__3
    have g6 := rgI atB__4
    have g7 := rgI atD__5
    have g8 := rgI atF__6
    have g9 := rgI atG__7
    have g10 := rgI atH__8
    have g11 := rgI atL__9
    have g12 := rgI atM__10
    have g13 := rgI atN__11
    have g14 := rgI atS__12
    have g15 := rgI atT__13
    have g16 := rgI atU__14
    have g17 := rgI atX__15
    exact absurd hm (by omega)
  | succ n ih =>
    intro x3_2 atA__3 atB__4 atD__5 atF__6 atG__7 atH__8 atL__9 atM__10 atN__11 atS__12 atT__13 atU__14 atX__15 isRefused__16 worth__17 hi0 hi1 hm
    rw [f_X12_fallsAt_L2]
    have g18 := rgI x3_2
    have g19 := rgI atA__3
    have g20 := rgI atB__4
    have g21 := rgI atD__5
    have g22 := rgI atF__6
    have g23 := rgI atG__7
    have g24 := rgI atH__8
    have g25 := rgI atL__9
    have g26 := rgI atM__10
    have g27 := rgI atN__11
    have g28 := rgI atS__12
    have g29 := rgI atT__13
    have g30 := rgI atU__14
    have g31 := rgI atX__15
    refine Sf_ite (fun h32 => ?_) (fun h32 => ?_)
    · skip
      have c33 := leI h32
      exact Sf_some trivial
    · skip
      have c34 := nleI h32
      refine Sf_cb16 (s_X12_saysOf atA__3 atB__4 atD__5 atF__6 atG__7 atH__8 atL__9 atM__10 atN__11 atS__12 atT__13 atU__14 atX__15 s_code s_codeArg s_codeFrom isRefused__16 s_nightDay s_sumFrom worth__17 p1 x3_2 (by omega) (by omega) (by omega) (by omega) (by first | assumption | exact tl_sg (by assumption) (by omega) (by omega) (by omega))) (fun r13_37 o_atA13_38 o_atB13_39 o_atD13_40 o_atF13_41 o_atG13_42 o_atH13_43 o_atL13_44 o_atM13_45 o_atN13_46 o_atS13_47 o_atT13_48 o_atU13_49 o_atX13_50 o_isRefused13_51 o_worth13_52 hp35 => ?_)
      have g36 := rgI r13_37
      have g37 := rgI o_atA13_38
      have g38 := rgI o_atB13_39
      have g39 := rgI o_atD13_40
      have g40 := rgI o_atF13_41
      have g41 := rgI o_atG13_42
      have g42 := rgI o_atH13_43
      have g43 := rgI o_atL13_44
      have g44 := rgI o_atM13_45
      have g45 := rgI o_atN13_46
      have g46 := rgI o_atS13_47
      have g47 := rgI o_atT13_48
      have g48 := rgI o_atU13_49
      have g49 := rgI o_atX13_50
      refine Sf_rdI (by omega) (by omega) (fun v22_57 hv50 => ?_)
      have g51 := rgI v22_57
      have g52 := rgI (-p2)
      first | have e53 := ngX p2 (by omega) | skip
      have t54 := t64 (-p2)
      have t55 := t64 p2
      refine Sf_cb1 (s_X12_lies ((Int32.toInt64 r13_37) - (Int32.toInt64 v22_57)) (Int32.toInt64 (-p2)) (Int32.toInt64 p2) ) (fun r30_61 hp56 => ?_)
      have hp56 : ((r30_61.toInt = 0 ∨ r30_61.toInt = 1)) ∧ ((r30_61.toInt = 1 ∧ (Int32.toInt64 (-p2)).toInt ≤ ((Int32.toInt64 r13_37) - (Int32.toInt64 v22_57)).toInt ∧ ((Int32.toInt64 r13_37) - (Int32.toInt64 v22_57)).toInt ≤ (Int32.toInt64 p2).toInt) ∨ (r30_61.toInt = 0 ∧ (((Int32.toInt64 r13_37) - (Int32.toInt64 v22_57)).toInt < (Int32.toInt64 (-p2)).toInt ∨ (Int32.toInt64 p2).toInt < ((Int32.toInt64 r13_37) - (Int32.toInt64 v22_57)).toInt))) := hp56
      obtain ⟨hq57, hq58⟩ := hp56
      have g59 := rgI r30_61
      refine Sf_ite (fun h60 => ?_) (fun h60 => ?_)
      · skip
        have l61 : (0 : Int32).toInt = 0 := by decide
        have c62 := eqI h60
        exact Sf_some trivial
      · skip
        have l63 : (0 : Int32).toInt = 0 := by decide
        have c64 := neI h60
        refine Sf_nmI (fun v38_69 hv65 => ?_)
        have g66 := rgI (x3_2 + 1)
        first | have e67 := adN x3_2 1 (1) (by decide) (by omega) (by omega) | skip
        have q68 := eqI hv65
        exact ih v38_69 o_atA13_38 o_atB13_39 o_atD13_40 o_atF13_41 o_atG13_42 o_atH13_43 o_atL13_44 o_atM13_45 o_atN13_46 o_atS13_47 o_atT13_48 o_atU13_49 o_atX13_50 o_isRefused13_51 o_worth13_52 (by omega) (by omega) (by omega)
set_option maxHeartbeats 4000000 in
set_option maxRecDepth 100000 in
theorem s_X12_fallsAt (s_nights : Int32) (s_atA : Int32) (s_atB : Int32) (s_atD : Int32) (s_atF : Int32) (s_atG : Int32) (s_atH : Int32) (s_atL : Int32) (s_atM : Int32) (s_atN : Int32) (s_atS : Int32) (s_atT : Int32) (s_atU : Int32) (s_atX : Int32) (s_code : Nat → Int32) (s_codeArg : Nat → Int32) (s_codeFrom : Nat → Int32) (s_found : Nat → Int32) (s_isRefused : Nat → Int32) (s_nightDay : Nat → Int32) (s_sumFrom : Nat → Int32) (s_worth : Nat → Int32) (p1 : Int32) (p2 : Int32) (hp0 : 0 ≤ s_nights.toInt) (hp1 : s_nights.toInt ≤ 30) (hp2 : 0 ≤ p1.toInt) (hp3 : p1.toInt ≤ 5) (hp4 : SG s_code (s_sumFrom (12 * (14 + p1)).toNatClampNeg) (s_codeFrom (12 * (14 + p1)).toNatClampNeg)) : Sf (f_X12_fallsAt s_nights s_atA s_atB s_atD s_atF s_atG s_atH s_atL s_atM s_atN s_atS s_atT s_atU s_atX s_code s_codeArg s_codeFrom s_found s_isRefused s_nightDay s_sumFrom s_worth p1 p2) (fun (y : Int32 × Int32 × Int32 × Int32 × Int32 × Int32 × Int32 × Int32 × Int32 × Int32 × Int32 × Int32 × Int32 × Int32 × (Nat → Int32) × (Nat → Int32)) => True) := by
  have g1 := rgI s_nights
  have g2 := rgI s_atA
  have g3 := rgI s_atB
  have g4 := rgI s_atD
  have g5 := rgI s_atF
  have g6 := rgI s_atG
  have g7 := rgI s_atH
  have g8 := rgI s_atL
  have g9 := rgI s_atM
  have g10 := rgI s_atN
  have g11 := rgI s_atS
  have g12 := rgI s_atT
  have g13 := rgI s_atU
  have g14 := rgI s_atX
  have g15 := rgI p1
  have g16 := rgI p2
  have hFU : (100000 : Int) ≤ (FU : Int) := Int.ofNat_le.mpr FU_ge
  rw [f_X12_fallsAt]
  have l17 : (0 : Int32).toInt = 0 := by decide
  refine s_X12_fallsAt_L2 s_nights s_code s_codeArg s_codeFrom s_found s_nightDay s_sumFrom p1 p2 (by omega) (by omega) (by omega) (by omega) (by first | assumption | exact tl_sg (by assumption) (by omega) (by omega) (by omega))  FU 0 s_atA s_atB s_atD s_atF s_atG s_atH s_atL s_atM s_atN s_atS s_atT s_atU s_atX s_isRefused s_worth (by omega) (by omega) (by omega)
set_option maxHeartbeats 4000000 in
set_option maxRecDepth 100000 in
theorem s_X12_falls (s_nights : Int32) (s_atA : Int32) (s_atB : Int32) (s_atD : Int32) (s_atF : Int32) (s_atG : Int32) (s_atH : Int32) (s_atL : Int32) (s_atM : Int32) (s_atN : Int32) (s_atS : Int32) (s_atT : Int32) (s_atU : Int32) (s_atX : Int32) (s_code : Nat → Int32) (s_codeArg : Nat → Int32) (s_codeFrom : Nat → Int32) (s_found : Nat → Int32) (s_isRefused : Nat → Int32) (s_many : Nat → Int32) (s_nightDay : Nat → Int32) (s_sumFrom : Nat → Int32) (s_worth : Nat → Int32) (p1 : Int32) (p2 : Int32) (hp0 : 0 ≤ s_nights.toInt) (hp1 : s_nights.toInt ≤ 30) (hp2 : tlOK s_code s_codeFrom s_sumFrom s_many) : Sf (f_X12_falls s_nights s_atA s_atB s_atD s_atF s_atG s_atH s_atL s_atM s_atN s_atS s_atT s_atU s_atX s_code s_codeArg s_codeFrom s_found s_isRefused s_many s_nightDay s_sumFrom s_worth p1 p2) (fun (y : Int32 × Int32 × Int32 × Int32 × Int32 × Int32 × Int32 × Int32 × Int32 × Int32 × Int32 × Int32 × Int32 × Int32 × (Nat → Int32) × (Nat → Int32)) => True) := by
  have g1 := rgI s_nights
  have g2 := rgI s_atA
  have g3 := rgI s_atB
  have g4 := rgI s_atD
  have g5 := rgI s_atF
  have g6 := rgI s_atG
  have g7 := rgI s_atH
  have g8 := rgI s_atL
  have g9 := rgI s_atM
  have g10 := rgI s_atN
  have g11 := rgI s_atS
  have g12 := rgI s_atT
  have g13 := rgI s_atU
  have g14 := rgI s_atX
  have g15 := rgI p1
  have g16 := rgI p2
  have hFU : (100000 : Int) ≤ (FU : Int) := Int.ofNat_le.mpr FU_ge
  rw [f_X12_falls]
  refine Sf_cb1 (s_X12_isTold s_many p1 ) (fun r2_1 hp17 => ?_)
  have hp17 : ((r2_1.toInt = 0 ∨ r2_1.toInt = 1)) ∧ (r2_1.toInt = 0 ∨ (0 ≤ p1.toInt ∧ p1.toInt ≤ 5 ∧ 0 < (s_many (14 + p1).toNatClampNeg).toInt)) := hp17
  obtain ⟨hq18, hq19⟩ := hp17
  have g20 := rgI r2_1
  refine Sf_ite (fun h21 => ?_) (fun h21 => ?_)
  · skip
    have l22 : (0 : Int32).toInt = 0 := by decide
    have c23 := eqI h21
    exact Sf_some trivial
  · skip
    have l24 : (0 : Int32).toInt = 0 := by decide
    have c25 := neI h21
    refine Sf_cb1 (s_X12_isError p2 ) (fun r9_25 hp26 => ?_)
    have hp26 : ((r9_25.toInt = 0 ∨ r9_25.toInt = 1)) ∧ ((r9_25.toInt = 1 ∧ 0 ≤ p2.toInt ∧ p2.toInt ≤ 100000) ∨ (r9_25.toInt = 0 ∧ (p2.toInt < 0 ∨ 100000 < p2.toInt))) := hp26
    obtain ⟨hq27, hq28⟩ := hp26
    have g29 := rgI r9_25
    refine Sf_ite (fun h30 => ?_) (fun h30 => ?_)
    · skip
      have c31 := eqI h30
      exact Sf_some trivial
    · skip
      have c32 := neI h30
      refine Sf_cb16 (s_X12_fallsAt s_nights s_atA s_atB s_atD s_atF s_atG s_atH s_atL s_atM s_atN s_atS s_atT s_atU s_atX s_code s_codeArg s_codeFrom s_found s_isRefused s_nightDay s_sumFrom s_worth p1 p2 (by omega) (by omega) (by omega) (by omega) (by first | assumption | exact tl_sg (by assumption) (by omega) (by omega) (by omega))) (fun r20_33 o_atA20_34 o_atB20_35 o_atD20_36 o_atF20_37 o_atG20_38 o_atH20_39 o_atL20_40 o_atM20_41 o_atN20_42 o_atS20_43 o_atT20_44 o_atU20_45 o_atX20_46 o_isRefused20_47 o_worth20_48 hp33 => ?_)
      have g34 := rgI r20_33
      have g35 := rgI o_atA20_34
      have g36 := rgI o_atB20_35
      have g37 := rgI o_atD20_36
      have g38 := rgI o_atF20_37
      have g39 := rgI o_atG20_38
      have g40 := rgI o_atH20_39
      have g41 := rgI o_atL20_40
      have g42 := rgI o_atM20_41
      have g43 := rgI o_atN20_42
      have g44 := rgI o_atS20_43
      have g45 := rgI o_atT20_44
      have g46 := rgI o_atU20_45
      have g47 := rgI o_atX20_46
      refine Sf_ite (fun h48 => ?_) (fun h48 => ?_)
      · skip
        have c49 := eqI h48
        exact Sf_some trivial
      · skip
        have c50 := neI h48
        exact Sf_some trivial
set_option maxHeartbeats 4000000 in
set_option maxRecDepth 100000 in
theorem s_X12_says (s_nights : Int32) (s_atA : Int32) (s_atB : Int32) (s_atD : Int32) (s_atF : Int32) (s_atG : Int32) (s_atH : Int32) (s_atL : Int32) (s_atM : Int32) (s_atN : Int32) (s_atS : Int32) (s_atT : Int32) (s_atU : Int32) (s_atX : Int32) (s_code : Nat → Int32) (s_codeArg : Nat → Int32) (s_codeFrom : Nat → Int32) (s_isRefused : Nat → Int32) (s_many : Nat → Int32) (s_nightDay : Nat → Int32) (s_sumFrom : Nat → Int32) (s_worth : Nat → Int32) (p1 : Int32) (p2 : Int32) (hp0 : 0 ≤ s_nights.toInt) (hp1 : s_nights.toInt ≤ 30) (hp2 : tlOK s_code s_codeFrom s_sumFrom s_many) : Sf (f_X12_says s_nights s_atA s_atB s_atD s_atF s_atG s_atH s_atL s_atM s_atN s_atS s_atT s_atU s_atX s_code s_codeArg s_codeFrom s_isRefused s_many s_nightDay s_sumFrom s_worth p1 p2) (fun (y : Int32 × Int32 × Int32 × Int32 × Int32 × Int32 × Int32 × Int32 × Int32 × Int32 × Int32 × Int32 × Int32 × Int32 × (Nat → Int32) × (Nat → Int32)) => True) := by
  have g1 := rgI s_nights
  have g2 := rgI s_atA
  have g3 := rgI s_atB
  have g4 := rgI s_atD
  have g5 := rgI s_atF
  have g6 := rgI s_atG
  have g7 := rgI s_atH
  have g8 := rgI s_atL
  have g9 := rgI s_atM
  have g10 := rgI s_atN
  have g11 := rgI s_atS
  have g12 := rgI s_atT
  have g13 := rgI s_atU
  have g14 := rgI s_atX
  have g15 := rgI p1
  have g16 := rgI p2
  have hFU : (100000 : Int) ≤ (FU : Int) := Int.ofNat_le.mpr FU_ge
  rw [f_X12_says]
  refine Sf_cb1 (s_X12_isTold s_many p1 ) (fun r2_1 hp17 => ?_)
  have hp17 : ((r2_1.toInt = 0 ∨ r2_1.toInt = 1)) ∧ (r2_1.toInt = 0 ∨ (0 ≤ p1.toInt ∧ p1.toInt ≤ 5 ∧ 0 < (s_many (14 + p1).toNatClampNeg).toInt)) := hp17
  obtain ⟨hq18, hq19⟩ := hp17
  have g20 := rgI r2_1
  refine Sf_ite (fun h21 => ?_) (fun h21 => ?_)
  · skip
    have l22 : (0 : Int32).toInt = 0 := by decide
    have c23 := eqI h21
    exact Sf_some trivial
  · skip
    have l24 : (0 : Int32).toInt = 0 := by decide
    have c25 := neI h21
    refine Sf_cb1 (s_X12_isNight s_nights p2 (by omega) (by omega)) (fun r10_25 hp26 => ?_)
    have hp26 : ((r10_25.toInt = 0 ∨ r10_25.toInt = 1)) ∧ (r10_25.toInt = 0 ∨ (0 ≤ p2.toInt ∧ p2.toInt < s_nights.toInt)) := hp26
    obtain ⟨hq27, hq28⟩ := hp26
    have g29 := rgI r10_25
    refine Sf_ite (fun h30 => ?_) (fun h30 => ?_)
    · skip
      have c31 := eqI h30
      exact Sf_some trivial
    · skip
      have c32 := neI h30
      refine Sf_cb16 (s_X12_saysOf s_atA s_atB s_atD s_atF s_atG s_atH s_atL s_atM s_atN s_atS s_atT s_atU s_atX s_code s_codeArg s_codeFrom s_isRefused s_nightDay s_sumFrom s_worth p1 p2 (by omega) (by omega) (by omega) (by omega) (by first | assumption | exact tl_sg (by assumption) (by omega) (by omega) (by omega))) (fun r19_49 o_atA19_50 o_atB19_51 o_atD19_52 o_atF19_53 o_atG19_54 o_atH19_55 o_atL19_56 o_atM19_57 o_atN19_58 o_atS19_59 o_atT19_60 o_atU19_61 o_atX19_62 o_isRefused19_63 o_worth19_64 hp33 => ?_)
      have g34 := rgI r19_49
      have g35 := rgI o_atA19_50
      have g36 := rgI o_atB19_51
      have g37 := rgI o_atD19_52
      have g38 := rgI o_atF19_53
      have g39 := rgI o_atG19_54
      have g40 := rgI o_atH19_55
      have g41 := rgI o_atL19_56
      have g42 := rgI o_atM19_57
      have g43 := rgI o_atN19_58
      have g44 := rgI o_atS19_59
      have g45 := rgI o_atT19_60
      have g46 := rgI o_atU19_61
      have g47 := rgI o_atX19_62
      exact Sf_some trivial
