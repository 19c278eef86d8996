section
theorem s_X12_sumOf_x (aA aB aD aF aG aH aL aM aN aS aT aU aX : Int32) (code ca cf ir sf wo : Nat → Int32) (x : Int32) (h1 : 0 ≤ x.toInt) (h2 : x.toInt < 240) (hS : SG code (sf x.toNatClampNeg) (cf x.toNatClampNeg)) : Sf (f_X12_sumOf aA aB aD aF aG aH aL aM aN aS aT aU aX code ca cf ir sf wo x) (fun _ => True) := s_X12_sumOf h1 h2 hS
/-- the kept texts, for the stories -/
def tlOK (code cf sf many : Nat → Int32) : Prop := ∃ ct, rOK code cf ct sf many
theorem tl_sg {code cf sf many : Nat → Int32} {p : Int32} (h : tlOK code cf sf many) (h1 : 0 ≤ p.toInt) (h2 : p.toInt ≤ 5) (h3 : 0 < (many (14 + p).toNatClampNeg).toInt) : SG code (sf (12 * (14 + p)).toNatClampNeg) (cf (12 * (14 + p)).toNatClampNeg) := by
  obtain ⟨ct, h⟩ := h
  have l : (14 : Int32).toInt = 14 := by decide
  have e0 := adX 14 p (by omega) (by omega)
  have e1 := mlY 12 (14 + p) 12 (by decide) (by omega) (by omega)
  obtain ⟨m1, m2, m3⟩ := rOK_rd h (i := 14 + p) (by omega) (by omega) rfl
  exact (m3 (12 * (14 + p)) (by omega) (by omega)).2
set_option maxHeartbeats 4000000 in
set_option maxRecDepth 100000 in
theorem s_X12_marks (s_sources : Int32) (s_seed : Int32) (s_atA : Int32) (s_atB : Int32) (s_atD : Int32) (s_atF : Int32) (s_atG : Int32) (s_atH : Int32) (s_atL : Int32) (s_atM : Int32) (s_atN : Int32) (s_atS : Int32) (s_atT : Int32) (s_atU : Int32) (s_atX : Int32) (s_paperHigh : Int32) (s_paperShape : Int32) (s_byStar : Nat → Int32) (s_code : Nat → Int32) (s_codeArg : Nat → Int32) (s_codeFrom : Nat → Int32) (s_codeTo : Nat → Int32) (s_first : Nat → Int32) (s_greatest : Nat → Int32) (s_highAt : Nat → Int32) (s_isRefused : Nat → Int32) (s_last : Nat → Int32) (s_many : Nat → Int32) (s_marked : Nat → Int32) (s_minuteOf : Nat → Int32) (s_shape : Nat → Int32) (s_shapeAt : Nat → Int32) (s_sumFrom : Nat → Int32) (s_weekdays : Nat → Int32) (s_wide : Nat → Int32) (s_worth : Nat → Int32) (p1 : Int32) (p2 : Int32) (p3 : Int32) (hp0 : 0 ≤ s_sources.toInt) (hp1 : s_sources.toInt ≤ 10) (hp2 : rOK s_code s_codeFrom s_codeTo s_sumFrom s_many) (hp3 : mkOK s_marked) : Sf (f_X12_marks s_sources s_seed s_atA s_atB s_atD s_atF s_atG s_atH s_atL s_atM s_atN s_atS s_atT s_atU s_atX s_paperHigh s_paperShape s_byStar s_code s_codeArg s_codeFrom s_codeTo s_first s_greatest s_highAt s_isRefused s_last s_many s_marked s_minuteOf s_shape s_shapeAt s_sumFrom s_weekdays s_wide s_worth p1 p2 p3) (fun (y : Int32 × Int32 × Int32 × Int32 × Int32 × Int32 × Int32 × Int32 × Int32 × Int32 × Int32 × Int32 × Int32 × Int32 × Int32 × Int32 × (Nat → Int32) × (Nat → Int32) × (Nat → Int32) × (Nat → Int32) × (Nat → Int32) × (Nat → Int32) × (Nat → Int32) × (Nat → Int32)) => (mkOK (y.2.2.2.2.2.2.2.2.2.2.2.2.2.2.2.2.2.2.2.2.2.1))) := by
  have g1 := rgI s_sources
  have g2 := rgI s_seed
  have g3 := rgI s_atA
  have g4 := rgI s_atB
  have g5 := rgI s_atD
  have g6 := rgI s_atF
  have g7 := rgI s_atG
  have g8 := rgI s_atH
  have g9 := rgI s_atL
  have g10 := rgI s_atM
  have g11 := rgI s_atN
  have g12 := rgI s_atS
  have g13 := rgI s_atT
  have g14 := rgI s_atU
  have g15 := rgI s_atX
  have g16 := rgI s_paperHigh
  have g17 := rgI s_paperShape
  have g18 := rgI p1
  have g19 := rgI p2
  have g20 := rgI p3
  have hFU : (100000 : Int) ≤ (FU : Int) := Int.ofNat_le.mpr FU_ge
  rw [f_X12_marks]
  refine Sf_cb1 (s_X12_isReader p1 ) (fun r1_1 hp21 => ?_)
  have hp21 : ((r1_1.toInt = 0 ∨ r1_1.toInt = 1)) ∧ ((r1_1.toInt = 1 ∧ 0 ≤ p1.toInt ∧ p1.toInt ≤ 3) ∨ (r1_1.toInt = 0 ∧ (p1.toInt < 0 ∨ 3 < p1.toInt))) := hp21
  obtain ⟨hq22, hq23⟩ := hp21
  have g24 := rgI r1_1
  refine Sf_ite (fun h25 => ?_) (fun h25 => ?_)
  · skip
    have l26 : (0 : Int32).toInt = 0 := by decide
    have c27 := eqI h25
    have l28 : ((-1) : Int32).toInt = -1 := by decide
    refine Sf_some (show (mkOK s_marked) from ?_)
    (assumption)
  · skip
    have l29 : (0 : Int32).toInt = 0 := by decide
    have c30 := neI h25
    refine Sf_cb1 (s_X12_isDay p2 ) (fun r8_33 hp31 => ?_)
    have hp31 : ((r8_33.toInt = 0 ∨ r8_33.toInt = 1)) ∧ ((r8_33.toInt = 1 ∧ 0 ≤ p2.toInt ∧ p2.toInt ≤ 399) ∨ (r8_33.toInt = 0 ∧ (p2.toInt < 0 ∨ 399 < p2.toInt))) := hp31
    obtain ⟨hq32, hq33⟩ := hp31
    have g34 := rgI r8_33
    refine Sf_ite (fun h35 => ?_) (fun h35 => ?_)
    · skip
      have c36 := eqI h35
      have l37 : ((-1) : Int32).toInt = -1 := by decide
      refine Sf_some (show (mkOK s_marked) from ?_)
      (assumption)
    · skip
      have c38 := neI h35
      refine Sf_ite (fun h39 => ?_) (fun h39 => ?_)
      · skip
        have l40 : ((-1) : Int32).toInt = -1 := by decide
        have c41 := leI h39
        refine Sf_cb19 (s_X12_lays s_sources s_seed s_atA s_atB s_atD s_atF s_atG s_atH s_atL s_atM s_atN s_atS s_atT s_atU s_atX s_paperHigh s_paperShape s_byStar s_code s_codeArg s_codeFrom s_codeTo s_highAt s_isRefused s_many s_minuteOf s_shape s_shapeAt s_sumFrom s_weekdays s_wide s_worth p2 (by omega) (by omega) (by assumption)) (fun o_atA23_68 o_atB23_69 o_atD23_70 o_atF23_71 o_atG23_72 o_atH23_73 o_atL23_74 o_atM23_75 o_atN23_76 o_atS23_77 o_atT23_78 o_atU23_79 o_atX23_80 o_paperHigh23_81 o_paperShape23_82 o_highAt23_83 o_isRefused23_84 o_shapeAt23_85 o_worth23_86 hp42 => ?_)
        have g43 := rgI o_atA23_68
        have g44 := rgI o_atB23_69
        have g45 := rgI o_atD23_70
        have g46 := rgI o_atF23_71
        have g47 := rgI o_atG23_72
        have g48 := rgI o_atH23_73
        have g49 := rgI o_atL23_74
        have g50 := rgI o_atM23_75
        have g51 := rgI o_atN23_76
        have g52 := rgI o_atS23_77
        have g53 := rgI o_atT23_78
        have g54 := rgI o_atU23_79
        have g55 := rgI o_atX23_80
        have g56 := rgI o_paperHigh23_81
        have g57 := rgI o_paperShape23_82
        refine Sf_cb19 (s_X12_goesOver o_atA23_68 o_atB23_69 o_atD23_70 o_atF23_71 o_atG23_72 o_atH23_73 o_atL23_74 o_atM23_75 o_atN23_76 o_atS23_77 o_atT23_78 o_atU23_79 o_atX23_80 s_code s_codeArg s_codeFrom s_codeTo s_first s_greatest o_highAt23_83 o_isRefused23_84 s_last s_many s_marked o_shapeAt23_85 o_worth23_86 p1 p2 0 (by omega) (by omega) (by omega) (by omega) (by first | assumption | exact ⟨_, ‹_›⟩) (by assumption)) (fun o_atA30_91 o_atB30_92 o_atD30_93 o_atF30_94 o_atG30_95 o_atH30_96 o_atL30_97 o_atM30_98 o_atN30_99 o_atS30_100 o_atT30_101 o_atU30_102 o_atX30_103 o_first30_104 o_greatest30_105 o_isRefused30_106 o_last30_107 o_marked30_108 o_worth30_109 hp58 => ?_)
        have hp58 : (mkOK o_marked30_108) := hp58
        have g59 := rgI o_atA30_91
        have g60 := rgI o_atB30_92
        have g61 := rgI o_atD30_93
        have g62 := rgI o_atF30_94
        have g63 := rgI o_atG30_95
        have g64 := rgI o_atH30_96
        have g65 := rgI o_atL30_97
        have g66 := rgI o_atM30_98
        have g67 := rgI o_atN30_99
        have g68 := rgI o_atS30_100
        have g69 := rgI o_atT30_101
        have g70 := rgI o_atU30_102
        have g71 := rgI o_atX30_103
        refine Sf_ite (fun h72 => ?_) (fun h72 => ?_)
        · skip
          have c73 := eqI h72
          refine Sf_rdI (by omega) (by omega) (fun v43_238 hv74 => ?_)
          have g75 := rgI v43_238
          have hmrv43_238 := mkOK_rd (by assumption : mkOK o_marked30_108) hv74
          refine Sf_some (show (mkOK o_marked30_108) from ?_)
          (assumption)
        · skip
          have c76 := neI h72
          refine Sf_rdI (by omega) (by omega) (fun v53_117 hv77 => ?_)
          have g78 := rgI v53_117
          have hmrv53_117 := mkOK_rd (by assumption : mkOK o_marked30_108) hv77
          refine Sf_ite (fun h79 => ?_) (fun h79 => ?_)
          · skip
            have l80 : (3 : Int32).toInt = 3 := by decide
            have g81 := rgI (p3 / 3)
            have d82 := dn_ p3 3 3 (by decide) (by decide)
            have c83 := ltI h79
            refine Sf_ite (fun h84 => ?_) (fun h84 => ?_)
            · skip
              have g85 := rgI (jrem p3 3)
              have m86 := rm_ p3 3 (by decide)
              have c87 := eqI h84
              refine Sf_rdI (by omega) (by omega) (fun v72_186 hv88 => ?_)
              have g89 := rgI v72_186
              refine Sf_some (show (mkOK o_marked30_108) from ?_)
              (assumption)
            · skip
              have g90 := rgI (jrem p3 3)
              have m91 := rm_ p3 3 (by decide)
              have c92 := neI h84
              refine Sf_ite (fun h93 => ?_) (fun h93 => ?_)
              · skip
                have l94 : (1 : Int32).toInt = 1 := by decide
                have c95 := eqI h93
                refine Sf_rdI (by omega) (by omega) (fun v90_158 hv96 => ?_)
                have g97 := rgI v90_158
                refine Sf_some (show (mkOK o_marked30_108) from ?_)
                (assumption)
              · skip
                have l98 : (1 : Int32).toInt = 1 := by decide
                have c99 := neI h93
                refine Sf_rdI (by omega) (by omega) (fun v101_130 hv100 => ?_)
                have g101 := rgI v101_130
                refine Sf_some (show (mkOK o_marked30_108) from ?_)
                (assumption)
          · skip
            have l102 : (3 : Int32).toInt = 3 := by decide
            have g103 := rgI (p3 / 3)
            have d104 := dn_ p3 3 3 (by decide) (by decide)
            have c105 := nltI h79
            refine Sf_some (show (mkOK o_marked30_108) from ?_)
            (assumption)
      · skip
        have l106 : ((-1) : Int32).toInt = -1 := by decide
        have c107 := nleI h39
        refine Sf_some (show (mkOK s_marked) from ?_)
        (assumption)
set_option maxHeartbeats 4000000 in
set_option maxRecDepth 100000 in
theorem s_X12_height (s_sources : Int32) (s_seed : Int32) (s_atA : Int32) (s_atB : Int32) (s_atD : Int32) (s_atF : Int32) (s_atG : Int32) (s_atH : Int32) (s_atL : Int32) (s_atM : Int32) (s_atN : Int32) (s_atS : Int32) (s_atT : Int32) (s_atU : Int32) (s_atX : Int32) (s_byStar : Nat → Int32) (s_code : Nat → Int32) (s_codeArg : Nat → Int32) (s_codeFrom : Nat → Int32) (s_codeTo : Nat → Int32) (s_isRefused : Nat → Int32) (s_many : Nat → Int32) (s_minuteOf : Nat → Int32) (s_sumFrom : Nat → Int32) (s_weekdays : Nat → Int32) (s_wide : Nat → Int32) (s_worth : Nat → Int32) (p1 : Int32) (p2 : Int32) (p3 : Int32) (hp0 : 0 ≤ s_sources.toInt) (hp1 : s_sources.toInt ≤ 10) (hp2 : rOK s_code s_codeFrom s_codeTo s_sumFrom s_many) : Sf (f_X12_height s_sources s_seed s_atA s_atB s_atD s_atF s_atG s_atH s_atL s_atM s_atN s_atS s_atT s_atU s_atX s_byStar s_code s_codeArg s_codeFrom s_codeTo s_isRefused s_many s_minuteOf s_sumFrom s_weekdays s_wide s_worth p1 p2 p3) (fun (y : Int32 × Int32 × Int32 × Int32 × Int32 × Int32 × Int32 × Int32 × Int32 × Int32 × Int32 × Int32 × Int32 × Int32 × (Nat → Int32) × (Nat → Int32)) => True) := by
  have g1 := rgI s_sources
  have g2 := rgI s_seed
  have g3 := rgI s_atA
  have g4 := rgI s_atB
  have g5 := rgI s_atD
  have g6 := rgI s_atF
  have g7 := rgI s_atG
  have g8 := rgI s_atH
  have g9 := rgI s_atL
  have g10 := rgI s_atM
  have g11 := rgI s_atN
  have g12 := rgI s_atS
  have g13 := rgI s_atT
  have g14 := rgI s_atU
  have g15 := rgI s_atX
  have g16 := rgI p1
  have g17 := rgI p2
  have g18 := rgI p3
  have hFU : (100000 : Int) ≤ (FU : Int) := Int.ofNat_le.mpr FU_ge
  rw [f_X12_height]
  refine Sf_cb1 (s_X12_isSource s_sources p1 (by omega) (by omega)) (fun r2_1 hp19 => ?_)
  have hp19 : ((r2_1.toInt = 0 ∨ r2_1.toInt = 1)) ∧ (r2_1.toInt = 0 ∨ (0 ≤ p1.toInt ∧ p1.toInt < s_sources.toInt)) := hp19
  obtain ⟨hq20, hq21⟩ := hp19
  have g22 := rgI r2_1
  refine Sf_ite (fun h23 => ?_) (fun h23 => ?_)
  · skip
    have l24 : (0 : Int32).toInt = 0 := by decide
    have c25 := eqI h23
    exact Sf_some trivial
  · skip
    have l26 : (0 : Int32).toInt = 0 := by decide
    have c27 := neI h23
    refine Sf_cb1 (s_X12_isDay p2 ) (fun r9_25 hp28 => ?_)
    have hp28 : ((r9_25.toInt = 0 ∨ r9_25.toInt = 1)) ∧ ((r9_25.toInt = 1 ∧ 0 ≤ p2.toInt ∧ p2.toInt ≤ 399) ∨ (r9_25.toInt = 0 ∧ (p2.toInt < 0 ∨ 399 < p2.toInt))) := hp28
    obtain ⟨hq29, hq30⟩ := hp28
    have g31 := rgI r9_25
    refine Sf_ite (fun h32 => ?_) (fun h32 => ?_)
    · skip
      have c33 := eqI h32
      exact Sf_some trivial
    · skip
      have c34 := neI h32
      refine Sf_cb1 (s_X12_isMinute p3 ) (fun r16_49 hp35 => ?_)
      have hp35 : ((r16_49.toInt = 0 ∨ r16_49.toInt = 1)) ∧ ((r16_49.toInt = 1 ∧ 0 ≤ p3.toInt ∧ p3.toInt ≤ 1439) ∨ (r16_49.toInt = 0 ∧ (p3.toInt < 0 ∨ 1439 < p3.toInt))) := hp35
      obtain ⟨hq36, hq37⟩ := hp35
      have g38 := rgI r16_49
      refine Sf_ite (fun h39 => ?_) (fun h39 => ?_)
      · skip
        have c40 := eqI h39
        exact Sf_some trivial
      · skip
        have c41 := neI h39
        refine Sf_cb16 (s_X12_heightOf s_seed s_atA s_atB s_atD s_atF s_atG s_atH s_atL s_atM s_atN s_atS s_atT s_atU s_atX s_byStar s_code s_codeArg s_codeFrom s_codeTo s_isRefused s_many s_minuteOf s_sumFrom s_weekdays s_wide s_worth p1 p2 p3 (by omega) (by omega) (by assumption)) (fun r26_73 o_atA26_74 o_atB26_75 o_atD26_76 o_atF26_77 o_atG26_78 o_atH26_79 o_atL26_80 o_atM26_81 o_atN26_82 o_atS26_83 o_atT26_84 o_atU26_85 o_atX26_86 o_isRefused26_87 o_worth26_88 hp42 => ?_)
        have hp42 : (0 ≤ r26_73.toInt ∧ r26_73.toInt ≤ 1000) := hp42
        have g43 := rgI r26_73
        have g44 := rgI o_atA26_74
        have g45 := rgI o_atB26_75
        have g46 := rgI o_atD26_76
        have g47 := rgI o_atF26_77
        have g48 := rgI o_atG26_78
        have g49 := rgI o_atH26_79
        have g50 := rgI o_atL26_80
        have g51 := rgI o_atM26_81
        have g52 := rgI o_atN26_82
        have g53 := rgI o_atS26_83
        have g54 := rgI o_atT26_84
        have g55 := rgI o_atU26_85
        have g56 := rgI o_atX26_86
        exact Sf_some trivial
set_option maxHeartbeats 4000000 in
set_option maxRecDepth 100000 in
theorem s_X12_paper (s_sources : Int32) (s_seed : Int32) (s_atA : Int32) (s_atB : Int32) (s_atD : Int32) (s_atF : Int32) (s_atG : Int32) (s_atH : Int32) (s_atL : Int32) (s_atM : Int32) (s_atN : Int32) (s_atS : Int32) (s_atT : Int32) (s_atU : Int32) (s_atX : Int32) (s_paperHigh : Int32) (s_paperShape : Int32) (s_byStar : Nat → Int32) (s_code : Nat → Int32) (s_codeArg : Nat → Int32) (s_codeFrom : Nat → Int32) (s_codeTo : Nat → Int32) (s_isRefused : Nat → Int32) (s_many : Nat → Int32) (s_minuteOf : Nat → Int32) (s_shape : Nat → Int32) (s_sumFrom : Nat → Int32) (s_weekdays : Nat → Int32) (s_wide : Nat → Int32) (s_worth : Nat → Int32) (p1 : Int32) (p2 : Int32) (p3 : Int32) (hp0 : 0 ≤ s_sources.toInt) (hp1 : s_sources.toInt ≤ 10) (hp2 : rOK s_code s_codeFrom s_codeTo s_sumFrom s_many) : Sf (f_X12_paper s_sources s_seed s_atA s_atB s_atD s_atF s_atG s_atH s_atL s_atM s_atN s_atS s_atT s_atU s_atX s_paperHigh s_paperShape s_byStar s_code s_codeArg s_codeFrom s_codeTo s_isRefused s_many s_minuteOf s_shape s_sumFrom s_weekdays s_wide s_worth p1 p2 p3) (fun (y : Int32 × Int32 × Int32 × Int32 × Int32 × Int32 × Int32 × Int32 × Int32 × Int32 × Int32 × Int32 × Int32 × Int32 × Int32 × Int32 × (Nat → Int32) × (Nat → Int32)) => True) := by
  have g1 := rgI s_sources
  have g2 := rgI s_seed
  have g3 := rgI s_atA
  have g4 := rgI s_atB
  have g5 := rgI s_atD
  have g6 := rgI s_atF
  have g7 := rgI s_atG
  have g8 := rgI s_atH
  have g9 := rgI s_atL
  have g10 := rgI s_atM
  have g11 := rgI s_atN
  have g12 := rgI s_atS
  have g13 := rgI s_atT
  have g14 := rgI s_atU
  have g15 := rgI s_atX
  have g16 := rgI s_paperHigh
  have g17 := rgI s_paperShape
  have g18 := rgI p1
  have g19 := rgI p2
  have g20 := rgI p3
  have hFU : (100000 : Int) ≤ (FU : Int) := Int.ofNat_le.mpr FU_ge
  rw [f_X12_paper]
  refine Sf_cb1 (s_X12_isDay p1 ) (fun r1_1 hp21 => ?_)
  have hp21 : ((r1_1.toInt = 0 ∨ r1_1.toInt = 1)) ∧ ((r1_1.toInt = 1 ∧ 0 ≤ p1.toInt ∧ p1.toInt ≤ 399) ∨ (r1_1.toInt = 0 ∧ (p1.toInt < 0 ∨ 399 < p1.toInt))) := hp21
  obtain ⟨hq22, hq23⟩ := hp21
  have g24 := rgI r1_1
  refine Sf_ite (fun h25 => ?_) (fun h25 => ?_)
  · skip
    have l26 : (0 : Int32).toInt = 0 := by decide
    have c27 := eqI h25
    exact Sf_some trivial
  · skip
    have l28 : (0 : Int32).toInt = 0 := by decide
    have c29 := neI h25
    refine Sf_cb1 (s_X12_isMinute p2 ) (fun r8_27 hp30 => ?_)
    have hp30 : ((r8_27.toInt = 0 ∨ r8_27.toInt = 1)) ∧ ((r8_27.toInt = 1 ∧ 0 ≤ p2.toInt ∧ p2.toInt ≤ 1439) ∨ (r8_27.toInt = 0 ∧ (p2.toInt < 0 ∨ 1439 < p2.toInt))) := hp30
    obtain ⟨hq31, hq32⟩ := hp30
    have g33 := rgI r8_27
    refine Sf_ite (fun h34 => ?_) (fun h34 => ?_)
    · skip
      have c35 := eqI h34
      exact Sf_some trivial
    · skip
      have c36 := neI h34
      have t37 := t64 p3
      have l38 : (0 : Int64).toInt = 0 := by decide
      have l39 : (1 : Int64).toInt = 1 := by decide
      refine Sf_cb1 (s_X12_lies (Int32.toInt64 p3) 0 1 ) (fun r18_53 hp40 => ?_)
      have hp40 : ((r18_53.toInt = 0 ∨ r18_53.toInt = 1)) ∧ ((r18_53.toInt = 1 ∧ (0 : Int64).toInt ≤ (Int32.toInt64 p3).toInt ∧ (Int32.toInt64 p3).toInt ≤ (1 : Int64).toInt) ∨ (r18_53.toInt = 0 ∧ ((Int32.toInt64 p3).toInt < (0 : Int64).toInt ∨ (1 : Int64).toInt < (Int32.toInt64 p3).toInt))) := hp40
      obtain ⟨hq41, hq42⟩ := hp40
      have g43 := rgI r18_53
      refine Sf_ite (fun h44 => ?_) (fun h44 => ?_)
      · skip
        have c45 := eqI h44
        exact Sf_some trivial
      · skip
        have c46 := neI h44
        refine Sf_cb17 (s_X12_looks s_sources s_seed s_atA s_atB s_atD s_atF s_atG s_atH s_atL s_atM s_atN s_atS s_atT s_atU s_atX s_paperHigh s_paperShape s_byStar s_code s_codeArg s_codeFrom s_codeTo s_isRefused s_many s_minuteOf s_shape s_sumFrom s_weekdays s_wide s_worth p1 p2 (by omega) (by omega) (by assumption)) (fun o_atA29_61 o_atB29_62 o_atD29_63 o_atF29_64 o_atG29_65 o_atH29_66 o_atL29_67 o_atM29_68 o_atN29_69 o_atS29_70 o_atT29_71 o_atU29_72 o_atX29_73 o_paperHigh29_74 o_paperShape29_75 o_isRefused29_76 o_worth29_77 hp47 => ?_)
        have g48 := rgI o_atA29_61
        have g49 := rgI o_atB29_62
        have g50 := rgI o_atD29_63
        have g51 := rgI o_atF29_64
        have g52 := rgI o_atG29_65
        have g53 := rgI o_atH29_66
        have g54 := rgI o_atL29_67
        have g55 := rgI o_atM29_68
        have g56 := rgI o_atN29_69
        have g57 := rgI o_atS29_70
        have g58 := rgI o_atT29_71
        have g59 := rgI o_atU29_72
        have g60 := rgI o_atX29_73
        have g61 := rgI o_paperHigh29_74
        have g62 := rgI o_paperShape29_75
        refine Sf_ite (fun h63 => ?_) (fun h63 => ?_)
        · skip
          have c64 := eqI h63
          exact Sf_some trivial
        · skip
          have c65 := neI h63
          exact Sf_some trivial
set_option maxHeartbeats 4000000 in
set_option maxRecDepth 100000 in
theorem s_X12_isTold (s_many : Nat → Int32) (p1 : Int32)  : Sf (f_X12_isTold s_many p1) (fun (y : Int32) => ((y.toInt = 0 ∨ y.toInt = 1)) ∧ (y.toInt = 0 ∨ (0 ≤ p1.toInt ∧ p1.toInt ≤ 5 ∧ 0 < (s_many (14 + p1).toNatClampNeg).toInt))) := by
  have g1 := rgI p1
  have hFU : (100000 : Int) ≤ (FU : Int) := Int.ofNat_le.mpr FU_ge
  rw [f_X12_isTold]
  refine Sf_cb1 (s_X12_isTale p1 ) (fun r1_1 hp2 => ?_)
  have hp2 : ((r1_1.toInt = 0 ∨ r1_1.toInt = 1)) ∧ ((r1_1.toInt = 1 ∧ 0 ≤ p1.toInt ∧ p1.toInt ≤ 5) ∨ (r1_1.toInt = 0 ∧ (p1.toInt < 0 ∨ 5 < p1.toInt))) := hp2
  obtain ⟨hq3, hq4⟩ := hp2
  have g5 := rgI r1_1
  refine Sf_ite (fun h6 => ?_) (fun h6 => ?_)
  · skip
    have l7 : (0 : Int32).toInt = 0 := by decide
    have c8 := eqI h6
    refine Sf_some (show (((0 : Int32).toInt = 0 ∨ (0 : Int32).toInt = 1)) ∧ ((0 : Int32).toInt = 0 ∨ (0 ≤ p1.toInt ∧ p1.toInt ≤ 5 ∧ 0 < (s_many (14 + p1).toNatClampNeg).toInt)) from ?_)
    refine ⟨?_, ?_⟩ <;> (omega)
  · skip
    have l9 : (0 : Int32).toInt = 0 := by decide
    have c10 := neI h6
    have l11 : (14 : Int32).toInt = 14 := by decide
    have g12 := rgI (14 + p1)
    first | have e13 := adX 14 p1 (by omega) (by omega) | skip
    refine Sf_rdI (by omega) (by omega) (fun v15_10 hv14 => ?_)
    have g15 := rgI v15_10
    have hme := eqI hv14
    refine Sf_ite (fun h16 => ?_) (fun h16 => ?_)
    · skip
      have c17 := leI h16
      refine Sf_some (show (((0 : Int32).toInt = 0 ∨ (0 : Int32).toInt = 1)) ∧ ((0 : Int32).toInt = 0 ∨ (0 ≤ p1.toInt ∧ p1.toInt ≤ 5 ∧ 0 < (s_many (14 + p1).toNatClampNeg).toInt)) from ?_)
      refine ⟨?_, ?_⟩ <;> (omega)
    · skip
      have c18 := nleI h16
      have l19 : (1 : Int32).toInt = 1 := by decide
      refine Sf_some (show (((1 : Int32).toInt = 0 ∨ (1 : Int32).toInt = 1)) ∧ ((1 : Int32).toInt = 0 ∨ (0 ≤ p1.toInt ∧ p1.toInt ≤ 5 ∧ 0 < (s_many (14 + p1).toNatClampNeg).toInt)) from ?_)
      refine ⟨?_, ?_⟩ <;> (omega)
set_option maxHeartbeats 4000000 in
set_option maxRecDepth 100000 in
theorem s_X12_saysOf (s_atA : Int32) (s_atB : Int32) (s_atD : Int32) (s_atF : Int32) (s_atG : Int32) (s_atH : Int32) (s_atL : Int32) (s_atM : Int32) (s_atN : Int32) (s_atS : Int32) (s_atT : Int32) (s_atU : Int32) (s_atX : Int32) (s_code : Nat → Int32) (s_codeArg : Nat → Int32) (s_codeFrom : Nat → Int32) (s_isRefused : Nat → Int32) (s_nightDay : Nat → Int32) (s_sumFrom : Nat → Int32) (s_worth : Nat → Int32) (p1 : Int32) (p2 : Int32) (hp0 : 0 ≤ p1.toInt) (hp1 : p1.toInt ≤ 5) (hp2 : 0 ≤ p2.toInt) (hp3 : p2.toInt < 30) (hp4 : SG s_code (s_sumFrom (12 * (14 + p1)).toNatClampNeg) (s_codeFrom (12 * (14 + p1)).toNatClampNeg)) : Sf (f_X12_saysOf s_atA s_atB s_atD s_atF s_atG s_atH s_atL s_atM s_atN s_atS s_atT s_atU s_atX s_code s_codeArg s_codeFrom s_isRefused s_nightDay s_sumFrom s_worth p1 p2) (fun (y : Int32 × Int32 × Int32 × Int32 × Int32 × Int32 × Int32 × Int32 × Int32 × Int32 × Int32 × Int32 × Int32 × Int32 × (Nat → Int32) × (Nat → Int32)) => True) := by
  have g1 := rgI s_atA
  have g2 := rgI s_atB
  have g3 := rgI s_atD
  have g4 := rgI s_atF
  have g5 := rgI s_atG
  have g6 := rgI s_atH
  have g7 := rgI s_atL
  have g8 := rgI s_atM
  have g9 := rgI s_atN
  have g10 := rgI s_atS
  have g11 := rgI s_atT
  have g12 := rgI s_atU
  have g13 := rgI s_atX
  have g14 := rgI p1
  have g15 := rgI p2
  have hFU : (100000 : Int) ≤ (FU : Int) := Int.ofNat_le.mpr FU_ge
  rw [f_X12_saysOf]
  refine Sf_cb13 (s_X12_clears s_atA s_atB s_atD s_atF s_atG s_atH s_atL s_atM s_atN s_atS s_atT s_atU s_atX ) (fun o_atA1_1 o_atB1_2 o_atD1_3 o_atF1_4 o_atG1_5 o_atH1_6 o_atL1_7 o_atM1_8 o_atN1_9 o_atS1_10 o_atT1_11 o_atU1_12 o_atX1_13 hp16 => ?_)
  have g17 := rgI o_atA1_1
  have g18 := rgI o_atB1_2
  have g19 := rgI o_atD1_3
  have g20 := rgI o_atF1_4
  have g21 := rgI o_atG1_5
  have g22 := rgI o_atH1_6
  have g23 := rgI o_atL1_7
  have g24 := rgI o_atM1_8
  have g25 := rgI o_atN1_9
  have g26 := rgI o_atS1_10
  have g27 := rgI o_atT1_11
  have g28 := rgI o_atU1_12
  have g29 := rgI o_atX1_13
  refine Sf_rdI (by omega) (by omega) (fun v10_18 hv30 => ?_)
  have g31 := rgI v10_18
  have l32 : (12 : Int32).toInt = 12 := by decide
  have l33 : (14 : Int32).toInt = 14 := by decide
  have g34 := rgI (14 + p1)
  first | have e35 := adX 14 p1 (by omega) (by omega) | skip
  have g36 := rgI (12 * (14 + p1))
  first | have e37 := mlY 12 (14 + p1) (12) (by decide) (by omega) (by omega) | skip
  refine Sf_cb3 (s_X12_sumOf_x o_atA1_1 o_atB1_2 v10_18 o_atF1_4 o_atG1_5 o_atH1_6 o_atL1_7 o_atM1_8 p2 o_atS1_10 o_atT1_11 o_atU1_12 o_atX1_13 s_code s_codeArg s_codeFrom s_isRefused s_sumFrom s_worth (12 * (14 + p1)) (by omega) (by omega) (by assumption)) (fun r27_24 o_isRefused27_25 o_worth27_26 hp38 => ?_)
  have g39 := rgI r27_24
  exact Sf_some trivial
set_option maxHeartbeats 4000000 in
set_option maxRecDepth 100000 in
theorem s_X12_fallsAt_L2 (s_nights : Int32) (s_code : Nat → Int32) (s_codeArg : Nat → Int32) (s_codeFrom : Nat → Int32) (s_found : Nat → Int32) (s_nightDay : Nat → Int32) (s_sumFrom : Nat → Int32) (p1 : Int32) (p2 : Int32) (hp0 : 0 ≤ s_nights.toInt) (hp1 : s_nights.toInt ≤ 30) (hp2 : 0 ≤ p1.toInt) (hp3 : p1.toInt ≤ 5) (hp4 : SG s_code (s_sumFrom (12 * (14 + p1)).toNatClampNeg) (s_codeFrom (12 * (14 + p1)).toNatClampNeg)) : ∀ (n : Nat) (x3_2 : Int32) (atA__3 : Int32) (atB__4 : Int32) (atD__5 : Int32) (atF__6 : Int32) (atG__7 : Int32) (atH__8 : Int32) (atL__9 : Int32) (atM__10 : Int32) (atN__11 : Int32) (atS__12 : Int32) (atT__13 : Int32) (atU__14 : Int32) (atX__15 : Int32) (isRefused__16 : Nat → Int32) (worth__17 : Nat → Int32), (0 ≤ x3_2.toInt) → (x3_2.toInt ≤ 30) → (31 - x3_2.toInt < (n : Int)) → Sf (f_X12_fallsAt_L2 s_nights s_code s_codeArg s_codeFrom s_found s_nightDay s_sumFrom p1 p2 n x3_2 atA__3 atB__4 atD__5 atF__6 atG__7 atH__8 atL__9 atM__10 atN__11 atS__12 atT__13 atU__14 atX__15 isRefused__16 worth__17) (fun (y : Int32 × Int32 × Int32 × Int32 × Int32 × Int32 × Int32 × Int32 × Int32 × Int32 × Int32 × Int32 × Int32 × Int32 × (Nat → Int32) × (Nat → Int32)) => True) := by
  have hFU : (100000 : Int) ≤ (FU : Int) := Int.ofNat_le.mpr FU_ge
  have g1 := rgI s_nights
  have g2 := rgI p1
  have g3 := rgI p2
  intro n
  induction n with
  | zero =>
    intro x3_2 atA__3 atB__4 atD__5 atF__6 atG__7 atH__8 atL__9 atM__10 atN__11 atS__12 atT__13 atU__14 atX__15 isRefused__16 worth__17 hi0 hi1 hm
    have g4 := rgI x3_2
    have g5 := rgI atA__3
    have g6 := rgI atB__4
    have g7 := rgI atD__5
    have g8 := rgI atF__6
    have g9 := rgI atG__7
    have g10 := rgI atH__8
    have g11 := rgI atL__9
    have g12 := rgI atM__10
    have g13 := rgI atN__11
    have g14 := rgI atS__12
    have g15 := rgI atT__13
    have g16 := rgI atU__14
    have g17 := rgI atX__15
    exact absurd hm (by omega)
  | succ n ih =>
    intro x3_2 atA__3 atB__4 atD__5 atF__6 atG__7 atH__8 atL__9 atM__10 atN__11 atS__12 atT__13 atU__14 atX__15 isRefused__16 worth__17 hi0 hi1 hm
    rw [f_X12_fallsAt_L2]
    have g18 := rgI x3_2
    have g19 := rgI atA__3
    have g20 := rgI atB__4
    have g21 := rgI atD__5
    have g22 := rgI atF__6
    have g23 := rgI atG__7
    have g24 := rgI atH__8
    have g25 := rgI atL__9
    have g26 := rgI atM__10
    have g27 := rgI atN__11
    have g28 := rgI atS__12
    have g29 := rgI atT__13
    have g30 := rgI atU__14
    have g31 := rgI atX__15
    refine Sf_ite (fun h32 => ?_) (fun h32 => ?_)
    · skip
      have c33 := leI h32
      exact Sf_some trivial
    · skip
      have c34 := nleI h32
      refine Sf_cb16 (s_X12_saysOf atA__3 atB__4 atD__5 atF__6 atG__7 atH__8 atL__9 atM__10 atN__11 atS__12 atT__13 atU__14 atX__15 s_code s_codeArg s_codeFrom isRefused__16 s_nightDay s_sumFrom worth__17 p1 x3_2 (by omega) (by omega) (by omega) (by omega) (by first | assumption | exact tl_sg (by assumption) (by omega) (by omega) (by omega))) (fun r13_37 o_atA13_38 o_atB13_39 o_atD13_40 o_atF13_41 o_atG13_42 o_atH13_43 o_atL13_44 o_atM13_45 o_atN13_46 o_atS13_47 o_atT13_48 o_atU13_49 o_atX13_50 o_isRefused13_51 o_worth13_52 hp35 => ?_)
      have g36 := rgI r13_37
      have g37 := rgI o_atA13_38
      have g38 := rgI o_atB13_39
      have g39 := rgI o_atD13_40
      have g40 := rgI o_atF13_41
      have g41 := rgI o_atG13_42
      have g42 := rgI o_atH13_43
      have g43 := rgI o_atL13_44
      have g44 := rgI o_atM13_45
      have g45 := rgI o_atN13_46
      have g46 := rgI o_atS13_47
      have g47 := rgI o_atT13_48
      have g48 := rgI o_atU13_49
      have g49 := rgI o_atX13_50
      refine Sf_rdI (by omega) (by omega) (fun v22_57 hv50 => ?_)
      have g51 := rgI v22_57
      have g52 := rgI (-p2)
      first | have e53 := ngX p2 (by omega) | skip
      have t54 := t64 (-p2)
      have t55 := t64 p2
      refine Sf_cb1 (s_X12_lies ((Int32.toInt64 r13_37) - (Int32.toInt64 v22_57)) (Int32.toInt64 (-p2)) (Int32.toInt64 p2) ) (fun r30_61 hp56 => ?_)
      have hp56 : ((r30_61.toInt = 0 ∨ r30_61.toInt = 1)) ∧ ((r30_61.toInt = 1 ∧ (Int32.toInt64 (-p2)).toInt ≤ ((Int32.toInt64 r13_37) - (Int32.toInt64 v22_57)).toInt ∧ ((Int32.toInt64 r13_37) - (Int32.toInt64 v22_57)).toInt ≤ (Int32.toInt64 p2).toInt) ∨ (r30_61.toInt = 0 ∧ (((Int32.toInt64 r13_37) - (Int32.toInt64 v22_57)).toInt < (Int32.toInt64 (-p2)).toInt ∨ (Int32.toInt64 p2).toInt < ((Int32.toInt64 r13_37) - (Int32.toInt64 v22_57)).toInt))) := hp56
      obtain ⟨hq57, hq58⟩ := hp56
      have g59 := rgI r30_61
      refine Sf_ite (fun h60 => ?_) (fun h60 => ?_)
      · skip
        have l61 : (0 : Int32).toInt = 0 := by decide
        have c62 := eqI h60
        exact Sf_some trivial
      · skip
        have l63 : (0 : Int32).toInt = 0 := by decide
        have c64 := neI h60
        refine Sf_nmI (fun v38_69 hv65 => ?_)
        have g66 := rgI (x3_2 + 1)
        first | have e67 := adN x3_2 1 (1) (by decide) (by omega) (by omega) | skip
        have q68 := eqI hv65
        exact ih v38_69 o_atA13_38 o_atB13_39 o_atD13_40 o_atF13_41 o_atG13_42 o_atH13_43 o_atL13_44 o_atM13_45 o_atN13_46 o_atS13_47 o_atT13_48 o_atU13_49 o_atX13_50 o_isRefused13_51 o_worth13_52 (by omega) (by omega) (by omega)
set_option maxHeartbeats 4000000 in
set_option maxRecDepth 100000 in
theorem s_X12_fallsAt (s_nights : Int32) (s_atA : Int32) (s_atB : Int32) (s_atD : Int32) (s_atF : Int32) (s_atG : Int32) (s_atH : Int32) (s_atL : Int32) (s_atM : Int32) (s_atN : Int32) (s_atS : Int32) (s_atT : Int32) (s_atU : Int32) (s_atX : Int32) (s_code : Nat → Int32) (s_codeArg : Nat → Int32) (s_codeFrom : Nat → Int32) (s_found : Nat → Int32) (s_isRefused : Nat → Int32) (s_nightDay : Nat → Int32) (s_sumFrom : Nat → Int32) (s_worth : Nat → Int32) (p1 : Int32) (p2 : Int32) (hp0 : 0 ≤ s_nights.toInt) (hp1 : s_nights.toInt ≤ 30) (hp2 : 0 ≤ p1.toInt) (hp3 : p1.toInt ≤ 5) (hp4 : SG s_code (s_sumFrom (12 * (14 + p1)).toNatClampNeg) (s_codeFrom (12 * (14 + p1)).toNatClampNeg)) : Sf (f_X12_fallsAt s_nights s_atA s_atB s_atD s_atF s_atG s_atH s_atL s_atM s_atN s_atS s_atT s_atU s_atX s_code s_codeArg s_codeFrom s_found s_isRefused s_nightDay s_sumFrom s_worth p1 p2) (fun (y : Int32 × Int32 × Int32 × Int32 × Int32 × Int32 × Int32 × Int32 × Int32 × Int32 × Int32 × Int32 × Int32 × Int32 × (Nat → Int32) × (Nat → Int32)) => True) := by
  have g1 := rgI s_nights
  have g2 := rgI s_atA
  have g3 := rgI s_atB
  have g4 := rgI s_atD
  have g5 := rgI s_atF
  have g6 := rgI s_atG
  have g7 := rgI s_atH
  have g8 := rgI s_atL
  have g9 := rgI s_atM
  have g10 := rgI s_atN
  have g11 := rgI s_atS
  have g12 := rgI s_atT
  have g13 := rgI s_atU
  have g14 := rgI s_atX
  have g15 := rgI p1
  have g16 := rgI p2
  have hFU : (100000 : Int) ≤ (FU : Int) := Int.ofNat_le.mpr FU_ge
  rw [f_X12_fallsAt]
  have l17 : (0 : Int32).toInt = 0 := by decide
  refine s_X12_fallsAt_L2 s_nights s_code s_codeArg s_codeFrom s_found s_nightDay s_sumFrom p1 p2 (by omega) (by omega) (by omega) (by omega) (by first | assumption | exact tl_sg (by assumption) (by omega) (by omega) (by omega))  FU 0 s_atA s_atB s_atD s_atF s_atG s_atH s_atL s_atM s_atN s_atS s_atT s_atU s_atX s_isRefused s_worth (by omega) (by omega) (by omega)
set_option maxHeartbeats 4000000 in
set_option maxRecDepth 100000 in
theorem s_X12_falls (s_nights : Int32) (s_atA : Int32) (s_atB : Int32) (s_atD : Int32) (s_atF : Int32) (s_atG : Int32) (s_atH : Int32) (s_atL : Int32) (s_atM : Int32) (s_atN : Int32) (s_atS : Int32) (s_atT : Int32) (s_atU : Int32) (s_atX : Int32) (s_code : Nat → Int32) (s_codeArg : Nat → Int32) (s_codeFrom : Nat → Int32) (s_found : Nat → Int32) (s_isRefused : Nat → Int32) (s_many : Nat → Int32) (s_nightDay : Nat → Int32) (s_sumFrom : Nat → Int32) (s_worth : Nat → Int32) (p1 : Int32) (p2 : Int32) (hp0 : 0 ≤ s_nights.toInt) (hp1 : s_nights.toInt ≤ 30) (hp2 : tlOK s_code s_codeFrom s_sumFrom s_many) : Sf (f_X12_falls s_nights s_atA s_atB s_atD s_atF s_atG s_atH s_atL s_atM s_atN s_atS s_atT s_atU s_atX s_code s_codeArg s_codeFrom s_found s_isRefused s_many s_nightDay s_sumFrom s_worth p1 p2) (fun (y : Int32 × Int32 × Int32 × Int32 × Int32 × Int32 × Int32 × Int32 × Int32 × Int32 × Int32 × Int32 × Int32 × Int32 × (Nat → Int32) × (Nat → Int32)) => True) := by
  have g1 := rgI s_nights
  have g2 := rgI s_atA
  have g3 := rgI s_atB
  have g4 := rgI s_atD
  have g5 := rgI s_atF
  have g6 := rgI s_atG
  have g7 := rgI s_atH
  have g8 := rgI s_atL
  have g9 := rgI s_atM
  have g10 := rgI s_atN
  have g11 := rgI s_atS
  have g12 := rgI s_atT
  have g13 := rgI s_atU
  have g14 := rgI s_atX
  have g15 := rgI p1
  have g16 := rgI p2
  have hFU : (100000 : Int) ≤ (FU : Int) := Int.ofNat_le.mpr FU_ge
  rw [f_X12_falls]
  refine Sf_cb1 (s_X12_isTold s_many p1 ) (fun r2_1 hp17 => ?_)
  have hp17 : ((r2_1.toInt = 0 ∨ r2_1.toInt = 1)) ∧ (r2_1.toInt = 0 ∨ (0 ≤ p1.toInt ∧ p1.toInt ≤ 5 ∧ 0 < (s_many (14 + p1).toNatClampNeg).toInt)) := hp17
  obtain ⟨hq18, hq19⟩ := hp17
  have g20 := rgI r2_1
  refine Sf_ite (fun h21 => ?_) (fun h21 => ?_)
  · skip
    have l22 : (0 : Int32).toInt = 0 := by decide
    have c23 := eqI h21
    exact Sf_some trivial
  · skip
    have l24 : (0 : Int32).toInt = 0 := by decide
    have c25 := neI h21
    refine Sf_cb1 (s_X12_isError p2 ) (fun r9_25 hp26 => ?_)
    have hp26 : ((r9_25.toInt = 0 ∨ r9_25.toInt = 1)) ∧ ((r9_25.toInt = 1 ∧ 0 ≤ p2.toInt ∧ p2.toInt ≤ 100000) ∨ (r9_25.toInt = 0 ∧ (p2.toInt < 0 ∨ 100000 < p2.toInt))) := hp26
    obtain ⟨hq27, hq28⟩ := hp26
    have g29 := rgI r9_25
    refine Sf_ite (fun h30 => ?_) (fun h30 => ?_)
    · skip
      have c31 := eqI h30
      exact Sf_some trivial
    · skip
      have c32 := neI h30
      refine Sf_cb16 (s_X12_fallsAt s_nights s_atA s_atB s_atD s_atF s_atG s_atH s_atL s_atM s_atN s_atS s_atT s_atU s_atX s_code s_codeArg s_codeFrom s_found s_isRefused s_nightDay s_sumFrom s_worth p1 p2 (by omega) (by omega) (by omega) (by omega) (by first | assumption | exact tl_sg (by assumption) (by omega) (by omega) (by omega))) (fun r20_33 o_atA20_34 o_atB20_35 o_atD20_36 o_atF20_37 o_atG20_38 o_atH20_39 o_atL20_40 o_atM20_41 o_atN20_42 o_atS20_43 o_atT20_44 o_atU20_45 o_atX20_46 o_isRefused20_47 o_worth20_48 hp33 => ?_)
      have g34 := rgI r20_33
      have g35 := rgI o_atA20_34
      have g36 := rgI o_atB20_35
      have g37 := rgI o_atD20_36
      have g38 := rgI o_atF20_37
      have g39 := rgI o_atG20_38
      have g40 := rgI o_atH20_39
      have g41 := rgI o_atL20_40
      have g42 := rgI o_atM20_41
      have g43 := rgI o_atN20_42
      have g44 := rgI o_atS20_43
      have g45 := rgI o_atT20_44
      have g46 := rgI o_atU20_45
      have g47 := rgI o_atX20_46
      refine Sf_ite (fun h48 => ?_) (fun h48 => ?_)
      · skip
        have c49 := eqI h48
        exact Sf_some trivial
      · skip
        have c50 := neI h48
        exact Sf_some trivial
set_option maxHeartbeats 4000000 in
set_option maxRecDepth 100000 in
theorem s_X12_says (s_nights : Int32) (s_atA : Int32) (s_atB : Int32) (s_atD : Int32) (s_atF : Int32) (s_atG : Int32) (s_atH : Int32) (s_atL : Int32) (s_atM : Int32) (s_atN : Int32) (s_atS : Int32) (s_atT : Int32) (s_atU : Int32) (s_atX : Int32) (s_code : Nat → Int32) (s_codeArg : Nat → Int32) (s_codeFrom : Nat → Int32) (s_isRefused : Nat → Int32) (s_many : Nat → Int32) (s_nightDay : Nat → Int32) (s_sumFrom : Nat → Int32) (s_worth : Nat → Int32) (p1 : Int32) (p2 : Int32) (hp0 : 0 ≤ s_nights.toInt) (hp1 : s_nights.toInt ≤ 30) (hp2 : tlOK s_code s_codeFrom s_sumFrom s_many) : Sf (f_X12_says s_nights s_atA s_atB s_atD s_atF s_atG s_atH s_atL s_atM s_atN s_atS s_atT s_atU s_atX s_code s_codeArg s_codeFrom s_isRefused s_many s_nightDay s_sumFrom s_worth p1 p2) (fun (y : Int32 × Int32 × Int32 × Int32 × Int32 × Int32 × Int32 × Int32 × Int32 × Int32 × Int32 × Int32 × Int32 × Int32 × (Nat → Int32) × (Nat → Int32)) => True) := by
  have g1 := rgI s_nights
  have g2 := rgI s_atA
  have g3 := rgI s_atB
  have g4 := rgI s_atD
  have g5 := rgI s_atF
  have g6 := rgI s_atG
  have g7 := rgI s_atH
  have g8 := rgI s_atL
  have g9 := rgI s_atM
  have g10 := rgI s_atN
  have g11 := rgI s_atS
  have g12 := rgI s_atT
  have g13 := rgI s_atU
  have g14 := rgI s_atX
  have g15 := rgI p1
  have g16 := rgI p2
  have hFU : (100000 : Int) ≤ (FU : Int) := Int.ofNat_le.mpr FU_ge
  rw [f_X12_says]
  refine Sf_cb1 (s_X12_isTold s_many p1 ) (fun r2_1 hp17 => ?_)
  have hp17 : ((r2_1.toInt = 0 ∨ r2_1.toInt = 1)) ∧ (r2_1.toInt = 0 ∨ (0 ≤ p1.toInt ∧ p1.toInt ≤ 5 ∧ 0 < (s_many (14 + p1).toNatClampNeg).toInt)) := hp17
  obtain ⟨hq18, hq19⟩ := hp17
  have g20 := rgI r2_1
  refine Sf_ite (fun h21 => ?_) (fun h21 => ?_)
  · skip
    have l22 : (0 : Int32).toInt = 0 := by decide
    have c23 := eqI h21
    exact Sf_some trivial
  · skip
    have l24 : (0 : Int32).toInt = 0 := by decide
    have c25 := neI h21
    refine Sf_cb1 (s_X12_isNight s_nights p2 (by omega) (by omega)) (fun r10_25 hp26 => ?_)
    have hp26 : ((r10_25.toInt = 0 ∨ r10_25.toInt = 1)) ∧ (r10_25.toInt = 0 ∨ (0 ≤ p2.toInt ∧ p2.toInt < s_nights.toInt)) := hp26
    obtain ⟨hq27, hq28⟩ := hp26
    have g29 := rgI r10_25
    refine Sf_ite (fun h30 => ?_) (fun h30 => ?_)
    · skip
      have c31 := eqI h30
      exact Sf_some trivial
    · skip
      have c32 := neI h30
      refine Sf_cb16 (s_X12_saysOf s_atA s_atB s_atD s_atF s_atG s_atH s_atL s_atM s_atN s_atS s_atT s_atU s_atX s_code s_codeArg s_codeFrom s_isRefused s_nightDay s_sumFrom s_worth p1 p2 (by omega) (by omega) (by omega) (by omega) (by first | assumption | exact tl_sg (by assumption) (by omega) (by omega) (by omega))) (fun r19_49 o_atA19_50 o_atB19_51 o_atD19_52 o_atF19_53 o_atG19_54 o_atH19_55 o_atL19_56 o_atM19_57 o_atN19_58 o_atS19_59 o_atT19_60 o_atU19_61 o_atX19_62 o_isRefused19_63 o_worth19_64 hp33 => ?_)
      have g34 := rgI r19_49
      have g35 := rgI o_atA19_50
      have g36 := rgI o_atB19_51
      have g37 := rgI o_atD19_52
      have g38 := rgI o_atF19_53
      have g39 := rgI o_atG19_54
      have g40 := rgI o_atH19_55
      have g41 := rgI o_atL19_56
      have g42 := rgI o_atM19_57
      have g43 := rgI o_atN19_58
      have g44 := rgI o_atS19_59
      have g45 := rgI o_atT19_60
      have g46 := rgI o_atU19_61
      have g47 := rgI o_atX19_62
      exact Sf_some trivial
end
section
set_option maxHeartbeats 4000000 in
set_option maxRecDepth 100000 in
theorem s_X12_told_L38 (s_nights : Int32) (s_code : Nat → Int32) (s_codeArg : Nat → Int32) (s_codeFrom : Nat → Int32) (s_found : Nat → Int32) (s_many : Nat → Int32) (s_nightDay : Nat → Int32) (s_sumFrom : Nat → Int32) (p1 : Int32) (x3_86 : Int32) (K81 : Int32 → Int32 → Int32 → Int32 → Int32 → Int32 → Int32 → Int32 → Int32 → Int32 → Int32 → Int32 → Int32 → Int32 → Int32 → (Nat → Int32) → (Nat → Int32) → Option (Int32 × Int32 × Int32 × Int32 × Int32 × Int32 × Int32 × Int32 × Int32 × Int32 × Int32 × Int32 × Int32 × Int32 × (Nat → Int32) × (Nat → Int32))) (hp0 : 0 ≤ s_nights.toInt) (hp1 : s_nights.toInt ≤ 30) (hp2 : tlOK s_code s_codeFrom s_sumFrom s_many) (hK81 : ∀ (a0 : Int32) (a1 : Int32) (a2 : Int32) (a3 : Int32) (a4 : Int32) (a5 : Int32) (a6 : Int32) (a7 : Int32) (a8 : Int32) (a9 : Int32) (a10 : Int32) (a11 : Int32) (a12 : Int32) (a13 : Int32) (a14 : Int32) (a15 : Nat → Int32) (a16 : Nat → Int32), Sf (K81 a0 a1 a2 a3 a4 a5 a6 a7 a8 a9 a10 a11 a12 a13 a14 a15 a16) (fun (y : Int32 × Int32 × Int32 × Int32 × Int32 × Int32 × Int32 × Int32 × Int32 × Int32 × Int32 × Int32 × Int32 × Int32 × (Nat → Int32) × (Nat → Int32)) => True)) : ∀ (n : Nat) (x4_148 : Int32) (x5_149 : Int32) (x6_150 : Int32) (atA__151 : Int32) (atB__152 : Int32) (atD__153 : Int32) (atF__154 : Int32) (atG__155 : Int32) (atH__156 : Int32) (atL__157 : Int32) (atM__158 : Int32) (atN__159 : Int32) (atS__160 : Int32) (atT__161 : Int32) (atU__162 : Int32) (atX__163 : Int32) (isRefused__164 : Nat → Int32) (worth__165 : Nat → Int32), (0 ≤ x6_150.toInt) → (x6_150.toInt ≤ 6) → (7 - x6_150.toInt < (n : Int)) → Sf (f_X12_told_L38 s_nights s_code s_codeArg s_codeFrom s_found s_many s_nightDay s_sumFrom p1 x3_86 K81 n x4_148 x5_149 x6_150 atA__151 atB__152 atD__153 atF__154 atG__155 atH__156 atL__157 atM__158 atN__159 atS__160 atT__161 atU__162 atX__163 isRefused__164 worth__165) (fun (y : Int32 × Int32 × Int32 × Int32 × Int32 × Int32 × Int32 × Int32 × Int32 × Int32 × Int32 × Int32 × Int32 × Int32 × (Nat → Int32) × (Nat → Int32)) => True) := by
  have hFU : (100000 : Int) ≤ (FU : Int) := Int.ofNat_le.mpr FU_ge
  have g1 := rgI s_nights
  have g2 := rgI p1
  have g3 := rgI x3_86
  intro n
  induction n with
  | zero =>
    intro x4_148 x5_149 x6_150 atA__151 atB__152 atD__153 atF__154 atG__155 atH__156 atL__157 atM__158 atN__159 atS__160 atT__161 atU__162 atX__163 isRefused__164 worth__165 hi0 hi1 hm
    have g4 := rgI x4_148
    have g5 := rgI x5_149
    have g6 := rgI x6_150
    have g7 := rgI atA__151
    have g8 := rgI atB__152
    have g9 := rgI atD__153
    have g10 := rgI atF__154
    have g11 := rgI atG__155
    have g12 := rgI atH__156
    have g13 := rgI atL__157
    have g14 := rgI atM__158
    have g15 := rgI atN__159
    have g16 := rgI atS__160
    have g17 := rgI atT__161
    have g18 := rgI atU__162
    have g19 := rgI atX__163
    exact absurd hm (by omega)
  | succ n ih =>
    intro x4_148 x5_149 x6_150 atA__151 atB__152 atD__153 atF__154 atG__155 atH__156 atL__157 atM__158 atN__159 atS__160 atT__161 atU__162 atX__163 isRefused__164 worth__165 hi0 hi1 hm
    rw [f_X12_told_L38]
    have g20 := rgI x4_148
    have g21 := rgI x5_149
    have g22 := rgI x6_150
    have g23 := rgI atA__151
    have g24 := rgI atB__152
    have g25 := rgI atD__153
    have g26 := rgI atF__154
    have g27 := rgI atG__155
    have g28 := rgI atH__156
    have g29 := rgI atL__157
    have g30 := rgI atM__158
    have g31 := rgI atN__159
    have g32 := rgI atS__160
    have g33 := rgI atT__161
    have g34 := rgI atU__162
    have g35 := rgI atX__163
    refine Sf_ite (fun h36 => ?_) (fun h36 => ?_)
    · skip
      have l37 : (6 : Int32).toInt = 6 := by decide
      have c38 := leI h36
      exact hK81 x4_148 x5_149 atA__151 atB__152 atD__153 atF__154 atG__155 atH__156 atL__157 atM__158 atN__159 atS__160 atT__161 atU__162 atX__163 isRefused__164 worth__165 
    · skip
      have l39 : (6 : Int32).toInt = 6 := by decide
      have c40 := nleI h36
      refine Sf_cb1 (s_X12_isTold s_many x6_150 ) (fun r48_169 hp41 => ?_)
      have hp41 : ((r48_169.toInt = 0 ∨ r48_169.toInt = 1)) ∧ (r48_169.toInt = 0 ∨ (0 ≤ x6_150.toInt ∧ x6_150.toInt ≤ 5 ∧ 0 < (s_many (14 + x6_150).toNatClampNeg).toInt)) := hp41
      obtain ⟨hq42, hq43⟩ := hp41
      have g44 := rgI r48_169
      refine Sf_ite (fun h45 => ?_) (fun h45 => ?_)
      · skip
        have l46 : (0 : Int32).toInt = 0 := by decide
        have c47 := eqI h45
        refine Sf_nmI (fun v75_177 hv48 => ?_)
        have g49 := rgI (x6_150 + 1)
        first | have e50 := adN x6_150 1 (1) (by decide) (by omega) (by omega) | skip
        have q51 := eqI hv48
        exact ih x4_148 x5_149 v75_177 atA__151 atB__152 atD__153 atF__154 atG__155 atH__156 atL__157 atM__158 atN__159 atS__160 atT__161 atU__162 atX__163 isRefused__164 worth__165 (by omega) (by omega) (by omega)
      · skip
        have l52 : (0 : Int32).toInt = 0 := by decide
        have c53 := neI h45
        refine Sf_cb16 (s_X12_fallsAt s_nights atA__151 atB__152 atD__153 atF__154 atG__155 atH__156 atL__157 atM__158 atN__159 atS__160 atT__161 atU__162 atX__163 s_code s_codeArg s_codeFrom s_found isRefused__164 s_nightDay s_sumFrom worth__165 x6_150 p1 (by omega) (by omega) (by omega) (by omega) (by first | assumption | exact tl_sg (by assumption) (by omega) (by omega) (by omega))) (fun r58_181 o_atA58_182 o_atB58_183 o_atD58_184 o_atF58_185 o_atG58_186 o_atH58_187 o_atL58_188 o_atM58_189 o_atN58_190 o_atS58_191 o_atT58_192 o_atU58_193 o_atX58_194 o_isRefused58_195 o_worth58_196 hp54 => ?_)
        have g55 := rgI r58_181
        have g56 := rgI o_atA58_182
        have g57 := rgI o_atB58_183
        have g58 := rgI o_atD58_184
        have g59 := rgI o_atF58_185
        have g60 := rgI o_atG58_186
        have g61 := rgI o_atH58_187
        have g62 := rgI o_atL58_188
        have g63 := rgI o_atM58_189
        have g64 := rgI o_atN58_190
        have g65 := rgI o_atS58_191
        have g66 := rgI o_atT58_192
        have g67 := rgI o_atU58_193
        have g68 := rgI o_atX58_194
        refine Sf_ite (fun h69 => ?_) (fun h69 => ?_)
        · skip
          have c70 := ltI h69
          refine Sf_nmI (fun v68_204 hv71 => ?_)
          have g72 := rgI (x4_148 + 1)
          first | have e73 := adN x4_148 1 (1) (by decide) (by omega) (by omega) | skip
          have q74 := eqI hv71
          refine Sf_nmI (fun v75_209 hv75 => ?_)
          have g76 := rgI (x6_150 + 1)
          first | have e77 := adN x6_150 1 (1) (by decide) (by omega) (by omega) | skip
          have q78 := eqI hv75
          exact ih v68_204 x6_150 v75_209 o_atA58_182 o_atB58_183 o_atD58_184 o_atF58_185 o_atG58_186 o_atH58_187 o_atL58_188 o_atM58_189 o_atN58_190 o_atS58_191 o_atT58_192 o_atU58_193 o_atX58_194 o_isRefused58_195 o_worth58_196 (by omega) (by omega) (by omega)
        · skip
          have c79 := nltI h69
          refine Sf_nmI (fun v75_213 hv80 => ?_)
          have g81 := rgI (x6_150 + 1)
          first | have e82 := adN x6_150 1 (1) (by decide) (by omega) (by omega) | skip
          have q83 := eqI hv80
          exact ih x4_148 x5_149 v75_213 o_atA58_182 o_atB58_183 o_atD58_184 o_atF58_185 o_atG58_186 o_atH58_187 o_atL58_188 o_atM58_189 o_atN58_190 o_atS58_191 o_atT58_192 o_atU58_193 o_atX58_194 o_isRefused58_195 o_worth58_196 (by omega) (by omega) (by omega)
set_option maxHeartbeats 4000000 in
set_option maxRecDepth 100000 in
theorem s_X12_told_L21 (s_nights : Int32) (s_code : Nat → Int32) (s_codeArg : Nat → Int32) (s_codeFrom : Nat → Int32) (s_found : Nat → Int32) (s_many : Nat → Int32) (s_nightDay : Nat → Int32) (s_sumFrom : Nat → Int32) (p1 : Int32) (K87 : Int32 → Int32 → Int32 → Int32 → Int32 → Int32 → Int32 → Int32 → Int32 → Int32 → Int32 → Int32 → Int32 → Int32 → Int32 → (Nat → Int32) → (Nat → Int32) → Option (Int32 × Int32 × Int32 × Int32 × Int32 × Int32 × Int32 × Int32 × Int32 × Int32 × Int32 × Int32 × Int32 × Int32 × (Nat → Int32) × (Nat → Int32))) (hp0 : 0 ≤ s_nights.toInt) (hp1 : s_nights.toInt ≤ 30) (hp2 : tlOK s_code s_codeFrom s_sumFrom s_many) (hK87 : ∀ (a0 : Int32) (a1 : Int32) (a2 : Int32) (a3 : Int32) (a4 : Int32) (a5 : Int32) (a6 : Int32) (a7 : Int32) (a8 : Int32) (a9 : Int32) (a10 : Int32) (a11 : Int32) (a12 : Int32) (a13 : Int32) (a14 : Int32) (a15 : Nat → Int32) (a16 : Nat → Int32), Sf (K87 a0 a1 a2 a3 a4 a5 a6 a7 a8 a9 a10 a11 a12 a13 a14 a15 a16) (fun (y : Int32 × Int32 × Int32 × Int32 × Int32 × Int32 × Int32 × Int32 × Int32 × Int32 × Int32 × Int32 × Int32 × Int32 × (Nat → Int32) × (Nat → Int32)) => True)) : ∀ (n : Nat) (x3_86 : Int32) (atA__87 : Int32) (atB__88 : Int32) (atD__89 : Int32) (atF__90 : Int32) (atG__91 : Int32) (atH__92 : Int32) (atL__93 : Int32) (atM__94 : Int32) (atN__95 : Int32) (atS__96 : Int32) (atT__97 : Int32) (atU__98 : Int32) (atX__99 : Int32) (isRefused__100 : Nat → Int32) (worth__101 : Nat → Int32), (0 ≤ x3_86.toInt) → (x3_86.toInt ≤ 30) → (31 - x3_86.toInt < (n : Int)) → Sf (f_X12_told_L21 s_nights s_code s_codeArg s_codeFrom s_found s_many s_nightDay s_sumFrom p1 K87 n x3_86 atA__87 atB__88 atD__89 atF__90 atG__91 atH__92 atL__93 atM__94 atN__95 atS__96 atT__97 atU__98 atX__99 isRefused__100 worth__101) (fun (y : Int32 × Int32 × Int32 × Int32 × Int32 × Int32 × Int32 × Int32 × Int32 × Int32 × Int32 × Int32 × Int32 × Int32 × (Nat → Int32) × (Nat → Int32)) => True) := by
  have hFU : (100000 : Int) ≤ (FU : Int) := Int.ofNat_le.mpr FU_ge
  have g1 := rgI s_nights
  have g2 := rgI p1
  intro n
  induction n with
  | zero =>
    intro x3_86 atA__87 atB__88 atD__89 atF__90 atG__91 atH__92 atL__93 atM__94 atN__95 atS__96 atT__97 atU__98 atX__99 isRefused__100 worth__101 hi0 hi1 hm
    have g3 := rgI x3_86
    have g4 := rgI atA__87
    have g5 := rgI atB__88
    have g6 := rgI atD__89
    have g7 := rgI atF__90
    have g8 := rgI atG__91
    have g9 := rgI atH__92
    have g10 := rgI atL__93
    have g11 := rgI atM__94
    have g12 := rgI atN__95
    have g13 := rgI atS__96
    have g14 := rgI atT__97
    have g15 := rgI atU__98
    have g16 := rgI atX__99
    exact absurd hm (by omega)
  | succ n ih =>
    intro x3_86 atA__87 atB__88 atD__89 atF__90 atG__91 atH__92 atL__93 atM__94 atN__95 atS__96 atT__97 atU__98 atX__99 isRefused__100 worth__101 hi0 hi1 hm
    rw [f_X12_told_L21]
    have g17 := rgI x3_86
    have g18 := rgI atA__87
    have g19 := rgI atB__88
    have g20 := rgI atD__89
    have g21 := rgI atF__90
    have g22 := rgI atG__91
    have g23 := rgI atH__92
    have g24 := rgI atL__93
    have g25 := rgI atM__94
    have g26 := rgI atN__95
    have g27 := rgI atS__96
    have g28 := rgI atT__97
    have g29 := rgI atU__98
    have g30 := rgI atX__99
    refine Sf_ite (fun h31 => ?_) (fun h31 => ?_)
    · skip
      have c32 := leI h31
      exact Sf_some trivial
    · skip
      have c33 := nleI h31
      have l34 : (0 : Int32).toInt = 0 := by decide
      have l35 : ((-1) : Int32).toInt = -1 := by decide
      refine s_X12_told_L38 s_nights s_code s_codeArg s_codeFrom s_found s_many s_nightDay s_sumFrom p1 x3_86 (f_X12_told_J81 x3_86 (f_X12_told_L21 s_nights s_code s_codeArg s_codeFrom s_found s_many s_nightDay s_sumFrom p1 K87 n) K87) (by omega) (by omega) (by assumption) ?_ FU 0 (-1) 0 atA__87 atB__88 atD__89 atF__90 atG__91 atH__92 atL__93 atM__94 atN__95 atS__96 atT__97 atU__98 atX__99 isRefused__100 worth__101 (by omega) (by omega) (by omega)
      · intro z36 z37 z38 z39 z40 z41 z42 z43 z44 z45 z46 z47 z48 z49 z50 z51 z52
        have g53 := rgI z36
        have g54 := rgI z37
        have g55 := rgI z38
        have g56 := rgI z39
        have g57 := rgI z40
        have g58 := rgI z41
        have g59 := rgI z42
        have g60 := rgI z43
        have g61 := rgI z44
        have g62 := rgI z45
        have g63 := rgI z46
        have g64 := rgI z47
        have g65 := rgI z48
        have g66 := rgI z49
        have g67 := rgI z50
        rw [f_X12_told_J81]
        refine Sf_ite (fun h68 => ?_) (fun h68 => ?_)
        · skip
          have l69 : (1 : Int32).toInt = 1 := by decide
          have c70 := eqI h68
          exact hK87 x3_86 z37 z38 z39 z40 z41 z42 z43 z44 z45 z46 z47 z48 z49 z50 z51 z52 
        · skip
          have l71 : (1 : Int32).toInt = 1 := by decide
          have c72 := neI h68
          refine Sf_nmI (fun v98_144 hv73 => ?_)
          have g74 := rgI (x3_86 + 1)
          first | have e75 := adN x3_86 1 (1) (by decide) (by omega) (by omega) | skip
          have q76 := eqI hv73
          exact ih v98_144 z38 z39 z40 z41 z42 z43 z44 z45 z46 z47 z48 z49 z50 z51 z52 (by omega) (by omega) (by omega)
set_option maxHeartbeats 4000000 in
set_option maxRecDepth 100000 in
theorem s_X12_told (s_nights : Int32) (s_atA : Int32) (s_atB : Int32) (s_atD : Int32) (s_atF : Int32) (s_atG : Int32) (s_atH : Int32) (s_atL : Int32) (s_atM : Int32) (s_atN : Int32) (s_atS : Int32) (s_atT : Int32) (s_atU : Int32) (s_atX : Int32) (s_code : Nat → Int32) (s_codeArg : Nat → Int32) (s_codeFrom : Nat → Int32) (s_found : Nat → Int32) (s_isRefused : Nat → Int32) (s_many : Nat → Int32) (s_nightDay : Nat → Int32) (s_sumFrom : Nat → Int32) (s_worth : Nat → Int32) (p1 : Int32) (p2 : Int32) (hp0 : 0 ≤ s_nights.toInt) (hp1 : s_nights.toInt ≤ 30) (hp2 : tlOK s_code s_codeFrom s_sumFrom s_many) : Sf (f_X12_told s_nights s_atA s_atB s_atD s_atF s_atG s_atH s_atL s_atM s_atN s_atS s_atT s_atU s_atX s_code s_codeArg s_codeFrom s_found s_isRefused s_many s_nightDay s_sumFrom s_worth p1 p2) (fun (y : Int32 × Int32 × Int32 × Int32 × Int32 × Int32 × Int32 × Int32 × Int32 × Int32 × Int32 × Int32 × Int32 × Int32 × (Nat → Int32) × (Nat → Int32)) => True) := by
  have g1 := rgI s_nights
  have g2 := rgI s_atA
  have g3 := rgI s_atB
  have g4 := rgI s_atD
  have g5 := rgI s_atF
  have g6 := rgI s_atG
  have g7 := rgI s_atH
  have g8 := rgI s_atL
  have g9 := rgI s_atM
  have g10 := rgI s_atN
  have g11 := rgI s_atS
  have g12 := rgI s_atT
  have g13 := rgI s_atU
  have g14 := rgI s_atX
  have g15 := rgI p1
  have g16 := rgI p2
  have hFU : (100000 : Int) ≤ (FU : Int) := Int.ofNat_le.mpr FU_ge
  rw [f_X12_told]
  refine Sf_cb1 (s_X12_isError p1 ) (fun r1_1 hp17 => ?_)
  have hp17 : ((r1_1.toInt = 0 ∨ r1_1.toInt = 1)) ∧ ((r1_1.toInt = 1 ∧ 0 ≤ p1.toInt ∧ p1.toInt ≤ 100000) ∨ (r1_1.toInt = 0 ∧ (p1.toInt < 0 ∨ 100000 < p1.toInt))) := hp17
  obtain ⟨hq18, hq19⟩ := hp17
  have g20 := rgI r1_1
  refine Sf_ite (fun h21 => ?_) (fun h21 => ?_)
  · skip
    have l22 : (0 : Int32).toInt = 0 := by decide
    have c23 := eqI h21
    exact Sf_some trivial
  · skip
    have l24 : (0 : Int32).toInt = 0 := by decide
    have c25 := neI h21
    have t26 := t64 p2
    have l27 : (0 : Int64).toInt = 0 := by decide
    have l28 : (1 : Int64).toInt = 1 := by decide
    refine Sf_cb1 (s_X12_lies (Int32.toInt64 p2) 0 1 ) (fun r11_25 hp29 => ?_)
    have hp29 : ((r11_25.toInt = 0 ∨ r11_25.toInt = 1)) ∧ ((r11_25.toInt = 1 ∧ (0 : Int64).toInt ≤ (Int32.toInt64 p2).toInt ∧ (Int32.toInt64 p2).toInt ≤ (1 : Int64).toInt) ∨ (r11_25.toInt = 0 ∧ ((Int32.toInt64 p2).toInt < (0 : Int64).toInt ∨ (1 : Int64).toInt < (Int32.toInt64 p2).toInt))) := hp29
    obtain ⟨hq30, hq31⟩ := hp29
    have g32 := rgI r11_25
    refine Sf_ite (fun h33 => ?_) (fun h33 => ?_)
    · skip
      have c34 := eqI h33
      exact Sf_some trivial
    · skip
      have c35 := neI h33
      refine s_X12_told_L21 s_nights s_code s_codeArg s_codeFrom s_found s_many s_nightDay s_sumFrom p1 (f_X12_told_J87 p2) (by omega) (by omega) (by assumption) ?_ FU 0 s_atA s_atB s_atD s_atF s_atG s_atH s_atL s_atM s_atN s_atS s_atT s_atU s_atX s_isRefused s_worth (by omega) (by omega) (by omega)
      · intro z36 z37 z38 z39 z40 z41 z42 z43 z44 z45 z46 z47 z48 z49 z50 z51 z52
        have g53 := rgI z36
        have g54 := rgI z37
        have g55 := rgI z38
        have g56 := rgI z39
        have g57 := rgI z40
        have g58 := rgI z41
        have g59 := rgI z42
        have g60 := rgI z43
        have g61 := rgI z44
        have g62 := rgI z45
        have g63 := rgI z46
        have g64 := rgI z47
        have g65 := rgI z48
        have g66 := rgI z49
        have g67 := rgI z50
        rw [f_X12_told_J87]
        refine Sf_ite (fun h68 => ?_) (fun h68 => ?_)
        · skip
          have c69 := eqI h68
          exact Sf_some trivial
        · skip
          have c70 := neI h68
          exact Sf_some trivial
end
section
set_option maxHeartbeats 4000000 in
set_option maxRecDepth 100000 in
theorem s_X12_passed_L104 (x9_280 : Int32) (o_paperHigh82_320 : Int32) (o_paperShape82_321 : Int32) (o_highAt82_322 : Nat → Int32) (o_shapeAt82_324 : Nat → Int32) (o_atA98_353 : Int32) (o_atB98_354 : Int32) (o_atD98_355 : Int32) (o_atF98_356 : Int32) (o_atG98_357 : Int32) (o_atH98_358 : Int32) (o_atL98_359 : Int32) (o_atM98_360 : Int32) (o_atN98_361 : Int32) (o_atS98_362 : Int32) (o_atT98_363 : Int32) (o_atU98_364 : Int32) (o_atX98_365 : Int32) (o_first98_366 : Nat → Int32) (o_greatest98_367 : Nat → Int32) (o_isRefused98_368 : Nat → Int32) (o_last98_369 : Nat → Int32) (o_marked98_370 : Nat → Int32) (o_worth98_371 : Nat → Int32) (K72 : Int32 → Int32 → Int32 → Int32 → Int32 → Int32 → Int32 → Int32 → Int32 → Int32 → Int32 → Int32 → Int32 → Int32 → Int32 → Int32 → Int32 → Int32 → Int32 → (Nat → Int32) → (Nat → Int32) → (Nat → Int32) → (Nat → Int32) → (Nat → Int32) → (Nat → Int32) → (Nat → Int32) → (Nat → Int32) → Option (Int32 × Int32 × Int32 × Int32 × Int32 × Int32 × Int32 × Int32 × Int32 × Int32 × Int32 × Int32 × Int32 × Int32 × Int32 × Int32 × (Nat → Int32) × (Nat → Int32) × (Nat → Int32) × (Nat → Int32) × (Nat → Int32) × (Nat → Int32) × (Nat → Int32) × (Nat → Int32))) (hp0 : mkOK o_marked98_370) (hK72 : ∀ (a0 : Int32) (a1 : Int32) (a2 : Int32) (a3 : Int32) (a4 : Int32) (a5 : Int32) (a6 : Int32) (a7 : Int32) (a8 : Int32) (a9 : Int32) (a10 : Int32) (a11 : Int32) (a12 : Int32) (a13 : Int32) (a14 : Int32) (a15 : Int32) (a16 : Int32) (a17 : Int32) (a18 : Int32) (a19 : Nat → Int32) (a20 : Nat → Int32) (a21 : Nat → Int32) (a22 : Nat → Int32) (a23 : Nat → Int32) (a24 : Nat → Int32) (a25 : Nat → Int32) (a26 : Nat → Int32), (a3.toInt = x9_280.toInt + 1) → (mkOK a24) → Sf (K72 a0 a1 a2 a3 a4 a5 a6 a7 a8 a9 a10 a11 a12 a13 a14 a15 a16 a17 a18 a19 a20 a21 a22 a23 a24 a25 a26) (fun (y : Int32 × Int32 × Int32 × Int32 × Int32 × Int32 × Int32 × Int32 × Int32 × Int32 × Int32 × Int32 × Int32 × Int32 × Int32 × Int32 × (Nat → Int32) × (Nat → Int32) × (Nat → Int32) × (Nat → Int32) × (Nat → Int32) × (Nat → Int32) × (Nat → Int32) × (Nat → Int32)) => (mkOK (y.2.2.2.2.2.2.2.2.2.2.2.2.2.2.2.2.2.2.2.2.2.1)))) : ∀ (n : Nat) (x6_377 : Int32) (x7_378 : Int32) (x8_379 : Int32) (x10_380 : Int32), (0 ≤ x10_380.toInt) → (x10_380.toInt ≤ 720) → (0 ≤ x9_280.toInt) → (x9_280.toInt ≤ 399) → (721 - x10_380.toInt < (n : Int)) → Sf (f_X12_passed_L104 x9_280 o_paperHigh82_320 o_paperShape82_321 o_highAt82_322 o_shapeAt82_324 o_atA98_353 o_atB98_354 o_atD98_355 o_atF98_356 o_atG98_357 o_atH98_358 o_atL98_359 o_atM98_360 o_atN98_361 o_atS98_362 o_atT98_363 o_atU98_364 o_atX98_365 o_first98_366 o_greatest98_367 o_isRefused98_368 o_last98_369 o_marked98_370 o_worth98_371 K72 n x6_377 x7_378 x8_379 x10_380) (fun (y : Int32 × Int32 × Int32 × Int32 × Int32 × Int32 × Int32 × Int32 × Int32 × Int32 × Int32 × Int32 × Int32 × Int32 × Int32 × Int32 × (Nat → Int32) × (Nat → Int32) × (Nat → Int32) × (Nat → Int32) × (Nat → Int32) × (Nat → Int32) × (Nat → Int32) × (Nat → Int32)) => (mkOK (y.2.2.2.2.2.2.2.2.2.2.2.2.2.2.2.2.2.2.2.2.2.1))) := by
  have hFU : (100000 : Int) ≤ (FU : Int) := Int.ofNat_le.mpr FU_ge
  have g1 := rgI x9_280
  have g2 := rgI o_paperHigh82_320
  have g3 := rgI o_paperShape82_321
  have g4 := rgI o_atA98_353
  have g5 := rgI o_atB98_354
  have g6 := rgI o_atD98_355
  have g7 := rgI o_atF98_356
  have g8 := rgI o_atG98_357
  have g9 := rgI o_atH98_358
  have g10 := rgI o_atL98_359
  have g11 := rgI o_atM98_360
  have g12 := rgI o_atN98_361
  have g13 := rgI o_atS98_362
  have g14 := rgI o_atT98_363
  have g15 := rgI o_atU98_364
  have g16 := rgI o_atX98_365
  intro n
  induction n with
  | zero =>
    intro x6_377 x7_378 x8_379 x10_380 hi0 hi1 hi2 hi3 hm
    have g17 := rgI x6_377
    have g18 := rgI x7_378
    have g19 := rgI x8_379
    have g20 := rgI x10_380
    exact absurd hm (by omega)
  | succ n ih =>
    intro x6_377 x7_378 x8_379 x10_380 hi0 hi1 hi2 hi3 hm
    rw [f_X12_passed_L104]
    have g21 := rgI x6_377
    have g22 := rgI x7_378
    have g23 := rgI x8_379
    have g24 := rgI x10_380
    have l25 : (1 : Int32).toInt = 1 := by decide
    refine Sf_rdI (by omega) (by omega) (fun v111_381 hv26 => ?_)
    have g27 := rgI v111_381
    have hmrv111_381 := mkOK_rd (by assumption : mkOK o_marked98_370) hv26
    refine Sf_ite (fun h28 => ?_) (fun h28 => ?_)
    · skip
      have c29 := leI h28
      refine Sf_nmI (fun v158_388 hv30 => ?_)
      have g31 := rgI (x9_280 + 1)
      first | have e32 := adN x9_280 1 (1) (by decide) (by omega) (by omega) | skip
      have q33 := eqI hv30
      exact hK72 x6_377 x7_378 x8_379 v158_388 o_atA98_353 o_atB98_354 o_atD98_355 o_atF98_356 o_atG98_357 o_atH98_358 o_atL98_359 o_atM98_360 o_atN98_361 o_atS98_362 o_atT98_363 o_atU98_364 o_atX98_365 o_paperHigh82_320 o_paperShape82_321 o_first98_366 o_greatest98_367 o_highAt82_322 o_isRefused98_368 o_last98_369 o_marked98_370 o_shapeAt82_324 o_worth98_371 (by omega) (by assumption)
    · skip
      have c34 := nleI h28
      refine Sf_cb1 (s_X12_isAlone o_first98_366 o_last98_369 o_marked98_370 x10_380 (by assumption) (by omega) (by omega)) (fun r118_392 hp35 => ?_)
      have hp35 : ((r118_392.toInt = 0 ∨ r118_392.toInt = 1)) := hp35
      have g36 := rgI r118_392
      refine Sf_ite (fun h37 => ?_) (fun h37 => ?_)
      · skip
        have l38 : (0 : Int32).toInt = 0 := by decide
        have c39 := eqI h37
        refine Sf_nmI (fun v152_425 hv40 => ?_)
        have g41 := rgI (x10_380 + 1)
        first | have e42 := adN x10_380 1 (1) (by decide) (by omega) (by omega) | skip
        have q43 := eqI hv40
        exact ih x6_377 x7_378 x8_379 v152_425 (by omega) (by omega) (by omega) (by omega) (by omega)
      · skip
        have l44 : (0 : Int32).toInt = 0 := by decide
        have c45 := neI h37
        refine Sf_ite (fun h46 => ?_) (fun h46 => ?_)
        · skip
          have c47 := eqI h46
          have l48 : (720 : Int32).toInt = 720 := by decide
          have g49 := rgI (720 + x10_380)
          first | have e50 := adX 720 x10_380 (by omega) (by omega) | skip
          refine Sf_rdI (by omega) (by omega) (fun v146_412 hv51 => ?_)
          have g52 := rgI v146_412
          refine Sf_nmI (fun v149_417 hv53 => ?_)
          have g54 := rgI (x6_377 + 1)
          first | have e55 := adN x6_377 1 (1) (by decide) (by omega) (by omega) | skip
          have q56 := eqI hv53
          refine Sf_nmI (fun v152_421 hv57 => ?_)
          have g58 := rgI (x10_380 + 1)
          first | have e59 := adN x10_380 1 (1) (by decide) (by omega) (by omega) | skip
          have q60 := eqI hv57
          exact ih v149_417 x9_280 v146_412 v152_421 (by omega) (by omega) (by omega) (by omega) (by omega)
        · skip
          have c61 := neI h46
          refine Sf_nmI (fun v149_403 hv62 => ?_)
          have g63 := rgI (x6_377 + 1)
          first | have e64 := adN x6_377 1 (1) (by decide) (by omega) (by omega) | skip
          have q65 := eqI hv62
          refine Sf_nmI (fun v152_407 hv66 => ?_)
          have g67 := rgI (x10_380 + 1)
          first | have e68 := adN x10_380 1 (1) (by decide) (by omega) (by omega) | skip
          have q69 := eqI hv66
          exact ih v149_403 x7_378 x8_379 v152_407 (by omega) (by omega) (by omega) (by omega) (by omega)
set_option maxHeartbeats 4000000 in
set_option maxRecDepth 100000 in
theorem s_X12_passed_L72 (s_sources : Int32) (s_seed : Int32) (s_byStar : Nat → Int32) (s_code : Nat → Int32) (s_codeArg : Nat → Int32) (s_codeFrom : Nat → Int32) (s_codeTo : Nat → Int32) (s_many : Nat → Int32) (s_minuteOf : Nat → Int32) (s_shape : Nat → Int32) (s_sumFrom : Nat → Int32) (s_weekdays : Nat → Int32) (s_wide : Nat → Int32) (p1 : Int32) (p2 : Int32) (p4 : Int32) (K164 : Int32 → Int32 → Int32 → Int32 → Int32 → Int32 → Int32 → Int32 → Int32 → Int32 → Int32 → Int32 → Int32 → Int32 → Int32 → Int32 → Int32 → Int32 → (Nat → Int32) → (Nat → Int32) → (Nat → Int32) → (Nat → Int32) → (Nat → Int32) → (Nat → Int32) → (Nat → Int32) → (Nat → Int32) → Option (Int32 × Int32 × Int32 × Int32 × Int32 × Int32 × Int32 × Int32 × Int32 × Int32 × Int32 × Int32 × Int32 × Int32 × Int32 × Int32 × (Nat → Int32) × (Nat → Int32) × (Nat → Int32) × (Nat → Int32) × (Nat → Int32) × (Nat → Int32) × (Nat → Int32) × (Nat → Int32))) (hp0 : 0 ≤ s_sources.toInt) (hp1 : s_sources.toInt ≤ 10) (hp2 : rOK s_code s_codeFrom s_codeTo s_sumFrom s_many) (hp3 : 0 ≤ p1.toInt) (hp4 : p1.toInt ≤ 3) (hp5 : 0 ≤ p2.toInt) (hp6 : p2.toInt ≤ 3) (hp7 : p4.toInt ≤ 399) (hK164 : ∀ (a0 : Int32) (a1 : Int32) (a2 : Int32) (a3 : Int32) (a4 : Int32) (a5 : Int32) (a6 : Int32) (a7 : Int32) (a8 : Int32) (a9 : Int32) (a10 : Int32) (a11 : Int32) (a12 : Int32) (a13 : Int32) (a14 : Int32) (a15 : Int32) (a16 : Int32) (a17 : Int32) (a18 : Nat → Int32) (a19 : Nat → Int32) (a20 : Nat → Int32) (a21 : Nat → Int32) (a22 : Nat → Int32) (a23 : Nat → Int32) (a24 : Nat → Int32) (a25 : Nat → Int32), (mkOK a23) → Sf (K164 a0 a1 a2 a3 a4 a5 a6 a7 a8 a9 a10 a11 a12 a13 a14 a15 a16 a17 a18 a19 a20 a21 a22 a23 a24 a25) (fun (y : Int32 × Int32 × Int32 × Int32 × Int32 × Int32 × Int32 × Int32 × Int32 × Int32 × Int32 × Int32 × Int32 × Int32 × Int32 × Int32 × (Nat → Int32) × (Nat → Int32) × (Nat → Int32) × (Nat → Int32) × (Nat → Int32) × (Nat → Int32) × (Nat → Int32) × (Nat → Int32)) => (mkOK (y.2.2.2.2.2.2.2.2.2.2.2.2.2.2.2.2.2.2.2.2.2.1)))) : ∀ (n : Nat) (x6_277 : Int32) (x7_278 : Int32) (x8_279 : Int32) (x9_280 : Int32) (atA__281 : Int32) (atB__282 : Int32) (atD__283 : Int32) (atF__284 : Int32) (atG__285 : Int32) (atH__286 : Int32) (atL__287 : Int32) (atM__288 : Int32) (atN__289 : Int32) (atS__290 : Int32) (atT__291 : Int32) (atU__292 : Int32) (atX__293 : Int32) (paperHigh__294 : Int32) (paperShape__295 : Int32) (first__296 : Nat → Int32) (greatest__297 : Nat → Int32) (highAt__298 : Nat → Int32) (isRefused__299 : Nat → Int32) (last__300 : Nat → Int32) (marked__301 : Nat → Int32) (shapeAt__302 : Nat → Int32) (worth__303 : Nat → Int32), (0 ≤ x9_280.toInt) → (x9_280.toInt ≤ 400) → (mkOK marked__301) → (401 - x9_280.toInt < (n : Int)) → Sf (f_X12_passed_L72 s_sources s_seed s_byStar s_code s_codeArg s_codeFrom s_codeTo s_many s_minuteOf s_shape s_sumFrom s_weekdays s_wide p1 p2 p4 K164 n x6_277 x7_278 x8_279 x9_280 atA__281 atB__282 atD__283 atF__284 atG__285 atH__286 atL__287 atM__288 atN__289 atS__290 atT__291 atU__292 atX__293 paperHigh__294 paperShape__295 first__296 greatest__297 highAt__298 isRefused__299 last__300 marked__301 shapeAt__302 worth__303) (fun (y : Int32 × Int32 × Int32 × Int32 × Int32 × Int32 × Int32 × Int32 × Int32 × Int32 × Int32 × Int32 × Int32 × Int32 × Int32 × Int32 × (Nat → Int32) × (Nat → Int32) × (Nat → Int32) × (Nat → Int32) × (Nat → Int32) × (Nat → Int32) × (Nat → Int32) × (Nat → Int32)) => (mkOK (y.2.2.2.2.2.2.2.2.2.2.2.2.2.2.2.2.2.2.2.2.2.1))) := by
  have hFU : (100000 : Int) ≤ (FU : Int) := Int.ofNat_le.mpr FU_ge
  have g1 := rgI s_sources
  have g2 := rgI s_seed
  have g3 := rgI p1
  have g4 := rgI p2
  have g5 := rgI p4
  intro n
  induction n with
  | zero =>
    intro x6_277 x7_278 x8_279 x9_280 atA__281 atB__282 atD__283 atF__284 atG__285 atH__286 atL__287 atM__288 atN__289 atS__290 atT__291 atU__292 atX__293 paperHigh__294 paperShape__295 first__296 greatest__297 highAt__298 isRefused__299 last__300 marked__301 shapeAt__302 worth__303 hi0 hi1 hi2 hm
    have g6 := rgI x6_277
    have g7 := rgI x7_278
    have g8 := rgI x8_279
    have g9 := rgI x9_280
    have g10 := rgI atA__281
    have g11 := rgI atB__282
    have g12 := rgI atD__283
    have g13 := rgI atF__284
    have g14 := rgI atG__285
    have g15 := rgI atH__286
    have g16 := rgI atL__287
    have g17 := rgI atM__288
    have g18 := rgI atN__289
    have g19 := rgI atS__290
    have g20 := rgI atT__291
    have g21 := rgI atU__292
    have g22 := rgI atX__293
    have g23 := rgI paperHigh__294
    have g24 := rgI paperShape__295
    exact absurd hm (by omega)
  | succ n ih =>
    intro x6_277 x7_278 x8_279 x9_280 atA__281 atB__282 atD__283 atF__284 atG__285 atH__286 atL__287 atM__288 atN__289 atS__290 atT__291 atU__292 atX__293 paperHigh__294 paperShape__295 first__296 greatest__297 highAt__298 isRefused__299 last__300 marked__301 shapeAt__302 worth__303 hi0 hi1 hi2 hm
    rw [f_X12_passed_L72]
    have g25 := rgI x6_277
    have g26 := rgI x7_278
    have g27 := rgI x8_279
    have g28 := rgI x9_280
    have g29 := rgI atA__281
    have g30 := rgI atB__282
    have g31 := rgI atD__283
    have g32 := rgI atF__284
    have g33 := rgI atG__285
    have g34 := rgI atH__286
    have g35 := rgI atL__287
    have g36 := rgI atM__288
    have g37 := rgI atN__289
    have g38 := rgI atS__290
    have g39 := rgI atT__291
    have g40 := rgI atU__292
    have g41 := rgI atX__293
    have g42 := rgI paperHigh__294
    have g43 := rgI paperShape__295
    refine Sf_ite (fun h44 => ?_) (fun h44 => ?_)
    · skip
      have c45 := ltI h44
      exact hK164 x6_277 x7_278 x8_279 atA__281 atB__282 atD__283 atF__284 atG__285 atH__286 atL__287 atM__288 atN__289 atS__290 atT__291 atU__292 atX__293 paperHigh__294 paperShape__295 first__296 greatest__297 highAt__298 isRefused__299 last__300 marked__301 shapeAt__302 worth__303 (by assumption)
    · skip
      have c46 := nltI h44
      refine Sf_cb19 (s_X12_lays s_sources s_seed atA__281 atB__282 atD__283 atF__284 atG__285 atH__286 atL__287 atM__288 atN__289 atS__290 atT__291 atU__292 atX__293 paperHigh__294 paperShape__295 s_byStar s_code s_codeArg s_codeFrom s_codeTo highAt__298 isRefused__299 s_many s_minuteOf s_shape shapeAt__302 s_sumFrom s_weekdays s_wide worth__303 x9_280 (by omega) (by omega) (by assumption)) (fun o_atA82_307 o_atB82_308 o_atD82_309 o_atF82_310 o_atG82_311 o_atH82_312 o_atL82_313 o_atM82_314 o_atN82_315 o_atS82_316 o_atT82_317 o_atU82_318 o_atX82_319 o_paperHigh82_320 o_paperShape82_321 o_highAt82_322 o_isRefused82_323 o_shapeAt82_324 o_worth82_325 hp47 => ?_)
      have g48 := rgI o_atA82_307
      have g49 := rgI o_atB82_308
      have g50 := rgI o_atD82_309
      have g51 := rgI o_atF82_310
      have g52 := rgI o_atG82_311
      have g53 := rgI o_atH82_312
      have g54 := rgI o_atL82_313
      have g55 := rgI o_atM82_314
      have g56 := rgI o_atN82_315
      have g57 := rgI o_atS82_316
      have g58 := rgI o_atT82_317
      have g59 := rgI o_atU82_318
      have g60 := rgI o_atX82_319
      have g61 := rgI o_paperHigh82_320
      have g62 := rgI o_paperShape82_321
      have l63 : (0 : Int32).toInt = 0 := by decide
      refine Sf_cb19 (s_X12_goesOver o_atA82_307 o_atB82_308 o_atD82_309 o_atF82_310 o_atG82_311 o_atH82_312 o_atL82_313 o_atM82_314 o_atN82_315 o_atS82_316 o_atT82_317 o_atU82_318 o_atX82_319 s_code s_codeArg s_codeFrom s_codeTo first__296 greatest__297 o_highAt82_322 o_isRefused82_323 last__300 s_many marked__301 o_shapeAt82_324 o_worth82_325 p1 x9_280 0 (by omega) (by omega) (by omega) (by omega) (by first | assumption | exact ⟨_, ‹_›⟩) (by assumption)) (fun o_atA90_330 o_atB90_331 o_atD90_332 o_atF90_333 o_atG90_334 o_atH90_335 o_atL90_336 o_atM90_337 o_atN90_338 o_atS90_339 o_atT90_340 o_atU90_341 o_atX90_342 o_first90_343 o_greatest90_344 o_isRefused90_345 o_last90_346 o_marked90_347 o_worth90_348 hp64 => ?_)
      have hp64 : (mkOK o_marked90_347) := hp64
      have g65 := rgI o_atA90_330
      have g66 := rgI o_atB90_331
      have g67 := rgI o_atD90_332
      have g68 := rgI o_atF90_333
      have g69 := rgI o_atG90_334
      have g70 := rgI o_atH90_335
      have g71 := rgI o_atL90_336
      have g72 := rgI o_atM90_337
      have g73 := rgI o_atN90_338
      have g74 := rgI o_atS90_339
      have g75 := rgI o_atT90_340
      have g76 := rgI o_atU90_341
      have g77 := rgI o_atX90_342
      have l78 : (1 : Int32).toInt = 1 := by decide
      refine Sf_cb19 (s_X12_goesOver o_atA90_330 o_atB90_331 o_atD90_332 o_atF90_333 o_atG90_334 o_atH90_335 o_atL90_336 o_atM90_337 o_atN90_338 o_atS90_339 o_atT90_340 o_atU90_341 o_atX90_342 s_code s_codeArg s_codeFrom s_codeTo o_first90_343 o_greatest90_344 o_highAt82_322 o_isRefused90_345 o_last90_346 s_many o_marked90_347 o_shapeAt82_324 o_worth90_348 p2 x9_280 1 (by omega) (by omega) (by omega) (by omega) (by first | assumption | exact ⟨_, ‹_›⟩) (by assumption)) (fun o_atA98_353 o_atB98_354 o_atD98_355 o_atF98_356 o_atG98_357 o_atH98_358 o_atL98_359 o_atM98_360 o_atN98_361 o_atS98_362 o_atT98_363 o_atU98_364 o_atX98_365 o_first98_366 o_greatest98_367 o_isRefused98_368 o_last98_369 o_marked98_370 o_worth98_371 hp79 => ?_)
      have hp79 : (mkOK o_marked98_370) := hp79
      have g80 := rgI o_atA98_353
      have g81 := rgI o_atB98_354
      have g82 := rgI o_atD98_355
      have g83 := rgI o_atF98_356
      have g84 := rgI o_atG98_357
      have g85 := rgI o_atH98_358
      have g86 := rgI o_atL98_359
      have g87 := rgI o_atM98_360
      have g88 := rgI o_atN98_361
      have g89 := rgI o_atS98_362
      have g90 := rgI o_atT98_363
      have g91 := rgI o_atU98_364
      have g92 := rgI o_atX98_365
      refine s_X12_passed_L104 x9_280 o_paperHigh82_320 o_paperShape82_321 o_highAt82_322 o_shapeAt82_324 o_atA98_353 o_atB98_354 o_atD98_355 o_atF98_356 o_atG98_357 o_atH98_358 o_atL98_359 o_atM98_360 o_atN98_361 o_atS98_362 o_atT98_363 o_atU98_364 o_atX98_365 o_first98_366 o_greatest98_367 o_isRefused98_368 o_last98_369 o_marked98_370 o_worth98_371 (f_X12_passed_L72 s_sources s_seed s_byStar s_code s_codeArg s_codeFrom s_codeTo s_many s_minuteOf s_shape s_sumFrom s_weekdays s_wide p1 p2 p4 K164 n) (by assumption) ?_ FU x6_277 x7_278 x8_279 0 (by omega) (by omega) (by omega) (by omega) (by omega)
      · intro z93 z94 z95 z96 z97 z98 z99 z100 z101 z102 z103 z104 z105 z106 z107 z108 z109 z110 z111 z112 z113 z114 z115 z116 z117 z118 z119 hk120 hk121
        have g122 := rgI z93
        have g123 := rgI z94
        have g124 := rgI z95
        have g125 := rgI z96
        have g126 := rgI z97
        have g127 := rgI z98
        have g128 := rgI z99
        have g129 := rgI z100
        have g130 := rgI z101
        have g131 := rgI z102
        have g132 := rgI z103
        have g133 := rgI z104
        have g134 := rgI z105
        have g135 := rgI z106
        have g136 := rgI z107
        have g137 := rgI z108
        have g138 := rgI z109
        have g139 := rgI z110
        have g140 := rgI z111
        have hk120 : z96.toInt = x9_280.toInt + 1 := hk120
        have hk121 : mkOK z117 := hk121
        exact ih z93 z94 z95 z96 z97 z98 z99 z100 z101 z102 z103 z104 z105 z106 z107 z108 z109 z110 z111 z112 z113 z114 z115 z116 z117 z118 z119 (by omega) (by omega) (by assumption) (by omega)
set_option maxHeartbeats 4000000 in
set_option maxRecDepth 100000 in
theorem s_X12_passed (s_sources : Int32) (s_seed : Int32) (s_atA : Int32) (s_atB : Int32) (s_atD : Int32) (s_atF : Int32) (s_atG : Int32) (s_atH : Int32) (s_atL : Int32) (s_atM : Int32) (s_atN : Int32) (s_atS : Int32) (s_atT : Int32) (s_atU : Int32) (s_atX : Int32) (s_paperHigh : Int32) (s_paperShape : Int32) (s_byStar : Nat → Int32) (s_code : Nat → Int32) (s_codeArg : Nat → Int32) (s_codeFrom : Nat → Int32) (s_codeTo : Nat → Int32) (s_first : Nat → Int32) (s_greatest : Nat → Int32) (s_highAt : Nat → Int32) (s_isRefused : Nat → Int32) (s_last : Nat → Int32) (s_many : Nat → Int32) (s_marked : Nat → Int32) (s_minuteOf : Nat → Int32) (s_shape : Nat → Int32) (s_shapeAt : Nat → Int32) (s_sumFrom : Nat → Int32) (s_weekdays : Nat → Int32) (s_wide : Nat → Int32) (s_worth : Nat → Int32) (p1 : Int32) (p2 : Int32) (p3 : Int32) (p4 : Int32) (p5 : Int32) (hp0 : 0 ≤ s_sources.toInt) (hp1 : s_sources.toInt ≤ 10) (hp2 : rOK s_code s_codeFrom s_codeTo s_sumFrom s_many) (hp3 : mkOK s_marked) : Sf (f_X12_passed s_sources s_seed s_atA s_atB s_atD s_atF s_atG s_atH s_atL s_atM s_atN s_atS s_atT s_atU s_atX s_paperHigh s_paperShape s_byStar s_code s_codeArg s_codeFrom s_codeTo s_first s_greatest s_highAt s_isRefused s_last s_many s_marked s_minuteOf s_shape s_shapeAt s_sumFrom s_weekdays s_wide s_worth p1 p2 p3 p4 p5) (fun (y : Int32 × Int32 × Int32 × Int32 × Int32 × Int32 × Int32 × Int32 × Int32 × Int32 × Int32 × Int32 × Int32 × Int32 × Int32 × Int32 × (Nat → Int32) × (Nat → Int32) × (Nat → Int32) × (Nat → Int32) × (Nat → Int32) × (Nat → Int32) × (Nat → Int32) × (Nat → Int32)) => (mkOK (y.2.2.2.2.2.2.2.2.2.2.2.2.2.2.2.2.2.2.2.2.2.1))) := by
  have g1 := rgI s_sources
  have g2 := rgI s_seed
  have g3 := rgI s_atA
  have g4 := rgI s_atB
  have g5 := rgI s_atD
  have g6 := rgI s_atF
  have g7 := rgI s_atG
  have g8 := rgI s_atH
  have g9 := rgI s_atL
  have g10 := rgI s_atM
  have g11 := rgI s_atN
  have g12 := rgI s_atS
  have g13 := rgI s_atT
  have g14 := rgI s_atU
  have g15 := rgI s_atX
  have g16 := rgI s_paperHigh
  have g17 := rgI s_paperShape
  have g18 := rgI p1
  have g19 := rgI p2
  have g20 := rgI p3
  have g21 := rgI p4
  have g22 := rgI p5
  have hFU : (100000 : Int) ≤ (FU : Int) := Int.ofNat_le.mpr FU_ge
  rw [f_X12_passed]
  refine Sf_cb1 (s_X12_isReader p1 ) (fun r1_1 hp23 => ?_)
  have hp23 : ((r1_1.toInt = 0 ∨ r1_1.toInt = 1)) ∧ ((r1_1.toInt = 1 ∧ 0 ≤ p1.toInt ∧ p1.toInt ≤ 3) ∨ (r1_1.toInt = 0 ∧ (p1.toInt < 0 ∨ 3 < p1.toInt))) := hp23
  obtain ⟨hq24, hq25⟩ := hp23
  have g26 := rgI r1_1
  refine Sf_ite (fun h27 => ?_) (fun h27 => ?_)
  · skip
    have l28 : (0 : Int32).toInt = 0 := by decide
    have c29 := eqI h27
    have l30 : ((-1) : Int32).toInt = -1 := by decide
    refine Sf_some (show (mkOK s_marked) from ?_)
    (assumption)
  · skip
    have l31 : (0 : Int32).toInt = 0 := by decide
    have c32 := neI h27
    refine Sf_cb1 (s_X12_isReader p2 ) (fun r8_33 hp33 => ?_)
    have hp33 : ((r8_33.toInt = 0 ∨ r8_33.toInt = 1)) ∧ ((r8_33.toInt = 1 ∧ 0 ≤ p2.toInt ∧ p2.toInt ≤ 3) ∨ (r8_33.toInt = 0 ∧ (p2.toInt < 0 ∨ 3 < p2.toInt))) := hp33
    obtain ⟨hq34, hq35⟩ := hp33
    have g36 := rgI r8_33
    refine Sf_ite (fun h37 => ?_) (fun h37 => ?_)
    · skip
      have c38 := eqI h37
      have l39 : ((-1) : Int32).toInt = -1 := by decide
      refine Sf_some (show (mkOK s_marked) from ?_)
      (assumption)
    · skip
      have c40 := neI h37
      refine Sf_cb1 (s_X12_isDay p3 ) (fun r15_65 hp41 => ?_)
      have hp41 : ((r15_65.toInt = 0 ∨ r15_65.toInt = 1)) ∧ ((r15_65.toInt = 1 ∧ 0 ≤ p3.toInt ∧ p3.toInt ≤ 399) ∨ (r15_65.toInt = 0 ∧ (p3.toInt < 0 ∨ 399 < p3.toInt))) := hp41
      obtain ⟨hq42, hq43⟩ := hp41
      have g44 := rgI r15_65
      refine Sf_ite (fun h45 => ?_) (fun h45 => ?_)
      · skip
        have c46 := eqI h45
        have l47 : ((-1) : Int32).toInt = -1 := by decide
        refine Sf_some (show (mkOK s_marked) from ?_)
        (assumption)
      · skip
        have c48 := neI h45
        refine Sf_cb1 (s_X12_isDay p4 ) (fun r23_97 hp49 => ?_)
        have hp49 : ((r23_97.toInt = 0 ∨ r23_97.toInt = 1)) ∧ ((r23_97.toInt = 1 ∧ 0 ≤ p4.toInt ∧ p4.toInt ≤ 399) ∨ (r23_97.toInt = 0 ∧ (p4.toInt < 0 ∨ 399 < p4.toInt))) := hp49
        obtain ⟨hq50, hq51⟩ := hp49
        have g52 := rgI r23_97
        refine Sf_ite (fun h53 => ?_) (fun h53 => ?_)
        · skip
          have c54 := eqI h53
          have l55 : ((-1) : Int32).toInt = -1 := by decide
          refine Sf_some (show (mkOK s_marked) from ?_)
          (assumption)
        · skip
          have c56 := neI h53
          have t57 := t64 p4
          have t58 := t64 p3
          have g59 := rgI (p3 + 29)
          first | have e60 := adN p3 29 (29) (by decide) (by omega) (by omega) | skip
          have t61 := t64 (p3 + 29)
          refine Sf_cb1 (s_X12_lies (Int32.toInt64 p4) (Int32.toInt64 p3) (Int32.toInt64 (p3 + 29)) ) (fun r39_129 hp62 => ?_)
          have hp62 : ((r39_129.toInt = 0 ∨ r39_129.toInt = 1)) ∧ ((r39_129.toInt = 1 ∧ (Int32.toInt64 p3).toInt ≤ (Int32.toInt64 p4).toInt ∧ (Int32.toInt64 p4).toInt ≤ (Int32.toInt64 (p3 + 29)).toInt) ∨ (r39_129.toInt = 0 ∧ ((Int32.toInt64 p4).toInt < (Int32.toInt64 p3).toInt ∨ (Int32.toInt64 (p3 + 29)).toInt < (Int32.toInt64 p4).toInt))) := hp62
          obtain ⟨hq63, hq64⟩ := hp62
          have g65 := rgI r39_129
          refine Sf_ite (fun h66 => ?_) (fun h66 => ?_)
          · skip
            have c67 := eqI h66
            have l68 : ((-1) : Int32).toInt = -1 := by decide
            refine Sf_some (show (mkOK s_marked) from ?_)
            (assumption)
          · skip
            have c69 := neI h66
            have t70 := t64 p5
            have l71 : (0 : Int64).toInt = 0 := by decide
            have l72 : (2 : Int64).toInt = 2 := by decide
            refine Sf_cb1 (s_X12_lies (Int32.toInt64 p5) 0 2 ) (fun r52_161 hp73 => ?_)
            have hp73 : ((r52_161.toInt = 0 ∨ r52_161.toInt = 1)) ∧ ((r52_161.toInt = 1 ∧ (0 : Int64).toInt ≤ (Int32.toInt64 p5).toInt ∧ (Int32.toInt64 p5).toInt ≤ (2 : Int64).toInt) ∨ (r52_161.toInt = 0 ∧ ((Int32.toInt64 p5).toInt < (0 : Int64).toInt ∨ (2 : Int64).toInt < (Int32.toInt64 p5).toInt))) := hp73
            obtain ⟨hq74, hq75⟩ := hp73
            have g76 := rgI r52_161
            refine Sf_ite (fun h77 => ?_) (fun h77 => ?_)
            · skip
              have c78 := eqI h77
              have l79 : ((-1) : Int32).toInt = -1 := by decide
              refine Sf_some (show (mkOK s_marked) from ?_)
              (assumption)
            · skip
              have c80 := neI h77
              have l81 : ((-1) : Int32).toInt = -1 := by decide
              refine s_X12_passed_L72 s_sources s_seed s_byStar s_code s_codeArg s_codeFrom s_codeTo s_many s_minuteOf s_shape s_sumFrom s_weekdays s_wide p1 p2 p4 (f_X12_passed_J164 p5) (by omega) (by omega) (by assumption) (by omega) (by omega) (by omega) (by omega) (by omega) ?_ FU 0 (-1) (-1) p3 s_atA s_atB s_atD s_atF s_atG s_atH s_atL s_atM s_atN s_atS s_atT s_atU s_atX s_paperHigh s_paperShape s_first s_greatest s_highAt s_isRefused s_last s_marked s_shapeAt s_worth (by omega) (by omega) (by assumption) (by omega)
              · intro z82 z83 z84 z85 z86 z87 z88 z89 z90 z91 z92 z93 z94 z95 z96 z97 z98 z99 z100 z101 z102 z103 z104 z105 z106 z107 hk108
                have g109 := rgI z82
                have g110 := rgI z83
                have g111 := rgI z84
                have g112 := rgI z85
                have g113 := rgI z86
                have g114 := rgI z87
                have g115 := rgI z88
                have g116 := rgI z89
                have g117 := rgI z90
                have g118 := rgI z91
                have g119 := rgI z92
                have g120 := rgI z93
                have g121 := rgI z94
                have g122 := rgI z95
                have g123 := rgI z96
                have g124 := rgI z97
                have g125 := rgI z98
                have g126 := rgI z99
                have hk108 : mkOK z105 := hk108
                rw [f_X12_passed_J164]
                refine Sf_ite (fun h127 => ?_) (fun h127 => ?_)
                · skip
                  have c128 := eqI h127
                  refine Sf_some (show (mkOK z105) from ?_)
                  (assumption)
                · skip
                  have c129 := neI h127
                  refine Sf_ite (fun h130 => ?_) (fun h130 => ?_)
                  · skip
                    have l131 : (1 : Int32).toInt = 1 := by decide
                    have c132 := eqI h130
                    refine Sf_some (show (mkOK z105) from ?_)
                    (assumption)
                  · skip
                    have l133 : (1 : Int32).toInt = 1 := by decide
                    have c134 := neI h130
                    refine Sf_some (show (mkOK z105) from ?_)
                    (assumption)
end
section
set_option maxHeartbeats 4000000 in
set_option maxRecDepth 100000 in
theorem s_X12_check_L52 (s_tape : Nat → Int32) (p3 : Int32) (o_paperHigh39_112 : Int32) (o_paperShape39_113 : Int32) (o_highAt39_114 : Nat → Int32) (o_shapeAt39_116 : Nat → Int32) (o_atA46_122 : Int32) (o_atB46_123 : Int32) (o_atD46_124 : Int32) (o_atF46_125 : Int32) (o_atG46_126 : Int32) (o_atH46_127 : Int32) (o_atL46_128 : Int32) (o_atM46_129 : Int32) (o_atN46_130 : Int32) (o_atS46_131 : Int32) (o_atT46_132 : Int32) (o_atU46_133 : Int32) (o_atX46_134 : Int32) (o_first46_135 : Nat → Int32) (o_greatest46_136 : Nat → Int32) (o_isRefused46_137 : Nat → Int32) (o_last46_138 : Nat → Int32) (o_marked46_139 : Nat → Int32) (o_worth46_140 : Nat → Int32) (K116 : Int32 → Option (Int32 × Int32 × Int32 × Int32 × Int32 × Int32 × Int32 × Int32 × Int32 × Int32 × Int32 × Int32 × Int32 × Int32 × Int32 × Int32 × Int32 × (Nat → Int32) × (Nat → Int32) × (Nat → Int32) × (Nat → Int32) × (Nat → Int32) × (Nat → Int32) × (Nat → Int32) × (Nat → Int32))) (K143 : Int32 → Option (Int32 × Int32 × Int32 × Int32 × Int32 × Int32 × Int32 × Int32 × Int32 × Int32 × Int32 × Int32 × Int32 × Int32 × Int32 × Int32 × Int32 × (Nat → Int32) × (Nat → Int32) × (Nat → Int32) × (Nat → Int32) × (Nat → Int32) × (Nat → Int32) × (Nat → Int32) × (Nat → Int32))) (K156 : Option (Int32 × Int32 × Int32 × Int32 × Int32 × Int32 × Int32 × Int32 × Int32 × Int32 × Int32 × Int32 × Int32 × Int32 × Int32 × Int32 × Int32 × (Nat → Int32) × (Nat → Int32) × (Nat → Int32) × (Nat → Int32) × (Nat → Int32) × (Nat → Int32) × (Nat → Int32) × (Nat → Int32))) (hp0 : mkOK o_marked46_139) (hp1 : 0 ≤ p3.toInt) (hp2 : p3.toInt ≤ 16) (hK116 : ∀ (a0 : Int32), Sf (K116 a0) (fun (y : Int32 × Int32 × Int32 × Int32 × Int32 × Int32 × Int32 × Int32 × Int32 × Int32 × Int32 × Int32 × Int32 × Int32 × Int32 × Int32 × Int32 × (Nat → Int32) × (Nat → Int32) × (Nat → Int32) × (Nat → Int32) × (Nat → Int32) × (Nat → Int32) × (Nat → Int32) × (Nat → Int32)) => (mkOK (y.2.2.2.2.2.2.2.2.2.2.2.2.2.2.2.2.2.2.2.2.2.2.1)) ∧ (0 ≤ (y.2.1).toInt ∧ (y.2.1).toInt ≤ 200))) (hK143 : ∀ (a0 : Int32), Sf (K143 a0) (fun (y : Int32 × Int32 × Int32 × Int32 × Int32 × Int32 × Int32 × Int32 × Int32 × Int32 × Int32 × Int32 × Int32 × Int32 × Int32 × Int32 × Int32 × (Nat → Int32) × (Nat → Int32) × (Nat → Int32) × (Nat → Int32) × (Nat → Int32) × (Nat → Int32) × (Nat → Int32) × (Nat → Int32)) => (mkOK (y.2.2.2.2.2.2.2.2.2.2.2.2.2.2.2.2.2.2.2.2.2.2.1)) ∧ (0 ≤ (y.2.1).toInt ∧ (y.2.1).toInt ≤ 200))) (hK156 : Sf (K156 ) (fun (y : Int32 × Int32 × Int32 × Int32 × Int32 × Int32 × Int32 × Int32 × Int32 × Int32 × Int32 × Int32 × Int32 × Int32 × Int32 × Int32 × Int32 × (Nat → Int32) × (Nat → Int32) × (Nat → Int32) × (Nat → Int32) × (Nat → Int32) × (Nat → Int32) × (Nat → Int32) × (Nat → Int32)) => (mkOK (y.2.2.2.2.2.2.2.2.2.2.2.2.2.2.2.2.2.2.2.2.2.2.1)) ∧ (0 ≤ (y.2.1).toInt ∧ (y.2.1).toInt ≤ 200))) : ∀ (n : Nat) (x4_259 : Int32), (0 ≤ x4_259.toInt) → (x4_259.toInt ≤ p3.toInt) → (18 - x4_259.toInt < (n : Int)) → Sf (f_X12_check_L52 s_tape p3 o_paperHigh39_112 o_paperShape39_113 o_highAt39_114 o_shapeAt39_116 o_atA46_122 o_atB46_123 o_atD46_124 o_atF46_125 o_atG46_126 o_atH46_127 o_atL46_128 o_atM46_129 o_atN46_130 o_atS46_131 o_atT46_132 o_atU46_133 o_atX46_134 o_first46_135 o_greatest46_136 o_isRefused46_137 o_last46_138 o_marked46_139 o_worth46_140 K116 K143 K156 n x4_259) (fun (y : Int32 × Int32 × Int32 × Int32 × Int32 × Int32 × Int32 × Int32 × Int32 × Int32 × Int32 × Int32 × Int32 × Int32 × Int32 × Int32 × Int32 × (Nat → Int32) × (Nat → Int32) × (Nat → Int32) × (Nat → Int32) × (Nat → Int32) × (Nat → Int32) × (Nat → Int32) × (Nat → Int32)) => (mkOK (y.2.2.2.2.2.2.2.2.2.2.2.2.2.2.2.2.2.2.2.2.2.2.1)) ∧ (0 ≤ (y.2.1).toInt ∧ (y.2.1).toInt ≤ 200)) := by
  have hFU : (100000 : Int) ≤ (FU : Int) := Int.ofNat_le.mpr FU_ge
  have g1 := rgI p3
  have g2 := rgI o_paperHigh39_112
  have g3 := rgI o_paperShape39_113
  have g4 := rgI o_atA46_122
  have g5 := rgI o_atB46_123
  have g6 := rgI o_atD46_124
  have g7 := rgI o_atF46_125
  have g8 := rgI o_atG46_126
  have g9 := rgI o_atH46_127
  have g10 := rgI o_atL46_128
  have g11 := rgI o_atM46_129
  have g12 := rgI o_atN46_130
  have g13 := rgI o_atS46_131
  have g14 := rgI o_atT46_132
  have g15 := rgI o_atU46_133
  have g16 := rgI o_atX46_134
  intro n
  induction n with
  | zero =>
    intro x4_259 hi0 hi1 hm
    have g17 := rgI x4_259
    exact absurd hm (by omega)
  | succ n ih =>
    intro x4_259 hi0 hi1 hm
    rw [f_X12_check_L52]
    have g18 := rgI x4_259
    have l19 : (0 : Int32).toInt = 0 := by decide
    refine Sf_rdI (by omega) (by omega) (fun v59_260 hv20 => ?_)
    have g21 := rgI v59_260
    have hmrv59_260 := mkOK_rd (by assumption : mkOK o_marked46_139) hv20
    refine Sf_ite (fun h22 => ?_) (fun h22 => ?_)
    · skip
      have c23 := leI h22
      exact hK156  
    · skip
      have c24 := nleI h22
      refine Sf_ite (fun h25 => ?_) (fun h25 => ?_)
      · skip
        have c26 := eqI h25
        have l27 : (3 : Int32).toInt = 3 := by decide
        have g28 := rgI (3 * p3)
        first | have e29 := mlY 3 p3 (3) (by decide) (by omega) (by omega) | skip
        refine Sf_some (show (mkOK o_marked46_139) ∧ (0 ≤ (0 : Int32).toInt ∧ (0 : Int32).toInt ≤ 200) from ?_)
        refine ⟨?_, ?_⟩ <;> (first | assumption | omega)
      · skip
        have c30 := neI h25
        have l31 : (3 : Int32).toInt = 3 := by decide
        have g32 := rgI (3 * x4_259)
        first | have e33 := mlY 3 x4_259 (3) (by decide) (by omega) (by omega) | skip
        refine Sf_cb1 (s_X12_numberAt s_tape (3 * x4_259) (by omega) (by omega)) (fun r78_270 hp34 => ?_)
        have g35 := rgI r78_270
        refine Sf_rdI (by omega) (by omega) (fun v87_275 hv36 => ?_)
        have g37 := rgI v87_275
        refine Sf_ite (fun h38 => ?_) (fun h38 => ?_)
        · skip
          have c39 := eqI h38
          have g40 := rgI ((3 * x4_259) + 1)
          first | have e41 := adN (3 * x4_259) 1 (1) (by decide) (by omega) (by omega) | skip
          refine Sf_cb1 (s_X12_numberAt s_tape ((3 * x4_259) + 1) (by omega) (by omega)) (fun r103_282 hp42 => ?_)
          have g43 := rgI r103_282
          refine Sf_rdI (by omega) (by omega) (fun v112_287 hv44 => ?_)
          have g45 := rgI v112_287
          refine Sf_ite (fun h46 => ?_) (fun h46 => ?_)
          · skip
            have c47 := eqI h46
            have g48 := rgI ((3 * x4_259) + 2)
            first | have e49 := adN (3 * x4_259) 2 (2) (by decide) (by omega) (by omega) | skip
            refine Sf_cb1 (s_X12_numberAt s_tape ((3 * x4_259) + 2) (by omega) (by omega)) (fun r130_294 hp50 => ?_)
            have g51 := rgI r130_294
            refine Sf_rdI (by omega) (by omega) (fun v139_299 hv52 => ?_)
            have g53 := rgI v139_299
            refine Sf_ite (fun h54 => ?_) (fun h54 => ?_)
            · skip
              have c55 := eqI h54
              refine Sf_nmI (fun v150_306 hv56 => ?_)
              have g57 := rgI (x4_259 + 1)
              first | have e58 := adN x4_259 1 (1) (by decide) (by omega) (by omega) | skip
              have q59 := eqI hv56
              exact ih v150_306 (by omega) (by omega) (by omega)
            · skip
              have c60 := neI h54
              exact hK143 x4_259 
          · skip
            have c61 := neI h46
            exact hK116 x4_259 
        · skip
          have c62 := neI h38
          refine Sf_some (show (mkOK o_marked46_139) ∧ (0 ≤ (0 : Int32).toInt ∧ (0 : Int32).toInt ≤ 200) from ?_)
          refine ⟨?_, ?_⟩ <;> (first | assumption | omega)
set_option maxHeartbeats 4000000 in
set_option maxRecDepth 100000 in
theorem s_X12_check (s_taped : Int32) (s_sources : Int32) (s_seed : Int32) (s_atA : Int32) (s_atB : Int32) (s_atD : Int32) (s_atF : Int32) (s_atG : Int32) (s_atH : Int32) (s_atL : Int32) (s_atM : Int32) (s_atN : Int32) (s_atS : Int32) (s_atT : Int32) (s_atU : Int32) (s_atX : Int32) (s_paperHigh : Int32) (s_paperShape : Int32) (s_byStar : Nat → Int32) (s_code : Nat → Int32) (s_codeArg : Nat → Int32) (s_codeFrom : Nat → Int32) (s_codeTo : Nat → Int32) (s_first : Nat → Int32) (s_greatest : Nat → Int32) (s_highAt : Nat → Int32) (s_isRefused : Nat → Int32) (s_last : Nat → Int32) (s_many : Nat → Int32) (s_marked : Nat → Int32) (s_minuteOf : Nat → Int32) (s_shape : Nat → Int32) (s_shapeAt : Nat → Int32) (s_sumFrom : Nat → Int32) (s_tape : Nat → Int32) (s_weekdays : Nat → Int32) (s_wide : Nat → Int32) (s_worth : Nat → Int32) (p1 : Int32) (p2 : Int32) (p3 : Int32) (hp0 : 0 ≤ s_sources.toInt) (hp1 : s_sources.toInt ≤ 10) (hp2 : rOK s_code s_codeFrom s_codeTo s_sumFrom s_many) (hp3 : mkOK s_marked) (hp4 : 0 ≤ s_taped.toInt) (hp5 : s_taped.toInt ≤ 200) : Sf (f_X12_check s_taped s_sources s_seed s_atA s_atB s_atD s_atF s_atG s_atH s_atL s_atM s_atN s_atS s_atT s_atU s_atX s_paperHigh s_paperShape s_byStar s_code s_codeArg s_codeFrom s_codeTo s_first s_greatest s_highAt s_isRefused s_last s_many s_marked s_minuteOf s_shape s_shapeAt s_sumFrom s_tape s_weekdays s_wide s_worth p1 p2 p3) (fun (y : Int32 × Int32 × Int32 × Int32 × Int32 × Int32 × Int32 × Int32 × Int32 × Int32 × Int32 × Int32 × Int32 × Int32 × Int32 × Int32 × Int32 × (Nat → Int32) × (Nat → Int32) × (Nat → Int32) × (Nat → Int32) × (Nat → Int32) × (Nat → Int32) × (Nat → Int32) × (Nat → Int32)) => (mkOK (y.2.2.2.2.2.2.2.2.2.2.2.2.2.2.2.2.2.2.2.2.2.2.1)) ∧ (0 ≤ (y.2.1).toInt ∧ (y.2.1).toInt ≤ 200)) := by
  have g1 := rgI s_taped
  have g2 := rgI s_sources
  have g3 := rgI s_seed
  have g4 := rgI s_atA
  have g5 := rgI s_atB
  have g6 := rgI s_atD
  have g7 := rgI s_atF
  have g8 := rgI s_atG
  have g9 := rgI s_atH
  have g10 := rgI s_atL
  have g11 := rgI s_atM
  have g12 := rgI s_atN
  have g13 := rgI s_atS
  have g14 := rgI s_atT
  have g15 := rgI s_atU
  have g16 := rgI s_atX
  have g17 := rgI s_paperHigh
  have g18 := rgI s_paperShape
  have g19 := rgI p1
  have g20 := rgI p2
  have g21 := rgI p3
  have hFU : (100000 : Int) ≤ (FU : Int) := Int.ofNat_le.mpr FU_ge
  rw [f_X12_check]
  refine Sf_cb1 (s_X12_isReader p1 ) (fun r1_1 hp22 => ?_)
  have hp22 : ((r1_1.toInt = 0 ∨ r1_1.toInt = 1)) ∧ ((r1_1.toInt = 1 ∧ 0 ≤ p1.toInt ∧ p1.toInt ≤ 3) ∨ (r1_1.toInt = 0 ∧ (p1.toInt < 0 ∨ 3 < p1.toInt))) := hp22
  obtain ⟨hq23, hq24⟩ := hp22
  have g25 := rgI r1_1
  refine Sf_ite (fun h26 => ?_) (fun h26 => ?_)
  · skip
    have l27 : (0 : Int32).toInt = 0 := by decide
    have c28 := eqI h26
    have l29 : ((-2) : Int32).toInt = -2 := by decide
    refine Sf_some (show (mkOK s_marked) ∧ (0 ≤ s_taped.toInt ∧ s_taped.toInt ≤ 200) from ?_)
    refine ⟨?_, ?_⟩ <;> (first | assumption | omega)
  · skip
    have l30 : (0 : Int32).toInt = 0 := by decide
    have c31 := neI h26
    refine Sf_cb1 (s_X12_isDay p2 ) (fun r8_34 hp32 => ?_)
    have hp32 : ((r8_34.toInt = 0 ∨ r8_34.toInt = 1)) ∧ ((r8_34.toInt = 1 ∧ 0 ≤ p2.toInt ∧ p2.toInt ≤ 399) ∨ (r8_34.toInt = 0 ∧ (p2.toInt < 0 ∨ 399 < p2.toInt))) := hp32
    obtain ⟨hq33, hq34⟩ := hp32
    have g35 := rgI r8_34
    refine Sf_ite (fun h36 => ?_) (fun h36 => ?_)
    · skip
      have c37 := eqI h36
      have l38 : ((-2) : Int32).toInt = -2 := by decide
      refine Sf_some (show (mkOK s_marked) ∧ (0 ≤ s_taped.toInt ∧ s_taped.toInt ≤ 200) from ?_)
      refine ⟨?_, ?_⟩ <;> (first | assumption | omega)
    · skip
      have c39 := neI h36
      refine Sf_ite (fun h40 => ?_) (fun h40 => ?_)
      · skip
        have c41 := ltI h40
        have l42 : ((-2) : Int32).toInt = -2 := by decide
        refine Sf_some (show (mkOK s_marked) ∧ (0 ≤ s_taped.toInt ∧ s_taped.toInt ≤ 200) from ?_)
        refine ⟨?_, ?_⟩ <;> (first | assumption | omega)
      · skip
        have c43 := nltI h40
        refine Sf_ite (fun h44 => ?_) (fun h44 => ?_)
        · skip
          have l45 : (12 : Int32).toInt = 12 := by decide
          have g46 := rgI (s_taped / 12)
          have d47 := dn_ s_taped 12 12 (by decide) (by decide)
          have c48 := leI h44
          refine Sf_cb19 (s_X12_lays s_sources s_seed s_atA s_atB s_atD s_atF s_atG s_atH s_atL s_atM s_atN s_atS s_atT s_atU s_atX s_paperHigh s_paperShape s_byStar s_code s_codeArg s_codeFrom s_codeTo s_highAt s_isRefused s_many s_minuteOf s_shape s_shapeAt s_sumFrom s_weekdays s_wide s_worth p2 (by omega) (by omega) (by assumption)) (fun o_atA39_99 o_atB39_100 o_atD39_101 o_atF39_102 o_atG39_103 o_atH39_104 o_atL39_105 o_atM39_106 o_atN39_107 o_atS39_108 o_atT39_109 o_atU39_110 o_atX39_111 o_paperHigh39_112 o_paperShape39_113 o_highAt39_114 o_isRefused39_115 o_shapeAt39_116 o_worth39_117 hp49 => ?_)
          have g50 := rgI o_atA39_99
          have g51 := rgI o_atB39_100
          have g52 := rgI o_atD39_101
          have g53 := rgI o_atF39_102
          have g54 := rgI o_atG39_103
          have g55 := rgI o_atH39_104
          have g56 := rgI o_atL39_105
          have g57 := rgI o_atM39_106
          have g58 := rgI o_atN39_107
          have g59 := rgI o_atS39_108
          have g60 := rgI o_atT39_109
          have g61 := rgI o_atU39_110
          have g62 := rgI o_atX39_111
          have g63 := rgI o_paperHigh39_112
          have g64 := rgI o_paperShape39_113
          refine Sf_cb19 (s_X12_goesOver o_atA39_99 o_atB39_100 o_atD39_101 o_atF39_102 o_atG39_103 o_atH39_104 o_atL39_105 o_atM39_106 o_atN39_107 o_atS39_108 o_atT39_109 o_atU39_110 o_atX39_111 s_code s_codeArg s_codeFrom s_codeTo s_first s_greatest o_highAt39_114 o_isRefused39_115 s_last s_many s_marked o_shapeAt39_116 o_worth39_117 p1 p2 0 (by omega) (by omega) (by omega) (by omega) (by first | assumption | exact ⟨_, ‹_›⟩) (by assumption)) (fun o_atA46_122 o_atB46_123 o_atD46_124 o_atF46_125 o_atG46_126 o_atH46_127 o_atL46_128 o_atM46_129 o_atN46_130 o_atS46_131 o_atT46_132 o_atU46_133 o_atX46_134 o_first46_135 o_greatest46_136 o_isRefused46_137 o_last46_138 o_marked46_139 o_worth46_140 hp65 => ?_)
          have hp65 : (mkOK o_marked46_139) := hp65
          have g66 := rgI o_atA46_122
          have g67 := rgI o_atB46_123
          have g68 := rgI o_atD46_124
          have g69 := rgI o_atF46_125
          have g70 := rgI o_atG46_126
          have g71 := rgI o_atH46_127
          have g72 := rgI o_atL46_128
          have g73 := rgI o_atM46_129
          have g74 := rgI o_atN46_130
          have g75 := rgI o_atS46_131
          have g76 := rgI o_atT46_132
          have g77 := rgI o_atU46_133
          have g78 := rgI o_atX46_134
          refine s_X12_check_L52 s_tape p3 o_paperHigh39_112 o_paperShape39_113 o_highAt39_114 o_shapeAt39_116 o_atA46_122 o_atB46_123 o_atD46_124 o_atF46_125 o_atG46_126 o_atH46_127 o_atL46_128 o_atM46_129 o_atN46_130 o_atS46_131 o_atT46_132 o_atU46_133 o_atX46_134 o_first46_135 o_greatest46_136 o_isRefused46_137 o_last46_138 o_marked46_139 o_worth46_140 (f_X12_check_J116 o_paperHigh39_112 o_paperShape39_113 o_highAt39_114 o_shapeAt39_116 o_atA46_122 o_atB46_123 o_atD46_124 o_atF46_125 o_atG46_126 o_atH46_127 o_atL46_128 o_atM46_129 o_atN46_130 o_atS46_131 o_atT46_132 o_atU46_133 o_atX46_134 o_first46_135 o_greatest46_136 o_isRefused46_137 o_last46_138 o_marked46_139 o_worth46_140) (f_X12_check_J143 o_paperHigh39_112 o_paperShape39_113 o_highAt39_114 o_shapeAt39_116 o_atA46_122 o_atB46_123 o_atD46_124 o_atF46_125 o_atG46_126 o_atH46_127 o_atL46_128 o_atM46_129 o_atN46_130 o_atS46_131 o_atT46_132 o_atU46_133 o_atX46_134 o_first46_135 o_greatest46_136 o_isRefused46_137 o_last46_138 o_marked46_139 o_worth46_140) (f_X12_check_J156 p3 o_paperHigh39_112 o_paperShape39_113 o_highAt39_114 o_shapeAt39_116 o_atA46_122 o_atB46_123 o_atD46_124 o_atF46_125 o_atG46_126 o_atH46_127 o_atL46_128 o_atM46_129 o_atN46_130 o_atS46_131 o_atT46_132 o_atU46_133 o_atX46_134 o_first46_135 o_greatest46_136 o_isRefused46_137 o_last46_138 o_marked46_139 o_worth46_140) (by assumption) (by omega) (by omega) ?_ ?_ ?_ FU 0 (by omega) (by omega) (by omega)
          · intro z79
            have g80 := rgI z79
            rw [f_X12_check_J116]
            have l81 : (3 : Int32).toInt = 3 := by decide
            have g82 := rgI (3 * z79)
            first | have e83 := mlY 3 z79 (3) (by decide) (by omega) (by omega) | skip
            have g84 := rgI ((3 * z79) + 1)
            first | have e85 := adN (3 * z79) 1 (1) (by decide) (by omega) (by omega) | skip
            refine Sf_some (show (mkOK o_marked46_139) ∧ (0 ≤ (0 : Int32).toInt ∧ (0 : Int32).toInt ≤ 200) from ?_)
            refine ⟨?_, ?_⟩ <;> (first | assumption | omega)
          · intro z86
            have g87 := rgI z86
            rw [f_X12_check_J143]
            have l88 : (3 : Int32).toInt = 3 := by decide
            have g89 := rgI (3 * z86)
            first | have e90 := mlY 3 z86 (3) (by decide) (by omega) (by omega) | skip
            have g91 := rgI ((3 * z86) + 2)
            first | have e92 := adN (3 * z86) 2 (2) (by decide) (by omega) (by omega) | skip
            refine Sf_some (show (mkOK o_marked46_139) ∧ (0 ≤ (0 : Int32).toInt ∧ (0 : Int32).toInt ≤ 200) from ?_)
            refine ⟨?_, ?_⟩ <;> (first | assumption | omega)
          · skip
            rw [f_X12_check_J156]
            refine Sf_rdI (by omega) (by omega) (fun v162_198 hv93 => ?_)
            have g94 := rgI v162_198
            have hmrv162_198 := mkOK_rd (by assumption : mkOK o_marked46_139) hv93
            refine Sf_ite (fun h95 => ?_) (fun h95 => ?_)
            · skip
              have c96 := eqI h95
              have l97 : ((-1) : Int32).toInt = -1 := by decide
              refine Sf_some (show (mkOK o_marked46_139) ∧ (0 ≤ (0 : Int32).toInt ∧ (0 : Int32).toInt ≤ 200) from ?_)
              refine ⟨?_, ?_⟩ <;> (first | assumption | omega)
            · skip
              have c98 := neI h95
              refine Sf_rdI (by omega) (by omega) (fun v176_205 hv99 => ?_)
              have g100 := rgI v176_205
              have hmrv176_205 := mkOK_rd (by assumption : mkOK o_marked46_139) hv99
              have l101 : (3 : Int32).toInt = 3 := by decide
              have g102 := rgI (3 * v176_205)
              first | have e103 := mlY 3 v176_205 (3) (by decide) (by omega) (by omega) | skip
              refine Sf_some (show (mkOK o_marked46_139) ∧ (0 ≤ (0 : Int32).toInt ∧ (0 : Int32).toInt ≤ 200) from ?_)
              refine ⟨?_, ?_⟩ <;> (first | assumption | omega)
        · skip
          have l104 : (12 : Int32).toInt = 12 := by decide
          have g105 := rgI (s_taped / 12)
          have d106 := dn_ s_taped 12 12 (by decide) (by decide)
          have c107 := nleI h44
          have l108 : ((-2) : Int32).toInt = -2 := by decide
          refine Sf_some (show (mkOK s_marked) ∧ (0 ≤ s_taped.toInt ∧ s_taped.toInt ≤ 200) from ?_)
          refine ⟨?_, ?_⟩ <;> (first | assumption | omega)
end
section
theorem back_e {p c : Int32} (C : Int) (hc : c.toInt = C) (hC : 0 ≤ C) (hC2 : C ≤ 100) (h1 : 0 ≤ (p - c).toInt) (h2 : (p - c).toInt ≤ 100) : p.toInt = (p - c).toInt + C := by
  have e := adN (p - c) c C hc (by omega) (by omega)
  rw [Int32.sub_add_cancel] at e
  exact e
theorem s_X12_count {tp so no bl ni sd p1 : Int32} {many : Nat → Int32} (h1 : 0 ≤ so.toInt) (h2 : so.toInt ≤ 10) : Sf (f_X12_count tp so sd no bl ni many p1) (fun _ => True) := by
  have z : (0 : Int32).toInt = 0 := by decide
  have l10 : (10 : Int32).toInt = 10 := by decide
  have l14 : (14 : Int32).toInt = 14 := by decide
  have l20 : (20 : Int32).toInt = 20 := by decide
  have l30 : (30 : Int32).toInt = 30 := by decide
  rw [f_X12_count]
  refine Sf_cb1 (s_X12_isSource so (p1 - 10) h1 h2) (fun r hr => ?_)
  refine Sf_ite (fun _ => ?_) (fun g => ?_)
  · refine Sf_cb1 (s_X12_isReader (p1 - 20)) (fun r hr => ?_)
    refine Sf_ite (fun _ => ?_) (fun g => ?_)
    · refine Sf_cb1 (s_X12_isTale (p1 - 30)) (fun r hr => ?_)
      refine Sf_ite (fun _ => ?_) (fun g => ?_)
      · repeat' (refine Sf_ite (fun _ => ?_) (fun _ => ?_))
        all_goals exact Sf_some trivial
      · have g := neI g
        have hr := hr.2.resolve_right (fun w => by have := w.1; omega)
        have e := back_e (p := p1) 30 l30 (by omega) (by omega) (by omega) (by omega)
        have e1 := adX 14 p1 (by omega) (by omega)
        have e2 := sbX (14 + p1) 30 (by omega) (by omega)
        exact Sf_rdI (by omega) (by omega) (fun _ _ => Sf_some trivial)
    · have g := neI g
      have hr := hr.2.resolve_right (fun w => by have := w.1; omega)
      have e := back_e (p := p1) 20 l20 (by omega) (by omega) (by omega) (by omega)
      have e1 := adX 10 p1 (by omega) (by omega)
      have e2 := sbX (10 + p1) 20 (by omega) (by omega)
      exact Sf_rdI (by omega) (by omega) (fun _ _ => Sf_some trivial)
  · have g := neI g
    have hr := hr.2.resolve_left (by omega)
    have e := back_e (p := p1) 10 l10 (by omega) (by omega) (by omega) (by omega)
    have e1 := adX 0 p1 (by omega) (by omega)
    have e2 := sbX (0 + p1) 10 (by omega) (by omega)
    exact Sf_rdI (by omega) (by omega) (fun _ _ => Sf_some trivial)
theorem pf_6 (y1 : Int32) (y2 : Int32) : ∃ (r : Int32), f_X11_star y1 y2 = some (r) ∧ f_X12_star y1 y2 = some (r) := by
  simp only [f_X11_star, f_X12_star, isDay_e, isMinute_e, misDay_e, misMinute_e, cb1_o, bI_0, f_X11_starMinute, f_X12_starAt]
  by_cases h1 : 0 ≤ y1.toInt ∧ y1.toInt ≤ 399 <;> by_cases h2 : 0 ≤ y2.toInt ∧ y2.toInt ≤ 1439 <;> simp [h1, h2]
end
section
/-! the reference's pen: its table of least values -/
def nd (q : Nat) : Nat → Nat
  | 0 => 0
  | k + 1 => nd q k + q
def pw : Nat → Int
  | 0 => 1
  | k + 1 => 10 * pw k
theorem nd_mul (q : Nat) : ∀ k, nd q k = k * q := by
  intro k
  induction k with
  | zero => rw [Nat.zero_mul]; rfl
  | succ k ih => rw [Nat.succ_mul, ← ih]; rfl
theorem pw_le : ∀ k : Nat, k ≤ 5 → 1 ≤ pw k ∧ pw k ≤ 100000
  | 0, _ => by decide
  | 1, _ => by decide
  | 2, _ => by decide
  | 3, _ => by decide
  | 4, _ => by decide
  | 5, _ => by decide
  | k + 6, h => absurd h (by omega)
def LA (lf : Nat → Int32) (i j : Nat) : Int32 := if j ≤ 40 then lf (53 * i + j) else if i = 0 then 1 else -1
def TB (ten : Nat → Int32) (q : Nat) (lf : Nat → Int32) : Nat → Nat → Prop
  | 0, j => (lf j).toInt = 1
  | k + 1, j => (j + nd q k ≤ 39 → 0 ≤ (lf (53 * (k + 1) + j)).toInt ∧ (lf (53 * (k + 1) + j)).toInt ≤ pw (k + 1)) ∧ (0 ≤ (lf (53 * (k + 1) + j)).toInt → j < 40 ∧ (lf (53 * (k + 1) + j) = lf (53 * (k + 1) + j + 1) ∨ (0 ≤ (LA lf k (j + q)).toInt ∧ (10 - ten j) * LA lf k (j + q) = lf (53 * (k + 1) + j))))
theorem TB_succ {ten : Nat → Int32} {q : Nat} {lf : Nat → Int32} {k j : Nat} : TB ten q lf (k + 1) j = ((j + nd q k ≤ 39 → 0 ≤ (lf (53 * (k + 1) + j)).toInt ∧ (lf (53 * (k + 1) + j)).toInt ≤ pw (k + 1)) ∧ (0 ≤ (lf (53 * (k + 1) + j)).toInt → j < 40 ∧ (lf (53 * (k + 1) + j) = lf (53 * (k + 1) + j + 1) ∨ (0 ≤ (LA lf k (j + q)).toInt ∧ (10 - ten j) * LA lf k (j + q) = lf (53 * (k + 1) + j))))) := rfl
def DN (ten : Nat → Int32) (q : Nat) (lf : Nat → Int32) (i : Nat) (x : Int) : Prop := ∀ i' j' : Nat, j' ≤ 40 → (i' < i ∨ (i' = i ∧ x < (j' : Int))) → TB ten q lf i' j'
theorem TB_congr {ten : Nat → Int32} {q : Nat} {lf lf' : Nat → Int32} {i j : Nat} (h : TB ten q lf i j) (e1 : lf' (53 * i + j) = lf (53 * i + j)) (e2 : lf' (53 * i + j + 1) = lf (53 * i + j + 1)) (e3 : ∀ k n : Nat, k < i → n ≤ 40 → lf' (53 * k + n) = lf (53 * k + n)) : TB ten q lf' i j := by
  cases i with
  | zero =>
    have e : lf' j = lf j := by
      have := e1
      rw [show 53 * 0 + j = j by omega] at this
      exact this
    show (lf' j).toInt = 1
    rw [e]
    exact h
  | succ k =>
    have e4 : LA lf' k (j + q) = LA lf k (j + q) := by
      unfold LA
      by_cases c : j + q ≤ 40
      · rw [if_pos c, if_pos c, e3 k (j + q) (by omega) c]
      · rw [if_neg c, if_neg c]
    rw [TB_succ, e1, e2, e4]
    exact h
theorem DN_step {ten : Nat → Int32} {q : Nat} {lf : Nat → Int32} {i x : Nat} {v : Int32} (h : DN ten q lf i (x : Int)) (hx : x ≤ 40) (hv : TB ten q (upd lf (53 * i + x) v) i x) : DN ten q (upd lf (53 * i + x) v) i ((x : Int) - 1) := by
  intro i' j' hj hc
  by_cases c : i' = i ∧ j' = x
  · rw [c.1, c.2]; exact hv
  · refine TB_congr (h i' j' hj (by omega)) ?_ ?_ (fun k n hk hn => ?_)
    · exact if_neg (by omega)
    · exact if_neg (by omega)
    · exact if_neg (by omega)
/-- what the table takes of two -/
def chs (v t : Int32) : Int32 := if t < 0 then v else if v < 0 then t else if v ≤ t then v else t
theorem prod_e {a r : Int32} (h1 : 0 ≤ a.toInt) (h2 : a.toInt ≤ 10) (h3 : 0 ≤ r.toInt) (h4 : r.toInt ≤ 100000) : 0 ≤ ((10 - a) * r).toInt ∧ ((10 - a) * r).toInt ≤ 10 * r.toInt := by
  have l : (10 : Int32).toInt = 10 := by decide
  have e1 := sbX 10 a (by omega) (by omega)
  have b1 : 0 ≤ (10 - a).toInt * r.toInt := Int.mul_nonneg (by omega) h3
  have b2 : (10 - a).toInt * r.toInt ≤ 10 * r.toInt := Int.mul_le_mul_of_nonneg_right (by omega) h3
  have e2 : ((10 - a) * r).toInt = (10 - a).toInt * r.toInt := by
    rw [Int32.toInt_mul]; exact Int.bmod_eq_of_le (by omega) (by omega)
  omega
theorem TB_new {ten : Nat → Int32} {q : Nat} {lf : Nat → Int32} {k x : Nat} (hk : k ≤ 5) (hq : 1 ≤ q) (ht : ∀ j, 0 ≤ (ten j).toInt ∧ (ten j).toInt ≤ 10) (h : DN ten q lf (k + 1) (x : Int)) (hx : x < 40) :
    TB ten q (upd lf (53 * (k + 1) + x) (chs (lf (53 * (k + 1) + x + 1)) (if 0 ≤ LA lf k (x + q) then (10 - ten x) * LA lf k (x + q) else -1))) (k + 1) x := by
  obtain ⟨v, hv⟩ : ∃ v, v = lf (53 * (k + 1) + x + 1) := ⟨_, rfl⟩
  obtain ⟨r, hr⟩ : ∃ r, r = LA lf k (x + q) := ⟨_, rfl⟩
  obtain ⟨t, hte⟩ : ∃ t, t = (if 0 ≤ r then (10 - ten x) * r else -1) := ⟨_, rfl⟩
  rw [← hv, ← hr, ← hte]
  have z : (0 : Int32).toInt = 0 := by decide
  have m1 : ((-1) : Int32).toInt = -1 := by decide
  have u1 : upd lf (53 * (k + 1) + x) (chs v t) (53 * (k + 1) + x) = chs v t := if_pos rfl
  have u2 : upd lf (53 * (k + 1) + x) (chs v t) (53 * (k + 1) + x + 1) = v := by rw [hv]; exact if_neg (by omega)
  have u3 : LA (upd lf (53 * (k + 1) + x) (chs v t)) k (x + q) = r := by
    rw [hr]
    unfold LA
    by_cases c : x + q ≤ 40
    · rw [if_pos c, if_pos c]; exact if_neg (by omega)
    · rw [if_neg c, if_neg c]
  rw [TB_succ, u1, u2, u3]
  refine ⟨fun hn => ?_, fun hn => ⟨hx, ?_⟩⟩
  · have hrb : 0 ≤ r.toInt ∧ r.toInt ≤ pw k := by
      rw [hr]
      unfold LA
      cases k with
      | zero =>
        by_cases c : x + q ≤ 40
        · rw [if_pos c, show 53 * 0 + (x + q) = x + q by omega]
          have : (lf (x + q)).toInt = 1 := h 0 (x + q) c (Or.inl (by omega))
          exact ⟨by omega, by show _ ≤ (1 : Int); omega⟩
        · rw [if_neg c, if_pos rfl]
          exact ⟨by decide, by decide⟩
      | succ k' =>
        have hn' : x + (nd q k' + q) ≤ 39 := hn
        have c : x + q ≤ 40 := by omega
        rw [if_pos c]
        have := h (k' + 1) (x + q) c (Or.inl (by omega))
        exact this.1 (by omega)
    have hp := pw_le k hk
    have hpr := prod_e (ht x).1 (ht x).2 hrb.1 (by omega)
    have et : t = (10 - ten x) * r := by rw [hte, if_pos (Int32.le_iff_toInt_le.mpr (by omega))]
    rw [← et] at hpr
    have hpw : pw (k + 1) = 10 * pw k := rfl
    unfold chs
    by_cases c1 : t < 0
    · have := ltI c1; omega
    · rw [if_neg c1]
      by_cases c2 : v < 0
      · rw [if_pos c2]; exact ⟨hpr.1, by omega⟩
      · rw [if_neg c2]
        have c2' := nltI c2
        by_cases c3 : v ≤ t
        · rw [if_pos c3]; have := leI c3; exact ⟨by omega, by omega⟩
        · rw [if_neg c3]; exact ⟨hpr.1, by omega⟩
  · unfold chs at hn ⊢
    by_cases c1 : t < 0
    · rw [if_pos c1]; exact Or.inl rfl
    · rw [if_neg c1]
      have c1' := nltI c1
      have hrt : 0 ≤ r.toInt ∧ (10 - ten x) * r = t := by
        by_cases c4 : 0 ≤ r
        · rw [if_pos c4] at hte; have := leI c4; exact ⟨by omega, hte.symm⟩
        · rw [if_neg c4] at hte; have := eqI hte; omega
      by_cases c2 : v < 0
      · rw [if_pos c2]; exact Or.inr hrt
      · rw [if_neg c2]
        by_cases c3 : v ≤ t
        · rw [if_pos c3]; exact Or.inl rfl
        · rw [if_neg c3]; exact Or.inr hrt
end
section
theorem LA_e {lf : Nat → Int32} {i j : Int32} (h1 : 0 ≤ i.toInt) (h2 : i.toInt ≤ 6) (h3 : 0 ≤ j.toInt) (h4 : j.toInt ≤ 60) : f_X12_leastAt lf i j = some (LA lf i.toNatClampNeg j.toNatClampNeg) := by
  have z : (0 : Int32).toInt = 0 := by decide
  have l : (40 : Int32).toInt = 40 := by decide
  have ti := tN i h1
  have tj := tN j h3
  rw [f_X12_leastAt]
  unfold LA
  by_cases c : j ≤ 40
  · have c1 := leI c
    have e := idx_e (p := i) (x := j) 53 53 (by decide) (by omega) (by omega) h1 (by omega) h3 (by omega)
    have te := tN (53 * i + j) (by omega)
    rw [if_pos c, if_pos (show j.toNatClampNeg ≤ 40 by omega), rdI_o (jin_of (by omega) (by omega)), show (53 * i + j).toNatClampNeg = 53 * i.toNatClampNeg + j.toNatClampNeg by omega]
  · have c1 := nleI c
    rw [if_neg c, if_neg (show ¬ j.toNatClampNeg ≤ 40 by omega)]
    by_cases d : i = 0
    · have := eqI d
      rw [if_pos d, if_pos (show i.toNatClampNeg = 0 by omega)]
    · have := neI d
      rw [if_neg d, if_neg (show ¬ i.toNatClampNeg = 0 by omega)]
theorem J150_e {v t : Int32} {K : Int32 → Option (Int32 × (Nat → Int32))} : f_X12_pen_J150 v K t = K (chs v t) := by
  rw [f_X12_pen_J150]
  unfold chs
  by_cases c1 : t < 0
  · rw [if_pos c1, if_pos c1]
  · rw [if_neg c1, if_neg c1]
    by_cases c2 : v < 0
    · rw [if_pos c2, if_pos c2]
    · rw [if_neg c2, if_neg c2]
      by_cases c3 : v ≤ t
      · rw [if_pos c3, if_pos c3]
      · rw [if_neg c3, if_neg c3]
section pens
variable {P : Int32 × (Nat → Int32) → Prop} {ten : Nat → Int32} {p1 p2 p3 : Int32}
theorem pen_L68 {i : Int32} {K58 : Int32 → (Nat → Int32) → Option (Int32 × (Nat → Int32))} (hi : 0 ≤ i.toInt) (hi2 : i.toInt ≤ 6) (hp2 : 1 ≤ p2.toInt) (hp3 : p2.toInt ≤ 10) (ht : ∀ j, 0 ≤ (ten j).toInt ∧ (ten j).toInt ≤ 10)
    (hK : ∀ (x : Int32) (lf : Nat → Int32), x.toInt = i.toInt + 1 → DN ten p2.toNatClampNeg lf x.toNatClampNeg 40 → Sf (K58 x lf) P) : ∀ (n : Nat) (x : Int32) (lf : Nat → Int32), -1 ≤ x.toInt → x.toInt ≤ 40 → DN ten p2.toNatClampNeg lf i.toNatClampNeg x.toInt → x.toInt + 2 < (n : Int) →
    Sf (f_X12_pen_L68 ten p2 i K58 n x lf) P := by
  have z : (0 : Int32).toInt = 0 := by decide
  have o1 : (1 : Int32).toInt = 1 := by decide
  have l : (40 : Int32).toInt = 40 := by decide
  have ti := tN i hi
  have tq := tN p2 (by omega)
  intro n
  induction n with
  | zero => intro x lf h1 h2 h3 h4; exact absurd h4 (by omega)
  | succ n ih =>
    intro x lf h1 h2 h3 h4
    rw [f_X12_pen_L68]
    refine Sf_ite (fun h => ?_) (fun h => ?_)
    · have c := ltI h
      have e := adX i 1 (by omega) (by omega)
      have te := tN (i + 1) (by omega)
      rw [nmI_o]
      refine hK (i + 1) lf (by omega) (fun i' j' hj hc => h3 i' j' hj (by omega))
    · have c := nltI h
      have tx := tN x (by omega)
      have e := idx_e (p := i) (x := x) 53 53 (by decide) (by omega) (by omega) hi (by omega) (by omega) (by omega)
      have te := tN (53 * i + x) (by omega)
      have J : ∀ v : Int32, TB ten p2.toNatClampNeg (upd lf (53 * i.toNatClampNeg + x.toNatClampNeg) v) i.toNatClampNeg x.toNatClampNeg → Sf (f_X12_pen_J173 i x lf (f_X12_pen_L68 ten p2 i K58 n) v) P := by
        intro v hv
        rw [f_X12_pen_J173, wrI_o (jin_of (by omega) (by omega)), show (53 * i + x).toNatClampNeg = 53 * i.toNatClampNeg + x.toNatClampNeg by omega]
        refine Sf_nmI (fun w hw => ?_)
        have ew := (eqI hw).trans (adN x (-1) (-1) (by decide) (by omega) (by omega))
        clear hw
        have hd := DN_step (lf := lf) (v := v) (x := x.toNatClampNeg) (by rw [tx]; exact h3) (by omega) hv
        refine ih w _ (by omega) (by omega) ?_ (by omega)
        rw [show w.toInt = (x.toNatClampNeg : Int) - 1 by omega]
        exact hd
      refine Sf_ite (fun h5 => ?_) (fun h5 => ?_)
      · have c5 := eqI h5
        rw [f_X12_pen_J83, if_pos (show i ≤ 0 from Int32.le_iff_toInt_le.mpr (by omega))]
        refine J 1 ?_
        rw [show i.toNatClampNeg = 0 by omega, show 53 * 0 + x.toNatClampNeg = x.toNatClampNeg by omega]
        show (upd lf x.toNatClampNeg 1 x.toNatClampNeg).toInt = 1
        rw [show upd lf x.toNatClampNeg 1 x.toNatClampNeg = 1 from if_pos rfl]
        exact o1
      · have c5 := neI h5
        obtain ⟨k, hk⟩ : ∃ k, i.toNatClampNeg = k + 1 := ⟨i.toNatClampNeg - 1, by omega⟩
        rw [f_X12_pen_J83, if_neg (show ¬ i ≤ 0 from fun w => by have := leI w; omega)]
        refine Sf_ite (fun h6 => ?_) (fun h6 => ?_)
        · have c6 := leI h6
          refine J (-1) ?_
          have m1 : ((-1) : Int32).toInt = -1 := by decide
          rw [hk, TB_succ, show upd lf (53 * (k + 1) + x.toNatClampNeg) (-1) (53 * (k + 1) + x.toNatClampNeg) = -1 from if_pos rfl, m1]
          exact ⟨fun w => absurd w (by omega), fun w => absurd w (by decide)⟩
        · have c6 := nleI h6
          have e1 := adX (53 * i + x) 1 (by omega) (by omega)
          have te1 := tN (53 * i + x + 1) (by omega)
          have e2 := sbX i 1 (by omega) (by omega)
          have te2 := tN (i - 1) (by omega)
          have e3 := adX x p2 (by omega) (by omega)
          have te3 := tN (x + p2) (by omega)
          have hT := TB_new (q := p2.toNatClampNeg) (lf := lf) (k := k) (x := x.toNatClampNeg) (by omega) (by omega) ht (by rw [tx, ← hk]; exact h3) (by omega)
          rw [rdI_o (jin_of (by omega) (by omega)), show (53 * i + x + 1).toNatClampNeg = 53 * (k + 1) + x.toNatClampNeg + 1 by omega, LA_e (by omega) (by omega) (by omega) (by omega), cb1_o, show (i - 1).toNatClampNeg = k by omega, show (x + p2).toNatClampNeg = x.toNatClampNeg + p2.toNatClampNeg by omega]
          refine Sf_ite (fun h7 => ?_) (fun h7 => ?_)
          · rw [rdI_o (jin_of (by omega) (by omega)), J150_e]
            refine J _ ?_
            rw [if_pos h7] at hT
            rw [hk]
            exact hT
          · rw [J150_e]
            refine J _ ?_
            rw [if_neg h7] at hT
            rw [hk]
            exact hT
theorem pen_L58 {K : (Nat → Int32) → Option (Int32 × (Nat → Int32))} (hp : 1 ≤ p1.toInt) (hp' : p1.toInt ≤ 6) (hp2 : 1 ≤ p2.toInt) (hp3 : p2.toInt ≤ 10) (ht : ∀ j, 0 ≤ (ten j).toInt ∧ (ten j).toInt ≤ 10)
    (hK : ∀ lf : Nat → Int32, DN ten p2.toNatClampNeg lf (p1.toNatClampNeg + 1) 40 → Sf (K lf) P) : ∀ (n : Nat) (x : Int32) (lf : Nat → Int32), 0 ≤ x.toInt → x.toInt ≤ p1.toInt + 1 → DN ten p2.toNatClampNeg lf x.toNatClampNeg 40 → p1.toInt + 2 - x.toInt < (n : Int) →
    Sf (f_X12_pen_L58 ten p1 p2 K n x lf) P := by
  have l : (40 : Int32).toInt = 40 := by decide
  have := FUi
  have tp := tN p1 (by omega)
  intro n
  induction n with
  | zero => intro x lf h1 h2 h3 h4; exact absurd h4 (by omega)
  | succ n ih =>
    intro x lf h1 h2 h3 h4
    have tx := tN x h1
    rw [f_X12_pen_L58]
    refine Sf_ite (fun h => ?_) (fun h => ?_)
    · have c := ltI h
      refine hK lf ?_
      rw [show p1.toNatClampNeg + 1 = x.toNatClampNeg by omega]
      exact h3
    · have c := nltI h
      refine pen_L68 h1 (by omega) hp2 hp3 ht (fun y lf2 hy hd => ih y lf2 (by omega) (by omega) hd (by omega)) FU 40 lf (by omega) (by omega) ?_ (by omega)
      rw [l]
      exact h3
end pens
end
section
section pens2
variable {ten : Nat → Int32} {p1 p2 p3 : Int32} {lf : Nat → Int32}
theorem pen_L227 {P : Int32 × (Nat → Int32) → Prop} {i : Int32} {K : Int32 → Option (Int32 × (Nat → Int32))} (hD : DN ten p2.toNatClampNeg lf (i.toNatClampNeg + 1) 40) (hi : 1 ≤ i.toInt) (hi2 : i.toInt ≤ 6) (hp2 : 1 ≤ p2.toInt) (hp3 : p2.toInt ≤ 10)
    (hK : ∀ x : Int32, 0 ≤ x.toInt → x.toInt < 40 → 0 ≤ (LA lf (i.toNatClampNeg - 1) (x.toNatClampNeg + p2.toNatClampNeg)).toInt → Sf (K x) P) : ∀ (n : Nat) (x : Int32), 0 ≤ x.toInt → x.toInt ≤ 40 → 0 ≤ (lf (53 * i.toNatClampNeg + x.toNatClampNeg)).toInt → 41 - x.toInt < (n : Int) →
    Sf (f_X12_pen_L227 ten p2 lf i K n x) P := by
  have z : (0 : Int32).toInt = 0 := by decide
  have o1 : (1 : Int32).toInt = 1 := by decide
  have ti := tN i (by omega)
  have tq := tN p2 (by omega)
  obtain ⟨k, hk⟩ : ∃ k, i.toNatClampNeg = k + 1 := ⟨i.toNatClampNeg - 1, by omega⟩
  intro n
  induction n with
  | zero => intro x h1 h2 h3 h4; exact absurd h4 (by omega)
  | succ n ih =>
    intro x h1 h2 h3 h4
    have tx := tN x h1
    have hT := hD (k + 1) x.toNatClampNeg (by omega) (Or.inl (by omega))
    rw [TB_succ] at hT
    rw [hk] at h3
    obtain ⟨hx, hc⟩ := hT.2 h3
    have e2 := sbX i 1 (by omega) (by omega)
    have te2 := tN (i - 1) (by omega)
    have e3 := adX x p2 (by omega) (by omega)
    have te3 := tN (x + p2) (by omega)
    have e4 := adX x 1 (by omega) (by omega)
    have te4 := tN (x + 1) (by omega)
    have e := idx_e (p := i) (x := x) 53 53 (by decide) (by omega) (by omega) (by omega) (by omega) h1 (by omega)
    have te := tN (53 * i + x) (by omega)
    have next : lf (53 * (k + 1) + x.toNatClampNeg) = lf (53 * (k + 1) + x.toNatClampNeg + 1) → Sf (f_X12_pen_L227 ten p2 lf i K n (x + 1)) P := by
      intro he
      refine ih (x + 1) (by omega) (by omega) ?_ (by omega)
      rw [hk, show (x + 1).toNatClampNeg = x.toNatClampNeg + 1 by omega, show 53 * (k + 1) + (x.toNatClampNeg + 1) = 53 * (k + 1) + x.toNatClampNeg + 1 by omega, ← he]
      exact h3
    have hL : f_X12_leastAt lf (i - 1) (x + p2) = some (LA lf k (x.toNatClampNeg + p2.toNatClampNeg)) := by
      rw [LA_e (by omega) (by omega) (by omega) (by omega), show (i - 1).toNatClampNeg = k by omega, show (x + p2).toNatClampNeg = x.toNatClampNeg + p2.toNatClampNeg by omega]
    rw [f_X12_pen_L227, hL, cb1_o]
    refine Sf_ite (fun h5 => ?_) (fun h5 => ?_)
    · have c5 := ltI h5
      rw [nmI_o]
      refine next (hc.resolve_right (fun w => ?_))
      have := w.1
      omega
    · have c5 := nltI h5
      rw [rdI_o (jin_of h1 (by omega)), cb1_o, rdI_o (jin_of (by omega) (by omega)), show (53 * i + x).toNatClampNeg = 53 * (k + 1) + x.toNatClampNeg by omega]
      refine Sf_ite (fun h6 => ?_) (fun h6 => ?_)
      · refine hK x h1 (by omega) ?_
        rw [show i.toNatClampNeg - 1 = k by omega]
        omega
      · rw [nmI_o]
        exact next (hc.resolve_right (fun w => h6 w.2))
theorem pen_L222 (hD : ∀ i : Nat, i ≤ p1.toNatClampNeg → ∀ j : Nat, j ≤ 40 → TB ten p2.toNatClampNeg lf i j) (hp : 1 ≤ p1.toInt) (hp' : p1.toInt ≤ 6) (hp2 : 1 ≤ p2.toInt) (hp3 : p2.toInt ≤ 10) : ∀ (n : Nat) (x i : Int32), 0 ≤ i.toInt → i.toInt ≤ p1.toInt → (1 ≤ i.toInt → 0 ≤ x.toInt ∧ x.toInt ≤ 40 ∧ 0 ≤ (lf (53 * i.toNatClampNeg + x.toNatClampNeg)).toInt) → i.toInt < (n : Int) →
    Sf (f_X12_pen_L222 ten p1 p2 p3 lf n x i) (fun _ => True) := by
  have z : (0 : Int32).toInt = 0 := by decide
  have o1 : (1 : Int32).toInt = 1 := by decide
  have := FUi
  have tp := tN p1 (by omega)
  have tq := tN p2 (by omega)
  intro n
  induction n with
  | zero => intro x i h1 h2 h3 h4; exact absurd h4 (by omega)
  | succ n ih =>
    intro x i h1 h2 h3 h4
    have ti := tN i h1
    rw [f_X12_pen_L222]
    refine Sf_ite (fun _ => Sf_some trivial) (fun h => ?_)
    have c := nleI h
    obtain ⟨g1, g2, g3⟩ := h3 (by omega)
    refine pen_L227 (fun i' j' hj hc => hD i' (by omega) j' hj) (by omega) (by omega) hp2 hp3 (fun y hy hy2 hL => ?_) FU x g1 g2 g3 (by omega)
    rw [f_X12_pen_J287]
    refine Sf_ite (fun _ => Sf_some trivial) (fun _ => ?_)
    have e := adX y p2 (by omega) (by omega)
    have te := tN (y + p2) (by omega)
    have ty := tN y hy
    rw [nmI_o]
    refine Sf_nmI (fun w hw => ?_)
    have ew := (eqI hw).trans (adN i (-1) (-1) (by decide) (by omega) (by omega))
    clear hw
    have tw := tN w (by omega)
    refine ih (y + p2) w (by omega) (by omega) (fun hw1 => ?_) (by omega)
    have ek : i.toNatClampNeg - 1 = w.toNatClampNeg := by omega
    rw [ek] at hL
    unfold LA at hL
    by_cases c4 : y.toNatClampNeg + p2.toNatClampNeg ≤ 40
    · rw [if_pos c4] at hL
      rw [show (y + p2).toNatClampNeg = y.toNatClampNeg + p2.toNatClampNeg by omega]
      exact ⟨by omega, by omega, hL⟩
    · rw [if_neg c4, if_neg (show ¬ w.toNatClampNeg = 0 by omega)] at hL
      exact absurd hL (by decide)
theorem s_X12_pen (hT : ∀ j, 0 ≤ (ten j).toInt ∧ (ten j).toInt ≤ 10) : Sf (f_X12_pen lf ten p1 p2 p3) (fun _ => True) := by
  have z : (0 : Int32).toInt = 0 := by decide
  have := FUi
  have l39 : (39 : Int32).toInt = 39 := by decide
  have o1 : (1 : Int32).toInt = 1 := by decide
  have a1 : (1 : Int64).toInt = 1 := by decide
  have a6 : (6 : Int64).toInt = 6 := by decide
  have a10 : (10 : Int64).toInt = 10 := by decide
  have zn : (0 : Int32).toNatClampNeg = 0 := by decide
  have J43 : 1 ≤ p1.toInt → p1.toInt ≤ 6 → 1 ≤ p2.toInt → p2.toInt ≤ 10 → Sf (f_X12_pen_J43 lf ten p1 p2 p3) (fun _ => True) := by
    intro b1 b2 b3 b4
    have tp := tN p1 (by omega)
    have tq := tN p2 (by omega)
    rw [f_X12_pen_J43]
    refine Sf_ite (fun h => ?_) (fun _ => Sf_some trivial)
    have c := leI h
    have e1 := sbX p1 1 (by omega) (by omega)
    have te1 := tN (p1 - 1) (by omega)
    have m1 : 0 ≤ (p1 - 1).toInt * p2.toInt := Int.mul_nonneg (by omega) (by omega)
    have m2 : (p1 - 1).toInt * p2.toInt ≤ 5 * 10 := Int.mul_le_mul (by omega) (by omega) (by omega) (by omega)
    have e2 : ((p1 - 1) * p2).toInt = (p1 - 1).toInt * p2.toInt := by
      rw [Int32.toInt_mul]; exact Int.bmod_eq_of_le (by omega) (by omega)
    refine pen_L58 b1 b2 b3 b4 hT (fun lf2 hd => ?_) FU 0 lf (by omega) (by omega) (fun i' j' hj hc => absurd hc (by omega)) (by omega)
    rw [f_X12_pen_J200]
    refine Sf_ite (fun _ => ?_) (fun _ => ?_)
    · have e3 := mlY 53 p1 53 (by decide) (by omega) (by omega)
      exact Sf_rdI (by omega) (by omega) (fun _ _ => Sf_some trivial)
    · have hD : ∀ i : Nat, i ≤ p1.toNatClampNeg → ∀ j : Nat, j ≤ 40 → TB ten p2.toNatClampNeg lf2 i j := fun i hi j hj => hd i j hj (Or.inl (by omega))
      refine pen_L222 hD b1 b2 b3 b4 FU 0 p1 (by omega) (by omega) (fun _ => ⟨by omega, by omega, ?_⟩) (by omega)
      obtain ⟨k, hk⟩ : ∃ k, p1.toNatClampNeg = k + 1 := ⟨p1.toNatClampNeg - 1, by omega⟩
      have hT2 := hD (k + 1) (by omega) 0 (by omega)
      rw [TB_succ] at hT2
      rw [zn, hk]
      refine (hT2.1 ?_).1
      rw [nd_mul]
      have ek : (p1 - 1).toNatClampNeg = k := by omega
      have em : ((k * p2.toNatClampNeg : Nat) : Int) = (p1 - 1).toInt * p2.toInt := by
        rw [Int.natCast_mul, tq, ← ek, te1]
      omega
  rw [f_X12_pen]
  refine Sf_cb1 (s_X12_lies (Int32.toInt64 p1) 1 6) (fun r hr => ?_)
  refine Sf_ite (fun _ => Sf_some trivial) (fun g => ?_)
  have g := neI g
  refine Sf_cb1 (s_X12_lies (Int32.toInt64 p2) 1 10) (fun r2 hr2 => ?_)
  refine Sf_ite (fun _ => Sf_some trivial) (fun g2 => ?_)
  have g2 := neI g2
  have t1 := t64 p1
  have t2 := t64 p2
  have hr := hr.2.resolve_right (fun w => by have := w.1; omega)
  have hr2 := hr2.2.resolve_right (fun w => by have := w.1; omega)
  have G := J43 (by omega) (by omega) (by omega) (by omega)
  refine Sf_ite (fun _ => G) (fun _ => ?_)
  refine Sf_cb1 (s_X12_lies _ _ _) (fun _ _ => ?_)
  exact Sf_ite (fun _ => Sf_some trivial) (fun _ => G)
end pens2
end
section
/-- what holds between two calls of the law -/
def r120 (f : Nat → Int32) : Prop := ∀ j, 0 ≤ (f j).toInt ∧ (f j).toInt ≤ 120
def IV (G : kG) (tl : Int32) (mi st : Nat → Int32) (sk no bl ni tp so rn rb rh : Int32) (code cf ct sf many mk ten : Nat → Int32) : Prop :=
  gOK G ∧ (∀ i : Nat, sk.toInt ≤ (i : Int) → i < 10 → G.1 i = none ∧ G.2 i = none) ∧ (0 ≤ tl.toInt ∧ tl.toInt ≤ 200) ∧ (∀ j, 0 ≤ (mi j).toInt ∧ (mi j).toInt ≤ 120) ∧ (∀ j, 0 ≤ (st j).toInt ∧ (st j).toInt ≤ 120) ∧ (0 ≤ sk.toInt ∧ sk.toInt ≤ 10) ∧ (0 ≤ no.toInt ∧ no.toInt ≤ 40) ∧ (0 ≤ bl.toInt ∧ bl.toInt ≤ 40) ∧ (0 ≤ ni.toInt ∧ ni.toInt ≤ 30) ∧ (0 ≤ tp.toInt ∧ tp.toInt ≤ 200) ∧ (0 ≤ so.toInt ∧ so.toInt ≤ 10) ∧ (0 ≤ rn.toInt ∧ rn.toInt ≤ 40) ∧ (0 ≤ rb.toInt ∧ rb.toInt ≤ 40) ∧ (0 ≤ rh.toInt ∧ rh.toInt ≤ 30) ∧ rOK code cf ct sf many ∧ mkOK mk ∧ (∀ j, 0 ≤ (ten j).toInt ∧ (ten j).toInt ≤ 10)
def Inv (σ : Nat → Nat → Int32) (G : kG) : Prop := IV G (σ 1 1) (σ 6) (σ 5) (σ 8 2) (σ 22 4) (σ 27 2) (σ 30 5) (σ 42 1) (σ 42 2) (σ 42 4) (σ 42 5) (σ 42 6) (σ 48) (σ 46) (σ 47) (σ 45) (σ 44) (σ 68) (σ 75)
theorem Inv_0 : Inv l0 G0 := by
  have z : (0 : Int32).toInt = 0 := by decide
  have zr : ∀ n : Int, 0 ≤ n → (0 ≤ (0 : Int32).toInt ∧ (0 : Int32).toInt ≤ n) := fun n h => by rw [z]; exact ⟨Int.le_refl _, h⟩
  refine ⟨⟨fun k t h => ?_, fun i s h => ?_⟩, fun i _ _ => ⟨rfl, rfl⟩, zr 200 (by omega), fun _ => zr 120 (by omega), fun _ => zr 120 (by omega), zr 10 (by omega), zr 40 (by omega), zr 40 (by omega), zr 30 (by omega), zr 200 (by omega), zr 10 (by omega), zr 40 (by omega), zr 40 (by omega), zr 30 (by omega), fun i hi => ⟨(zr 12 (by omega)).1, (zr 12 (by omega)).2, fun j hj => absurd hj (show ¬ (j : Int) < (0 : Int32).toInt by omega)⟩, fun _ => zr 720 (by omega), fun _ => zr 10 (by omega)⟩
  · exact nomatch h
  · exact nomatch h
def pn_0 (I : (Nat → Nat → Int32) → kG → Prop) : Prop := ∀ (σ : Nat → Nat → Int32) (G : kG) (y1 : Int32) (y2 : Int32) (y3 : Int32) (y4 : Int32) (y5 : Int32), I σ G → ∃ (rx : Int32) (x_o_page_day : Int32) (x_o_sky_many : Int32) (x_nt : Option (Nat × Int32 × Int32 × Int32 × Int32 × Int32 × Int32)) (rm : Int32) (m_o_sources : Int32) (m_o_byStar : Nat → Int32) (m_o_minuteOf : Nat → Int32) (m_o_shape : Nat → Int32) (m_o_weekdays : Nat → Int32) (m_o_wide : Nat → Int32), f_X11_source G (σ 13 6) (σ 8 2) (if y1 = 0 then 0 else 1) y2 y3 y4 y5 = some (rx, x_o_page_day, x_o_sky_many, x_nt) ∧ f_X12_source (σ 42 2) (σ 58) (σ 59) (σ 61) (σ 62) (σ 60) (if y1 = 0 then 0 else 1) y2 y3 y4 y5 = some (rm, m_o_sources, m_o_byStar, m_o_minuteOf, m_o_shape, m_o_weekdays, m_o_wide) ∧ ∀ G' : kG, kGS G x_nt G' → I (lus (lus σ [(8, (upd (σ 8) 2 x_o_sky_many)), (13, (upd (σ 13) 6 x_o_page_day))]) [(42, (upd (σ 42) 2 m_o_sources)), (58, m_o_byStar), (59, m_o_minuteOf), (60, m_o_wide), (61, m_o_shape), (62, m_o_weekdays)]) G'
def pn_1 (I : (Nat → Nat → Int32) → kG → Prop) : Prop := ∀ (σ : Nat → Nat → Int32) (G : kG) (y1 : Int32), I σ G → ∃ (rx : Int32) (x_o_page_day : Int32) (x_o_sky_seed : Int32) (rm : Int32) (m_o_seed : Int32), f_X11_seed (σ 13 6) (σ 8 3) y1 = some (rx, x_o_page_day, x_o_sky_seed) ∧ f_X12_seed (σ 42 3) y1 = some (rm, m_o_seed) ∧ I (lus (lus σ [(8, (upd (σ 8) 3 x_o_sky_seed)), (13, (upd (σ 13) 6 x_o_page_day))]) [(42, (upd (σ 42) 3 m_o_seed))]) G
def pn_2 (I : (Nat → Nat → Int32) → kG → Prop) : Prop := ∀ (σ : Nat → Nat → Int32) (G : kG) (y1 : Int32) (y2 : Int32) (y3 : Int32) (y4 : Int32) (y5 : Int32), I σ G → ∃ (rx : Int32) (x_o_tape_length : Int32) (x_o_tape_bytes : Nat → Int32) (rm : Int32) (m_o_taped : Int32) (m_o_tape : Nat → Int32), f_X11_feed (σ 1 1) (σ 2) y1 y2 y3 y4 y5 = some (rx, x_o_tape_length, x_o_tape_bytes) ∧ f_X12_feed (σ 42 1) (σ 43) y1 y2 y3 y4 y5 = some (rm, m_o_taped, m_o_tape) ∧ I (lus (lus σ [(1, (upd (σ 1) 1 x_o_tape_length)), (2, x_o_tape_bytes)]) [(42, (upd (σ 42) 1 m_o_taped)), (43, m_o_tape)]) G
def pn_3 (I : (Nat → Nat → Int32) → kG → Prop) : Prop := ∀ (σ : Nat → Nat → Int32) (G : kG) (y1 : Int32) (y2 : Int32), I σ G → ∃ (rx : Int32) (x_o_page_day : Int32) (x_o_scribe_length : Int32) (x_o_scribe_at : Int32) (x_o_scribe_used : Int32) (x_o_scribe_fault : Int32) (x_o_tape_length : Int32) (x_o_scribe_code : Nat → Int32) (x_o_scribe_middles : Nat → Int32) (x_o_scribe_starts : Nat → Int32) (x_nt : Option (Nat × kTv)) (rm : Int32) (m_o_taped : Int32) (m_o_place : Int32) (m_o_end : Int32) (m_o_bad : Int32) (m_o_clauses : Int32) (m_o_codes : Int32) (m_o_open : Int32) (m_o_stacked : Int32) (m_o_isOver : Int32) (m_o_isBehind : Int32) (m_o_code : Nat → Int32) (m_o_codeArg : Nat → Int32) (m_o_codeFrom : Nat → Int32) (m_o_codeTo : Nat → Int32) (m_o_many : Nat → Int32) (m_o_newArg : Nat → Int32) (m_o_newCode : Nat → Int32) (m_o_newFrom : Nat → Int32) (m_o_newSum : Nat → Int32) (m_o_newTo : Nat → Int32) (m_o_stack : Nat → Int32) (m_o_sumFrom : Nat → Int32), f_X11_law G (σ 13 6) (σ 3 4) (σ 3 5) (σ 3 6) (σ 3 7) (σ 8 2) (σ 1 1) (σ 4) (σ 6) (σ 5) (σ 2) y1 y2 = some (rx, x_o_page_day, x_o_scribe_length, x_o_scribe_at, x_o_scribe_used, x_o_scribe_fault, x_o_tape_length, x_o_scribe_code, x_o_scribe_middles, x_o_scribe_starts, x_nt) ∧ f_X12_law (σ 42 1) (σ 42 2) (σ 42 18) (σ 42 19) (σ 42 20) (σ 42 21) (σ 42 22) (σ 42 23) (σ 42 24) (σ 42 25) (σ 42 26) (σ 48) (σ 49) (σ 46) (σ 47) (σ 44) (σ 54) (σ 53) (σ 51) (σ 50) (σ 52) (σ 55) (σ 45) (σ 43) y1 y2 = some (rm, m_o_taped, m_o_place, m_o_end, m_o_bad, m_o_clauses, m_o_codes, m_o_open, m_o_stacked, m_o_isOver, m_o_isBehind, m_o_code, m_o_codeArg, m_o_codeFrom, m_o_codeTo, m_o_many, m_o_newArg, m_o_newCode, m_o_newFrom, m_o_newSum, m_o_newTo, m_o_stack, m_o_sumFrom) ∧ (∀ q, x_nt = some q → q.1 < 10) ∧ ∀ G' : kG, kGT G x_nt G' → I (lus (lus σ [(1, (upd (σ 1) 1 x_o_tape_length)), (3, (upd (upd (upd (upd (σ 3) 4 x_o_scribe_length) 5 x_o_scribe_at) 6 x_o_scribe_used) 7 x_o_scribe_fault)), (4, x_o_scribe_code), (5, x_o_scribe_starts), (6, x_o_scribe_middles), (13, (upd (σ 13) 6 x_o_page_day))]) [(42, (upd (upd (upd (upd (upd (upd (upd (upd (upd (upd (σ 42) 1 m_o_taped) 18 m_o_place) 19 m_o_end) 20 m_o_bad) 21 m_o_clauses) 22 m_o_codes) 23 m_o_open) 24 m_o_stacked) 25 m_o_isOver) 26 m_o_isBehind)), (44, m_o_many), (45, m_o_sumFrom), (46, m_o_codeFrom), (47, m_o_codeTo), (48, m_o_code), (49, m_o_codeArg), (50, m_o_newSum), (51, m_o_newFrom), (52, m_o_newTo), (53, m_o_newCode), (54, m_o_newArg), (55, m_o_stack)]) G'
def pn_4 (I : (Nat → Nat → Int32) → kG → Prop) : Prop := ∀ (σ : Nat → Nat → Int32) (G : kG) (y1 : Int32) (y2 : Int32), I σ G → ∃ (rx : Int32) (x_o_page_readers : Int32) (x_o_scribe_length : Int32) (x_o_scribe_at : Int32) (x_o_scribe_used : Int32) (x_o_scribe_fault : Int32) (x_o_tape_length : Int32) (x_o_scribe_code : Nat → Int32) (x_o_scribe_middles : Nat → Int32) (x_o_scribe_starts : Nat → Int32) (x_nt : Option (Nat × kTv)) (rm : Int32) (m_o_taped : Int32) (m_o_place : Int32) (m_o_end : Int32) (m_o_bad : Int32) (m_o_clauses : Int32) (m_o_codes : Int32) (m_o_open : Int32) (m_o_stacked : Int32) (m_o_isOver : Int32) (m_o_isBehind : Int32) (m_o_code : Nat → Int32) (m_o_codeArg : Nat → Int32) (m_o_codeFrom : Nat → Int32) (m_o_codeTo : Nat → Int32) (m_o_many : Nat → Int32) (m_o_newArg : Nat → Int32) (m_o_newCode : Nat → Int32) (m_o_newFrom : Nat → Int32) (m_o_newSum : Nat → Int32) (m_o_newTo : Nat → Int32) (m_o_stack : Nat → Int32) (m_o_sumFrom : Nat → Int32), f_X11_way G (σ 13 5) (σ 3 4) (σ 3 5) (σ 3 6) (σ 3 7) (σ 1 1) (σ 4) (σ 6) (σ 5) (σ 2) y1 y2 = some (rx, x_o_page_readers, x_o_scribe_length, x_o_scribe_at, x_o_scribe_used, x_o_scribe_fault, x_o_tape_length, x_o_scribe_code, x_o_scribe_middles, x_o_scribe_starts, x_nt) ∧ f_X12_way (σ 42 1) (σ 42 18) (σ 42 19) (σ 42 20) (σ 42 21) (σ 42 22) (σ 42 23) (σ 42 24) (σ 42 25) (σ 42 26) (σ 48) (σ 49) (σ 46) (σ 47) (σ 44) (σ 54) (σ 53) (σ 51) (σ 50) (σ 52) (σ 55) (σ 45) (σ 43) y1 y2 = some (rm, m_o_taped, m_o_place, m_o_end, m_o_bad, m_o_clauses, m_o_codes, m_o_open, m_o_stacked, m_o_isOver, m_o_isBehind, m_o_code, m_o_codeArg, m_o_codeFrom, m_o_codeTo, m_o_many, m_o_newArg, m_o_newCode, m_o_newFrom, m_o_newSum, m_o_newTo, m_o_stack, m_o_sumFrom) ∧ (∀ q, x_nt = some q → 10 ≤ q.1 ∧ q.1 < 14) ∧ ∀ G' : kG, kGT G x_nt G' → I (lus (lus σ [(1, (upd (σ 1) 1 x_o_tape_length)), (3, (upd (upd (upd (upd (σ 3) 4 x_o_scribe_length) 5 x_o_scribe_at) 6 x_o_scribe_used) 7 x_o_scribe_fault)), (4, x_o_scribe_code), (5, x_o_scribe_starts), (6, x_o_scribe_middles), (13, (upd (σ 13) 5 x_o_page_readers))]) [(42, (upd (upd (upd (upd (upd (upd (upd (upd (upd (upd (σ 42) 1 m_o_taped) 18 m_o_place) 19 m_o_end) 20 m_o_bad) 21 m_o_clauses) 22 m_o_codes) 23 m_o_open) 24 m_o_stacked) 25 m_o_isOver) 26 m_o_isBehind)), (44, m_o_many), (45, m_o_sumFrom), (46, m_o_codeFrom), (47, m_o_codeTo), (48, m_o_code), (49, m_o_codeArg), (50, m_o_newSum), (51, m_o_newFrom), (52, m_o_newTo), (53, m_o_newCode), (54, m_o_newArg), (55, m_o_stack)]) G'
def pn_5 (I : (Nat → Nat → Int32) → kG → Prop) : Prop := ∀ (σ : Nat → Nat → Int32) (G : kG) (y1 : Int32) (y2 : Int32), I σ G → ∃ (rx : Int32) (x_o_scribe_length : Int32) (x_o_scribe_at : Int32) (x_o_scribe_used : Int32) (x_o_scribe_fault : Int32) (x_o_tape_length : Int32) (x_o_scribe_code : Nat → Int32) (x_o_scribe_middles : Nat → Int32) (x_o_scribe_starts : Nat → Int32) (x_nt : Option (Nat × kTv)) (rm : Int32) (m_o_taped : Int32) (m_o_place : Int32) (m_o_end : Int32) (m_o_bad : Int32) (m_o_clauses : Int32) (m_o_codes : Int32) (m_o_open : Int32) (m_o_stacked : Int32) (m_o_isBehind : Int32) (m_o_code : Nat → Int32) (m_o_codeArg : Nat → Int32) (m_o_codeFrom : Nat → Int32) (m_o_codeTo : Nat → Int32) (m_o_many : Nat → Int32) (m_o_newArg : Nat → Int32) (m_o_newCode : Nat → Int32) (m_o_newFrom : Nat → Int32) (m_o_newSum : Nat → Int32) (m_o_newTo : Nat → Int32) (m_o_stack : Nat → Int32) (m_o_sumFrom : Nat → Int32), f_X11_story G (σ 3 4) (σ 3 5) (σ 3 6) (σ 3 7) (σ 1 1) (σ 4) (σ 6) (σ 5) (σ 2) y1 y2 = some (rx, x_o_scribe_length, x_o_scribe_at, x_o_scribe_used, x_o_scribe_fault, x_o_tape_length, x_o_scribe_code, x_o_scribe_middles, x_o_scribe_starts, x_nt) ∧ f_X12_story (σ 42 1) (σ 42 18) (σ 42 19) (σ 42 20) (σ 42 21) (σ 42 22) (σ 42 23) (σ 42 24) (σ 42 26) (σ 48) (σ 49) (σ 46) (σ 47) (σ 44) (σ 54) (σ 53) (σ 51) (σ 50) (σ 52) (σ 55) (σ 45) (σ 43) y1 y2 = some (rm, m_o_taped, m_o_place, m_o_end, m_o_bad, m_o_clauses, m_o_codes, m_o_open, m_o_stacked, m_o_isBehind, m_o_code, m_o_codeArg, m_o_codeFrom, m_o_codeTo, m_o_many, m_o_newArg, m_o_newCode, m_o_newFrom, m_o_newSum, m_o_newTo, m_o_stack, m_o_sumFrom) ∧ (∀ q, x_nt = some q → 14 ≤ q.1 ∧ q.1 < 20) ∧ ∀ G' : kG, kGT G x_nt G' → I (lus (lus σ [(1, (upd (σ 1) 1 x_o_tape_length)), (3, (upd (upd (upd (upd (σ 3) 4 x_o_scribe_length) 5 x_o_scribe_at) 6 x_o_scribe_used) 7 x_o_scribe_fault)), (4, x_o_scribe_code), (5, x_o_scribe_starts), (6, x_o_scribe_middles)]) [(42, (upd (upd (upd (upd (upd (upd (upd (upd (upd (σ 42) 1 m_o_taped) 18 m_o_place) 19 m_o_end) 20 m_o_bad) 21 m_o_clauses) 22 m_o_codes) 23 m_o_open) 24 m_o_stacked) 26 m_o_isBehind)), (44, m_o_many), (45, m_o_sumFrom), (46, m_o_codeFrom), (47, m_o_codeTo), (48, m_o_code), (49, m_o_codeArg), (50, m_o_newSum), (51, m_o_newFrom), (52, m_o_newTo), (53, m_o_newCode), (54, m_o_newArg), (55, m_o_stack)]) G'
def pn_6 (I : (Nat → Nat → Int32) → kG → Prop) : Prop := ∀ (σ : Nat → Nat → Int32) (G : kG) (y1 : Int32) (y2 : Int32), I σ G → ∃ (rx : Int32) (rm : Int32), f_X11_star y1 y2 = some (rx) ∧ f_X12_star y1 y2 = some (rm) ∧ I (lus (lus σ []) []) G
def pn_7 (I : (Nat → Nat → Int32) → kG → Prop) : Prop := ∀ (σ : Nat → Nat → Int32) (G : kG) (y1 : Int32) (y2 : Int32) (y3 : Int32), I σ G → ∃ (rx : Int32) (x_o_sky_reckoner_letters : Nat → Int32) (x_o_sky_reckoner_values : Nat → Int32) (rm : Int32) (m_o_atA : Int32) (m_o_atB : Int32) (m_o_atD : Int32) (m_o_atF : Int32) (m_o_atG : Int32) (m_o_atH : Int32) (m_o_atL : Int32) (m_o_atM : Int32) (m_o_atN : Int32) (m_o_atS : Int32) (m_o_atT : Int32) (m_o_atU : Int32) (m_o_atX : Int32) (m_o_isRefused : Nat → Int32) (m_o_worth : Nat → Int32), f_X11_height G (σ 8 2) (σ 8 3) (σ 11) (σ 12) y1 y2 y3 = some (rx, x_o_sky_reckoner_letters, x_o_sky_reckoner_values) ∧ f_X12_height (σ 42 2) (σ 42 3) (σ 42 28) (σ 42 29) (σ 42 30) (σ 42 31) (σ 42 32) (σ 42 33) (σ 42 34) (σ 42 35) (σ 42 36) (σ 42 37) (σ 42 38) (σ 42 39) (σ 42 40) (σ 58) (σ 48) (σ 49) (σ 46) (σ 47) (σ 57) (σ 44) (σ 59) (σ 45) (σ 62) (σ 60) (σ 56) y1 y2 y3 = some (rm, m_o_atA, m_o_atB, m_o_atD, m_o_atF, m_o_atG, m_o_atH, m_o_atL, m_o_atM, m_o_atN, m_o_atS, m_o_atT, m_o_atU, m_o_atX, m_o_isRefused, m_o_worth) ∧ I (lus (lus σ [(11, x_o_sky_reckoner_letters), (12, x_o_sky_reckoner_values)]) [(42, (upd (upd (upd (upd (upd (upd (upd (upd (upd (upd (upd (upd (upd (σ 42) 28 m_o_atA) 29 m_o_atB) 30 m_o_atD) 31 m_o_atF) 32 m_o_atG) 33 m_o_atH) 34 m_o_atL) 35 m_o_atM) 36 m_o_atN) 37 m_o_atS) 38 m_o_atT) 39 m_o_atU) 40 m_o_atX)), (56, m_o_worth), (57, m_o_isRefused)]) G
def pn_8 (I : (Nat → Nat → Int32) → kG → Prop) : Prop := ∀ (σ : Nat → Nat → Int32) (G : kG) (y1 : Int32) (y2 : Int32) (y3 : Int32), I σ G → ∃ (rx : Int32) (x_o_page_readers : Int32) (x_o_page_day : Int32) (x_o_page_heights : Nat → Int32) (x_o_page_highest : Nat → Int32) (x_o_page_shapes : Nat → Int32) (x_o_sky_reckoner_letters : Nat → Int32) (x_o_sky_reckoner_values : Nat → Int32) (rm : Int32) (m_o_atA : Int32) (m_o_atB : Int32) (m_o_atD : Int32) (m_o_atF : Int32) (m_o_atG : Int32) (m_o_atH : Int32) (m_o_atL : Int32) (m_o_atM : Int32) (m_o_atN : Int32) (m_o_atS : Int32) (m_o_atT : Int32) (m_o_atU : Int32) (m_o_atX : Int32) (m_o_paperHigh : Int32) (m_o_paperShape : Int32) (m_o_isRefused : Nat → Int32) (m_o_worth : Nat → Int32), f_X11_paper G (σ 13 5) (σ 13 6) (σ 8 2) (σ 8 3) (σ 14) (σ 16) (σ 15) (σ 11) (σ 12) y1 y2 y3 = some (rx, x_o_page_readers, x_o_page_day, x_o_page_heights, x_o_page_highest, x_o_page_shapes, x_o_sky_reckoner_letters, x_o_sky_reckoner_values) ∧ f_X12_paper (σ 42 2) (σ 42 3) (σ 42 28) (σ 42 29) (σ 42 30) (σ 42 31) (σ 42 32) (σ 42 33) (σ 42 34) (σ 42 35) (σ 42 36) (σ 42 37) (σ 42 38) (σ 42 39) (σ 42 40) (σ 42 48) (σ 42 49) (σ 58) (σ 48) (σ 49) (σ 46) (σ 47) (σ 57) (σ 44) (σ 59) (σ 61) (σ 45) (σ 62) (σ 60) (σ 56) y1 y2 y3 = some (rm, m_o_atA, m_o_atB, m_o_atD, m_o_atF, m_o_atG, m_o_atH, m_o_atL, m_o_atM, m_o_atN, m_o_atS, m_o_atT, m_o_atU, m_o_atX, m_o_paperHigh, m_o_paperShape, m_o_isRefused, m_o_worth) ∧ I (lus (lus σ [(11, x_o_sky_reckoner_letters), (12, x_o_sky_reckoner_values), (13, (upd (upd (σ 13) 5 x_o_page_readers) 6 x_o_page_day)), (14, x_o_page_heights), (15, x_o_page_shapes), (16, x_o_page_highest)]) [(42, (upd (upd (upd (upd (upd (upd (upd (upd (upd (upd (upd (upd (upd (upd (upd (σ 42) 28 m_o_atA) 29 m_o_atB) 30 m_o_atD) 31 m_o_atF) 32 m_o_atG) 33 m_o_atH) 34 m_o_atL) 35 m_o_atM) 36 m_o_atN) 37 m_o_atS) 38 m_o_atT) 39 m_o_atU) 40 m_o_atX) 48 m_o_paperHigh) 49 m_o_paperShape)), (56, m_o_worth), (57, m_o_isRefused)]) G
def pn_9 (I : (Nat → Nat → Int32) → kG → Prop) : Prop := ∀ (σ : Nat → Nat → Int32) (G : kG) (y1 : Int32) (y2 : Int32) (y3 : Int32), I σ G → ∃ (rx : Int32) (x_o_page_readers : Int32) (x_o_page_day : Int32) (x_o_page_heights : Nat → Int32) (x_o_page_highest : Nat → Int32) (x_o_page_marked : Nat → Int32) (x_o_page_shapes : Nat → Int32) (x_o_page_reckoner_letters : Nat → Int32) (x_o_page_reckoner_values : Nat → Int32) (x_o_sky_reckoner_letters : Nat → Int32) (x_o_sky_reckoner_values : Nat → Int32) (rm : Int32) (m_o_atA : Int32) (m_o_atB : Int32) (m_o_atD : Int32) (m_o_atF : Int32) (m_o_atG : Int32) (m_o_atH : Int32) (m_o_atL : Int32) (m_o_atM : Int32) (m_o_atN : Int32) (m_o_atS : Int32) (m_o_atT : Int32) (m_o_atU : Int32) (m_o_atX : Int32) (m_o_paperHigh : Int32) (m_o_paperShape : Int32) (m_o_first : Nat → Int32) (m_o_greatest : Nat → Int32) (m_o_highAt : Nat → Int32) (m_o_isRefused : Nat → Int32) (m_o_last : Nat → Int32) (m_o_marked : Nat → Int32) (m_o_shapeAt : Nat → Int32) (m_o_worth : Nat → Int32), f_X11_marks G (σ 13 5) (σ 13 6) (σ 8 2) (σ 8 3) (σ 14) (σ 16) (σ 17) (σ 15) (σ 19) (σ 20) (σ 11) (σ 12) y1 y2 y3 = some (rx, x_o_page_readers, x_o_page_day, x_o_page_heights, x_o_page_highest, x_o_page_marked, x_o_page_shapes, x_o_page_reckoner_letters, x_o_page_reckoner_values, x_o_sky_reckoner_letters, x_o_sky_reckoner_values) ∧ f_X12_marks (σ 42 2) (σ 42 3) (σ 42 28) (σ 42 29) (σ 42 30) (σ 42 31) (σ 42 32) (σ 42 33) (σ 42 34) (σ 42 35) (σ 42 36) (σ 42 37) (σ 42 38) (σ 42 39) (σ 42 40) (σ 42 48) (σ 42 49) (σ 58) (σ 48) (σ 49) (σ 46) (σ 47) (σ 65) (σ 67) (σ 63) (σ 57) (σ 66) (σ 44) (σ 68) (σ 59) (σ 61) (σ 64) (σ 45) (σ 62) (σ 60) (σ 56) y1 y2 y3 = some (rm, m_o_atA, m_o_atB, m_o_atD, m_o_atF, m_o_atG, m_o_atH, m_o_atL, m_o_atM, m_o_atN, m_o_atS, m_o_atT, m_o_atU, m_o_atX, m_o_paperHigh, m_o_paperShape, m_o_first, m_o_greatest, m_o_highAt, m_o_isRefused, m_o_last, m_o_marked, m_o_shapeAt, m_o_worth) ∧ I (lus (lus σ [(11, x_o_sky_reckoner_letters), (12, x_o_sky_reckoner_values), (13, (upd (upd (σ 13) 5 x_o_page_readers) 6 x_o_page_day)), (14, x_o_page_heights), (15, x_o_page_shapes), (16, x_o_page_highest), (17, x_o_page_marked), (19, x_o_page_reckoner_letters), (20, x_o_page_reckoner_values)]) [(42, (upd (upd (upd (upd (upd (upd (upd (upd (upd (upd (upd (upd (upd (upd (upd (σ 42) 28 m_o_atA) 29 m_o_atB) 30 m_o_atD) 31 m_o_atF) 32 m_o_atG) 33 m_o_atH) 34 m_o_atL) 35 m_o_atM) 36 m_o_atN) 37 m_o_atS) 38 m_o_atT) 39 m_o_atU) 40 m_o_atX) 48 m_o_paperHigh) 49 m_o_paperShape)), (56, m_o_worth), (57, m_o_isRefused), (63, m_o_highAt), (64, m_o_shapeAt), (65, m_o_first), (66, m_o_last), (67, m_o_greatest), (68, m_o_marked)]) G
def pn_10 (I : (Nat → Nat → Int32) → kG → Prop) : Prop := ∀ (σ : Nat → Nat → Int32) (G : kG) (y1 : Int32) (y2 : Int32) (y3 : Int32) (y4 : Int32) (y5 : Int32), I σ G → ∃ (rx : Int32) (x_o_page_readers : Int32) (x_o_page_day : Int32) (x_o_page_heights : Nat → Int32) (x_o_page_highest : Nat → Int32) (x_o_page_marked : Nat → Int32) (x_o_page_shapes : Nat → Int32) (x_o_page_reckoner_letters : Nat → Int32) (x_o_page_reckoner_values : Nat → Int32) (x_o_sky_reckoner_letters : Nat → Int32) (x_o_sky_reckoner_values : Nat → Int32) (rm : Int32) (m_o_atA : Int32) (m_o_atB : Int32) (m_o_atD : Int32) (m_o_atF : Int32) (m_o_atG : Int32) (m_o_atH : Int32) (m_o_atL : Int32) (m_o_atM : Int32) (m_o_atN : Int32) (m_o_atS : Int32) (m_o_atT : Int32) (m_o_atU : Int32) (m_o_atX : Int32) (m_o_paperHigh : Int32) (m_o_paperShape : Int32) (m_o_first : Nat → Int32) (m_o_greatest : Nat → Int32) (m_o_highAt : Nat → Int32) (m_o_isRefused : Nat → Int32) (m_o_last : Nat → Int32) (m_o_marked : Nat → Int32) (m_o_shapeAt : Nat → Int32) (m_o_worth : Nat → Int32), f_X11_passed G (σ 13 5) (σ 13 6) (σ 8 2) (σ 8 3) (σ 14) (σ 16) (σ 17) (σ 15) (σ 19) (σ 20) (σ 11) (σ 12) y1 y2 y3 y4 y5 = some (rx, x_o_page_readers, x_o_page_day, x_o_page_heights, x_o_page_highest, x_o_page_marked, x_o_page_shapes, x_o_page_reckoner_letters, x_o_page_reckoner_values, x_o_sky_reckoner_letters, x_o_sky_reckoner_values) ∧ f_X12_passed (σ 42 2) (σ 42 3) (σ 42 28) (σ 42 29) (σ 42 30) (σ 42 31) (σ 42 32) (σ 42 33) (σ 42 34) (σ 42 35) (σ 42 36) (σ 42 37) (σ 42 38) (σ 42 39) (σ 42 40) (σ 42 48) (σ 42 49) (σ 58) (σ 48) (σ 49) (σ 46) (σ 47) (σ 65) (σ 67) (σ 63) (σ 57) (σ 66) (σ 44) (σ 68) (σ 59) (σ 61) (σ 64) (σ 45) (σ 62) (σ 60) (σ 56) y1 y2 y3 y4 y5 = some (rm, m_o_atA, m_o_atB, m_o_atD, m_o_atF, m_o_atG, m_o_atH, m_o_atL, m_o_atM, m_o_atN, m_o_atS, m_o_atT, m_o_atU, m_o_atX, m_o_paperHigh, m_o_paperShape, m_o_first, m_o_greatest, m_o_highAt, m_o_isRefused, m_o_last, m_o_marked, m_o_shapeAt, m_o_worth) ∧ I (lus (lus σ [(11, x_o_sky_reckoner_letters), (12, x_o_sky_reckoner_values), (13, (upd (upd (σ 13) 5 x_o_page_readers) 6 x_o_page_day)), (14, x_o_page_heights), (15, x_o_page_shapes), (16, x_o_page_highest), (17, x_o_page_marked), (19, x_o_page_reckoner_letters), (20, x_o_page_reckoner_values)]) [(42, (upd (upd (upd (upd (upd (upd (upd (upd (upd (upd (upd (upd (upd (upd (upd (σ 42) 28 m_o_atA) 29 m_o_atB) 30 m_o_atD) 31 m_o_atF) 32 m_o_atG) 33 m_o_atH) 34 m_o_atL) 35 m_o_atM) 36 m_o_atN) 37 m_o_atS) 38 m_o_atT) 39 m_o_atU) 40 m_o_atX) 48 m_o_paperHigh) 49 m_o_paperShape)), (56, m_o_worth), (57, m_o_isRefused), (63, m_o_highAt), (64, m_o_shapeAt), (65, m_o_first), (66, m_o_last), (67, m_o_greatest), (68, m_o_marked)]) G
def pn_11 (I : (Nat → Nat → Int32) → kG → Prop) : Prop := ∀ (σ : Nat → Nat → Int32) (G : kG) (y1 : Int32) (y2 : Int32) (y3 : Int32), I σ G → ∃ (rx : Int32) (x_o_notes_many : Int32) (x_o_notes_days : Nat → Int32) (x_o_notes_minutes : Nat → Int32) (x_o_notes_shapes : Nat → Int32) (rm : Int32) (m_o_notes : Int32) (m_o_noteDay : Nat → Int32) (m_o_noteMinute : Nat → Int32) (m_o_noteShape : Nat → Int32), f_X11_note (σ 22 4) (σ 23) (σ 24) (σ 25) y1 y2 y3 = some (rx, x_o_notes_many, x_o_notes_days, x_o_notes_minutes, x_o_notes_shapes) ∧ f_X12_note (σ 42 4) (σ 69) (σ 70) (σ 71) y1 y2 y3 = some (rm, m_o_notes, m_o_noteDay, m_o_noteMinute, m_o_noteShape) ∧ I (lus (lus σ [(22, (upd (σ 22) 4 x_o_notes_many)), (23, x_o_notes_days), (24, x_o_notes_minutes), (25, x_o_notes_shapes)]) [(42, (upd (σ 42) 4 m_o_notes)), (69, m_o_noteDay), (70, m_o_noteMinute), (71, m_o_noteShape)]) G
def pn_12 (I : (Nat → Nat → Int32) → kG → Prop) : Prop := ∀ (σ : Nat → Nat → Int32) (G : kG) (y1 : Int32) (y2 : Int32), I σ G → ∃ (rx : Int32) (x_o_notes_gathered : Nat → Int32) (rm : Int32), f_X11_one (σ 22 4) (σ 23) (σ 26) (σ 24) (σ 25) y1 y2 = some (rx, x_o_notes_gathered) ∧ f_X12_one (σ 42 4) (σ 69) (σ 70) (σ 71) y1 y2 = some (rm) ∧ I (lus (lus σ [(26, x_o_notes_gathered)]) []) G
def pn_13 (I : (Nat → Nat → Int32) → kG → Prop) : Prop := ∀ (σ : Nat → Nat → Int32) (G : kG) (y1 : Int32) (y2 : Int32), I σ G → ∃ (rx : Int32) (x_o_notes_gathered : Nat → Int32) (rm : Int32), f_X11_known (σ 22 4) (σ 23) (σ 26) (σ 24) (σ 25) y1 y2 = some (rx, x_o_notes_gathered) ∧ f_X12_known (σ 42 4) (σ 69) (σ 70) (σ 71) y1 y2 = some (rm) ∧ I (lus (lus σ [(26, x_o_notes_gathered)]) []) G
def pn_14 (I : (Nat → Nat → Int32) → kG → Prop) : Prop := ∀ (σ : Nat → Nat → Int32) (G : kG) (y1 : Int32) (y2 : Int32) (y3 : Int32), I σ G → ∃ (rx : Int32) (x_o_notes_gathered : Nat → Int32) (rm : Int32), f_X11_row (σ 22 4) (σ 23) (σ 26) (σ 24) (σ 25) y1 y2 y3 = some (rx, x_o_notes_gathered) ∧ f_X12_row (σ 42 4) (σ 69) (σ 70) (σ 71) y1 y2 y3 = some (rm) ∧ I (lus (lus σ [(26, x_o_notes_gathered)]) []) G
def pn_15 (I : (Nat → Nat → Int32) → kG → Prop) : Prop := ∀ (σ : Nat → Nat → Int32) (G : kG) (y1 : Int32), I σ G → ∃ (rx : Int32) (x_o_blips_many : Int32) (x_o_blips_times : Nat → Int32) (rm : Int32) (m_o_blips : Int32) (m_o_time : Nat → Int32), f_X11_blip (σ 27 2) (σ 28) y1 = some (rx, x_o_blips_many, x_o_blips_times) ∧ f_X12_blip (σ 42 5) (σ 72) y1 = some (rm, m_o_blips, m_o_time) ∧ I (lus (lus σ [(27, (upd (σ 27) 2 x_o_blips_many)), (28, x_o_blips_times)]) [(42, (upd (σ 42) 5 m_o_blips)), (72, m_o_time)]) G
def pn_16 (I : (Nat → Nat → Int32) → kG → Prop) : Prop := ∀ (σ : Nat → Nat → Int32) (G : kG) (y1 : Int32) (y2 : Int32), I σ G → ∃ (rx : Int32) (x_o_blips_rests : Nat → Int32) (rm : Int32), f_X11_fits (σ 27 2) (σ 29) (σ 28) y1 y2 = some (rx, x_o_blips_rests) ∧ f_X12_fits (σ 42 5) (σ 72) y1 y2 = some (rm) ∧ I (lus (lus σ [(29, x_o_blips_rests)]) []) G
def pn_17 (I : (Nat → Nat → Int32) → kG → Prop) : Prop := ∀ (σ : Nat → Nat → Int32) (G : kG) (y1 : Int32) (y2 : Int32) (y3 : Int32) (y4 : Int32), I σ G → ∃ (rx : Int32) (x_o_blips_fitting : Int32) (x_o_blips_least : Int32) (x_o_blips_greatest : Int32) (x_o_blips_rests : Nat → Int32) (rm : Int32) (m_o_fitMany : Int32) (m_o_fitLeast : Int32) (m_o_fitMost : Int32), f_X11_beats (σ 27 2) (σ 27 3) (σ 27 4) (σ 27 5) (σ 29) (σ 28) y1 y2 y3 y4 = some (rx, x_o_blips_fitting, x_o_blips_least, x_o_blips_greatest, x_o_blips_rests) ∧ f_X12_beats (σ 42 5) (σ 42 60) (σ 42 61) (σ 42 62) (σ 72) y1 y2 y3 y4 = some (rm, m_o_fitMany, m_o_fitLeast, m_o_fitMost) ∧ I (lus (lus σ [(27, (upd (upd (upd (σ 27) 3 x_o_blips_fitting) 4 x_o_blips_least) 5 x_o_blips_greatest)), (29, x_o_blips_rests)]) [(42, (upd (upd (upd (σ 42) 60 m_o_fitMany) 61 m_o_fitLeast) 62 m_o_fitMost))]) G
def pn_18 (I : (Nat → Nat → Int32) → kG → Prop) : Prop := ∀ (σ : Nat → Nat → Int32) (G : kG) (y1 : Int32) (y2 : Int32), I σ G → ∃ (rx : Int32) (rm : Int32), f_X11_counted (σ 27 2) (σ 28) y1 y2 = some (rx) ∧ f_X12_counted (σ 42 5) (σ 72) y1 y2 = some (rm) ∧ I (lus (lus σ []) []) G
def pn_19 (I : (Nat → Nat → Int32) → kG → Prop) : Prop := ∀ (σ : Nat → Nat → Int32) (G : kG) (y1 : Int32) (y2 : Int32) (y3 : Int32), I σ G → ∃ (rx : Int32) (x_o_blips_fitting : Int32) (x_o_blips_least : Int32) (x_o_blips_greatest : Int32) (x_o_blips_rests : Nat → Int32) (rm : Int32) (m_o_fitMany : Int32) (m_o_fitLeast : Int32) (m_o_fitMost : Int32), f_X11_sure (σ 27 2) (σ 27 3) (σ 27 4) (σ 27 5) (σ 29) (σ 28) y1 y2 y3 = some (rx, x_o_blips_fitting, x_o_blips_least, x_o_blips_greatest, x_o_blips_rests) ∧ f_X12_sure (σ 42 5) (σ 42 60) (σ 42 61) (σ 42 62) (σ 72) y1 y2 y3 = some (rm, m_o_fitMany, m_o_fitLeast, m_o_fitMost) ∧ I (lus (lus σ [(27, (upd (upd (upd (σ 27) 3 x_o_blips_fitting) 4 x_o_blips_least) 5 x_o_blips_greatest)), (29, x_o_blips_rests)]) [(42, (upd (upd (upd (σ 42) 60 m_o_fitMany) 61 m_o_fitLeast) 62 m_o_fitMost))]) G
def pn_20 (I : (Nat → Nat → Int32) → kG → Prop) : Prop := ∀ (σ : Nat → Nat → Int32) (G : kG) (y1 : Int32) (y2 : Int32) (y3 : Int32), I σ G → ∃ (rx : Int32) (x_o_blips_fitting : Int32) (x_o_blips_least : Int32) (x_o_blips_greatest : Int32) (x_o_blips_rests : Nat → Int32) (rm : Int32) (m_o_fitMany : Int32) (m_o_fitLeast : Int32) (m_o_fitMost : Int32), f_X11_lost (σ 27 2) (σ 27 3) (σ 27 4) (σ 27 5) (σ 29) (σ 28) y1 y2 y3 = some (rx, x_o_blips_fitting, x_o_blips_least, x_o_blips_greatest, x_o_blips_rests) ∧ f_X12_lost (σ 42 5) (σ 42 60) (σ 42 61) (σ 42 62) (σ 72) y1 y2 y3 = some (rm, m_o_fitMany, m_o_fitLeast, m_o_fitMost) ∧ I (lus (lus σ [(27, (upd (upd (upd (σ 27) 3 x_o_blips_fitting) 4 x_o_blips_least) 5 x_o_blips_greatest)), (29, x_o_blips_rests)]) [(42, (upd (upd (upd (σ 42) 60 m_o_fitMany) 61 m_o_fitLeast) 62 m_o_fitMost))]) G
def pn_21 (I : (Nat → Nat → Int32) → kG → Prop) : Prop := ∀ (σ : Nat → Nat → Int32) (G : kG) (y1 : Int32) (y2 : Int32), I σ G → ∃ (rx : Int32) (x_o_nights_many : Int32) (x_o_nights_days : Nat → Int32) (x_o_nights_shifts : Nat → Int32) (rm : Int32) (m_o_nights : Int32) (m_o_found : Nat → Int32) (m_o_nightDay : Nat → Int32), f_X11_night (σ 30 5) (σ 31) (σ 32) y1 y2 = some (rx, x_o_nights_many, x_o_nights_days, x_o_nights_shifts) ∧ f_X12_night (σ 42 6) (σ 74) (σ 73) y1 y2 = some (rm, m_o_nights, m_o_found, m_o_nightDay) ∧ I (lus (lus σ [(30, (upd (σ 30) 5 x_o_nights_many)), (31, x_o_nights_days), (32, x_o_nights_shifts)]) [(42, (upd (σ 42) 6 m_o_nights)), (73, m_o_nightDay), (74, m_o_found)]) G
def pn_22 (I : (Nat → Nat → Int32) → kG → Prop) : Prop := ∀ (σ : Nat → Nat → Int32) (G : kG) (y1 : Int32) (y2 : Int32), I σ G → ∃ (rx : Int32) (x_o_nights_reckoner_letters : Nat → Int32) (x_o_nights_reckoner_values : Nat → Int32) (rm : Int32) (m_o_atA : Int32) (m_o_atB : Int32) (m_o_atD : Int32) (m_o_atF : Int32) (m_o_atG : Int32) (m_o_atH : Int32) (m_o_atL : Int32) (m_o_atM : Int32) (m_o_atN : Int32) (m_o_atS : Int32) (m_o_atT : Int32) (m_o_atU : Int32) (m_o_atX : Int32) (m_o_isRefused : Nat → Int32) (m_o_worth : Nat → Int32), f_X11_says G (σ 30 5) (σ 31) (σ 35) (σ 36) y1 y2 = some (rx, x_o_nights_reckoner_letters, x_o_nights_reckoner_values) ∧ f_X12_says (σ 42 6) (σ 42 28) (σ 42 29) (σ 42 30) (σ 42 31) (σ 42 32) (σ 42 33) (σ 42 34) (σ 42 35) (σ 42 36) (σ 42 37) (σ 42 38) (σ 42 39) (σ 42 40) (σ 48) (σ 49) (σ 46) (σ 57) (σ 44) (σ 73) (σ 45) (σ 56) y1 y2 = some (rm, m_o_atA, m_o_atB, m_o_atD, m_o_atF, m_o_atG, m_o_atH, m_o_atL, m_o_atM, m_o_atN, m_o_atS, m_o_atT, m_o_atU, m_o_atX, m_o_isRefused, m_o_worth) ∧ I (lus (lus σ [(35, x_o_nights_reckoner_letters), (36, x_o_nights_reckoner_values)]) [(42, (upd (upd (upd (upd (upd (upd (upd (upd (upd (upd (upd (upd (upd (σ 42) 28 m_o_atA) 29 m_o_atB) 30 m_o_atD) 31 m_o_atF) 32 m_o_atG) 33 m_o_atH) 34 m_o_atL) 35 m_o_atM) 36 m_o_atN) 37 m_o_atS) 38 m_o_atT) 39 m_o_atU) 40 m_o_atX)), (56, m_o_worth), (57, m_o_isRefused)]) G
def pn_23 (I : (Nat → Nat → Int32) → kG → Prop) : Prop := ∀ (σ : Nat → Nat → Int32) (G : kG) (y1 : Int32) (y2 : Int32), I σ G → ∃ (rx : Int32) (x_o_nights_reckoner_letters : Nat → Int32) (x_o_nights_reckoner_values : Nat → Int32) (rm : Int32) (m_o_atA : Int32) (m_o_atB : Int32) (m_o_atD : Int32) (m_o_atF : Int32) (m_o_atG : Int32) (m_o_atH : Int32) (m_o_atL : Int32) (m_o_atM : Int32) (m_o_atN : Int32) (m_o_atS : Int32) (m_o_atT : Int32) (m_o_atU : Int32) (m_o_atX : Int32) (m_o_isRefused : Nat → Int32) (m_o_worth : Nat → Int32), f_X11_falls G (σ 30 5) (σ 31) (σ 32) (σ 35) (σ 36) y1 y2 = some (rx, x_o_nights_reckoner_letters, x_o_nights_reckoner_values) ∧ f_X12_falls (σ 42 6) (σ 42 28) (σ 42 29) (σ 42 30) (σ 42 31) (σ 42 32) (σ 42 33) (σ 42 34) (σ 42 35) (σ 42 36) (σ 42 37) (σ 42 38) (σ 42 39) (σ 42 40) (σ 48) (σ 49) (σ 46) (σ 74) (σ 57) (σ 44) (σ 73) (σ 45) (σ 56) y1 y2 = some (rm, m_o_atA, m_o_atB, m_o_atD, m_o_atF, m_o_atG, m_o_atH, m_o_atL, m_o_atM, m_o_atN, m_o_atS, m_o_atT, m_o_atU, m_o_atX, m_o_isRefused, m_o_worth) ∧ I (lus (lus σ [(35, x_o_nights_reckoner_letters), (36, x_o_nights_reckoner_values)]) [(42, (upd (upd (upd (upd (upd (upd (upd (upd (upd (upd (upd (upd (upd (σ 42) 28 m_o_atA) 29 m_o_atB) 30 m_o_atD) 31 m_o_atF) 32 m_o_atG) 33 m_o_atH) 34 m_o_atL) 35 m_o_atM) 36 m_o_atN) 37 m_o_atS) 38 m_o_atT) 39 m_o_atU) 40 m_o_atX)), (56, m_o_worth), (57, m_o_isRefused)]) G
def pn_24 (I : (Nat → Nat → Int32) → kG → Prop) : Prop := ∀ (σ : Nat → Nat → Int32) (G : kG) (y1 : Int32) (y2 : Int32), I σ G → ∃ (rx : Int32) (x_o_nights_fallen : Nat → Int32) (x_o_nights_reckoner_letters : Nat → Int32) (x_o_nights_reckoner_values : Nat → Int32) (rm : Int32) (m_o_atA : Int32) (m_o_atB : Int32) (m_o_atD : Int32) (m_o_atF : Int32) (m_o_atG : Int32) (m_o_atH : Int32) (m_o_atL : Int32) (m_o_atM : Int32) (m_o_atN : Int32) (m_o_atS : Int32) (m_o_atT : Int32) (m_o_atU : Int32) (m_o_atX : Int32) (m_o_isRefused : Nat → Int32) (m_o_worth : Nat → Int32), f_X11_told G (σ 30 5) (σ 31) (σ 33) (σ 32) (σ 35) (σ 36) y1 y2 = some (rx, x_o_nights_fallen, x_o_nights_reckoner_letters, x_o_nights_reckoner_values) ∧ f_X12_told (σ 42 6) (σ 42 28) (σ 42 29) (σ 42 30) (σ 42 31) (σ 42 32) (σ 42 33) (σ 42 34) (σ 42 35) (σ 42 36) (σ 42 37) (σ 42 38) (σ 42 39) (σ 42 40) (σ 48) (σ 49) (σ 46) (σ 74) (σ 57) (σ 44) (σ 73) (σ 45) (σ 56) y1 y2 = some (rm, m_o_atA, m_o_atB, m_o_atD, m_o_atF, m_o_atG, m_o_atH, m_o_atL, m_o_atM, m_o_atN, m_o_atS, m_o_atT, m_o_atU, m_o_atX, m_o_isRefused, m_o_worth) ∧ I (lus (lus σ [(33, x_o_nights_fallen), (35, x_o_nights_reckoner_letters), (36, x_o_nights_reckoner_values)]) [(42, (upd (upd (upd (upd (upd (upd (upd (upd (upd (upd (upd (upd (upd (σ 42) 28 m_o_atA) 29 m_o_atB) 30 m_o_atD) 31 m_o_atF) 32 m_o_atG) 33 m_o_atH) 34 m_o_atL) 35 m_o_atM) 36 m_o_atN) 37 m_o_atS) 38 m_o_atT) 39 m_o_atU) 40 m_o_atX)), (56, m_o_worth), (57, m_o_isRefused)]) G
def pn_25 (I : (Nat → Nat → Int32) → kG → Prop) : Prop := ∀ (σ : Nat → Nat → Int32) (G : kG) (y1 : Int32) (y2 : Int32), I σ G → ∃ (rx : Int32) (rm : Int32), f_X11_bound (σ 30 5) (σ 31) (σ 32) y1 y2 = some (rx) ∧ f_X12_bound (σ 42 6) (σ 74) (σ 73) y1 y2 = some (rm) ∧ I (lus (lus σ []) []) G
def pn_26 (I : (Nat → Nat → Int32) → kG → Prop) : Prop := ∀ (σ : Nat → Nat → Int32) (G : kG) (y1 : Int32) (y2 : Int32), I σ G → ∃ (rx : Int32) (x_o_lots_tens : Nat → Int32) (rm : Int32) (m_o_ten : Nat → Int32), f_X11_there (σ 39) y1 y2 = some (rx, x_o_lots_tens) ∧ f_X12_there (σ 75) y1 y2 = some (rm, m_o_ten) ∧ I (lus (lus σ [(39, x_o_lots_tens)]) [(75, m_o_ten)]) G
def pn_27 (I : (Nat → Nat → Int32) → kG → Prop) : Prop := ∀ (σ : Nat → Nat → Int32) (G : kG) (y1 : Int32) (y2 : Int32) (y3 : Int32), I σ G → ∃ (rx : Int32) (x_o_lots_unseen : Int32) (x_o_lots_best : Nat → Int32) (x_o_lots_chosen : Nat → Int32) (rm : Int32) (m_o_leastFrom : Nat → Int32), f_X11_pen (σ 38 3) (σ 41) (σ 40) (σ 39) y1 y2 y3 = some (rx, x_o_lots_unseen, x_o_lots_best, x_o_lots_chosen) ∧ f_X12_pen (σ 76) (σ 75) y1 y2 y3 = some (rm, m_o_leastFrom) ∧ I (lus (lus σ [(38, (upd (σ 38) 3 x_o_lots_unseen)), (40, x_o_lots_chosen), (41, x_o_lots_best)]) [(76, m_o_leastFrom)]) G
def pn_28 (I : (Nat → Nat → Int32) → kG → Prop) : Prop := ∀ (σ : Nat → Nat → Int32) (G : kG) (y1 : Int32) (y2 : Int32) (y3 : Int32) (y4 : Int32) (y5 : Int32), I σ G → ∃ (rx : Int64) (rm : Int64), f_X11_odds y1 y2 y3 y4 y5 = some (rx) ∧ f_X12_odds y1 y2 y3 y4 y5 = some (rm) ∧ I (lus (lus σ []) []) G
def pn_29 (I : (Nat → Nat → Int32) → kG → Prop) : Prop := ∀ (σ : Nat → Nat → Int32) (G : kG) (y1 : Int32) (y2 : Int32) (y3 : Int32) (y4 : Int32) (y5 : Int32), I σ G → ∃ (rx : Int32) (rm : Int32), f_X11_more y1 y2 y3 y4 y5 = some (rx) ∧ f_X12_more y1 y2 y3 y4 y5 = some (rm) ∧ I (lus (lus σ []) []) G
def pn_30 (I : (Nat → Nat → Int32) → kG → Prop) : Prop := ∀ (σ : Nat → Nat → Int32) (G : kG) (y1 : Int32) (y2 : Int32) (y3 : Int32), I σ G → ∃ (rx : Int32) (x_o_page_readers : Int32) (x_o_page_day : Int32) (x_o_tape_length : Int32) (x_o_page_heights : Nat → Int32) (x_o_page_highest : Nat → Int32) (x_o_page_marked : Nat → Int32) (x_o_page_shapes : Nat → Int32) (x_o_page_reckoner_letters : Nat → Int32) (x_o_page_reckoner_values : Nat → Int32) (x_o_sky_reckoner_letters : Nat → Int32) (x_o_sky_reckoner_values : Nat → Int32) (rm : Int32) (m_o_taped : Int32) (m_o_atA : Int32) (m_o_atB : Int32) (m_o_atD : Int32) (m_o_atF : Int32) (m_o_atG : Int32) (m_o_atH : Int32) (m_o_atL : Int32) (m_o_atM : Int32) (m_o_atN : Int32) (m_o_atS : Int32) (m_o_atT : Int32) (m_o_atU : Int32) (m_o_atX : Int32) (m_o_paperHigh : Int32) (m_o_paperShape : Int32) (m_o_first : Nat → Int32) (m_o_greatest : Nat → Int32) (m_o_highAt : Nat → Int32) (m_o_isRefused : Nat → Int32) (m_o_last : Nat → Int32) (m_o_marked : Nat → Int32) (m_o_shapeAt : Nat → Int32) (m_o_worth : Nat → Int32), f_X11_check G (σ 13 5) (σ 13 6) (σ 8 2) (σ 8 3) (σ 1 1) (σ 14) (σ 16) (σ 17) (σ 15) (σ 2) (σ 19) (σ 20) (σ 11) (σ 12) y1 y2 y3 = some (rx, x_o_page_readers, x_o_page_day, x_o_tape_length, x_o_page_heights, x_o_page_highest, x_o_page_marked, x_o_page_shapes, x_o_page_reckoner_letters, x_o_page_reckoner_values, x_o_sky_reckoner_letters, x_o_sky_reckoner_values) ∧ f_X12_check (σ 42 1) (σ 42 2) (σ 42 3) (σ 42 28) (σ 42 29) (σ 42 30) (σ 42 31) (σ 42 32) (σ 42 33) (σ 42 34) (σ 42 35) (σ 42 36) (σ 42 37) (σ 42 38) (σ 42 39) (σ 42 40) (σ 42 48) (σ 42 49) (σ 58) (σ 48) (σ 49) (σ 46) (σ 47) (σ 65) (σ 67) (σ 63) (σ 57) (σ 66) (σ 44) (σ 68) (σ 59) (σ 61) (σ 64) (σ 45) (σ 43) (σ 62) (σ 60) (σ 56) y1 y2 y3 = some (rm, m_o_taped, m_o_atA, m_o_atB, m_o_atD, m_o_atF, m_o_atG, m_o_atH, m_o_atL, m_o_atM, m_o_atN, m_o_atS, m_o_atT, m_o_atU, m_o_atX, m_o_paperHigh, m_o_paperShape, m_o_first, m_o_greatest, m_o_highAt, m_o_isRefused, m_o_last, m_o_marked, m_o_shapeAt, m_o_worth) ∧ I (lus (lus σ [(1, (upd (σ 1) 1 x_o_tape_length)), (11, x_o_sky_reckoner_letters), (12, x_o_sky_reckoner_values), (13, (upd (upd (σ 13) 5 x_o_page_readers) 6 x_o_page_day)), (14, x_o_page_heights), (15, x_o_page_shapes), (16, x_o_page_highest), (17, x_o_page_marked), (19, x_o_page_reckoner_letters), (20, x_o_page_reckoner_values)]) [(42, (upd (upd (upd (upd (upd (upd (upd (upd (upd (upd (upd (upd (upd (upd (upd (upd (σ 42) 1 m_o_taped) 28 m_o_atA) 29 m_o_atB) 30 m_o_atD) 31 m_o_atF) 32 m_o_atG) 33 m_o_atH) 34 m_o_atL) 35 m_o_atM) 36 m_o_atN) 37 m_o_atS) 38 m_o_atT) 39 m_o_atU) 40 m_o_atX) 48 m_o_paperHigh) 49 m_o_paperShape)), (56, m_o_worth), (57, m_o_isRefused), (63, m_o_highAt), (64, m_o_shapeAt), (65, m_o_first), (66, m_o_last), (67, m_o_greatest), (68, m_o_marked)]) G
def pn_31 (I : (Nat → Nat → Int32) → kG → Prop) : Prop := ∀ (σ : Nat → Nat → Int32) (G : kG) (y1 : Int32), I σ G → ∃ (rx : Int32) (rm : Int32), f_X11_count G (σ 27 2) (σ 30 5) (σ 22 4) (σ 8 2) (σ 8 3) (σ 1 1) y1 = some (rx) ∧ f_X12_count (σ 42 1) (σ 42 2) (σ 42 3) (σ 42 4) (σ 42 5) (σ 42 6) (σ 44) y1 = some (rm) ∧ I (lus (lus σ []) []) G
end
