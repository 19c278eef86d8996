set_option maxHeartbeats 4000000 in
set_option maxRecDepth 100000 in
theorem s_X12_check_L52 (s_tape : Nat → Int32) (p3 : Int32) (o_paperHigh39_112 : Int32) (o_paperShape39_113 : Int32) (o_highAt39_114 : Nat → Int32) (o_shapeAt39_116 : Nat → Int32) (o_atA46_122 : Int32) (o_atB46_123 : Int32) (o_atD46_124 : Int32) (o_atF46_125 : Int32) (o_atG46_126 : Int32) (o_atH46_127 : Int32) (o_atL46_128 : Int32) (o_atM46_129 : Int32) (o_atN46_130 : Int32) (o_atS46_131 : Int32) (o_atT46_132 : Int32) (o_atU46_133 : Int32) (o_atX46_134 : Int32) (o_first46_135 : Nat → Int32) (o_greatest46_136 : Nat → Int32) (o_isRefused46_137 : Nat → Int32) (o_last46_138 : Nat → Int32) (o_marked46_139 : Nat → Int32) (o_worth46_140 : Nat → Int32) (K116 : Int32 → Option (Int32 × Int32 × Int32 × Int32 × Int32 × Int32 × Int32 × Int32 × Int32 × Int32 × Int32 × Int32 × Int32 × Int32 × Int32 × Int32 × Int32 × (Nat → Int32) × (Nat → Int32) × (Nat → Int32) × (Nat → Int32) × (Nat → Int32) × (Nat → Int32) × (Nat → Int32) × (Nat → Int32))) (K143 : Int32 → Option (Int32 × Int32 × Int32 × Int32 × Int32 × Int32 × Int32 × Int32 × Int32 × Int32 × Int32 × Int32 × Int32 × Int32 × Int32 × Int32 × Int32 × (Nat → Int32) × (Nat → Int32) × (Nat → Int32) × (Nat → Int32) × (Nat → Int32) × (Nat → Int32) × (Nat → Int32) × (Nat → Int32))) (K156 : Option (Int32 × Int32 × Int32 × Int32 × Int32 × Int32 × Int32 × Int32 × Int32 × Int32 × Int32 × Int32 × Int32 × Int32 × Int32 × Int32 × Int32 × (Nat → Int32) × (Nat → Int32) × (Nat → Int32) × (Nat → Int32) × (Nat → Int32) × (Nat → Int32) × (Nat → Int32) × (Nat → Int32))) (hp0 : mkOK o_marked46_139) (hp1 : 0 ≤ p3.toInt) (hp2 : p3.toInt ≤ 16) (hK116 : ∀ (a0 : Int32), Sf (K116 a0) (fun (y : Int32 × Int32 × Int32 × Int32 × Int32 × Int32 × Int32 × Int32 × Int32 × Int32 × Int32 × Int32 × Int32 × Int32 × Int32 × Int32 × Int32 × (Nat → Int32) × (Nat → Int32) × (Nat → Int32) × (Nat → Int32) × (Nat → Int32) × (Nat → Int32) × (Nat → Int32) × (Nat → Int32)) => (mkOK (y.2.2.2.2.2.2.2.2.2.2.2.2.2.2.2.2.2.2.2.2.2.2.1)) ∧ (0 ≤ (y.2.1).toInt ∧ (y.2.1).toInt ≤ 200))) (hK143 : ∀ (a0 : Int32), Sf (K143 a0) (fun (y : Int32 × Int32 × Int32 × Int32 × Int32 × Int32 × Int32 × Int32 × Int32 × Int32 × Int32 × Int32 × Int32 × Int32 × Int32 × Int32 × Int32 × (Nat → Int32) × (Nat → Int32) × (Nat → Int32) × (Nat → Int32) × (Nat → Int32) × (Nat → Int32) × (Nat → Int32) × (Nat → Int32)) => (mkOK (y.2.2.2.2.2.2.2.2.2.2.2.2.2.2.2.2.2.2.2.2.2.2.1)) ∧ (0 ≤ (y.2.1).toInt ∧ (y.2.1).toInt ≤ 200))) (hK156 : Sf (K156 ) (fun (y : Int32 × Int32 × Int32 × Int32 × Int32 × Int32 × Int32 × Int32 × Int32 × Int32 × Int32 × Int32 × Int32 × Int32 × Int32 × Int32 × Int32 × (Nat → Int32) × (Nat → Int32) × (Nat → Int32) × (Nat → Int32) × (Nat → Int32) × (Nat → Int32) × (Nat → Int32) × (Nat → Int32)) => (mkOK (y.2.2.2.2.2.2.2.2.2.2.2.2.2.2.2.2.2.2.2.2.2.2.1)) ∧ (0 ≤ (y.2.1).toInt ∧ (y.2.1).toInt ≤ 200))) : ∀ (n : Nat) (x4_259 : Int32), (0 ≤ x4_259.toInt) → (x4_259.toInt ≤ p3.toInt) → (18 - x4_259.toInt < (n : Int)) → Sf (f_X12_check_L52 s_tape p3 o_paperHigh39_112 o_paperShape39_113 o_highAt39_114 o_shapeAt39_116 o_atA46_122 o_atB46_123 o_atD46_124 o_atF46_125 o_atG46_126 o_atH46_127 o_atL46_128 o_atM46_129 o_atN46_130 o_atS46_131 o_atT46_132 o_atU46_133 o_atX46_134 o_first46_135 o_greatest46_136 o_isRefused46_137 o_last46_138 o_marked46_139 o_worth46_140 K116 K143 K156 n x4_259) (fun (y : Int32 × Int32 × Int32 × Int32 × Int32 × Int32 × Int32 × Int32 × Int32 × Int32 × Int32 × Int32 × Int32 × Int32 × Int32 × Int32 × Int32 × (Nat → Int32) × (Nat → Int32) × (Nat → Int32) × (Nat → Int32) × (Nat → Int32) × (Nat → Int32) × (Nat → Int32) × (Nat → Int32)) => (mkOK (y.2.2.2.2.2.2.2.2.2.2.2.2.2.2.2.2.2.2.2.2.2.2.1)) ∧ (0 ≤ (y.2.1).toInt ∧ (y.2.1).toInt ≤ 200)) := by
  have hFU : (100000 : Int) ≤ (FU : Int) := Int.ofNat_le.mpr FU_ge
  have g1 := rgI p3
  have g2 := rgI o_paperHigh39_112
  have g3 := rgI o_paperShape39_113
  have g4 := rgI o_atA46_122
  have g5 := rgI o_atB46_123
  have g6 := rgI o_atD46_124
  have g7 := rgI o_atF46_125
  have g8 := rgI o_atG46_126
  have g9 := rgI o_atH46_127
  have g10 := rgI o_atL46_128
  have g11 := rgI o_atM46_129
  have g12 := rgI o_atN46_130
  have g13 := rgI o_atS46_131
  have g14 := rgI o_atT46_132
  have g15 := rgI o_atU46_133
  have g16 := rgI o_atX46_134
  intro n
  induction n with
  | zero =>
    intro x4_259 hi0 hi1 hm
    have g17 := rgI x4_259
    exact absurd hm (by omega)
  | succ n ih =>
    intro x4_259 hi0 hi1 hm
    rw [f_X12_check_L52]
    have g18 := rgI x4_259
    have l19 : (0 : Int32).toInt = 0 := by decide
    refine Sf_rdI (by omega) (by omega) (fun v59_260 hv20 => ?_)
    have g21 := rgI v59_260
    have hmrv59_260 := mkOK_rd (by assumption : mkOK o_marked46_139) hv20
    refine Sf_ite (fun h22 => ?_) (fun h22 => ?_)
    · skip
      have c23 := leI h22
      exact hK156  
    · skip
      have c24 := nleI h22
      refine Sf_ite (fun h25 => ?_) (fun h25 => ?_)
      · skip
        have c26 := eqI h25
        have l27 : (3 : Int32).toInt = 3 := by decide
        have g28 := rgI (3 * p3)
        first | have e29 := mlY 3 p3 (3) (by decide) (by omega) (by omega) | skip
        refine Sf_some (show (mkOK o_marked46_139) ∧ (0 ≤ (0 : Int32).toInt ∧ (0 : Int32).toInt ≤ 200) from ?_)
        refine ⟨?_, ?_⟩ <;> (first | assumption | omega)
      · skip
        have c30 := neI h25
        have l31 : (3 : Int32).toInt = 3 := by decide
        have g32 := rgI (3 * x4_259)
        first | have e33 := mlY 3 x4_259 (3) (by decide) (by omega) (by omega) | skip
        refine Sf_cb1 (s_X12_numberAt s_tape (3 * x4_259) (by omega) (by omega)) (fun r78_270 hp34 => ?_)
        have g35 := rgI r78_270
        refine Sf_rdI (by omega) (by omega) (fun v87_275 hv36 => ?_)
        have g37 := rgI v87_275
        refine Sf_ite (fun h38 => ?_) (fun h38 => ?_)
        · skip
          have c39 := eqI h38
          have g40 := rgI ((3 * x4_259) + 1)
          first | have e41 := adN (3 * x4_259) 1 (1) (by decide) (by omega) (by omega) | skip
          refine Sf_cb1 (s_X12_numberAt s_tape ((3 * x4_259) + 1) (by omega) (by omega)) (fun r103_282 hp42 => ?_)
          have g43 := rgI r103_282
          refine Sf_rdI (by omega) (by omega) (fun v112_287 hv44 => ?_)
          have g45 := rgI v112_287
          refine Sf_ite (fun h46 => ?_) (fun h46 => ?_)
          · skip
            have c47 := eqI h46
            have g48 := rgI ((3 * x4_259) + 2)
            first | have e49 := adN (3 * x4_259) 2 (2) (by decide) (by omega) (by omega) | skip
            refine Sf_cb1 (s_X12_numberAt s_tape ((3 * x4_259) + 2) (by omega) (by omega)) (fun r130_294 hp50 => ?_)
            have g51 := rgI r130_294
            refine Sf_rdI (by omega) (by omega) (fun v139_299 hv52 => ?_)
            have g53 := rgI v139_299
            refine Sf_ite (fun h54 => ?_) (fun h54 => ?_)
            · skip
              have c55 := eqI h54
              refine Sf_nmI (fun v150_306 hv56 => ?_)
              have g57 := rgI (x4_259 + 1)
              first | have e58 := adN x4_259 1 (1) (by decide) (by omega) (by omega) | skip
              have q59 := eqI hv56
              exact ih v150_306 (by omega) (by omega) (by omega)
            · skip
              have c60 := neI h54
              exact hK143 x4_259 
          · skip
            have c61 := neI h46
            exact hK116 x4_259 
        · skip
          have c62 := neI h38
          refine Sf_some (show (mkOK o_marked46_139) ∧ (0 ≤ (0 : Int32).toInt ∧ (0 : Int32).toInt ≤ 200) from ?_)
          refine ⟨?_, ?_⟩ <;> (first | assumption | omega)
set_option maxHeartbeats 4000000 in
set_option maxRecDepth 100000 in
theorem s_X12_check (s_taped : Int32) (s_sources : Int32) (s_seed : Int32) (s_atA : Int32) (s_atB : Int32) (s_atD : Int32) (s_atF : Int32) (s_atG : Int32) (s_atH : Int32) (s_atL : Int32) (s_atM : Int32) (s_atN : Int32) (s_atS : Int32) (s_atT : Int32) (s_atU : Int32) (s_atX : Int32) (s_paperHigh : Int32) (s_paperShape : Int32) (s_byStar : Nat → Int32) (s_code : Nat → Int32) (s_codeArg : Nat → Int32) (s_codeFrom : Nat → Int32) (s_codeTo : Nat → Int32) (s_first : Nat → Int32) (s_greatest : Nat → Int32) (s_highAt : Nat → Int32) (s_isRefused : Nat → Int32) (s_last : Nat → Int32) (s_many : Nat → Int32) (s_marked : Nat → Int32) (s_minuteOf : Nat → Int32) (s_shape : Nat → Int32) (s_shapeAt : Nat → Int32) (s_sumFrom : Nat → Int32) (s_tape : Nat → Int32) (s_weekdays : Nat → Int32) (s_wide : Nat → Int32) (s_worth : Nat → Int32) (p1 : Int32) (p2 : Int32) (p3 : Int32) (hp0 : 0 ≤ s_sources.toInt) (hp1 : s_sources.toInt ≤ 10) (hp2 : rOK s_code s_codeFrom s_codeTo s_sumFrom s_many) (hp3 : mkOK s_marked) (hp4 : 0 ≤ s_taped.toInt) (hp5 : s_taped.toInt ≤ 200) : Sf (f_X12_check s_taped s_sources s_seed s_atA s_atB s_atD s_atF s_atG s_atH s_atL s_atM s_atN s_atS s_atT s_atU s_atX s_paperHigh s_paperShape s_byStar s_code s_codeArg s_codeFrom s_codeTo s_first s_greatest s_highAt s_isRefused s_last s_many s_marked s_minuteOf s_shape s_shapeAt s_sumFrom s_tape s_weekdays s_wide s_worth p1 p2 p3) (fun (y : Int32 × Int32 × Int32 × Int32 × Int32 × Int32 × Int32 × Int32 × Int32 × Int32 × Int32 × Int32 × Int32 × Int32 × Int32 × Int32 × Int32 × (Nat → Int32) × (Nat → Int32) × (Nat → Int32) × (Nat → Int32) × (Nat → Int32) × (Nat → Int32) × (Nat → Int32) × (Nat → Int32)) => (mkOK (y.2.2.2.2.2.2.2.2.2.2.2.2.2.2.2.2.2.2.2.2.2.2.1)) ∧ (0 ≤ (y.2.1).toInt ∧ (y.2.1).toInt ≤ 200)) := by
  have g1 := rgI s_taped
  have g2 := rgI s_sources
  have g3 := rgI s_seed
  have g4 := rgI s_atA
  have g5 := rgI s_atB
  have g6 := rgI s_atD
  have g7 := rgI s_atF
  have g8 := rgI s_atG
  have g9 := rgI s_atH
  have g10 := rgI s_atL
  have g11 := rgI s_atM
  have g12 := rgI s_atN
  have g13 := rgI s_atS
  have g14 := rgI s_atT
  have g15 := rgI s_atU
  have g16 := rgI s_atX
  have g17 := rgI s_paperHigh
  have g18 := rgI s_paperShape
  have g19 := rgI p1
  have g20 := rgI p2
  have g21 := rgI p3
  have hFU : (100000 : Int) ≤ (FU : Int) := Int.ofNat_le.mpr FU_ge
  rw [f_X12_check]
  refine Sf_cb1 (s_X12_isReader p1 ) (fun r1_1 hp22 => ?_)
  have hp22 : ((r1_1.toInt = 0 ∨ r1_1.toInt = 1)) ∧ ((r1_1.toInt = 1 ∧ 0 ≤ p1.toInt ∧ p1.toInt ≤ 3) ∨ (r1_1.toInt = 0 ∧ (p1.toInt < 0 ∨ 3 < p1.toInt))) := hp22
  obtain ⟨hq23, hq24⟩ := hp22
  have g25 := rgI r1_1
  refine Sf_ite (fun h26 => ?_) (fun h26 => ?_)
  · skip
    have l27 : (0 : Int32).toInt = 0 := by decide
    have c28 := eqI h26
    have l29 : ((-2) : Int32).toInt = -2 := by decide
    refine Sf_some (show (mkOK s_marked) ∧ (0 ≤ s_taped.toInt ∧ s_taped.toInt ≤ 200) from ?_)
    refine ⟨?_, ?_⟩ <;> (first | assumption | omega)
  · skip
    have l30 : (0 : Int32).toInt = 0 := by decide
    have c31 := neI h26
    refine Sf_cb1 (s_X12_isDay p2 ) (fun r8_34 hp32 => ?_)
    have hp32 : ((r8_34.toInt = 0 ∨ r8_34.toInt = 1)) ∧ ((r8_34.toInt = 1 ∧ 0 ≤ p2.toInt ∧ p2.toInt ≤ 399) ∨ (r8_34.toInt = 0 ∧ (p2.toInt < 0 ∨ 399 < p2.toInt))) := hp32
    obtain ⟨hq33, hq34⟩ := hp32
    have g35 := rgI r8_34
    refine Sf_ite (fun h36 => ?_) (fun h36 => ?_)
    · skip
      have c37 := eqI h36
      have l38 : ((-2) : Int32).toInt = -2 := by decide
      refine Sf_some (show (mkOK s_marked) ∧ (0 ≤ s_taped.toInt ∧ s_taped.toInt ≤ 200) from ?_)
      refine ⟨?_, ?_⟩ <;> (first | assumption | omega)
    · skip
      have c39 := neI h36
      refine Sf_ite (fun h40 => ?_) (fun h40 => ?_)
      · skip
        have c41 := ltI h40
        have l42 : ((-2) : Int32).toInt = -2 := by decide
        refine Sf_some (show (mkOK s_marked) ∧ (0 ≤ s_taped.toInt ∧ s_taped.toInt ≤ 200) from ?_)
        refine ⟨?_, ?_⟩ <;> (first | assumption | omega)
      · skip
        have c43 := nltI h40
        refine Sf_ite (fun h44 => ?_) (fun h44 => ?_)
        · skip
          have l45 : (12 : Int32).toInt = 12 := by decide
          have g46 := rgI (s_taped / 12)
          have d47 := dn_ s_taped 12 12 (by decide) (by decide)
          have c48 := leI h44
          refine Sf_cb19 (s_X12_lays s_sources s_seed s_atA s_atB s_atD s_atF s_atG s_atH s_atL s_atM s_atN s_atS s_atT s_atU s_atX s_paperHigh s_paperShape s_byStar s_code s_codeArg s_codeFrom s_codeTo s_highAt s_isRefused s_many s_minuteOf s_shape s_shapeAt s_sumFrom s_weekdays s_wide s_worth p2 (by omega) (by omega) (by assumption)) (fun o_atA39_99 o_atB39_100 o_atD39_101 o_atF39_102 o_atG39_103 o_atH39_104 o_atL39_105 o_atM39_106 o_atN39_107 o_atS39_108 o_atT39_109 o_atU39_110 o_atX39_111 o_paperHigh39_112 o_paperShape39_113 o_highAt39_114 o_isRefused39_115 o_shapeAt39_116 o_worth39_117 hp49 => ?_)
          have g50 := rgI o_atA39_99
          have g51 := rgI o_atB39_100
          have g52 := rgI o_atD39_101
          have g53 := rgI o_atF39_102
          have g54 := rgI o_atG39_103
          have g55 := rgI o_atH39_104
          have g56 := rgI o_atL39_105
          have g57 := rgI o_atM39_106
          have g58 := rgI o_atN39_107
          have g59 := rgI o_atS39_108
          have g60 := rgI o_atT39_109
          have g61 := rgI o_atU39_110
          have g62 := rgI o_atX39_111
          have g63 := rgI o_paperHigh39_112
          have g64 := rgI o_paperShape39_113
          refine Sf_cb19 (s_X12_goesOver o_atA39_99 o_atB39_100 o_atD39_101 o_atF39_102 o_atG39_103 o_atH39_104 o_atL39_105 o_atM39_106 o_atN39_107 o_atS39_108 o_atT39_109 o_atU39_110 o_atX39_111 s_code s_codeArg s_codeFrom s_codeTo s_first s_greatest o_highAt39_114 o_isRefused39_115 s_last s_many s_marked o_shapeAt39_116 o_worth39_117 p1 p2 0 (by omega) (by omega) (by omega) (by omega) (by first | assumption | exact ⟨_, ‹_›⟩) (by assumption)) (fun o_atA46_122 o_atB46_123 o_atD46_124 o_atF46_125 o_atG46_126 o_atH46_127 o_atL46_128 o_atM46_129 o_atN46_130 o_atS46_131 o_atT46_132 o_atU46_133 o_atX46_134 o_first46_135 o_greatest46_136 o_isRefused46_137 o_last46_138 o_marked46_139 o_worth46_140 hp65 => ?_)
          have hp65 : (mkOK o_marked46_139) := hp65
          have g66 := rgI o_atA46_122
          have g67 := rgI o_atB46_123
          have g68 := rgI o_atD46_124
          have g69 := rgI o_atF46_125
          have g70 := rgI o_atG46_126
          have g71 := rgI o_atH46_127
          have g72 := rgI o_atL46_128
          have g73 := rgI o_atM46_129
          have g74 := rgI o_atN46_130
          have g75 := rgI o_atS46_131
          have g76 := rgI o_atT46_132
          have g77 := rgI o_atU46_133
          have g78 := rgI o_atX46_134
          refine s_X12_check_L52 s_tape p3 o_paperHigh39_112 o_paperShape39_113 o_highAt39_114 o_shapeAt39_116 o_atA46_122 o_atB46_123 o_atD46_124 o_atF46_125 o_atG46_126 o_atH46_127 o_atL46_128 o_atM46_129 o_atN46_130 o_atS46_131 o_atT46_132 o_atU46_133 o_atX46_134 o_first46_135 o_greatest46_136 o_isRefused46_137 o_last46_138 o_marked46_139 o_worth46_140 (f_X12_check_J116 o_paperHigh39_112 o_paperShape39_113 o_highAt39_114 o_shapeAt39_116 o_atA46_122 o_atB46_123 o_atD46_124 o_atF46_125 o_atG46_126 o_atH46_127 o_atL46_128 o_atM46_129 o_atN46_130 o_atS46_131 o_atT46_132 o_atU46_133 o_atX46_134 o_first46_135 o_greatest46_136 o_isRefused46_137 o_last46_138 o_marked46_139 o_worth46_140) (f_X12_check_J143 o_paperHigh39_112 o_paperShape39_113 o_highAt39_114 o_shapeAt39_116 o_atA46_122 o_atB46_123 o_atD46_124 o_atF46_125 o_atG46_126 o_atH46_127 o_atL46_128 o_atM46_129 o_atN46_130 o_atS46_131 o_atT46_132 o_atU46_133 o_atX46_134 o_first46_135 o_greatest46_136 o_isRefused46_137 o_last46_138 o_marked46_139 o_worth46_140) (f_X12_check_J156 p3 o_paperHigh39_112 o_paperShape39_113 o_highAt39_114 o_shapeAt39_116 o_atA46_122 o_atB46_123 o_atD46_124 o_atF46_125 o_atG46_126 o_atH46_127 o_atL46_128 o_atM46_129 o_atN46_130 o_atS46_131 o_atT46_132 o_atU46_133 o_atX46_134 o_first46_135 o_greatest46_136 o_isRefused46_137 o_last46_138 o_marked46_139 o_worth46_140) (by assumption) (by omega) (by omega) ?_ ?_ ?_ FU 0 (by omega) (by omega) (by omega)
          · intro z79
            have g80 := rgI z79
            rw [f_X12_check_J116]
            have l81 : (3 : Int32).toInt = 3 := by decide
            have g82 := rgI (3 * z79)
            first | have e83 := mlY 3 z79 (3) (by decide) (by omega) (by omega) | skip
            have g84 := rgI ((3 * z79) + 1)
            first | have e85 := adN (3 * z79) 1 (1) (by decide) (by omega) (by omega) | skip
            refine Sf_some (show (mkOK o_marked46_139) ∧ (0 ≤ (0 : Int32).toInt ∧ (0 : Int32).toInt ≤ 200) from ?_)
            refine ⟨?_, ?_⟩ <;> (first | assumption | omega)
          · intro z86
            have g87 := rgI z86
            rw [f_X12_check_J143]
            have l88 : (3 : Int32).toInt = 3 := by decide
            have g89 := rgI (3 * z86)
            first | have e90 := mlY 3 z86 (3) (by decide) (by omega) (by omega) | skip
            have g91 := rgI ((3 * z86) + 2)
            first | have e92 := adN (3 * z86) 2 (2) (by decide) (by omega) (by omega) | skip
            refine Sf_some (show (mkOK o_marked46_139) ∧ (0 ≤ (0 : Int32).toInt ∧ (0 : Int32).toInt ≤ 200) from ?_)
            refine ⟨?_, ?_⟩ <;> (first | assumption | omega)
          · skip
            rw [f_X12_check_J156]
            refine Sf_rdI (by omega) (by omega) (fun v162_198 hv93 => ?_)
            have g94 := rgI v162_198
            have hmrv162_198 := mkOK_rd (by assumption : mkOK o_marked46_139) hv93
            refine Sf_ite (fun h95 => ?_) (fun h95 => ?_)
            · skip
              have c96 := eqI h95
              have l97 : ((-1) : Int32).toInt = -1 := by decide
              refine Sf_some (show (mkOK o_marked46_139) ∧ (0 ≤ (0 : Int32).toInt ∧ (0 : Int32).toInt ≤ 200) from ?_)
              refine ⟨?_, ?_⟩ <;> (first | assumption | omega)
            · skip
              have c98 := neI h95
              refine Sf_rdI (by omega) (by omega) (fun v176_205 hv99 => ?_)
              have g100 := rgI v176_205
              have hmrv176_205 := mkOK_rd (by assumption : mkOK o_marked46_139) hv99
              have l101 : (3 : Int32).toInt = 3 := by decide
              have g102 := rgI (3 * v176_205)
              first | have e103 := mlY 3 v176_205 (3) (by decide) (by omega) (by omega) | skip
              refine Sf_some (show (mkOK o_marked46_139) ∧ (0 ≤ (0 : Int32).toInt ∧ (0 : Int32).toInt ≤ 200) from ?_)
              refine ⟨?_, ?_⟩ <;> (first | assumption | omega)
        · skip
          have l104 : (12 : Int32).toInt = 12 := by decide
          have g105 := rgI (s_taped / 12)
          have d106 := dn_ s_taped 12 12 (by decide) (by decide)
          have c107 := nleI h44
          have l108 : ((-2) : Int32).toInt = -2 := by decide
          refine Sf_some (show (mkOK s_marked) ∧ (0 ≤ s_taped.toInt ∧ s_taped.toInt ≤ 200) from ?_)
          refine ⟨?_, ?_⟩ <;> (first | assumption | omega)
