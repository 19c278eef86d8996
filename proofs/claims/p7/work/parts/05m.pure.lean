noncomputable def f_X12_lies (p1 : Int64) (p2 : Int64) (p3 : Int64) : Option (Int32) :=
    if (lg_cmp p1 p2) < 0 then
    (some (0))
    else
    (if 0 < (lg_cmp p1 p3) then
      (some (0))
      else
      (some (1)))
noncomputable def f_X12_has (p1 : Int32) (p2 : Int32) : Option (Int32) :=
    if ((jshr p1 p2) &&& 1) = 1 then
    (some (1))
    else
    (some (0))
noncomputable def f_X12_push_L3 (p1 : Int32)  : Nat → Int32 → Int32 → (Nat → Int32) → Option (Int32 × (Nat → Int32))
  | 0, _, _, _ => none
  | n3 + 1, x2_2, taped__3, tape__4 =>
    if x2_2 < 0 then
    (some (taped__3, tape__4))
    else
    (nmI (ji2b (jshr p1 x2_2)) fun v19_10 =>
      wrB tape__4 200 taped__3 v19_10 fun g19_13 =>
      nmI (taped__3 + 1) fun v27_18 =>
      nmI (x2_2 + (-8)) fun v30_22 =>
      (f_X12_push_L3 p1  n3) v30_22 v27_18 g19_13)
noncomputable def f_X12_push (s_taped : Int32) (s_tape : Nat → Int32) (p1 : Int32) : Option (Int32 × (Nat → Int32)) :=
    (f_X12_push_L3 p1  FU) 24 s_taped s_tape
noncomputable def f_X12_feed (s_taped : Int32) (s_tape : Nat → Int32) (p1 : Int32) (p2 : Int32) (p3 : Int32) (p4 : Int32) (p5 : Int32) : Option (Int32 × Int32 × (Nat → Int32)) :=
    if (s_taped + 20) ≤ 200 then
    (cb2 (f_X12_push s_taped s_tape p1) fun o_taped17_4 o_tape17_5 =>
      cb2 (f_X12_push o_taped17_4 o_tape17_5 p2) fun o_taped22_10 o_tape22_11 =>
      cb2 (f_X12_push o_taped22_10 o_tape22_11 p3) fun o_taped27_16 o_tape27_17 =>
      cb2 (f_X12_push o_taped27_16 o_tape27_17 p4) fun o_taped33_22 o_tape33_23 =>
      cb2 (f_X12_push o_taped33_22 o_tape33_23 p5) fun o_taped39_28 o_tape39_29 =>
      some (o_taped39_28, o_taped39_28, o_tape39_29))
    else
    (some ((-1), s_taped, s_tape))
noncomputable def f_X12_here (s_place : Int32) (s_end : Int32) (s_tape : Nat → Int32) : Option (Int32) :=
    if s_end ≤ s_place then
    (some (0))
    else
    (rdI s_tape 200 s_place fun v19_5 =>
      some ((v19_5 &&& 255)))
noncomputable def f_X12_wrongs (s_bad : Int32) (p1 : Int32) (p2 : Int32) : Option (Int32) :=
    if 0 ≤ s_bad then
    (nmI (((-1000) * p1) - p2) fun v22_4 =>
      some (v22_4))
    else
    (some (s_bad))
noncomputable def f_X12_isGood (s_bad : Int32) : Option (Int32) :=
    if s_bad = 0 then
    (some (1))
    else
    (some (0))
noncomputable def f_X12_emit (s_bad : Int32) (s_codes : Int32) (s_newArg : Nat → Int32) (s_newCode : Nat → Int32) (p1 : Int32) (p2 : Int32) : Option (Int32 × (Nat → Int32) × (Nat → Int32)) :=
    cb1 (f_X12_isGood s_bad) fun r1_1 =>
    if r1_1 = 0 then
    (some (s_codes, s_newArg, s_newCode))
    else
    (wrI s_newCode 120 s_codes p1 fun g17_9 =>
      wrI s_newArg 120 s_codes p2 fun g27_14 =>
      nmI (s_codes + 1) fun v35_19 =>
      some (v35_19, g27_14, g17_9))
noncomputable def f_X12_top (s_stacked : Int32) (s_stack : Nat → Int32) : Option (Int32) :=
    if s_stacked ≤ 0 then
    (some (0))
    else
    (rdI s_stack 160 (s_stacked - 1) fun v17_5 =>
      some (v17_5))
noncomputable def f_X12_puts (s_place : Int32) (s_stacked : Int32) (s_stack : Nat → Int32) (p1 : Int32) : Option (Int32 × Int32 × (Nat → Int32)) :=
    wrI s_stack 160 s_stacked p1 fun g9_1 =>
    nmI (s_stacked + 1) fun v17_6 =>
    nmI (s_place + 1) fun v27_10 =>
    some (v27_10, v17_6, g9_1)
noncomputable def f_X12_opens_J18 (s_place : Int32) (s_end : Int32) (s_open : Int32) (s_stacked : Int32) (s_stack : Nat → Int32) (s_tape : Nat → Int32)  (bad__1 : Int32) : Option (Int32 × Int32 × Int32 × Int32 × (Nat → Int32)) :=
    nmI (s_open + 1) fun v25_2 =>
    cb1 (f_X12_here s_place s_end s_tape) fun r30_6 =>
    cb3 (f_X12_puts s_place s_stacked s_stack r30_6) fun o_place33_11 o_stacked33_12 o_stack33_13 =>
    some (o_place33_11, bad__1, v25_2, o_stacked33_12, o_stack33_13)
noncomputable def f_X12_opens (s_place : Int32) (s_end : Int32) (s_bad : Int32) (s_open : Int32) (s_stacked : Int32) (s_stack : Nat → Int32) (s_tape : Nat → Int32) : Option (Int32 × Int32 × Int32 × Int32 × (Nat → Int32)) :=
    if s_open = 6 then
    (cb1 (f_X12_wrongs s_bad 5 s_place) fun o_bad15_26 =>
      (f_X12_opens_J18 s_place s_end s_open s_stacked s_stack s_tape ) o_bad15_26)
    else
    ((f_X12_opens_J18 s_place s_end s_open s_stacked s_stack s_tape ) s_bad)
noncomputable def f_X12_seesDigit (s_place : Int32) (s_end : Int32) (s_tape : Nat → Int32) : Option (Int32) :=
    cb1 (f_X12_here s_place s_end s_tape) fun r1_1 =>
    cb1 (f_X12_lies (Int32.toInt64 r1_1) 48 57) fun r11_6 =>
    bo r11_6 <|
    some (r11_6)
noncomputable def f_X12_reads_L7 (s_place : Int32) (s_end : Int32) (s_tape : Nat → Int32)  : Nat → Int32 → Int32 → Int32 → Option (Int32 × Int32 × Int32)
  | 0, _, _, _ => none
  | n7 + 1, x2_3, bad__4, place__5 =>
    cb1 (f_X12_isGood bad__4) fun r8_6 =>
    if r8_6 = 0 then
    (some (x2_3, place__5, bad__4))
    else
    (cb1 (f_X12_seesDigit place__5 s_end s_tape) fun r15_17 =>
      if r15_17 = 0 then
      (some (x2_3, place__5, bad__4))
      else
      (if place__5 = (s_place + 5) then
        (cb1 (f_X12_wrongs bad__4 2 place__5) fun o_bad37_44 =>
          cb1 (f_X12_here place__5 s_end s_tape) fun r45_49 =>
          nmI (((10 * x2_3) + r45_49) - 48) fun v52_54 =>
          nmI (place__5 + 1) fun v60_58 =>
          (f_X12_reads_L7 s_place s_end s_tape  n7) v52_54 o_bad37_44 v60_58)
        else
        (cb1 (f_X12_here place__5 s_end s_tape) fun r45_31 =>
          nmI (((10 * x2_3) + r45_31) - 48) fun v52_36 =>
          nmI (place__5 + 1) fun v60_40 =>
          (f_X12_reads_L7 s_place s_end s_tape  n7) v52_36 bad__4 v60_40)))
noncomputable def f_X12_reads (s_place : Int32) (s_end : Int32) (s_bad : Int32) (s_tape : Nat → Int32) : Option (Int32 × Int32 × Int32) :=
    (f_X12_reads_L7 s_place s_end s_tape  FU) 0 s_bad s_place
noncomputable def f_X12_isTimes (p1 : Int32) : Option (Int32) :=
    if p1 = 42 then
    (some (1))
    else
    (if p1 = 47 then
      (some (1))
      else
      (if p1 = 37 then
        (some (1))
        else
        (some (0))))
noncomputable def f_X12_isPlus (p1 : Int32) : Option (Int32) :=
    if p1 = 43 then
    (some (1))
    else
    (if p1 = 45 then
      (some (1))
      else
      (some (0)))
noncomputable def f_X12_isSign (p1 : Int32) : Option (Int32) :=
    if p1 = 60 then
    (some (1))
    else
    (if p1 = 62 then
      (some (1))
      else
      (if p1 = 61 then
        (some (1))
        else
        (some (0))))
noncomputable def f_X12_isValue (p1 : Int32) : Option (Int32) :=
    if p1 = 97 then
    (some (1))
    else
    (if p1 = 98 then
      (some (1))
      else
      (if p1 = 100 then
        (some (1))
        else
        (if p1 = 102 then
          (some (1))
          else
          (if p1 = 103 then
            (some (1))
            else
            (if p1 = 104 then
              (some (1))
              else
              (if p1 = 108 then
                (some (1))
                else
                (if p1 = 109 then
                  (some (1))
                  else
                  (if p1 = 110 then
                    (some (1))
                    else
                    (if p1 = 115 then
                      (some (1))
                      else
                      (if p1 = 116 then
                        (some (1))
                        else
                        (if p1 = 117 then
                          (some (1))
                          else
                          (if p1 = 120 then
                            (some (1))
                            else
                            (some (0))))))))))))))
noncomputable def f_X12_sums_J24 (s_bad : Int32) (s_stack : Nat → Int32) (codes__1 : Int32) (stacked__2 : Int32) (newArg__3 : Nat → Int32) (newCode__4 : Nat → Int32) (K0 : Int32 → Int32 → (Nat → Int32) → (Nat → Int32) → Option (Int32 × Int32 × (Nat → Int32) × (Nat → Int32)))  : Option (Int32 × Int32 × (Nat → Int32) × (Nat → Int32)) :=
    cb1 (f_X12_top stacked__2 s_stack) fun r26_15 =>
    cb3 (f_X12_emit s_bad codes__1 newArg__3 newCode__4 r26_15 0) fun o_codes30_20 o_newArg30_21 o_newCode30_22 =>
    nmI (stacked__2 - 1) fun v40_27 =>
    K0 o_codes30_20 v40_27 o_newArg30_21 o_newCode30_22
noncomputable def f_X12_sums_L0 (s_bad : Int32) (s_stack : Nat → Int32) (p1 : Int32)  : Nat → Int32 → Int32 → (Nat → Int32) → (Nat → Int32) → Option (Int32 × Int32 × (Nat → Int32) × (Nat → Int32))
  | 0, _, _, _, _ => none
  | n0 + 1, codes__1, stacked__2, newArg__3, newCode__4 =>
    cb1 (f_X12_top stacked__2 s_stack) fun r1_5 =>
    cb1 (f_X12_isTimes r1_5) fun r4_10 =>
    if r4_10 = 0 then
    (if p1 = 0 then
      (some (codes__1, stacked__2, newArg__3, newCode__4))
      else
      (cb1 (f_X12_top stacked__2 s_stack) fun r15_41 =>
        cb1 (f_X12_isPlus r15_41) fun r18_46 =>
        if r18_46 = 0 then
        (some (codes__1, stacked__2, newArg__3, newCode__4))
        else
        ((f_X12_sums_J24 s_bad s_stack codes__1 stacked__2 newArg__3 newCode__4 (f_X12_sums_L0 s_bad s_stack p1  n0)))))
    else
    ((f_X12_sums_J24 s_bad s_stack codes__1 stacked__2 newArg__3 newCode__4 (f_X12_sums_L0 s_bad s_stack p1  n0)))
noncomputable def f_X12_sums (s_bad : Int32) (s_codes : Int32) (s_stacked : Int32) (s_newArg : Nat → Int32) (s_newCode : Nat → Int32) (s_stack : Nat → Int32) (p1 : Int32) : Option (Int32 × Int32 × (Nat → Int32) × (Nat → Int32)) :=
    (f_X12_sums_L0 s_bad s_stack p1  FU) s_codes s_stacked s_newArg s_newCode
noncomputable def f_X12_joins_J22 (s_bad : Int32) (s_stack : Nat → Int32) (codes__1 : Int32) (stacked__2 : Int32) (newArg__3 : Nat → Int32) (newCode__4 : Nat → Int32) (K0 : Int32 → Int32 → (Nat → Int32) → (Nat → Int32) → Option (Int32 × Int32 × (Nat → Int32) × (Nat → Int32)))  : Option (Int32 × Int32 × (Nat → Int32) × (Nat → Int32)) :=
    cb1 (f_X12_top stacked__2 s_stack) fun r24_10 =>
    cb3 (f_X12_emit s_bad codes__1 newArg__3 newCode__4 r24_10 0) fun o_codes28_15 o_newArg28_16 o_newCode28_17 =>
    nmI (stacked__2 - 1) fun v38_22 =>
    K0 o_codes28_15 v38_22 o_newArg28_16 o_newCode28_17
noncomputable def f_X12_joins_L0 (s_bad : Int32) (s_stack : Nat → Int32) (p1 : Int32)  : Nat → Int32 → Int32 → (Nat → Int32) → (Nat → Int32) → Option (Int32 × Int32 × (Nat → Int32) × (Nat → Int32))
  | 0, _, _, _, _ => none
  | n0 + 1, codes__1, stacked__2, newArg__3, newCode__4 =>
    cb1 (f_X12_top stacked__2 s_stack) fun r1_5 =>
    if r1_5 = 38 then
    ((f_X12_joins_J22 s_bad s_stack codes__1 stacked__2 newArg__3 newCode__4 (f_X12_joins_L0 s_bad s_stack p1  n0)))
    else
    (if p1 = 0 then
      (some (codes__1, stacked__2, newArg__3, newCode__4))
      else
      (cb1 (f_X12_top stacked__2 s_stack) fun r14_36 =>
        if r14_36 = 124 then
        ((f_X12_joins_J22 s_bad s_stack codes__1 stacked__2 newArg__3 newCode__4 (f_X12_joins_L0 s_bad s_stack p1  n0)))
        else
        (some (codes__1, stacked__2, newArg__3, newCode__4))))
noncomputable def f_X12_joins (s_bad : Int32) (s_codes : Int32) (s_stacked : Int32) (s_newArg : Nat → Int32) (s_newCode : Nat → Int32) (s_stack : Nat → Int32) (p1 : Int32) : Option (Int32 × Int32 × (Nat → Int32) × (Nat → Int32)) :=
    (f_X12_joins_L0 s_bad s_stack p1  FU) s_codes s_stacked s_newArg s_newCode
noncomputable def f_X12_ends_L0 (s_bad : Int32) (s_stack : Nat → Int32)  : Nat → Int32 → Int32 → Int32 → (Nat → Int32) → (Nat → Int32) → Option (Int32 × Int32 × Int32 × (Nat → Int32) × (Nat → Int32))
  | 0, _, _, _, _, _ => none
  | n0 + 1, codes__1, open__2, stacked__3, newArg__4, newCode__5 =>
    cb1 (f_X12_top stacked__3 s_stack) fun r1_6 =>
    if r1_6 = 33 then
    (cb3 (f_X12_emit s_bad codes__1 newArg__4 newCode__5 2 0) fun o_codes12_19 o_newArg12_20 o_newCode12_21 =>
      nmI (stacked__3 - 1) fun v22_26 =>
      nmI (open__2 - 1) fun v32_30 =>
      (f_X12_ends_L0 s_bad s_stack  n0) o_codes12_19 v32_30 v22_26 o_newArg12_20 o_newCode12_21)
    else
    (some (codes__1, open__2, stacked__3, newArg__4, newCode__5))
noncomputable def f_X12_ends (s_bad : Int32) (s_codes : Int32) (s_open : Int32) (s_stacked : Int32) (s_newArg : Nat → Int32) (s_newCode : Nat → Int32) (s_stack : Nat → Int32) : Option (Int32 × Int32 × Int32 × (Nat → Int32) × (Nat → Int32)) :=
    (f_X12_ends_L0 s_bad s_stack  FU) s_codes s_open s_stacked s_newArg s_newCode
noncomputable def f_X12_factor_J23 (s_end : Int32) (s_codes : Int32) (s_newArg : Nat → Int32) (s_newCode : Nat → Int32) (s_tape : Nat → Int32)  (bad__1 : Int32) (open__2 : Int32) (place__3 : Int32) (stacked__4 : Int32) (stack__5 : Nat → Int32) : Option (Int32 × Int32 × Int32 × Int32 × Int32 × (Nat → Int32) × (Nat → Int32) × (Nat → Int32)) :=
    cb1 (f_X12_isGood bad__1) fun r24_6 =>
    if r24_6 = 0 then
    (some (place__3, bad__1, s_codes, open__2, stacked__4, s_newArg, s_newCode, stack__5))
    else
    (cb1 (f_X12_seesDigit place__3 s_end s_tape) fun r32_14 =>
      if r32_14 = 0 then
      (cb1 (f_X12_here place__3 s_end s_tape) fun r51_22 =>
        cb1 (f_X12_isValue r51_22) fun r54_27 =>
        if r54_27 = 0 then
        (cb1 (f_X12_wrongs bad__1 1 place__3) fun o_bad88_35 =>
          some (place__3, o_bad88_35, s_codes, open__2, stacked__4, s_newArg, s_newCode, stack__5))
        else
        (cb1 (f_X12_here place__3 s_end s_tape) fun r63_48 =>
          cb3 (f_X12_emit bad__1 s_codes s_newArg s_newCode 1 r63_48) fun o_codes66_53 o_newArg66_54 o_newCode66_55 =>
          nmI (place__3 + 1) fun v76_60 =>
          some (v76_60, bad__1, o_codes66_53, open__2, stacked__4, o_newArg66_54, o_newCode66_55, stack__5)))
      else
      (cb3 (f_X12_reads place__3 s_end bad__1 s_tape) fun r41_72 o_place41_73 o_bad41_74 =>
        cb3 (f_X12_emit o_bad41_74 s_codes s_newArg s_newCode 0 r41_72) fun o_codes44_79 o_newArg44_80 o_newCode44_81 =>
        some (o_place41_73, o_bad41_74, o_codes44_79, open__2, stacked__4, o_newArg44_80, o_newCode44_81, stack__5)))
noncomputable def f_X12_factor_L0 (s_end : Int32) (s_tape : Nat → Int32) (K23 : Int32 → Int32 → Int32 → Int32 → (Nat → Int32) → Option (Int32 × Int32 × Int32 × Int32 × Int32 × (Nat → Int32) × (Nat → Int32) × (Nat → Int32))) : Nat → Int32 → Int32 → Int32 → Int32 → (Nat → Int32) → Option (Int32 × Int32 × Int32 × Int32 × Int32 × (Nat → Int32) × (Nat → Int32) × (Nat → Int32))
  | 0, _, _, _, _, _ => none
  | n0 + 1, bad__102, open__103, place__104, stacked__105, stack__106 =>
    cb1 (f_X12_isGood bad__102) fun r1_107 =>
    if r1_107 = 0 then
    (K23 bad__102 open__103 place__104 stacked__105 stack__106)
    else
    (cb1 (f_X12_here place__104 s_end s_tape) fun r8_115 =>
      if r8_115 = 91 then
      (cb5 (f_X12_opens place__104 s_end bad__102 open__103 stacked__105 stack__106 s_tape) fun o_place17_123 o_bad17_124 o_open17_125 o_stacked17_126 o_stack17_127 =>
        (f_X12_factor_L0 s_end s_tape K23 n0) o_bad17_124 o_open17_125 o_place17_123 o_stacked17_126 o_stack17_127)
      else
      (K23 bad__102 open__103 place__104 stacked__105 stack__106))
noncomputable def f_X12_factor (s_place : Int32) (s_end : Int32) (s_bad : Int32) (s_codes : Int32) (s_open : Int32) (s_stacked : Int32) (s_newArg : Nat → Int32) (s_newCode : Nat → Int32) (s_stack : Nat → Int32) (s_tape : Nat → Int32) : Option (Int32 × Int32 × Int32 × Int32 × Int32 × (Nat → Int32) × (Nat → Int32) × (Nat → Int32)) :=
    (f_X12_factor_L0 s_end s_tape (f_X12_factor_J23 s_end s_codes s_newArg s_newCode s_tape ) FU) s_bad s_open s_place s_stacked s_stack
noncomputable def f_X12_stays_J19 (s_stack : Nat → Int32) (r1_1 : Int32)  (bad__12 : Int32) (codes__13 : Int32) (isBehind__14 : Int32) (open__15 : Int32) (place__16 : Int32) (stacked__17 : Int32) (newArg__18 : Nat → Int32) (newCode__19 : Nat → Int32) : Option (Int32 × Int32 × Int32 × Int32 × Int32 × Int32 × Int32 × (Nat → Int32) × (Nat → Int32) × (Nat → Int32)) :=
    cb1 (f_X12_isPlus r1_1) fun r21_20 =>
    cb4 (f_X12_sums bad__12 codes__13 stacked__17 newArg__18 newCode__19 s_stack r21_20) fun o_codes24_25 o_stacked24_26 o_newArg24_27 o_newCode24_28 =>
    cb3 (f_X12_puts place__16 o_stacked24_26 s_stack r1_1) fun o_place29_33 o_stacked29_34 o_stack29_35 =>
    some (1, o_place29_33, bad__12, o_codes24_25, open__15, o_stacked29_34, isBehind__14, o_newArg24_27, o_newCode24_28, o_stack29_35)
noncomputable def f_X12_stays (s_place : Int32) (s_end : Int32) (s_bad : Int32) (s_codes : Int32) (s_open : Int32) (s_stacked : Int32) (s_isBehind : Int32) (s_newArg : Nat → Int32) (s_newCode : Nat → Int32) (s_stack : Nat → Int32) (s_tape : Nat → Int32) : Option (Int32 × Int32 × Int32 × Int32 × Int32 × Int32 × Int32 × (Nat → Int32) × (Nat → Int32) × (Nat → Int32)) :=
    cb1 (f_X12_here s_place s_end s_tape) fun r1_1 =>
    cb1 (f_X12_isTimes r1_1) fun r6_7 =>
    if r6_7 = 0 then
    (cb1 (f_X12_isPlus r1_1) fun r13_53 =>
      if r13_53 = 0 then
      (cb4 (f_X12_sums s_bad s_codes s_stacked s_newArg s_newCode s_stack 1) fun o_codes36_61 o_stacked36_62 o_newArg36_63 o_newCode36_64 =>
        if r1_1 = 93 then
        (cb1 (f_X12_top o_stacked36_62 s_stack) fun r48_72 =>
          if r48_72 = 91 then
          (nmI (o_stacked36_62 - 1) fun v74_80 =>
            nmI (s_open - 1) fun v84_84 =>
            nmI (s_place + 1) fun v94_88 =>
            some (1, v94_88, s_bad, o_codes36_61, v84_84, v74_80, 1, o_newArg36_63, o_newCode36_64, s_stack))
          else
          (cb1 (f_X12_wrongs s_bad 1 s_place) fun o_bad62_103 =>
            some (0, s_place, o_bad62_103, o_codes36_61, s_open, o_stacked36_62, s_isBehind, o_newArg36_63, o_newCode36_64, s_stack)))
        else
        (some (0, s_place, s_bad, o_codes36_61, s_open, o_stacked36_62, s_isBehind, o_newArg36_63, o_newCode36_64, s_stack)))
      else
      ((f_X12_stays_J19 s_stack r1_1 ) s_bad s_codes s_isBehind s_open s_place s_stacked s_newArg s_newCode))
    else
    ((f_X12_stays_J19 s_stack r1_1 ) s_bad s_codes s_isBehind s_open s_place s_stacked s_newArg s_newCode)
noncomputable def f_X12_value_J57   (bad__3 : Int32) (codes__4 : Int32) (isBehind__5 : Int32) (open__6 : Int32) (place__7 : Int32) (stacked__8 : Int32) (newArg__9 : Nat → Int32) (newCode__10 : Nat → Int32) (stack__11 : Nat → Int32) : Option (Int32 × Int32 × Int32 × Int32 × Int32 × Int32 × (Nat → Int32) × (Nat → Int32) × (Nat → Int32)) :=
    cb1 (f_X12_isGood bad__3) fun r58_12 =>
    if r58_12 = 0 then
    (some (place__7, bad__3, codes__4, open__6, stacked__8, isBehind__5, newArg__9, newCode__10, stack__11))
    else
    (cb1 (f_X12_top stacked__8 stack__11) fun r65_29 =>
      if r65_29 = 91 then
      (cb1 (f_X12_wrongs bad__3 1 place__7) fun o_bad79_46 =>
        some (place__7, o_bad79_46, codes__4, open__6, stacked__8, isBehind__5, newArg__9, newCode__10, stack__11))
      else
      (some (place__7, bad__3, codes__4, open__6, stacked__8, isBehind__5, newArg__9, newCode__10, stack__11)))
noncomputable def f_X12_value_J29 (s_end : Int32) (s_tape : Nat → Int32) (K7 : Int32 → Int32 → Int32 → Int32 → Int32 → Int32 → Int32 → (Nat → Int32) → (Nat → Int32) → (Nat → Int32) → Option (Int32 × Int32 × Int32 × Int32 × Int32 × Int32 × (Nat → Int32) × (Nat → Int32) × (Nat → Int32))) (bad__81 : Int32) (codes__82 : Int32) (open__83 : Int32) (place__84 : Int32) (stacked__85 : Int32) (newArg__86 : Nat → Int32) (newCode__87 : Nat → Int32) (stack__88 : Nat → Int32) : Option (Int32 × Int32 × Int32 × Int32 × Int32 × Int32 × (Nat → Int32) × (Nat → Int32) × (Nat → Int32)) :=
    cb1 (f_X12_isGood bad__81) fun r35_90 =>
    if r35_90 = 0 then
    (K7 0 bad__81 codes__82 0 open__83 place__84 stacked__85 newArg__86 newCode__87 stack__88)
    else
    (cb10 (f_X12_stays place__84 s_end bad__81 codes__82 open__83 stacked__85 0 newArg__86 newCode__87 stack__88 s_tape) fun r42_99 o_place42_100 o_bad42_101 o_codes42_102 o_open42_103 o_stacked42_104 o_isBehind42_105 o_newArg42_106 o_newCode42_107 o_stack42_108 =>
      if r42_99 = 0 then
      (K7 0 o_bad42_101 o_codes42_102 o_isBehind42_105 o_open42_103 o_place42_100 o_stacked42_104 o_newArg42_106 o_newCode42_107 o_stack42_108)
      else
      (K7 1 o_bad42_101 o_codes42_102 o_isBehind42_105 o_open42_103 o_place42_100 o_stacked42_104 o_newArg42_106 o_newCode42_107 o_stack42_108))
noncomputable def f_X12_value_L7 (s_end : Int32) (s_tape : Nat → Int32) (K57 : Int32 → Int32 → Int32 → Int32 → Int32 → Int32 → (Nat → Int32) → (Nat → Int32) → (Nat → Int32) → Option (Int32 × Int32 × Int32 × Int32 × Int32 × Int32 × (Nat → Int32) × (Nat → Int32) × (Nat → Int32))) : Nat → Int32 → Int32 → Int32 → Int32 → Int32 → Int32 → Int32 → (Nat → Int32) → (Nat → Int32) → (Nat → Int32) → Option (Int32 × Int32 × Int32 × Int32 × Int32 × Int32 × (Nat → Int32) × (Nat → Int32) × (Nat → Int32))
  | 0, _, _, _, _, _, _, _, _, _, _ => none
  | n7 + 1, x1_60, bad__61, codes__62, isBehind__63, open__64, place__65, stacked__66, newArg__67, newCode__68, stack__69 =>
    if x1_60 = 0 then
    (K57 bad__61 codes__62 isBehind__63 open__64 place__65 stacked__66 newArg__67 newCode__68 stack__69)
    else
    (cb1 (f_X12_isGood bad__61) fun r12_73 =>
      if r12_73 = 0 then
      (K57 bad__61 codes__62 isBehind__63 open__64 place__65 stacked__66 newArg__67 newCode__68 stack__69)
      else
      (if isBehind__63 = 0 then
        (cb8 (f_X12_factor place__65 s_end bad__61 codes__62 open__64 stacked__66 newArg__67 newCode__68 stack__69 s_tape) fun o_place26_121 o_bad26_122 o_codes26_123 o_open26_124 o_stacked26_125 o_newArg26_126 o_newCode26_127 o_stack26_128 =>
          (f_X12_value_J29 s_end s_tape (f_X12_value_L7 s_end s_tape K57 n7)) o_bad26_122 o_codes26_123 o_open26_124 o_place26_121 o_stacked26_125 o_newArg26_126 o_newCode26_127 o_stack26_128)
        else
        ((f_X12_value_J29 s_end s_tape (f_X12_value_L7 s_end s_tape K57 n7)) bad__61 codes__62 open__64 place__65 stacked__66 newArg__67 newCode__68 stack__69)))
noncomputable def f_X12_value (s_place : Int32) (s_end : Int32) (s_bad : Int32) (s_codes : Int32) (s_open : Int32) (s_stacked : Int32) (s_isBehind : Int32) (s_newArg : Nat → Int32) (s_newCode : Nat → Int32) (s_stack : Nat → Int32) (s_tape : Nat → Int32) : Option (Int32 × Int32 × Int32 × Int32 × Int32 × Int32 × (Nat → Int32) × (Nat → Int32) × (Nat → Int32)) :=
    (f_X12_value_L7 s_end s_tape f_X12_value_J57 FU) 1 s_bad s_codes 0 s_open s_place s_stacked s_newArg s_newCode s_stack
noncomputable def f_X12_pieceOfC_J43 (s_end : Int32) (s_tape : Nat → Int32)  (bad__11 : Int32) (codes__12 : Int32) (isBehind__13 : Int32) (open__14 : Int32) (place__15 : Int32) (stacked__16 : Int32) (newArg__17 : Nat → Int32) (newCode__18 : Nat → Int32) (stack__19 : Nat → Int32) : Option (Int32 × Int32 × Int32 × Int32 × Int32 × Int32 × (Nat → Int32) × (Nat → Int32) × (Nat → Int32)) :=
    cb1 (f_X12_isGood bad__11) fun r44_20 =>
    if r44_20 = 0 then
    (some (place__15, bad__11, codes__12, open__14, stacked__16, isBehind__13, newArg__17, newCode__18, stack__19))
    else
    (cb1 (f_X12_here place__15 s_end s_tape) fun r52_28 =>
      cb1 (f_X12_isSign r52_28) fun r57_34 =>
      if r57_34 = 0 then
      (cb1 (f_X12_wrongs bad__11 1 place__15) fun o_bad69_113 =>
        some (place__15, o_bad69_113, codes__12, open__14, stacked__16, isBehind__13, newArg__17, newCode__18, stack__19))
      else
      (cb3 (f_X12_puts place__15 stacked__16 stack__19 r52_28) fun o_place75_42 o_stacked75_43 o_stack75_44 =>
        cb9 (f_X12_value o_place75_42 s_end bad__11 codes__12 open__14 o_stacked75_43 isBehind__13 newArg__17 newCode__18 o_stack75_44 s_tape) fun o_place79_49 o_bad79_50 o_codes79_51 o_open79_52 o_stacked79_53 o_isBehind79_54 o_newArg79_55 o_newCode79_56 o_stack79_57 =>
        cb1 (f_X12_isGood o_bad79_50) fun r83_62 =>
        if r83_62 = 0 then
        (some (o_place79_49, o_bad79_50, o_codes79_51, o_open79_52, o_stacked79_53, o_isBehind79_54, o_newArg79_55, o_newCode79_56, o_stack79_57))
        else
        (cb1 (f_X12_top o_stacked79_53 o_stack79_57) fun r92_70 =>
          cb3 (f_X12_emit o_bad79_50 o_codes79_51 o_newArg79_55 o_newCode79_56 r92_70 0) fun o_codes96_75 o_newArg96_76 o_newCode96_77 =>
          nmI (o_stacked79_53 - 1) fun v106_82 =>
          cb5 (f_X12_ends o_bad79_50 o_codes96_75 o_open79_52 v106_82 o_newArg96_76 o_newCode96_77 o_stack79_57) fun o_codes110_86 o_open110_87 o_stacked110_88 o_newArg110_89 o_newCode110_90 =>
          some (o_place79_49, o_bad79_50, o_codes110_86, o_open110_87, o_stacked110_88, o_isBehind79_54, o_newArg110_89, o_newCode110_90, o_stack79_57))))
noncomputable def f_X12_pieceOfC_J32 (s_end : Int32) (s_codes : Int32) (s_isBehind : Int32) (s_newArg : Nat → Int32) (s_newCode : Nat → Int32) (s_tape : Nat → Int32)  (bad__1 : Int32) (open__2 : Int32) (place__3 : Int32) (stacked__4 : Int32) (stack__5 : Nat → Int32) : Option (Int32 × Int32 × Int32 × Int32 × Int32 × Int32 × (Nat → Int32) × (Nat → Int32) × (Nat → Int32)) :=
    cb1 (f_X12_isGood bad__1) fun r33_6 =>
    if r33_6 = 0 then
    ((f_X12_pieceOfC_J43 s_end s_tape ) bad__1 s_codes s_isBehind open__2 place__3 stacked__4 s_newArg s_newCode stack__5)
    else
    (cb9 (f_X12_value place__3 s_end bad__1 s_codes open__2 stacked__4 s_isBehind s_newArg s_newCode stack__5 s_tape) fun o_place40_139 o_bad40_140 o_codes40_141 o_open40_142 o_stacked40_143 o_isBehind40_144 o_newArg40_145 o_newCode40_146 o_stack40_147 =>
      (f_X12_pieceOfC_J43 s_end s_tape ) o_bad40_140 o_codes40_141 o_isBehind40_144 o_open40_142 o_place40_139 o_stacked40_143 o_newArg40_145 o_newCode40_146 o_stack40_147)
noncomputable def f_X12_pieceOfC_J25 (s_end : Int32) (s_tape : Nat → Int32) (bad__152 : Int32) (open__153 : Int32) (place__154 : Int32) (stacked__155 : Int32) (stack__156 : Nat → Int32) (K0 : Int32 → Int32 → Int32 → Int32 → (Nat → Int32) → Option (Int32 × Int32 × Int32 × Int32 × Int32 × Int32 × (Nat → Int32) × (Nat → Int32) × (Nat → Int32)))  : Option (Int32 × Int32 × Int32 × Int32 × Int32 × Int32 × (Nat → Int32) × (Nat → Int32) × (Nat → Int32)) :=
    cb5 (f_X12_opens place__154 s_end bad__152 open__153 stacked__155 stack__156 s_tape) fun o_place26_170 o_bad26_171 o_open26_172 o_stacked26_173 o_stack26_174 =>
    K0 o_bad26_171 o_open26_172 o_place26_170 o_stacked26_173 o_stack26_174
noncomputable def f_X12_pieceOfC_L0 (s_end : Int32) (s_tape : Nat → Int32) (K32 : Int32 → Int32 → Int32 → Int32 → (Nat → Int32) → Option (Int32 × Int32 × Int32 × Int32 × Int32 × Int32 × (Nat → Int32) × (Nat → Int32) × (Nat → Int32))) : Nat → Int32 → Int32 → Int32 → Int32 → (Nat → Int32) → Option (Int32 × Int32 × Int32 × Int32 × Int32 × Int32 × (Nat → Int32) × (Nat → Int32) × (Nat → Int32))
  | 0, _, _, _, _, _ => none
  | n0 + 1, bad__152, open__153, place__154, stacked__155, stack__156 =>
    cb1 (f_X12_isGood bad__152) fun r1_157 =>
    if r1_157 = 0 then
    (K32 bad__152 open__153 place__154 stacked__155 stack__156)
    else
    (cb1 (f_X12_here place__154 s_end s_tape) fun r8_165 =>
      if r8_165 = 33 then
      ((f_X12_pieceOfC_J25 s_end s_tape bad__152 open__153 place__154 stacked__155 stack__156 (f_X12_pieceOfC_L0 s_end s_tape K32 n0)))
      else
      (cb1 (f_X12_here place__154 s_end s_tape) fun r17_182 =>
        if r17_182 = 40 then
        ((f_X12_pieceOfC_J25 s_end s_tape bad__152 open__153 place__154 stacked__155 stack__156 (f_X12_pieceOfC_L0 s_end s_tape K32 n0)))
        else
        (K32 bad__152 open__153 place__154 stacked__155 stack__156)))
noncomputable def f_X12_pieceOfC (s_place : Int32) (s_end : Int32) (s_bad : Int32) (s_codes : Int32) (s_open : Int32) (s_stacked : Int32) (s_isBehind : Int32) (s_newArg : Nat → Int32) (s_newCode : Nat → Int32) (s_stack : Nat → Int32) (s_tape : Nat → Int32) : Option (Int32 × Int32 × Int32 × Int32 × Int32 × Int32 × (Nat → Int32) × (Nat → Int32) × (Nat → Int32)) :=
    (f_X12_pieceOfC_L0 s_end s_tape (f_X12_pieceOfC_J32 s_end s_codes s_isBehind s_newArg s_newCode s_tape ) FU) s_bad s_open s_place s_stacked s_stack
noncomputable def f_X12_goesBehind_J29 (s_stack : Nat → Int32) (r1_1 : Int32) (bad__7 : Int32) (codes__8 : Int32) (isOver__9 : Int32) (open__10 : Int32) (place__11 : Int32) (stacked__12 : Int32) (newArg__13 : Nat → Int32) (newCode__14 : Nat → Int32)  (t1_15 : Int32) : Option (Int32 × Int32 × Int32 × Int32 × Int32 × Int32 × Int32 × (Nat → Int32) × (Nat → Int32) × (Nat → Int32)) :=
    cb4 (f_X12_joins bad__7 codes__8 stacked__12 newArg__13 newCode__14 s_stack t1_15) fun o_codes29_16 o_stacked29_17 o_newArg29_18 o_newCode29_19 =>
    cb3 (f_X12_puts place__11 o_stacked29_17 s_stack r1_1) fun o_place34_24 o_stacked34_25 o_stack34_26 =>
    some (1, o_place34_24, bad__7, o_codes29_16, open__10, o_stacked34_25, isOver__9, o_newArg29_18, o_newCode29_19, o_stack34_26)
noncomputable def f_X12_goesBehind_J17 (s_stack : Nat → Int32) (r1_1 : Int32)  (bad__7 : Int32) (codes__8 : Int32) (isOver__9 : Int32) (open__10 : Int32) (place__11 : Int32) (stacked__12 : Int32) (newArg__13 : Nat → Int32) (newCode__14 : Nat → Int32) : Option (Int32 × Int32 × Int32 × Int32 × Int32 × Int32 × Int32 × (Nat → Int32) × (Nat → Int32) × (Nat → Int32)) :=
    if r1_1 = 124 then
    ((f_X12_goesBehind_J29 s_stack r1_1 bad__7 codes__8 isOver__9 open__10 place__11 stacked__12 newArg__13 newCode__14 ) 1)
    else
    ((f_X12_goesBehind_J29 s_stack r1_1 bad__7 codes__8 isOver__9 open__10 place__11 stacked__12 newArg__13 newCode__14 ) 0)
noncomputable def f_X12_goesBehind_J104 (s_bad : Int32) (s_stack : Nat → Int32) (o_codes58_53 : Int32) (o_newArg58_55 : Nat → Int32) (o_newCode58_56 : Nat → Int32) (v68_61 : Int32) (v78_65 : Int32) (v88_69 : Int32)  (t1_73 : Int32) : Option (Int32 × Int32 × Int32 × Int32 × Int32 × Int32 × Int32 × (Nat → Int32) × (Nat → Int32) × (Nat → Int32)) :=
    bo t1_73 <|
    if t1_73 = 0 then
    (cb5 (f_X12_ends s_bad o_codes58_53 v78_65 v68_61 o_newArg58_55 o_newCode58_56 s_stack) fun o_codes115_90 o_open115_91 o_stacked115_92 o_newArg115_93 o_newCode115_94 =>
      some (0, v88_69, s_bad, o_codes115_90, o_open115_91, o_stacked115_92, t1_73, o_newArg115_93, o_newCode115_94, s_stack))
    else
    (some (0, v88_69, s_bad, o_codes58_53, v78_65, v68_61, t1_73, o_newArg58_55, o_newCode58_56, s_stack))
noncomputable def f_X12_goesBehind (s_place : Int32) (s_end : Int32) (s_bad : Int32) (s_codes : Int32) (s_open : Int32) (s_stacked : Int32) (s_isOver : Int32) (s_newArg : Nat → Int32) (s_newCode : Nat → Int32) (s_stack : Nat → Int32) (s_tape : Nat → Int32) : Option (Int32 × Int32 × Int32 × Int32 × Int32 × Int32 × Int32 × (Nat → Int32) × (Nat → Int32) × (Nat → Int32)) :=
    cb1 (f_X12_here s_place s_end s_tape) fun r1_1 =>
    if r1_1 = 38 then
    ((f_X12_goesBehind_J17 s_stack r1_1 ) s_bad s_codes s_isOver s_open s_place s_stacked s_newArg s_newCode)
    else
    (if r1_1 = 124 then
      ((f_X12_goesBehind_J17 s_stack r1_1 ) s_bad s_codes s_isOver s_open s_place s_stacked s_newArg s_newCode)
      else
      (if r1_1 = 41 then
        (cb4 (f_X12_joins s_bad s_codes s_stacked s_newArg s_newCode s_stack 1) fun o_codes58_53 o_stacked58_54 o_newArg58_55 o_newCode58_56 =>
          nmI (o_stacked58_54 - 1) fun v68_61 =>
          nmI (s_open - 1) fun v78_65 =>
          nmI (s_place + 1) fun v88_69 =>
          if v68_61 = 0 then
          ((f_X12_goesBehind_J104 s_bad s_stack o_codes58_53 o_newArg58_55 o_newCode58_56 v68_61 v78_65 v88_69 ) 1)
          else
          ((f_X12_goesBehind_J104 s_bad s_stack o_codes58_53 o_newArg58_55 o_newCode58_56 v68_61 v78_65 v88_69 ) 0))
        else
        (cb1 (f_X12_wrongs s_bad 1 s_place) fun o_bad51_112 =>
          some (0, s_place, o_bad51_112, s_codes, s_open, s_stacked, s_isOver, s_newArg, s_newCode, s_stack))))
noncomputable def f_X12_condition_J59 (s_end : Int32) (s_tape : Nat → Int32) (x1_26 : Int32) (isOver__30 : Int32) (K37 : Int32 → Int32 → Int32 → Int32 → Int32 → Int32 → Int32 → Int32 → (Nat → Int32) → (Nat → Int32) → (Nat → Int32) → Option (Int32 × Int32 × Int32 × Int32 × Int32 × Int32 × Int32 × (Nat → Int32) × (Nat → Int32) × (Nat → Int32))) (bad__68 : Int32) (codes__69 : Int32) (isBehind__70 : Int32) (open__71 : Int32) (place__72 : Int32) (stacked__73 : Int32) (newArg__74 : Nat → Int32) (newCode__75 : Nat → Int32) (stack__76 : Nat → Int32) : Option (Int32 × Int32 × Int32 × Int32 × Int32 × Int32 × Int32 × (Nat → Int32) × (Nat → Int32) × (Nat → Int32)) :=
    cb1 (f_X12_isGood bad__68) fun r60_77 =>
    if r60_77 = 0 then
    (K37 x1_26 bad__68 codes__69 isBehind__70 isOver__30 open__71 place__72 stacked__73 newArg__74 newCode__75 stack__76)
    else
    (cb10 (f_X12_goesBehind place__72 s_end bad__68 codes__69 open__71 stacked__73 isOver__30 newArg__74 newCode__75 stack__76 s_tape) fun r67_85 o_place67_86 o_bad67_87 o_codes67_88 o_open67_89 o_stacked67_90 o_isOver67_91 o_newArg67_92 o_newCode67_93 o_stack67_94 =>
      K37 r67_85 o_bad67_87 o_codes67_88 isBehind__70 o_isOver67_91 o_open67_89 o_place67_86 o_stacked67_90 o_newArg67_92 o_newCode67_93 o_stack67_94)
noncomputable def f_X12_condition_L37 (s_end : Int32) (s_tape : Nat → Int32)  : Nat → Int32 → Int32 → Int32 → Int32 → Int32 → Int32 → Int32 → Int32 → (Nat → Int32) → (Nat → Int32) → (Nat → Int32) → Option (Int32 × Int32 × Int32 × Int32 × Int32 × Int32 × Int32 × (Nat → Int32) × (Nat → Int32) × (Nat → Int32))
  | 0, _, _, _, _, _, _, _, _, _, _, _ => none
  | n37 + 1, x1_26, bad__27, codes__28, isBehind__29, isOver__30, open__31, place__32, stacked__33, newArg__34, newCode__35, stack__36 =>
    cb1 (f_X12_isGood bad__27) fun r38_37 =>
    if r38_37 = 0 then
    (some (place__32, bad__27, codes__28, open__31, stacked__33, isOver__30, isBehind__29, newArg__34, newCode__35, stack__36))
    else
    (if isOver__30 = 0 then
      (if x1_26 = 0 then
        ((f_X12_condition_J59 s_end s_tape x1_26 isOver__30 (f_X12_condition_L37 s_end s_tape  n37)) bad__27 codes__28 isBehind__29 open__31 place__32 stacked__33 newArg__34 newCode__35 stack__36)
        else
        (cb9 (f_X12_pieceOfC place__32 s_end bad__27 codes__28 open__31 stacked__33 isBehind__29 newArg__34 newCode__35 stack__36 s_tape) fun o_place56_103 o_bad56_104 o_codes56_105 o_open56_106 o_stacked56_107 o_isBehind56_108 o_newArg56_109 o_newCode56_110 o_stack56_111 =>
          (f_X12_condition_J59 s_end s_tape x1_26 isOver__30 (f_X12_condition_L37 s_end s_tape  n37)) o_bad56_104 o_codes56_105 o_isBehind56_108 o_open56_106 o_place56_103 o_stacked56_107 o_newArg56_109 o_newCode56_110 o_stack56_111))
      else
      (some (place__32, bad__27, codes__28, open__31, stacked__33, isOver__30, isBehind__29, newArg__34, newCode__35, stack__36)))
noncomputable def f_X12_condition_J23 (s_place : Int32) (s_end : Int32) (s_codes : Int32) (s_open : Int32) (s_stacked : Int32) (s_isBehind : Int32) (s_newArg : Nat → Int32) (s_newCode : Nat → Int32) (s_stack : Nat → Int32) (s_tape : Nat → Int32)  (bad__7 : Int32) : Option (Int32 × Int32 × Int32 × Int32 × Int32 × Int32 × Int32 × (Nat → Int32) × (Nat → Int32) × (Nat → Int32)) :=
    cb1 (f_X12_isGood bad__7) fun r24_8 =>
    if r24_8 = 0 then
    (some (s_place, bad__7, s_codes, s_open, s_stacked, 0, s_isBehind, s_newArg, s_newCode, s_stack))
    else
    (cb5 (f_X12_opens s_place s_end bad__7 s_open s_stacked s_stack s_tape) fun o_place32_16 o_bad32_17 o_open32_18 o_stacked32_19 o_stack32_20 =>
      (f_X12_condition_L37 s_end s_tape  FU) 1 o_bad32_17 s_codes s_isBehind 0 o_open32_18 o_place32_16 o_stacked32_19 s_newArg s_newCode o_stack32_20)
noncomputable def f_X12_condition (s_place : Int32) (s_end : Int32) (s_bad : Int32) (s_codes : Int32) (s_open : Int32) (s_stacked : Int32) (s_isOver : Int32) (s_isBehind : Int32) (s_newArg : Nat → Int32) (s_newCode : Nat → Int32) (s_stack : Nat → Int32) (s_tape : Nat → Int32) : Option (Int32 × Int32 × Int32 × Int32 × Int32 × Int32 × Int32 × (Nat → Int32) × (Nat → Int32) × (Nat → Int32)) :=
    cb1 (f_X12_here s_place s_end s_tape) fun r6_2 =>
    if r6_2 = 40 then
    ((f_X12_condition_J23 s_place s_end s_codes s_open s_stacked s_isBehind s_newArg s_newCode s_stack s_tape ) s_bad)
    else
    (cb1 (f_X12_wrongs s_bad 1 s_place) fun o_bad20_129 =>
      (f_X12_condition_J23 s_place s_end s_codes s_open s_stacked s_isBehind s_newArg s_newCode s_stack s_tape ) o_bad20_129)
noncomputable def f_X12_clause_J121 (s_clauses : Int32) (s_newTo : Nat → Int32) (g68_16 : Nat → Int32) (g109_36 : Nat → Int32)  (bad__46 : Int32) (codes__47 : Int32) (isBehind__48 : Int32) (isOver__49 : Int32) (open__50 : Int32) (place__51 : Int32) (stacked__52 : Int32) (newArg__53 : Nat → Int32) (newCode__54 : Nat → Int32) (stack__55 : Nat → Int32) : Option (Int32 × Int32 × Int32 × Int32 × Int32 × Int32 × Int32 × Int32 × (Nat → Int32) × (Nat → Int32) × (Nat → Int32) × (Nat → Int32) × (Nat → Int32) × (Nat → Int32)) :=
    wrI s_newTo 12 s_clauses codes__47 fun g133_56 =>
    nmI (s_clauses + 1) fun v141_61 =>
    some (place__51, bad__46, v141_61, codes__47, open__50, stacked__52, isOver__49, isBehind__48, newArg__53, newCode__54, g109_36, g68_16, g133_56, stack__55)
noncomputable def f_X12_clause_J97 (s_end : Int32) (s_clauses : Int32) (s_isOver : Int32) (s_newFrom : Nat → Int32) (s_newTo : Nat → Int32) (s_tape : Nat → Int32) (g68_16 : Nat → Int32)  (bad__27 : Int32) (codes__28 : Int32) (isBehind__29 : Int32) (open__30 : Int32) (place__31 : Int32) (stacked__32 : Int32) (newArg__33 : Nat → Int32) (newCode__34 : Nat → Int32) (stack__35 : Nat → Int32) : Option (Int32 × Int32 × Int32 × Int32 × Int32 × Int32 × Int32 × Int32 × (Nat → Int32) × (Nat → Int32) × (Nat → Int32) × (Nat → Int32) × (Nat → Int32) × (Nat → Int32)) :=
    wrI s_newFrom 12 s_clauses codes__28 fun g109_36 =>
    cb1 (f_X12_isGood bad__27) fun r111_41 =>
    if r111_41 = 0 then
    ((f_X12_clause_J121 s_clauses s_newTo g68_16 g109_36 ) bad__27 codes__28 isBehind__29 s_isOver open__30 place__31 stacked__32 newArg__33 newCode__34 stack__35)
    else
    (cb10 (f_X12_condition place__31 s_end bad__27 codes__28 open__30 stacked__32 s_isOver isBehind__29 newArg__33 newCode__34 stack__35 s_tape) fun o_place118_82 o_bad118_83 o_codes118_84 o_open118_85 o_stacked118_86 o_isOver118_87 o_isBehind118_88 o_newArg118_89 o_newCode118_90 o_stack118_91 =>
      (f_X12_clause_J121 s_clauses s_newTo g68_16 g109_36 ) o_bad118_83 o_codes118_84 o_isBehind118_88 o_isOver118_87 o_open118_85 o_place118_82 o_stacked118_86 o_newArg118_89 o_newCode118_90 o_stack118_91)
noncomputable def f_X12_clause_J48 (s_place : Int32) (s_end : Int32) (s_clauses : Int32) (s_codes : Int32) (s_open : Int32) (s_stacked : Int32) (s_isOver : Int32) (s_isBehind : Int32) (s_newArg : Nat → Int32) (s_newCode : Nat → Int32) (s_newFrom : Nat → Int32) (s_newSum : Nat → Int32) (s_newTo : Nat → Int32) (s_stack : Nat → Int32) (s_tape : Nat → Int32) (p1 : Int32)  (bad__7 : Int32) : Option (Int32 × Int32 × Int32 × Int32 × Int32 × Int32 × Int32 × Int32 × (Nat → Int32) × (Nat → Int32) × (Nat → Int32) × (Nat → Int32) × (Nat → Int32) × (Nat → Int32)) :=
    cb1 (f_X12_isGood bad__7) fun r49_8 =>
    if r49_8 = 0 then
    (some (s_place, bad__7, s_clauses, s_codes, s_open, s_stacked, s_isOver, s_isBehind, s_newArg, s_newCode, s_newFrom, s_newSum, s_newTo, s_stack))
    else
    (wrI s_newSum 12 s_clauses s_codes fun g68_16 =>
      nmI (s_place + 1) fun v76_21 =>
      if p1 = 0 then
      ((f_X12_clause_J97 s_end s_clauses s_isOver s_newFrom s_newTo s_tape g68_16 ) bad__7 s_codes s_isBehind 0 v76_21 0 s_newArg s_newCode s_stack)
      else
      (cb9 (f_X12_value v76_21 s_end bad__7 s_codes 0 0 s_isBehind s_newArg s_newCode s_stack s_tape) fun o_place94_99 o_bad94_100 o_codes94_101 o_open94_102 o_stacked94_103 o_isBehind94_104 o_newArg94_105 o_newCode94_106 o_stack94_107 =>
        (f_X12_clause_J97 s_end s_clauses s_isOver s_newFrom s_newTo s_tape g68_16 ) o_bad94_100 o_codes94_101 o_isBehind94_104 o_open94_102 o_place94_99 o_stacked94_103 o_newArg94_105 o_newCode94_106 o_stack94_107))
noncomputable def f_X12_clause_J15 (s_place : Int32) (s_end : Int32) (s_bad : Int32) (s_clauses : Int32) (s_codes : Int32) (s_open : Int32) (s_stacked : Int32) (s_isOver : Int32) (s_isBehind : Int32) (s_newArg : Nat → Int32) (s_newCode : Nat → Int32) (s_newFrom : Nat → Int32) (s_newSum : Nat → Int32) (s_newTo : Nat → Int32) (s_stack : Nat → Int32) (s_tape : Nat → Int32) (p1 : Int32) (r1_1 : Int32)  (t1_6 : Int32) : Option (Int32 × Int32 × Int32 × Int32 × Int32 × Int32 × Int32 × Int32 × (Nat → Int32) × (Nat → Int32) × (Nat → Int32) × (Nat → Int32) × (Nat → Int32) × (Nat → Int32)) :=
    if r1_1 = t1_6 then
    (if s_clauses = 12 then
      (cb1 (f_X12_wrongs s_bad 4 s_place) fun o_bad45_132 =>
        (f_X12_clause_J48 s_place s_end s_clauses s_codes s_open s_stacked s_isOver s_isBehind s_newArg s_newCode s_newFrom s_newSum s_newTo s_stack s_tape p1 ) o_bad45_132)
      else
      ((f_X12_clause_J48 s_place s_end s_clauses s_codes s_open s_stacked s_isOver s_isBehind s_newArg s_newCode s_newFrom s_newSum s_newTo s_stack s_tape p1 ) s_bad))
    else
    (cb1 (f_X12_wrongs s_bad 1 s_place) fun o_bad24_137 =>
      (f_X12_clause_J48 s_place s_end s_clauses s_codes s_open s_stacked s_isOver s_isBehind s_newArg s_newCode s_newFrom s_newSum s_newTo s_stack s_tape p1 ) o_bad24_137)
noncomputable def f_X12_clause (s_place : Int32) (s_end : Int32) (s_bad : Int32) (s_clauses : Int32) (s_codes : Int32) (s_open : Int32) (s_stacked : Int32) (s_isOver : Int32) (s_isBehind : Int32) (s_newArg : Nat → Int32) (s_newCode : Nat → Int32) (s_newFrom : Nat → Int32) (s_newSum : Nat → Int32) (s_newTo : Nat → Int32) (s_stack : Nat → Int32) (s_tape : Nat → Int32) (p1 : Int32) : Option (Int32 × Int32 × Int32 × Int32 × Int32 × Int32 × Int32 × Int32 × (Nat → Int32) × (Nat → Int32) × (Nat → Int32) × (Nat → Int32) × (Nat → Int32) × (Nat → Int32)) :=
    cb1 (f_X12_here s_place s_end s_tape) fun r1_1 =>
    if p1 = 0 then
    ((f_X12_clause_J15 s_place s_end s_bad s_clauses s_codes s_open s_stacked s_isOver s_isBehind s_newArg s_newCode s_newFrom s_newSum s_newTo s_stack s_tape p1 r1_1 ) 107)
    else
    ((f_X12_clause_J15 s_place s_end s_bad s_clauses s_codes s_open s_stacked s_isOver s_isBehind s_newArg s_newCode s_newFrom s_newSum s_newTo s_stack s_tape p1 r1_1 ) 104)
noncomputable def f_X12_begins (s_taped : Int32) (s_place : Int32) (s_end : Int32) (s_bad : Int32) (s_clauses : Int32) (s_codes : Int32) (s_open : Int32) (s_stacked : Int32) (p1 : Int32) : Option (Int32 × Int32 × Int32 × Int32 × Int32 × Int32 × Int32 × Int32) :=
    some (0, 0, p1, 0, 0, 0, 0, 0)
noncomputable def f_X12_keeps_J132 (s_clauses : Int32) (s_many : Nat → Int32) (p1 : Int32) (codeFrom__2 : Nat → Int32) (codeTo__3 : Nat → Int32) (sumFrom__4 : Nat → Int32)  (code__6 : Nat → Int32) (codeArg__7 : Nat → Int32) : Option ((Nat → Int32) × (Nat → Int32) × (Nat → Int32) × (Nat → Int32) × (Nat → Int32) × (Nat → Int32)) :=
    wrI s_many 20 p1 s_clauses fun g141_8 =>
    some (code__6, codeArg__7, codeFrom__2, codeTo__3, g141_8, sumFrom__4)
noncomputable def f_X12_keeps_L84 (s_codes : Int32) (s_newArg : Nat → Int32) (s_newCode : Nat → Int32) (p1 : Int32) (K132 : (Nat → Int32) → (Nat → Int32) → Option ((Nat → Int32) × (Nat → Int32) × (Nat → Int32) × (Nat → Int32) × (Nat → Int32) × (Nat → Int32))) : Nat → Int32 → (Nat → Int32) → (Nat → Int32) → Option ((Nat → Int32) × (Nat → Int32) × (Nat → Int32) × (Nat → Int32) × (Nat → Int32) × (Nat → Int32))
  | 0, _, _, _ => none
  | n84 + 1, x2_19, code__20, codeArg__21 =>
    if s_codes ≤ x2_19 then
    (K132 code__20 codeArg__21)
    else
    (rdI s_newCode 120 x2_19 fun v107_25 =>
      wrI code__20 2400 ((120 * p1) + x2_19) v107_25 fun g108_29 =>
      rdI s_newArg 120 x2_19 fun v124_34 =>
      wrI codeArg__21 2400 ((120 * p1) + x2_19) v124_34 fun g125_38 =>
      nmI (x2_19 + 1) fun v126_43 =>
      (f_X12_keeps_L84 s_codes s_newArg s_newCode p1 K132 n84) v126_43 g108_29 g125_38)
noncomputable def f_X12_keeps_J82 (s_clauses : Int32) (s_codes : Int32) (s_code : Nat → Int32) (s_codeArg : Nat → Int32) (s_many : Nat → Int32) (s_newArg : Nat → Int32) (s_newCode : Nat → Int32) (p1 : Int32)  (codeFrom__2 : Nat → Int32) (codeTo__3 : Nat → Int32) (sumFrom__4 : Nat → Int32) : Option ((Nat → Int32) × (Nat → Int32) × (Nat → Int32) × (Nat → Int32) × (Nat → Int32) × (Nat → Int32)) :=
    (f_X12_keeps_L84 s_codes s_newArg s_newCode p1 (f_X12_keeps_J132 s_clauses s_many p1 codeFrom__2 codeTo__3 sumFrom__4 ) FU) 0 s_code s_codeArg
noncomputable def f_X12_keeps_L2 (s_clauses : Int32) (s_newFrom : Nat → Int32) (s_newSum : Nat → Int32) (s_newTo : Nat → Int32) (p1 : Int32) (K82 : (Nat → Int32) → (Nat → Int32) → (Nat → Int32) → Option ((Nat → Int32) × (Nat → Int32) × (Nat → Int32) × (Nat → Int32) × (Nat → Int32) × (Nat → Int32))) : Nat → Int32 → (Nat → Int32) → (Nat → Int32) → (Nat → Int32) → Option ((Nat → Int32) × (Nat → Int32) × (Nat → Int32) × (Nat → Int32) × (Nat → Int32) × (Nat → Int32))
  | 0, _, _, _, _ => none
  | n2 + 1, x2_47, codeFrom__48, codeTo__49, sumFrom__50 =>
    if s_clauses ≤ x2_47 then
    (K82 codeFrom__48 codeTo__49 sumFrom__50)
    else
    (rdI s_newSum 12 x2_47 fun v29_54 =>
      nmI ((120 * p1) + v29_54) fun v31_58 =>
      wrI sumFrom__50 240 ((12 * p1) + x2_47) v31_58 fun g31_61 =>
      rdI s_newFrom 12 x2_47 fun v51_66 =>
      nmI ((120 * p1) + v51_66) fun v53_70 =>
      wrI codeFrom__48 240 ((12 * p1) + x2_47) v53_70 fun g53_73 =>
      rdI s_newTo 12 x2_47 fun v73_78 =>
      nmI ((120 * p1) + v73_78) fun v75_82 =>
      wrI codeTo__49 240 ((12 * p1) + x2_47) v75_82 fun g75_85 =>
      nmI (x2_47 + 1) fun v76_90 =>
      (f_X12_keeps_L2 s_clauses s_newFrom s_newSum s_newTo p1 K82 n2) v76_90 g53_73 g75_85 g31_61)
noncomputable def f_X12_keeps (s_clauses : Int32) (s_codes : Int32) (s_code : Nat → Int32) (s_codeArg : Nat → Int32) (s_codeFrom : Nat → Int32) (s_codeTo : Nat → Int32) (s_many : Nat → Int32) (s_newArg : Nat → Int32) (s_newCode : Nat → Int32) (s_newFrom : Nat → Int32) (s_newSum : Nat → Int32) (s_newTo : Nat → Int32) (s_sumFrom : Nat → Int32) (p1 : Int32) : Option ((Nat → Int32) × (Nat → Int32) × (Nat → Int32) × (Nat → Int32) × (Nat → Int32) × (Nat → Int32)) :=
    (f_X12_keeps_L2 s_clauses s_newFrom s_newSum s_newTo p1 (f_X12_keeps_J82 s_clauses s_codes s_code s_codeArg s_many s_newArg s_newCode p1 ) FU) 0 s_codeFrom s_codeTo s_sumFrom
noncomputable def f_X12_readsText_J86 (s_code : Nat → Int32) (s_codeArg : Nat → Int32) (s_codeFrom : Nat → Int32) (s_codeTo : Nat → Int32) (s_many : Nat → Int32) (s_sumFrom : Nat → Int32) (p1 : Int32) (o_taped2_1 : Int32) (o_end2_3 : Int32)  (bad__14 : Int32) (clauses__15 : Int32) (codes__16 : Int32) (isBehind__17 : Int32) (isOver__18 : Int32) (open__19 : Int32) (place__20 : Int32) (stacked__21 : Int32) (newArg__22 : Nat → Int32) (newCode__23 : Nat → Int32) (newFrom__24 : Nat → Int32) (newSum__25 : Nat → Int32) (newTo__26 : Nat → Int32) (stack__27 : Nat → Int32) : Option (Int32 × Int32 × Int32 × Int32 × Int32 × Int32 × Int32 × Int32 × Int32 × Int32 × Int32 × (Nat → Int32) × (Nat → Int32) × (Nat → Int32) × (Nat → Int32) × (Nat → Int32) × (Nat → Int32) × (Nat → Int32) × (Nat → Int32) × (Nat → Int32) × (Nat → Int32) × (Nat → Int32) × (Nat → Int32)) :=
    if 0 ≤ bad__14 then
    (cb6 (f_X12_keeps clauses__15 codes__16 s_code s_codeArg s_codeFrom s_codeTo s_many newArg__22 newCode__23 newFrom__24 newSum__25 newTo__26 s_sumFrom p1) fun o_code100_31 o_codeArg100_32 o_codeFrom100_33 o_codeTo100_34 o_many100_35 o_sumFrom100_36 =>
      some (clauses__15, o_taped2_1, place__20, o_end2_3, bad__14, clauses__15, codes__16, open__19, stacked__21, isOver__18, isBehind__17, o_code100_31, o_codeArg100_32, o_codeFrom100_33, o_codeTo100_34, o_many100_35, newArg__22, newCode__23, newFrom__24, newSum__25, newTo__26, stack__27, o_sumFrom100_36))
    else
    (some (bad__14, o_taped2_1, place__20, o_end2_3, bad__14, clauses__15, codes__16, open__19, stacked__21, isOver__18, isBehind__17, s_code, s_codeArg, s_codeFrom, s_codeTo, s_many, newArg__22, newCode__23, newFrom__24, newSum__25, newTo__26, stack__27, s_sumFrom))
noncomputable def f_X12_readsText_J73 (o_place22_113 : Int32) (o_clauses22_115 : Int32) (o_codes22_116 : Int32) (o_open22_117 : Int32) (o_stacked22_118 : Int32) (o_isOver22_119 : Int32) (o_isBehind22_120 : Int32) (o_newArg22_121 : Nat → Int32) (o_newCode22_122 : Nat → Int32) (o_newFrom22_123 : Nat → Int32) (o_newSum22_124 : Nat → Int32) (o_newTo22_125 : Nat → Int32) (o_stack22_126 : Nat → Int32) (t0_136 : Int32) (K8 : Int32 → Int32 → Int32 → Int32 → Int32 → Int32 → Int32 → Int32 → Int32 → (Nat → Int32) → (Nat → Int32) → (Nat → Int32) → (Nat → Int32) → (Nat → Int32) → (Nat → Int32) → Option (Int32 × Int32 × Int32 × Int32 × Int32 × Int32 × Int32 × Int32 × Int32 × Int32 × Int32 × (Nat → Int32) × (Nat → Int32) × (Nat → Int32) × (Nat → Int32) × (Nat → Int32) × (Nat → Int32) × (Nat → Int32) × (Nat → Int32) × (Nat → Int32) × (Nat → Int32) × (Nat → Int32) × (Nat → Int32))) (bad__146 : Int32) : Option (Int32 × Int32 × Int32 × Int32 × Int32 × Int32 × Int32 × Int32 × Int32 × Int32 × Int32 × (Nat → Int32) × (Nat → Int32) × (Nat → Int32) × (Nat → Int32) × (Nat → Int32) × (Nat → Int32) × (Nat → Int32) × (Nat → Int32) × (Nat → Int32) × (Nat → Int32) × (Nat → Int32) × (Nat → Int32)) :=
    nmI (o_place22_113 + 1) fun v80_147 =>
    K8 t0_136 bad__146 o_clauses22_115 o_codes22_116 o_isBehind22_120 o_isOver22_119 o_open22_117 v80_147 o_stacked22_118 o_newArg22_121 o_newCode22_122 o_newFrom22_123 o_newSum22_124 o_newTo22_125 o_stack22_126
noncomputable def f_X12_readsText_J48 (s_tape : Nat → Int32) (o_end2_3 : Int32) (o_place22_113 : Int32) (o_bad22_114 : Int32) (o_clauses22_115 : Int32) (o_codes22_116 : Int32) (o_open22_117 : Int32) (o_stacked22_118 : Int32) (o_isOver22_119 : Int32) (o_isBehind22_120 : Int32) (o_newArg22_121 : Nat → Int32) (o_newCode22_122 : Nat → Int32) (o_newFrom22_123 : Nat → Int32) (o_newSum22_124 : Nat → Int32) (o_newTo22_125 : Nat → Int32) (o_stack22_126 : Nat → Int32) (K8 : Int32 → Int32 → Int32 → Int32 → Int32 → Int32 → Int32 → Int32 → Int32 → (Nat → Int32) → (Nat → Int32) → (Nat → Int32) → (Nat → Int32) → (Nat → Int32) → (Nat → Int32) → Option (Int32 × Int32 × Int32 × Int32 × Int32 × Int32 × Int32 × Int32 × Int32 × Int32 × Int32 × (Nat → Int32) × (Nat → Int32) × (Nat → Int32) × (Nat → Int32) × (Nat → Int32) × (Nat → Int32) × (Nat → Int32) × (Nat → Int32) × (Nat → Int32) × (Nat → Int32) × (Nat → Int32) × (Nat → Int32))) (t0_136 : Int32) : Option (Int32 × Int32 × Int32 × Int32 × Int32 × Int32 × Int32 × Int32 × Int32 × Int32 × Int32 × (Nat → Int32) × (Nat → Int32) × (Nat → Int32) × (Nat → Int32) × (Nat → Int32) × (Nat → Int32) × (Nat → Int32) × (Nat → Int32) × (Nat → Int32) × (Nat → Int32) × (Nat → Int32) × (Nat → Int32)) :=
    if t0_136 = 0 then
    (K8 t0_136 o_bad22_114 o_clauses22_115 o_codes22_116 o_isBehind22_120 o_isOver22_119 o_open22_117 o_place22_113 o_stacked22_118 o_newArg22_121 o_newCode22_122 o_newFrom22_123 o_newSum22_124 o_newTo22_125 o_stack22_126)
    else
    (cb1 (f_X12_here o_place22_113 o_end2_3 s_tape) fun r56_141 =>
      if r56_141 = 59 then
      ((f_X12_readsText_J73 o_place22_113 o_clauses22_115 o_codes22_116 o_open22_117 o_stacked22_118 o_isOver22_119 o_isBehind22_120 o_newArg22_121 o_newCode22_122 o_newFrom22_123 o_newSum22_124 o_newTo22_125 o_stack22_126 t0_136 K8) o_bad22_114)
      else
      (cb1 (f_X12_wrongs o_bad22_114 1 o_place22_113) fun o_bad70_154 =>
        (f_X12_readsText_J73 o_place22_113 o_clauses22_115 o_codes22_116 o_open22_117 o_stacked22_118 o_isOver22_119 o_isBehind22_120 o_newArg22_121 o_newCode22_122 o_newFrom22_123 o_newSum22_124 o_newTo22_125 o_stack22_126 t0_136 K8) o_bad70_154))
noncomputable def f_X12_readsText_L8 (s_tape : Nat → Int32) (p3 : Int32) (o_end2_3 : Int32) (K86 : Int32 → Int32 → Int32 → Int32 → Int32 → Int32 → Int32 → Int32 → (Nat → Int32) → (Nat → Int32) → (Nat → Int32) → (Nat → Int32) → (Nat → Int32) → (Nat → Int32) → Option (Int32 × Int32 × Int32 × Int32 × Int32 × Int32 × Int32 × Int32 × Int32 × Int32 × Int32 × (Nat → Int32) × (Nat → Int32) × (Nat → Int32) × (Nat → Int32) × (Nat → Int32) × (Nat → Int32) × (Nat → Int32) × (Nat → Int32) × (Nat → Int32) × (Nat → Int32) × (Nat → Int32) × (Nat → Int32))) : Nat → Int32 → Int32 → Int32 → Int32 → Int32 → Int32 → Int32 → Int32 → Int32 → (Nat → Int32) → (Nat → Int32) → (Nat → Int32) → (Nat → Int32) → (Nat → Int32) → (Nat → Int32) → Option (Int32 × Int32 × Int32 × Int32 × Int32 × Int32 × Int32 × Int32 × Int32 × Int32 × Int32 × (Nat → Int32) × (Nat → Int32) × (Nat → Int32) × (Nat → Int32) × (Nat → Int32) × (Nat → Int32) × (Nat → Int32) × (Nat → Int32) × (Nat → Int32) × (Nat → Int32) × (Nat → Int32) × (Nat → Int32))
  | 0, _, _, _, _, _, _, _, _, _, _, _, _, _, _, _ => none
  | n8 + 1, x4_87, bad__88, clauses__89, codes__90, isBehind__91, isOver__92, open__93, place__94, stacked__95, newArg__96, newCode__97, newFrom__98, newSum__99, newTo__100, stack__101 =>
    if x4_87 = 0 then
    (K86 bad__88 clauses__89 codes__90 isBehind__91 isOver__92 open__93 place__94 stacked__95 newArg__96 newCode__97 newFrom__98 newSum__99 newTo__100 stack__101)
    else
    (cb1 (f_X12_isGood bad__88) fun r14_105 =>
      if r14_105 = 0 then
      (K86 bad__88 clauses__89 codes__90 isBehind__91 isOver__92 open__93 place__94 stacked__95 newArg__96 newCode__97 newFrom__98 newSum__99 newTo__100 stack__101)
      else
      (cb14 (f_X12_clause place__94 o_end2_3 bad__88 clauses__89 codes__90 open__93 stacked__95 isOver__92 isBehind__91 newArg__96 newCode__97 newFrom__98 newSum__99 newTo__100 stack__101 s_tape p3) fun o_place22_113 o_bad22_114 o_clauses22_115 o_codes22_116 o_open22_117 o_stacked22_118 o_isOver22_119 o_isBehind22_120 o_newArg22_121 o_newCode22_122 o_newFrom22_123 o_newSum22_124 o_newTo22_125 o_stack22_126 =>
        cb1 (f_X12_isGood o_bad22_114) fun r26_131 =>
        if r26_131 = 0 then
        ((f_X12_readsText_J48 s_tape o_end2_3 o_place22_113 o_bad22_114 o_clauses22_115 o_codes22_116 o_open22_117 o_stacked22_118 o_isOver22_119 o_isBehind22_120 o_newArg22_121 o_newCode22_122 o_newFrom22_123 o_newSum22_124 o_newTo22_125 o_stack22_126 (f_X12_readsText_L8 s_tape p3 o_end2_3 K86 n8)) 0)
        else
        (if o_end2_3 ≤ o_place22_113 then
          ((f_X12_readsText_J48 s_tape o_end2_3 o_place22_113 o_bad22_114 o_clauses22_115 o_codes22_116 o_open22_117 o_stacked22_118 o_isOver22_119 o_isBehind22_120 o_newArg22_121 o_newCode22_122 o_newFrom22_123 o_newSum22_124 o_newTo22_125 o_stack22_126 (f_X12_readsText_L8 s_tape p3 o_end2_3 K86 n8)) 0)
          else
          ((f_X12_readsText_J48 s_tape o_end2_3 o_place22_113 o_bad22_114 o_clauses22_115 o_codes22_116 o_open22_117 o_stacked22_118 o_isOver22_119 o_isBehind22_120 o_newArg22_121 o_newCode22_122 o_newFrom22_123 o_newSum22_124 o_newTo22_125 o_stack22_126 (f_X12_readsText_L8 s_tape p3 o_end2_3 K86 n8)) 1))))
noncomputable def f_X12_readsText (s_taped : Int32) (s_place : Int32) (s_end : Int32) (s_bad : Int32) (s_clauses : Int32) (s_codes : Int32) (s_open : Int32) (s_stacked : Int32) (s_isOver : Int32) (s_isBehind : Int32) (s_code : Nat → Int32) (s_codeArg : Nat → Int32) (s_codeFrom : Nat → Int32) (s_codeTo : Nat → Int32) (s_many : Nat → Int32) (s_newArg : Nat → Int32) (s_newCode : Nat → Int32) (s_newFrom : Nat → Int32) (s_newSum : Nat → Int32) (s_newTo : Nat → Int32) (s_stack : Nat → Int32) (s_sumFrom : Nat → Int32) (s_tape : Nat → Int32) (p1 : Int32) (p2 : Int32) (p3 : Int32) : Option (Int32 × Int32 × Int32 × Int32 × Int32 × Int32 × Int32 × Int32 × Int32 × Int32 × Int32 × (Nat → Int32) × (Nat → Int32) × (Nat → Int32) × (Nat → Int32) × (Nat → Int32) × (Nat → Int32) × (Nat → Int32) × (Nat → Int32) × (Nat → Int32) × (Nat → Int32) × (Nat → Int32) × (Nat → Int32)) :=
    cb8 (f_X12_begins s_taped s_place s_end s_bad s_clauses s_codes s_open s_stacked p2) fun o_taped2_1 o_place2_2 o_end2_3 o_bad2_4 o_clauses2_5 o_codes2_6 o_open2_7 o_stacked2_8 =>
    (f_X12_readsText_L8 s_tape p3 o_end2_3 (f_X12_readsText_J86 s_code s_codeArg s_codeFrom s_codeTo s_many s_sumFrom p1 o_taped2_1 o_end2_3 ) FU) 1 o_bad2_4 o_clauses2_5 o_codes2_6 s_isBehind s_isOver o_open2_7 o_place2_2 o_stacked2_8 s_newArg s_newCode s_newFrom s_newSum s_newTo s_stack
noncomputable def f_X12_isSource (s_sources : Int32) (p1 : Int32) : Option (Int32) :=
    cb1 (f_X12_lies (Int32.toInt64 p1) 0 (Int32.toInt64 (s_sources - 1))) fun r10_1 =>
    bo r10_1 <|
    some (r10_1)
noncomputable def f_X12_isReader (p1 : Int32) : Option (Int32) :=
    cb1 (f_X12_lies (Int32.toInt64 p1) 0 3) fun r6_1 =>
    bo r6_1 <|
    some (r6_1)
noncomputable def f_X12_canRead (s_taped : Int32) (p1 : Int32) (p2 : Int32) : Option (Int32) :=
    cb1 (f_X12_lies (Int32.toInt64 p1) 1 (Int32.toInt64 p2)) fun r5_1 =>
    if r5_1 = 0 then
    (some (0))
    else
    (if s_taped < p1 then
      (some (0))
      else
      (some (1)))
noncomputable def f_X12_law (s_taped : Int32) (s_sources : Int32) (s_place : Int32) (s_end : Int32) (s_bad : Int32) (s_clauses : Int32) (s_codes : Int32) (s_open : Int32) (s_stacked : Int32) (s_isOver : Int32) (s_isBehind : Int32) (s_code : Nat → Int32) (s_codeArg : Nat → Int32) (s_codeFrom : Nat → Int32) (s_codeTo : Nat → Int32) (s_many : Nat → Int32) (s_newArg : Nat → Int32) (s_newCode : Nat → Int32) (s_newFrom : Nat → Int32) (s_newSum : Nat → Int32) (s_newTo : Nat → Int32) (s_stack : Nat → Int32) (s_sumFrom : Nat → Int32) (s_tape : Nat → Int32) (p1 : Int32) (p2 : Int32) : Option (Int32 × Int32 × Int32 × Int32 × Int32 × Int32 × Int32 × Int32 × Int32 × Int32 × Int32 × (Nat → Int32) × (Nat → Int32) × (Nat → Int32) × (Nat → Int32) × (Nat → Int32) × (Nat → Int32) × (Nat → Int32) × (Nat → Int32) × (Nat → Int32) × (Nat → Int32) × (Nat → Int32) × (Nat → Int32)) :=
    cb1 (f_X12_isSource s_sources p1) fun r2_1 =>
    if r2_1 = 0 then
    (some ((-1), s_taped, s_place, s_end, s_bad, s_clauses, s_codes, s_open, s_stacked, s_isOver, s_isBehind, s_code, s_codeArg, s_codeFrom, s_codeTo, s_many, s_newArg, s_newCode, s_newFrom, s_newSum, s_newTo, s_stack, s_sumFrom))
    else
    (cb1 (f_X12_canRead s_taped p2 120) fun r12_32 =>
      if r12_32 = 0 then
      (some ((-1), s_taped, s_place, s_end, s_bad, s_clauses, s_codes, s_open, s_stacked, s_isOver, s_isBehind, s_code, s_codeArg, s_codeFrom, s_codeTo, s_many, s_newArg, s_newCode, s_newFrom, s_newSum, s_newTo, s_stack, s_sumFrom))
      else
      (cb23 (f_X12_readsText s_taped s_place s_end s_bad s_clauses s_codes s_open s_stacked s_isOver s_isBehind s_code s_codeArg s_codeFrom s_codeTo s_many s_newArg s_newCode s_newFrom s_newSum s_newTo s_stack s_sumFrom s_tape (0 + p1) p2 1) fun r24_63 o_taped24_64 o_place24_65 o_end24_66 o_bad24_67 o_clauses24_68 o_codes24_69 o_open24_70 o_stacked24_71 o_isOver24_72 o_isBehind24_73 o_code24_74 o_codeArg24_75 o_codeFrom24_76 o_codeTo24_77 o_many24_78 o_newArg24_79 o_newCode24_80 o_newFrom24_81 o_newSum24_82 o_newTo24_83 o_stack24_84 o_sumFrom24_85 =>
        some (r24_63, o_taped24_64, o_place24_65, o_end24_66, o_bad24_67, o_clauses24_68, o_codes24_69, o_open24_70, o_stacked24_71, o_isOver24_72, o_isBehind24_73, o_code24_74, o_codeArg24_75, o_codeFrom24_76, o_codeTo24_77, o_many24_78, o_newArg24_79, o_newCode24_80, o_newFrom24_81, o_newSum24_82, o_newTo24_83, o_stack24_84, o_sumFrom24_85)))
noncomputable def f_X12_way (s_taped : Int32) (s_place : Int32) (s_end : Int32) (s_bad : Int32) (s_clauses : Int32) (s_codes : Int32) (s_open : Int32) (s_stacked : Int32) (s_isOver : Int32) (s_isBehind : Int32) (s_code : Nat → Int32) (s_codeArg : Nat → Int32) (s_codeFrom : Nat → Int32) (s_codeTo : Nat → Int32) (s_many : Nat → Int32) (s_newArg : Nat → Int32) (s_newCode : Nat → Int32) (s_newFrom : Nat → Int32) (s_newSum : Nat → Int32) (s_newTo : Nat → Int32) (s_stack : Nat → Int32) (s_sumFrom : Nat → Int32) (s_tape : Nat → Int32) (p1 : Int32) (p2 : Int32) : Option (Int32 × Int32 × Int32 × Int32 × Int32 × Int32 × Int32 × Int32 × Int32 × Int32 × Int32 × (Nat → Int32) × (Nat → Int32) × (Nat → Int32) × (Nat → Int32) × (Nat → Int32) × (Nat → Int32) × (Nat → Int32) × (Nat → Int32) × (Nat → Int32) × (Nat → Int32) × (Nat → Int32) × (Nat → Int32)) :=
    cb1 (f_X12_isReader p1) fun r1_1 =>
    if r1_1 = 0 then
    (some ((-1), s_taped, s_place, s_end, s_bad, s_clauses, s_codes, s_open, s_stacked, s_isOver, s_isBehind, s_code, s_codeArg, s_codeFrom, s_codeTo, s_many, s_newArg, s_newCode, s_newFrom, s_newSum, s_newTo, s_stack, s_sumFrom))
    else
    (cb1 (f_X12_canRead s_taped p2 120) fun r11_32 =>
      if r11_32 = 0 then
      (some ((-1), s_taped, s_place, s_end, s_bad, s_clauses, s_codes, s_open, s_stacked, s_isOver, s_isBehind, s_code, s_codeArg, s_codeFrom, s_codeTo, s_many, s_newArg, s_newCode, s_newFrom, s_newSum, s_newTo, s_stack, s_sumFrom))
      else
      (cb23 (f_X12_readsText s_taped s_place s_end s_bad s_clauses s_codes s_open s_stacked s_isOver s_isBehind s_code s_codeArg s_codeFrom s_codeTo s_many s_newArg s_newCode s_newFrom s_newSum s_newTo s_stack s_sumFrom s_tape (10 + p1) p2 0) fun r24_63 o_taped24_64 o_place24_65 o_end24_66 o_bad24_67 o_clauses24_68 o_codes24_69 o_open24_70 o_stacked24_71 o_isOver24_72 o_isBehind24_73 o_code24_74 o_codeArg24_75 o_codeFrom24_76 o_codeTo24_77 o_many24_78 o_newArg24_79 o_newCode24_80 o_newFrom24_81 o_newSum24_82 o_newTo24_83 o_stack24_84 o_sumFrom24_85 =>
        some (r24_63, o_taped24_64, o_place24_65, o_end24_66, o_bad24_67, o_clauses24_68, o_codes24_69, o_open24_70, o_stacked24_71, o_isOver24_72, o_isBehind24_73, o_code24_74, o_codeArg24_75, o_codeFrom24_76, o_codeTo24_77, o_many24_78, o_newArg24_79, o_newCode24_80, o_newFrom24_81, o_newSum24_82, o_newTo24_83, o_stack24_84, o_sumFrom24_85)))
noncomputable def f_X12_isTale (p1 : Int32) : Option (Int32) :=
    cb1 (f_X12_lies (Int32.toInt64 p1) 0 5) fun r6_1 =>
    bo r6_1 <|
    some (r6_1)
noncomputable def f_X12_story_J55 (s_code : Nat → Int32) (s_codeArg : Nat → Int32) (s_codeFrom : Nat → Int32) (s_codeTo : Nat → Int32) (s_many : Nat → Int32) (s_newFrom : Nat → Int32) (s_newSum : Nat → Int32) (s_newTo : Nat → Int32) (s_sumFrom : Nat → Int32) (p1 : Int32) (o_taped21_39 : Int32) (o_end21_41 : Int32) (o_clauses21_43 : Int32) (o_place25_51 : Int32) (o_codes25_53 : Int32) (o_open25_54 : Int32) (o_stacked25_55 : Int32) (o_isBehind25_56 : Int32) (o_newArg25_57 : Nat → Int32) (o_newCode25_58 : Nat → Int32) (o_stack25_59 : Nat → Int32)  (bad__69 : Int32) : Option (Int32 × Int32 × Int32 × Int32 × Int32 × Int32 × Int32 × Int32 × Int32 × Int32 × (Nat → Int32) × (Nat → Int32) × (Nat → Int32) × (Nat → Int32) × (Nat → Int32) × (Nat → Int32) × (Nat → Int32) × (Nat → Int32) × (Nat → Int32) × (Nat → Int32) × (Nat → Int32) × (Nat → Int32)) :=
    if 0 ≤ bad__69 then
    (wrI s_newSum 12 0 0 fun g73_73 =>
      wrI s_newFrom 12 0 o_codes25_53 fun g83_78 =>
      wrI s_newTo 12 0 o_codes25_53 fun g93_83 =>
      cb6 (f_X12_keeps 1 o_codes25_53 s_code s_codeArg s_codeFrom s_codeTo s_many o_newArg25_57 o_newCode25_58 g83_78 g73_73 g93_83 s_sumFrom (14 + p1)) fun o_code104_89 o_codeArg104_90 o_codeFrom104_91 o_codeTo104_92 o_many104_93 o_sumFrom104_94 =>
      some (1, o_taped21_39, o_place25_51, o_end21_41, bad__69, 1, o_codes25_53, o_open25_54, o_stacked25_55, o_isBehind25_56, o_code104_89, o_codeArg104_90, o_codeFrom104_91, o_codeTo104_92, o_many104_93, o_newArg25_57, o_newCode25_58, g83_78, g73_73, g93_83, o_stack25_59, o_sumFrom104_94))
    else
    (some (bad__69, o_taped21_39, o_place25_51, o_end21_41, bad__69, o_clauses21_43, o_codes25_53, o_open25_54, o_stacked25_55, o_isBehind25_56, s_code, s_codeArg, s_codeFrom, s_codeTo, s_many, o_newArg25_57, o_newCode25_58, s_newFrom, s_newSum, s_newTo, o_stack25_59, s_sumFrom))
noncomputable def f_X12_story (s_taped : Int32) (s_place : Int32) (s_end : Int32) (s_bad : Int32) (s_clauses : Int32) (s_codes : Int32) (s_open : Int32) (s_stacked : Int32) (s_isBehind : Int32) (s_code : Nat → Int32) (s_codeArg : Nat → Int32) (s_codeFrom : Nat → Int32) (s_codeTo : Nat → Int32) (s_many : Nat → Int32) (s_newArg : Nat → Int32) (s_newCode : Nat → Int32) (s_newFrom : Nat → Int32) (s_newSum : Nat → Int32) (s_newTo : Nat → Int32) (s_stack : Nat → Int32) (s_sumFrom : Nat → Int32) (s_tape : Nat → Int32) (p1 : Int32) (p2 : Int32) : Option (Int32 × Int32 × Int32 × Int32 × Int32 × Int32 × Int32 × Int32 × Int32 × Int32 × (Nat → Int32) × (Nat → Int32) × (Nat → Int32) × (Nat → Int32) × (Nat → Int32) × (Nat → Int32) × (Nat → Int32) × (Nat → Int32) × (Nat → Int32) × (Nat → Int32) × (Nat → Int32) × (Nat → Int32)) :=
    cb1 (f_X12_isTale p1) fun r1_1 =>
    if r1_1 = 0 then
    (some ((-1), s_taped, s_place, s_end, s_bad, s_clauses, s_codes, s_open, s_stacked, s_isBehind, s_code, s_codeArg, s_codeFrom, s_codeTo, s_many, s_newArg, s_newCode, s_newFrom, s_newSum, s_newTo, s_stack, s_sumFrom))
    else
    (cb1 (f_X12_canRead s_taped p2 60) fun r11_31 =>
      if r11_31 = 0 then
      (some ((-1), s_taped, s_place, s_end, s_bad, s_clauses, s_codes, s_open, s_stacked, s_isBehind, s_code, s_codeArg, s_codeFrom, s_codeTo, s_many, s_newArg, s_newCode, s_newFrom, s_newSum, s_newTo, s_stack, s_sumFrom))
      else
      (cb8 (f_X12_begins s_taped s_place s_end s_bad s_clauses s_codes s_open s_stacked p2) fun o_taped21_39 o_place21_40 o_end21_41 o_bad21_42 o_clauses21_43 o_codes21_44 o_open21_45 o_stacked21_46 =>
        cb9 (f_X12_value o_place21_40 o_end21_41 o_bad21_42 o_codes21_44 o_open21_45 o_stacked21_46 s_isBehind s_newArg s_newCode s_stack s_tape) fun o_place25_51 o_bad25_52 o_codes25_53 o_open25_54 o_stacked25_55 o_isBehind25_56 o_newArg25_57 o_newCode25_58 o_stack25_59 =>
        cb1 (f_X12_isGood o_bad25_52) fun r29_64 =>
        if r29_64 = 0 then
        ((f_X12_story_J55 s_code s_codeArg s_codeFrom s_codeTo s_many s_newFrom s_newSum s_newTo s_sumFrom p1 o_taped21_39 o_end21_41 o_clauses21_43 o_place25_51 o_codes25_53 o_open25_54 o_stacked25_55 o_isBehind25_56 o_newArg25_57 o_newCode25_58 o_stack25_59 ) o_bad25_52)
        else
        (if o_end21_41 ≤ o_place25_51 then
          ((f_X12_story_J55 s_code s_codeArg s_codeFrom s_codeTo s_many s_newFrom s_newSum s_newTo s_sumFrom p1 o_taped21_39 o_end21_41 o_clauses21_43 o_place25_51 o_codes25_53 o_open25_54 o_stacked25_55 o_isBehind25_56 o_newArg25_57 o_newCode25_58 o_stack25_59 ) o_bad25_52)
          else
          (cb1 (f_X12_wrongs o_bad25_52 1 o_place25_51) fun o_bad52_149 =>
            (f_X12_story_J55 s_code s_codeArg s_codeFrom s_codeTo s_many s_newFrom s_newSum s_newTo s_sumFrom p1 o_taped21_39 o_end21_41 o_clauses21_43 o_place25_51 o_codes25_53 o_open25_54 o_stacked25_55 o_isBehind25_56 o_newArg25_57 o_newCode25_58 o_stack25_59 ) o_bad52_149))))
noncomputable def f_X12_clears (s_atA : Int32) (s_atB : Int32) (s_atD : Int32) (s_atF : Int32) (s_atG : Int32) (s_atH : Int32) (s_atL : Int32) (s_atM : Int32) (s_atN : Int32) (s_atS : Int32) (s_atT : Int32) (s_atU : Int32) (s_atX : Int32) : Option (Int32 × Int32 × Int32 × Int32 × Int32 × Int32 × Int32 × Int32 × Int32 × Int32 × Int32 × Int32 × Int32) :=
    some (0, 0, 0, 0, 0, 0, 0, 0, 0, 0, 0, 0, 0)
noncomputable def f_X12_valueOf (s_atA : Int32) (s_atB : Int32) (s_atD : Int32) (s_atF : Int32) (s_atG : Int32) (s_atH : Int32) (s_atL : Int32) (s_atM : Int32) (s_atN : Int32) (s_atS : Int32) (s_atT : Int32) (s_atU : Int32) (s_atX : Int32) (p1 : Int32) : Option (Int32) :=
    if p1 = 97 then (some (s_atA))
    else if p1 = 98 then (some (s_atB))
    else if p1 = 99 then (some (s_atX))
    else if p1 = 100 then (some (s_atD))
    else if p1 = 101 then (some (s_atX))
    else if p1 = 102 then (some (s_atF))
    else if p1 = 103 then (some (s_atG))
    else if p1 = 104 then (some (s_atH))
    else if p1 = 105 then (some (s_atX))
    else if p1 = 106 then (some (s_atX))
    else if p1 = 107 then (some (s_atX))
    else if p1 = 108 then (some (s_atL))
    else if p1 = 109 then (some (s_atM))
    else if p1 = 110 then (some (s_atN))
    else if p1 = 111 then (some (s_atX))
    else if p1 = 112 then (some (s_atX))
    else if p1 = 113 then (some (s_atX))
    else if p1 = 114 then (some (s_atX))
    else if p1 = 115 then (some (s_atS))
    else if p1 = 116 then (some (s_atT))
    else if p1 = 117 then (some (s_atU))
    else (some (s_atX))
noncomputable def f_X12_worked (p1 : Int32) (p2 : Int32) (p3 : Int32) : Option (Int32) :=
    if p1 = 37 then (if p3 = 0 then
      (some (0))
      else
      (dvI p3 <|
        some ((jrem p2 p3))))
    else if p1 = 42 then (some ((p2 * p3)))
    else if p1 = 43 then (some ((p2 + p3)))
    else if p1 = 45 then (some ((p2 - p3)))
    else if p1 = 47 then (if p3 = 0 then
      (some (0))
      else
      (dvI p3 <|
        some ((p2 / p3))))
    else if p1 = 60 then (if p3 ≤ p2 then
      (some (0))
      else
      (some (1)))
    else if p1 = 62 then (if p2 ≤ p3 then
      (some (0))
      else
      (some (1)))
    else (if p2 = p3 then
      (some (1))
      else
      (some (0)))
noncomputable def f_X12_does_J42 (p2 : Int32) (v3_1 : Int32) (isRefused__5 : Nat → Int32) (worth__6 : Nat → Int32) (v30_16 : Int32)  (t1_20 : Int32) : Option ((Nat → Int32) × (Nat → Int32)) :=
    if v30_16 = t1_20 then
    (rdI worth__6 200 v3_1 fun v56_24 =>
      wrI worth__6 200 p2 v56_24 fun g57_28 =>
      rdI isRefused__5 200 v3_1 fun v68_33 =>
      wrZ isRefused__5 200 p2 v68_33 fun g69_37 =>
      some (g69_37, g57_28))
    else
    (some (isRefused__5, worth__6))
noncomputable def f_X12_does_J16 (p1 : Int32) (p2 : Int32) (v3_1 : Int32)  (isRefused__5 : Nat → Int32) (worth__6 : Nat → Int32) : Option ((Nat → Int32) × (Nat → Int32)) :=
    rdI isRefused__5 200 p2 fun v21_7 =>
    if v21_7 = 0 then
    (rdI worth__6 200 p2 fun v30_16 =>
      if p1 = 38 then
      ((f_X12_does_J42 p2 v3_1 isRefused__5 worth__6 v30_16 ) 1)
      else
      ((f_X12_does_J42 p2 v3_1 isRefused__5 worth__6 v30_16 ) 0))
    else
    (some (isRefused__5, worth__6))
noncomputable def f_X12_does_J120 (s_isRefused : Nat → Int32) (s_worth : Nat → Int32) (p1 : Int32) (p2 : Int32) (v3_1 : Int32)  (t2_59 : Int32) : Option ((Nat → Int32) × (Nat → Int32)) :=
    wrZ s_isRefused 200 p2 t2_59 fun g120_60 =>
    rdI s_worth 200 p2 fun v132_65 =>
    rdI s_worth 200 v3_1 fun v138_69 =>
    cb1 (f_X12_worked p1 v132_65 v138_69) fun r139_73 =>
    wrI s_worth 200 p2 r139_73 fun g142_78 =>
    some (g120_60, g142_78)
noncomputable def f_X12_does_J106 (s_worth : Nat → Int32) (v3_1 : Int32) (K120 : Int32 → Option ((Nat → Int32) × (Nat → Int32)))  : Option ((Nat → Int32) × (Nat → Int32)) :=
    rdI s_worth 200 v3_1 fun v111_95 =>
    if v111_95 = 0 then
    (K120 1)
    else
    (K120 0)
noncomputable def f_X12_does (s_isRefused : Nat → Int32) (s_worth : Nat → Int32) (p1 : Int32) (p2 : Int32) : Option ((Nat → Int32) × (Nat → Int32)) :=
    nmI (p2 + 1) fun v3_1 =>
    if p1 = 38 then
    ((f_X12_does_J16 p1 p2 v3_1 ) s_isRefused s_worth)
    else
    (if p1 = 124 then
      ((f_X12_does_J16 p1 p2 v3_1 ) s_isRefused s_worth)
      else
      (rdI s_isRefused 200 p2 fun v81_55 =>
        if v81_55 = 0 then
        (rdI s_isRefused 200 v3_1 fun v90_88 =>
          if v90_88 = 0 then
          (if p1 = 47 then
            ((f_X12_does_J106 s_worth v3_1 (f_X12_does_J120 s_isRefused s_worth p1 p2 v3_1 )))
            else
            (if p1 = 37 then
              ((f_X12_does_J106 s_worth v3_1 (f_X12_does_J120 s_isRefused s_worth p1 p2 v3_1 )))
              else
              ((f_X12_does_J120 s_isRefused s_worth p1 p2 v3_1 ) 0)))
          else
          ((f_X12_does_J120 s_isRefused s_worth p1 p2 v3_1 ) 1))
        else
        ((f_X12_does_J120 s_isRefused s_worth p1 p2 v3_1 ) 1)))
noncomputable def f_X12_works_L5 (s_atA : Int32) (s_atB : Int32) (s_atD : Int32) (s_atF : Int32) (s_atG : Int32) (s_atH : Int32) (s_atL : Int32) (s_atM : Int32) (s_atN : Int32) (s_atS : Int32) (s_atT : Int32) (s_atU : Int32) (s_atX : Int32) (s_code : Nat → Int32) (s_codeArg : Nat → Int32) (p2 : Int32)  : Nat → Int32 → Int32 → (Nat → Int32) → (Nat → Int32) → Option ((Nat → Int32) × (Nat → Int32))
  | 0, _, _, _, _ => none
  | n5 + 1, x3_3, x4_4, isRefused__5, worth__6 =>
    if p2 ≤ x4_4 then
    (some (isRefused__5, worth__6))
    else
    (rdI s_code 2400 x4_4 fun v17_12 =>
      if v17_12 ≤ 2 then
      (rdI s_code 2400 x4_4 fun v48_19 =>
        if v48_19 = 2 then
        (rdI worth__6 200 (x3_3 - 1) fun v68_77 =>
          nmI (1 - v68_77) fun v70_81 =>
          wrI worth__6 200 (x3_3 - 1) v70_81 fun g70_84 =>
          nmI (x4_4 + 1) fun v121_89 =>
          (f_X12_works_L5 s_atA s_atB s_atD s_atF s_atG s_atH s_atL s_atM s_atN s_atS s_atT s_atU s_atX s_code s_codeArg p2  n5) x3_3 v121_89 isRefused__5 g70_84)
        else
        (wrZ isRefused__5 200 x3_3 0 fun g80_26 =>
          rdI s_code 2400 x4_4 fun v92_31 =>
          if v92_31 = 0 then
          (rdI s_codeArg 2400 x4_4 fun v102_60 =>
            wrI worth__6 200 x3_3 v102_60 fun g117_64 =>
            nmI (x3_3 + 1) fun v118_69 =>
            nmI (x4_4 + 1) fun v121_73 =>
            (f_X12_works_L5 s_atA s_atB s_atD s_atF s_atG s_atH s_atL s_atM s_atN s_atS s_atT s_atU s_atX s_code s_codeArg p2  n5) v118_69 v121_73 g80_26 g117_64)
          else
          (rdI s_codeArg 2400 x4_4 fun v113_38 =>
            cb1 (f_X12_valueOf s_atA s_atB s_atD s_atF s_atG s_atH s_atL s_atM s_atN s_atS s_atT s_atU s_atX v113_38) fun r114_42 =>
            wrI worth__6 200 x3_3 r114_42 fun g117_47 =>
            nmI (x3_3 + 1) fun v118_52 =>
            nmI (x4_4 + 1) fun v121_56 =>
            (f_X12_works_L5 s_atA s_atB s_atD s_atF s_atG s_atH s_atL s_atM s_atN s_atS s_atT s_atU s_atX s_code s_codeArg p2  n5) v118_52 v121_56 g80_26 g117_47)))
      else
      (nmI (x3_3 + (-1)) fun v22_93 =>
        rdI s_code 2400 x4_4 fun v32_97 =>
        cb2 (f_X12_does isRefused__5 worth__6 v32_97 (v22_93 - 1)) fun o_isRefused36_101 o_worth36_102 =>
        nmI (x4_4 + 1) fun v121_107 =>
        (f_X12_works_L5 s_atA s_atB s_atD s_atF s_atG s_atH s_atL s_atM s_atN s_atS s_atT s_atU s_atX s_code s_codeArg p2  n5) v22_93 v121_107 o_isRefused36_101 o_worth36_102))
noncomputable def f_X12_works (s_atA : Int32) (s_atB : Int32) (s_atD : Int32) (s_atF : Int32) (s_atG : Int32) (s_atH : Int32) (s_atL : Int32) (s_atM : Int32) (s_atN : Int32) (s_atS : Int32) (s_atT : Int32) (s_atU : Int32) (s_atX : Int32) (s_code : Nat → Int32) (s_codeArg : Nat → Int32) (s_isRefused : Nat → Int32) (s_worth : Nat → Int32) (p1 : Int32) (p2 : Int32) : Option ((Nat → Int32) × (Nat → Int32)) :=
    (f_X12_works_L5 s_atA s_atB s_atD s_atF s_atG s_atH s_atL s_atM s_atN s_atS s_atT s_atU s_atX s_code s_codeArg p2  FU) 0 p1 s_isRefused s_worth
noncomputable def f_X12_holds (s_atA : Int32) (s_atB : Int32) (s_atD : Int32) (s_atF : Int32) (s_atG : Int32) (s_atH : Int32) (s_atL : Int32) (s_atM : Int32) (s_atN : Int32) (s_atS : Int32) (s_atT : Int32) (s_atU : Int32) (s_atX : Int32) (s_code : Nat → Int32) (s_codeArg : Nat → Int32) (s_codeFrom : Nat → Int32) (s_codeTo : Nat → Int32) (s_isRefused : Nat → Int32) (s_worth : Nat → Int32) (p1 : Int32) : Option (Int32 × (Nat → Int32) × (Nat → Int32)) :=
    rdI s_codeFrom 240 p1 fun v6_1 =>
    rdI s_codeTo 240 p1 fun v12_5 =>
    cb2 (f_X12_works s_atA s_atB s_atD s_atF s_atG s_atH s_atL s_atM s_atN s_atS s_atT s_atU s_atX s_code s_codeArg s_isRefused s_worth v6_1 v12_5) fun o_isRefused13_9 o_worth13_10 =>
    rdI o_isRefused13_9 200 0 fun v21_15 =>
    if v21_15 = 0 then
    (rdI o_worth13_10 200 0 fun v30_25 =>
      if v30_25 = 1 then
      (some (1, o_isRefused13_9, o_worth13_10))
      else
      (some (0, o_isRefused13_9, o_worth13_10)))
    else
    (some (0, o_isRefused13_9, o_worth13_10))
noncomputable def f_X12_sumOf (s_atA : Int32) (s_atB : Int32) (s_atD : Int32) (s_atF : Int32) (s_atG : Int32) (s_atH : Int32) (s_atL : Int32) (s_atM : Int32) (s_atN : Int32) (s_atS : Int32) (s_atT : Int32) (s_atU : Int32) (s_atX : Int32) (s_code : Nat → Int32) (s_codeArg : Nat → Int32) (s_codeFrom : Nat → Int32) (s_isRefused : Nat → Int32) (s_sumFrom : Nat → Int32) (s_worth : Nat → Int32) (p1 : Int32) : Option (Int32 × (Nat → Int32) × (Nat → Int32)) :=
    rdI s_sumFrom 240 p1 fun v6_1 =>
    rdI s_codeFrom 240 p1 fun v12_5 =>
    cb2 (f_X12_works s_atA s_atB s_atD s_atF s_atG s_atH s_atL s_atM s_atN s_atS s_atT s_atU s_atX s_code s_codeArg s_isRefused s_worth v6_1 v12_5) fun o_isRefused13_9 o_worth13_10 =>
    rdI o_isRefused13_9 200 0 fun v21_15 =>
    if v21_15 = 0 then
    (rdI o_worth13_10 200 0 fun v34_22 =>
      some (v34_22, o_isRefused13_9, o_worth13_10))
    else
    (some (0, o_isRefused13_9, o_worth13_10))
noncomputable def f_X12_isDay (p1 : Int32) : Option (Int32) :=
    cb1 (f_X12_lies (Int32.toInt64 p1) 0 399) fun r6_1 =>
    bo r6_1 <|
    some (r6_1)
noncomputable def f_X12_isMinute (p1 : Int32) : Option (Int32) :=
    cb1 (f_X12_lies (Int32.toInt64 p1) 0 1439) fun r6_1 =>
    bo r6_1 <|
    some (r6_1)
noncomputable def f_X12_source (s_sources : Int32) (s_byStar : Nat → Int32) (s_minuteOf : Nat → Int32) (s_shape : Nat → Int32) (s_weekdays : Nat → Int32) (s_wide : Nat → Int32) (p1 : Int32) (p2 : Int32) (p3 : Int32) (p4 : Int32) (p5 : Int32) : Option (Int32 × Int32 × (Nat → Int32) × (Nat → Int32) × (Nat → Int32) × (Nat → Int32) × (Nat → Int32)) :=
    if s_sources = 10 then
    (some ((-1), s_sources, s_byStar, s_minuteOf, s_shape, s_weekdays, s_wide))
    else
    (cb1 (f_X12_isMinute p2) fun r10_11 =>
      if r10_11 = 0 then
      (some ((-1), s_sources, s_byStar, s_minuteOf, s_shape, s_weekdays, s_wide))
      else
      (cb1 (f_X12_lies (Int32.toInt64 p3) 0 30) fun r22_26 =>
        if r22_26 = 0 then
        (some ((-1), s_sources, s_byStar, s_minuteOf, s_shape, s_weekdays, s_wide))
        else
        (cb1 (f_X12_lies (Int32.toInt64 p4) 0 3) fun r35_41 =>
          if r35_41 = 0 then
          (some ((-1), s_sources, s_byStar, s_minuteOf, s_shape, s_weekdays, s_wide))
          else
          (cb1 (f_X12_lies (Int32.toInt64 p5) 0 127) fun r48_56 =>
            if r48_56 = 0 then
            (some ((-1), s_sources, s_byStar, s_minuteOf, s_shape, s_weekdays, s_wide))
            else
            (wrZ s_byStar 10 s_sources p1 fun g65_64 =>
              wrI s_minuteOf 10 s_sources p2 fun g75_69 =>
              wrI s_wide 10 s_sources p3 fun g85_74 =>
              wrI s_shape 10 s_sources p4 fun g96_79 =>
              wrI s_weekdays 10 s_sources p5 fun g107_84 =>
              nmI (s_sources + 1) fun v115_89 =>
              some ((v115_89 - 1), v115_89, g65_64, g75_69, g96_79, g107_84, g85_74))))))
noncomputable def f_X12_seed (s_seed : Int32) (p1 : Int32) : Option (Int32 × Int32) :=
    cb1 (f_X12_lies (Int32.toInt64 p1) 0 999) fun r6_1 =>
    if r6_1 = 0 then
    (some (0, s_seed))
    else
    (some (1, p1))
noncomputable def f_X12_starAt (p1 : Int32) (p2 : Int32) : Option (Int32) :=
    some ((jrem (p2 + (4 * p1)) 1440))
noncomputable def f_X12_farOf_J14   (t0_1 : Int32) : Option (Int32) :=
    if (1440 - t0_1) ≤ t0_1 then
    (some ((1440 - t0_1)))
    else
    (some (t0_1))
noncomputable def f_X12_farOf (p1 : Int32) (p2 : Int32) : Option (Int32) :=
    if p2 ≤ p1 then
    (f_X12_farOf_J14 (p1 - p2))
    else
    (f_X12_farOf_J14 (p2 - p1))
noncomputable def f_X12_star (p1 : Int32) (p2 : Int32) : Option (Int32) :=
    cb1 (f_X12_isDay p1) fun r1_1 =>
    if r1_1 = 0 then
    (some ((-1)))
    else
    (cb1 (f_X12_isMinute p2) fun r8_10 =>
      if r8_10 = 0 then
      (some ((-1)))
      else
      (cb1 (f_X12_starAt p1 p2) fun r16_19 =>
        some (r16_19)))
noncomputable def f_X12_awayOf_J18 (s_minuteOf : Nat → Int32) (p1 : Int32)  (t0_5 : Int32) : Option (Int32) :=
    rdI s_minuteOf 10 p1 fun v23_6 =>
    cb1 (f_X12_farOf t0_5 v23_6) fun r24_10 =>
    some (r24_10)
noncomputable def f_X12_awayOf (s_byStar : Nat → Int32) (s_minuteOf : Nat → Int32) (p1 : Int32) (p2 : Int32) (p3 : Int32) : Option (Int32) :=
    rdI s_byStar 10 p1 fun v5_1 =>
    if v5_1 = 0 then
    ((f_X12_awayOf_J18 s_minuteOf p1 ) p3)
    else
    (cb1 (f_X12_starAt p2 p3) fun r11_19 =>
      (f_X12_awayOf_J18 s_minuteOf p1 ) r11_19)
noncomputable def f_X12_isThere (s_byStar : Nat → Int32) (s_minuteOf : Nat → Int32) (s_weekdays : Nat → Int32) (s_wide : Nat → Int32) (p1 : Int32) (p2 : Int32) (p3 : Int32) : Option (Int32) :=
    rdI s_weekdays 10 p1 fun v5_1 =>
    cb1 (f_X12_has v5_1 (jrem p2 7)) fun r10_5 =>
    if r10_5 = 0 then
    (some (0))
    else
    (cb1 (f_X12_awayOf s_byStar s_minuteOf p1 p2 p3) fun r20_14 =>
      rdI s_wide 10 p1 fun v28_19 =>
      if v28_19 < r20_14 then
      (some (0))
      else
      (some (1)))
noncomputable def f_X12_luckOf (s_seed : Int32) (p1 : Int32) (p2 : Int32) (p3 : Int32) : Option (Int32) :=
    some ((jrem (Int64.toInt32 (jremL ((25173 * (Int32.toInt64 (((s_seed + (1009 * p2)) + (9176 * p3)) + (31 * p1)))) + 13849) 65536)) 100))
noncomputable def f_X12_heightOf_J127 (s_code : Nat → Int32) (s_codeArg : Nat → Int32) (s_codeFrom : Nat → Int32) (s_sumFrom : Nat → Int32) (p2 : Int32) (p3 : Int32) (o_atB13_10 : Int32) (o_atG13_13 : Int32) (o_atH13_14 : Int32) (o_atL13_15 : Int32) (o_atN13_17 : Int32) (o_atT13_19 : Int32) (r21_26 : Int32) (v37_33 : Int32) (r48_38 : Int32) (r70_44 : Int32) (r81_50 : Int32)  (x4_60 : Int32) (isRefused__61 : Nat → Int32) (worth__62 : Nat → Int32) : Option (Int32 × Int32 × Int32 × Int32 × Int32 × Int32 × Int32 × Int32 × Int32 × Int32 × Int32 × Int32 × Int32 × Int32 × (Nat → Int32) × (Nat → Int32)) :=
    cb3 (f_X12_sumOf r21_26 o_atB13_10 p2 v37_33 o_atG13_13 o_atH13_14 o_atL13_15 p3 o_atN13_17 r48_38 o_atT13_19 r70_44 r81_50 s_code s_codeArg s_codeFrom isRefused__61 s_sumFrom worth__62 x4_60) fun r130_63 o_isRefused130_64 o_worth130_65 =>
    if 0 ≤ r130_63 then
    (if r130_63 ≤ 1000 then
      (some (r130_63, r21_26, o_atB13_10, p2, v37_33, o_atG13_13, o_atH13_14, o_atL13_15, p3, o_atN13_17, r48_38, o_atT13_19, r70_44, r81_50, o_isRefused130_64, o_worth130_65))
      else
      (some (1000, r21_26, o_atB13_10, p2, v37_33, o_atG13_13, o_atH13_14, o_atL13_15, p3, o_atN13_17, r48_38, o_atT13_19, r70_44, r81_50, o_isRefused130_64, o_worth130_65)))
    else
    (some (0, r21_26, o_atB13_10, p2, v37_33, o_atG13_13, o_atH13_14, o_atL13_15, p3, o_atN13_17, r48_38, o_atT13_19, r70_44, r81_50, o_isRefused130_64, o_worth130_65))
noncomputable def f_X12_heightOf_L95 (s_code : Nat → Int32) (s_codeArg : Nat → Int32) (s_codeFrom : Nat → Int32) (s_codeTo : Nat → Int32) (s_many : Nat → Int32) (p1 : Int32) (p2 : Int32) (p3 : Int32) (o_atB13_10 : Int32) (o_atG13_13 : Int32) (o_atH13_14 : Int32) (o_atL13_15 : Int32) (o_atN13_17 : Int32) (o_atT13_19 : Int32) (r21_26 : Int32) (v37_33 : Int32) (r48_38 : Int32) (r70_44 : Int32) (r81_50 : Int32) (K127 : Int32 → (Nat → Int32) → (Nat → Int32) → Option (Int32 × Int32 × Int32 × Int32 × Int32 × Int32 × Int32 × Int32 × Int32 × Int32 × Int32 × Int32 × Int32 × Int32 × (Nat → Int32) × (Nat → Int32))) : Nat → Int32 → (Nat → Int32) → (Nat → Int32) → Option (Int32 × Int32 × Int32 × Int32 × Int32 × Int32 × Int32 × Int32 × Int32 × Int32 × Int32 × Int32 × Int32 × Int32 × (Nat → Int32) × (Nat → Int32))
  | 0, _, _, _ => none
  | n95 + 1, x4_125, isRefused__126, worth__127 =>
    rdI s_many 20 (0 + p1) fun v110_128 =>
    if ((12 * (0 + p1)) + v110_128) ≤ x4_125 then
    (some (0, r21_26, o_atB13_10, p2, v37_33, o_atG13_13, o_atH13_14, o_atL13_15, p3, o_atN13_17, r48_38, o_atT13_19, r70_44, r81_50, isRefused__126, worth__127))
    else
    (cb3 (f_X12_holds r21_26 o_atB13_10 p2 v37_33 o_atG13_13 o_atH13_14 o_atL13_15 p3 o_atN13_17 r48_38 o_atT13_19 r70_44 r81_50 s_code s_codeArg s_codeFrom s_codeTo isRefused__126 worth__127 x4_125) fun r118_151 o_isRefused118_152 o_worth118_153 =>
      if r118_151 = 0 then
      (nmI (x4_125 + 1) fun v161_161 =>
        (f_X12_heightOf_L95 s_code s_codeArg s_codeFrom s_codeTo s_many p1 p2 p3 o_atB13_10 o_atG13_13 o_atH13_14 o_atL13_15 o_atN13_17 o_atT13_19 r21_26 v37_33 r48_38 r70_44 r81_50 K127 n95) v161_161 o_isRefused118_152 o_worth118_153)
      else
      (K127 x4_125 o_isRefused118_152 o_worth118_153))
noncomputable def f_X12_heightOf (s_seed : Int32) (s_atA : Int32) (s_atB : Int32) (s_atD : Int32) (s_atF : Int32) (s_atG : Int32) (s_atH : Int32) (s_atL : Int32) (s_atM : Int32) (s_atN : Int32) (s_atS : Int32) (s_atT : Int32) (s_atU : Int32) (s_atX : Int32) (s_byStar : Nat → Int32) (s_code : Nat → Int32) (s_codeArg : Nat → Int32) (s_codeFrom : Nat → Int32) (s_codeTo : Nat → Int32) (s_isRefused : Nat → Int32) (s_many : Nat → Int32) (s_minuteOf : Nat → Int32) (s_sumFrom : Nat → Int32) (s_weekdays : Nat → Int32) (s_wide : Nat → Int32) (s_worth : Nat → Int32) (p1 : Int32) (p2 : Int32) (p3 : Int32) : Option (Int32 × Int32 × Int32 × Int32 × Int32 × Int32 × Int32 × Int32 × Int32 × Int32 × Int32 × Int32 × Int32 × Int32 × (Nat → Int32) × (Nat → Int32)) :=
    cb1 (f_X12_isThere s_byStar s_minuteOf s_weekdays s_wide p1 p2 p3) fun r4_1 =>
    if r4_1 = 0 then
    (some (0, s_atA, s_atB, s_atD, s_atF, s_atG, s_atH, s_atL, s_atM, s_atN, s_atS, s_atT, s_atU, s_atX, s_isRefused, s_worth))
    else
    (cb13 (f_X12_clears s_atA s_atB s_atD s_atF s_atG s_atH s_atL s_atM s_atN s_atS s_atT s_atU s_atX) fun o_atA13_9 o_atB13_10 o_atD13_11 o_atF13_12 o_atG13_13 o_atH13_14 o_atL13_15 o_atM13_16 o_atN13_17 o_atS13_18 o_atT13_19 o_atU13_20 o_atX13_21 =>
      cb1 (f_X12_awayOf s_byStar s_minuteOf p1 p2 p3) fun r21_26 =>
      nmI (jrem p2 7) fun v37_33 =>
      cb1 (f_X12_starAt p2 p3) fun r48_38 =>
      cb1 (f_X12_farOf r48_38 (jrem (720 + (4 * p2)) 1440)) fun r70_44 =>
      cb1 (f_X12_luckOf s_seed p1 p2 p3) fun r81_50 =>
      nmI (12 * (0 + p1)) fun v93_56 =>
      (f_X12_heightOf_L95 s_code s_codeArg s_codeFrom s_codeTo s_many p1 p2 p3 o_atB13_10 o_atG13_13 o_atH13_14 o_atL13_15 o_atN13_17 o_atT13_19 r21_26 v37_33 r48_38 r70_44 r81_50 (f_X12_heightOf_J127 s_code s_codeArg s_codeFrom s_sumFrom p2 p3 o_atB13_10 o_atG13_13 o_atH13_14 o_atL13_15 o_atN13_17 o_atT13_19 r21_26 v37_33 r48_38 r70_44 r81_50 ) FU) v93_56 s_isRefused s_worth)
noncomputable def f_X12_height (s_sources : Int32) (s_seed : Int32) (s_atA : Int32) (s_atB : Int32) (s_atD : Int32) (s_atF : Int32) (s_atG : Int32) (s_atH : Int32) (s_atL : Int32) (s_atM : Int32) (s_atN : Int32) (s_atS : Int32) (s_atT : Int32) (s_atU : Int32) (s_atX : Int32) (s_byStar : Nat → Int32) (s_code : Nat → Int32) (s_codeArg : Nat → Int32) (s_codeFrom : Nat → Int32) (s_codeTo : Nat → Int32) (s_isRefused : Nat → Int32) (s_many : Nat → Int32) (s_minuteOf : Nat → Int32) (s_sumFrom : Nat → Int32) (s_weekdays : Nat → Int32) (s_wide : Nat → Int32) (s_worth : Nat → Int32) (p1 : Int32) (p2 : Int32) (p3 : Int32) : Option (Int32 × Int32 × Int32 × Int32 × Int32 × Int32 × Int32 × Int32 × Int32 × Int32 × Int32 × Int32 × Int32 × Int32 × (Nat → Int32) × (Nat → Int32)) :=
    cb1 (f_X12_isSource s_sources p1) fun r2_1 =>
    if r2_1 = 0 then
    (some ((-1), s_atA, s_atB, s_atD, s_atF, s_atG, s_atH, s_atL, s_atM, s_atN, s_atS, s_atT, s_atU, s_atX, s_isRefused, s_worth))
    else
    (cb1 (f_X12_isDay p2) fun r9_25 =>
      if r9_25 = 0 then
      (some ((-1), s_atA, s_atB, s_atD, s_atF, s_atG, s_atH, s_atL, s_atM, s_atN, s_atS, s_atT, s_atU, s_atX, s_isRefused, s_worth))
      else
      (cb1 (f_X12_isMinute p3) fun r16_49 =>
        if r16_49 = 0 then
        (some ((-1), s_atA, s_atB, s_atD, s_atF, s_atG, s_atH, s_atL, s_atM, s_atN, s_atS, s_atT, s_atU, s_atX, s_isRefused, s_worth))
        else
        (cb16 (f_X12_heightOf s_seed s_atA s_atB s_atD s_atF s_atG s_atH s_atL s_atM s_atN s_atS s_atT s_atU s_atX s_byStar s_code s_codeArg s_codeFrom s_codeTo s_isRefused s_many s_minuteOf s_sumFrom s_weekdays s_wide s_worth p1 p2 p3) fun r26_73 o_atA26_74 o_atB26_75 o_atD26_76 o_atF26_77 o_atG26_78 o_atH26_79 o_atL26_80 o_atM26_81 o_atN26_82 o_atS26_83 o_atT26_84 o_atU26_85 o_atX26_86 o_isRefused26_87 o_worth26_88 =>
          some (r26_73, o_atA26_74, o_atB26_75, o_atD26_76, o_atF26_77, o_atG26_78, o_atH26_79, o_atL26_80, o_atM26_81, o_atN26_82, o_atS26_83, o_atT26_84, o_atU26_85, o_atX26_86, o_isRefused26_87, o_worth26_88))))
noncomputable def f_X12_looks_L15 (s_sources : Int32) (s_seed : Int32) (s_byStar : Nat → Int32) (s_code : Nat → Int32) (s_codeArg : Nat → Int32) (s_codeFrom : Nat → Int32) (s_codeTo : Nat → Int32) (s_many : Nat → Int32) (s_minuteOf : Nat → Int32) (s_shape : Nat → Int32) (s_sumFrom : Nat → Int32) (s_weekdays : Nat → Int32) (s_wide : Nat → Int32) (p1 : Int32) (p2 : Int32)  : Nat → Int32 → Int32 → Int32 → Int32 → Int32 → Int32 → Int32 → Int32 → Int32 → Int32 → Int32 → Int32 → Int32 → Int32 → Int32 → Int32 → Int32 → (Nat → Int32) → (Nat → Int32) → Option (Int32 × Int32 × Int32 × Int32 × Int32 × Int32 × Int32 × Int32 × Int32 × Int32 × Int32 × Int32 × Int32 × Int32 × Int32 × (Nat → Int32) × (Nat → Int32))
  | 0, _, _, _, _, _, _, _, _, _, _, _, _, _, _, _, _, _, _, _ => none
  | n15 + 1, x3_5, x4_6, atA__7, atB__8, atD__9, atF__10, atG__11, atH__12, atL__13, atM__14, atN__15, atS__16, atT__17, atU__18, atX__19, paperHigh__20, paperShape__21, isRefused__22, worth__23 =>
    if s_sources ≤ x4_6 then
    (some (atA__7, atB__8, atD__9, atF__10, atG__11, atH__12, atL__13, atM__14, atN__15, atS__16, atT__17, atU__18, atX__19, paperHigh__20, paperShape__21, isRefused__22, worth__23))
    else
    (cb16 (f_X12_heightOf s_seed atA__7 atB__8 atD__9 atF__10 atG__11 atH__12 atL__13 atM__14 atN__15 atS__16 atT__17 atU__18 atX__19 s_byStar s_code s_codeArg s_codeFrom s_codeTo isRefused__22 s_many s_minuteOf s_sumFrom s_weekdays s_wide worth__23 x4_6 p1 p2) fun r29_44 o_atA29_45 o_atB29_46 o_atD29_47 o_atF29_48 o_atG29_49 o_atH29_50 o_atL29_51 o_atM29_52 o_atN29_53 o_atS29_54 o_atT29_55 o_atU29_56 o_atX29_57 o_isRefused29_58 o_worth29_59 =>
      nmI (paperHigh__20 + r29_44) fun v42_65 =>
      if x3_5 < r29_44 then
      (rdI s_shape 10 x4_6 fun v64_73 =>
        nmI (x4_6 + 1) fun v68_78 =>
        (f_X12_looks_L15 s_sources s_seed s_byStar s_code s_codeArg s_codeFrom s_codeTo s_many s_minuteOf s_shape s_sumFrom s_weekdays s_wide p1 p2  n15) r29_44 v68_78 o_atA29_45 o_atB29_46 o_atD29_47 o_atF29_48 o_atG29_49 o_atH29_50 o_atL29_51 o_atM29_52 o_atN29_53 o_atS29_54 o_atT29_55 o_atU29_56 o_atX29_57 v42_65 v64_73 o_isRefused29_58 o_worth29_59)
      else
      (nmI (x4_6 + 1) fun v68_82 =>
        (f_X12_looks_L15 s_sources s_seed s_byStar s_code s_codeArg s_codeFrom s_codeTo s_many s_minuteOf s_shape s_sumFrom s_weekdays s_wide p1 p2  n15) x3_5 v68_82 o_atA29_45 o_atB29_46 o_atD29_47 o_atF29_48 o_atG29_49 o_atH29_50 o_atL29_51 o_atM29_52 o_atN29_53 o_atS29_54 o_atT29_55 o_atU29_56 o_atX29_57 v42_65 paperShape__21 o_isRefused29_58 o_worth29_59))
noncomputable def f_X12_looks (s_sources : Int32) (s_seed : Int32) (s_atA : Int32) (s_atB : Int32) (s_atD : Int32) (s_atF : Int32) (s_atG : Int32) (s_atH : Int32) (s_atL : Int32) (s_atM : Int32) (s_atN : Int32) (s_atS : Int32) (s_atT : Int32) (s_atU : Int32) (s_atX : Int32) (s_paperHigh : Int32) (s_paperShape : Int32) (s_byStar : Nat → Int32) (s_code : Nat → Int32) (s_codeArg : Nat → Int32) (s_codeFrom : Nat → Int32) (s_codeTo : Nat → Int32) (s_isRefused : Nat → Int32) (s_many : Nat → Int32) (s_minuteOf : Nat → Int32) (s_shape : Nat → Int32) (s_sumFrom : Nat → Int32) (s_weekdays : Nat → Int32) (s_wide : Nat → Int32) (s_worth : Nat → Int32) (p1 : Int32) (p2 : Int32) : Option (Int32 × Int32 × Int32 × Int32 × Int32 × Int32 × Int32 × Int32 × Int32 × Int32 × Int32 × Int32 × Int32 × Int32 × Int32 × (Nat → Int32) × (Nat → Int32)) :=
    (f_X12_looks_L15 s_sources s_seed s_byStar s_code s_codeArg s_codeFrom s_codeTo s_many s_minuteOf s_shape s_sumFrom s_weekdays s_wide p1 p2  FU) 0 0 s_atA s_atB s_atD s_atF s_atG s_atH s_atL s_atM s_atN s_atS s_atT s_atU s_atX 0 4 s_isRefused s_worth
noncomputable def f_X12_paper (s_sources : Int32) (s_seed : Int32) (s_atA : Int32) (s_atB : Int32) (s_atD : Int32) (s_atF : Int32) (s_atG : Int32) (s_atH : Int32) (s_atL : Int32) (s_atM : Int32) (s_atN : Int32) (s_atS : Int32) (s_atT : Int32) (s_atU : Int32) (s_atX : Int32) (s_paperHigh : Int32) (s_paperShape : Int32) (s_byStar : Nat → Int32) (s_code : Nat → Int32) (s_codeArg : Nat → Int32) (s_codeFrom : Nat → Int32) (s_codeTo : Nat → Int32) (s_isRefused : Nat → Int32) (s_many : Nat → Int32) (s_minuteOf : Nat → Int32) (s_shape : Nat → Int32) (s_sumFrom : Nat → Int32) (s_weekdays : Nat → Int32) (s_wide : Nat → Int32) (s_worth : Nat → Int32) (p1 : Int32) (p2 : Int32) (p3 : Int32) : Option (Int32 × Int32 × Int32 × Int32 × Int32 × Int32 × Int32 × Int32 × Int32 × Int32 × Int32 × Int32 × Int32 × Int32 × Int32 × Int32 × (Nat → Int32) × (Nat → Int32)) :=
    cb1 (f_X12_isDay p1) fun r1_1 =>
    if r1_1 = 0 then
    (some ((-1), s_atA, s_atB, s_atD, s_atF, s_atG, s_atH, s_atL, s_atM, s_atN, s_atS, s_atT, s_atU, s_atX, s_paperHigh, s_paperShape, s_isRefused, s_worth))
    else
    (cb1 (f_X12_isMinute p2) fun r8_27 =>
      if r8_27 = 0 then
      (some ((-1), s_atA, s_atB, s_atD, s_atF, s_atG, s_atH, s_atL, s_atM, s_atN, s_atS, s_atT, s_atU, s_atX, s_paperHigh, s_paperShape, s_isRefused, s_worth))
      else
      (cb1 (f_X12_lies (Int32.toInt64 p3) 0 1) fun r18_53 =>
        if r18_53 = 0 then
        (some ((-1), s_atA, s_atB, s_atD, s_atF, s_atG, s_atH, s_atL, s_atM, s_atN, s_atS, s_atT, s_atU, s_atX, s_paperHigh, s_paperShape, s_isRefused, s_worth))
        else
        (cb17 (f_X12_looks s_sources s_seed s_atA s_atB s_atD s_atF s_atG s_atH s_atL s_atM s_atN s_atS s_atT s_atU s_atX s_paperHigh s_paperShape s_byStar s_code s_codeArg s_codeFrom s_codeTo s_isRefused s_many s_minuteOf s_shape s_sumFrom s_weekdays s_wide s_worth p1 p2) fun o_atA29_61 o_atB29_62 o_atD29_63 o_atF29_64 o_atG29_65 o_atH29_66 o_atL29_67 o_atM29_68 o_atN29_69 o_atS29_70 o_atT29_71 o_atU29_72 o_atX29_73 o_paperHigh29_74 o_paperShape29_75 o_isRefused29_76 o_worth29_77 =>
          if p3 = 0 then
          (some (o_paperHigh29_74, o_atA29_61, o_atB29_62, o_atD29_63, o_atF29_64, o_atG29_65, o_atH29_66, o_atL29_67, o_atM29_68, o_atN29_69, o_atS29_70, o_atT29_71, o_atU29_72, o_atX29_73, o_paperHigh29_74, o_paperShape29_75, o_isRefused29_76, o_worth29_77))
          else
          (some (o_paperShape29_75, o_atA29_61, o_atB29_62, o_atD29_63, o_atF29_64, o_atG29_65, o_atH29_66, o_atL29_67, o_atM29_68, o_atN29_69, o_atS29_70, o_atT29_71, o_atU29_72, o_atX29_73, o_paperHigh29_74, o_paperShape29_75, o_isRefused29_76, o_worth29_77)))))
noncomputable def f_X12_lays_L2 (s_sources : Int32) (s_seed : Int32) (s_byStar : Nat → Int32) (s_code : Nat → Int32) (s_codeArg : Nat → Int32) (s_codeFrom : Nat → Int32) (s_codeTo : Nat → Int32) (s_many : Nat → Int32) (s_minuteOf : Nat → Int32) (s_shape : Nat → Int32) (s_sumFrom : Nat → Int32) (s_weekdays : Nat → Int32) (s_wide : Nat → Int32) (p1 : Int32)  : Nat → Int32 → Int32 → Int32 → Int32 → Int32 → Int32 → Int32 → Int32 → Int32 → Int32 → Int32 → Int32 → Int32 → Int32 → Int32 → Int32 → (Nat → Int32) → (Nat → Int32) → (Nat → Int32) → (Nat → Int32) → Option (Int32 × Int32 × Int32 × Int32 × Int32 × Int32 × Int32 × Int32 × Int32 × Int32 × Int32 × Int32 × Int32 × Int32 × Int32 × (Nat → Int32) × (Nat → Int32) × (Nat → Int32) × (Nat → Int32))
  | 0, _, _, _, _, _, _, _, _, _, _, _, _, _, _, _, _, _, _, _, _ => none
  | n2 + 1, x2_2, atA__3, atB__4, atD__5, atF__6, atG__7, atH__8, atL__9, atM__10, atN__11, atS__12, atT__13, atU__14, atX__15, paperHigh__16, paperShape__17, highAt__18, isRefused__19, shapeAt__20, worth__21 =>
    if 1440 ≤ x2_2 then
    (some (atA__3, atB__4, atD__5, atF__6, atG__7, atH__8, atL__9, atM__10, atN__11, atS__12, atT__13, atU__14, atX__15, paperHigh__16, paperShape__17, highAt__18, isRefused__19, shapeAt__20, worth__21))
    else
    (cb17 (f_X12_looks s_sources s_seed atA__3 atB__4 atD__5 atF__6 atG__7 atH__8 atL__9 atM__10 atN__11 atS__12 atT__13 atU__14 atX__15 paperHigh__16 paperShape__17 s_byStar s_code s_codeArg s_codeFrom s_codeTo isRefused__19 s_many s_minuteOf s_shape s_sumFrom s_weekdays s_wide worth__21 p1 x2_2) fun o_atA12_44 o_atB12_45 o_atD12_46 o_atF12_47 o_atG12_48 o_atH12_49 o_atL12_50 o_atM12_51 o_atN12_52 o_atS12_53 o_atT12_54 o_atU12_55 o_atX12_56 o_paperHigh12_57 o_paperShape12_58 o_isRefused12_59 o_worth12_60 =>
      wrI highAt__18 1440 x2_2 o_paperHigh12_57 fun g24_65 =>
      wrI shapeAt__20 1440 x2_2 o_paperShape12_58 fun g34_70 =>
      nmI (x2_2 + 1) fun v35_75 =>
      (f_X12_lays_L2 s_sources s_seed s_byStar s_code s_codeArg s_codeFrom s_codeTo s_many s_minuteOf s_shape s_sumFrom s_weekdays s_wide p1  n2) v35_75 o_atA12_44 o_atB12_45 o_atD12_46 o_atF12_47 o_atG12_48 o_atH12_49 o_atL12_50 o_atM12_51 o_atN12_52 o_atS12_53 o_atT12_54 o_atU12_55 o_atX12_56 o_paperHigh12_57 o_paperShape12_58 g24_65 o_isRefused12_59 g34_70 o_worth12_60)
noncomputable def f_X12_lays (s_sources : Int32) (s_seed : Int32) (s_atA : Int32) (s_atB : Int32) (s_atD : Int32) (s_atF : Int32) (s_atG : Int32) (s_atH : Int32) (s_atL : Int32) (s_atM : Int32) (s_atN : Int32) (s_atS : Int32) (s_atT : Int32) (s_atU : Int32) (s_atX : Int32) (s_paperHigh : Int32) (s_paperShape : Int32) (s_byStar : Nat → Int32) (s_code : Nat → Int32) (s_codeArg : Nat → Int32) (s_codeFrom : Nat → Int32) (s_codeTo : Nat → Int32) (s_highAt : Nat → Int32) (s_isRefused : Nat → Int32) (s_many : Nat → Int32) (s_minuteOf : Nat → Int32) (s_shape : Nat → Int32) (s_shapeAt : Nat → Int32) (s_sumFrom : Nat → Int32) (s_weekdays : Nat → Int32) (s_wide : Nat → Int32) (s_worth : Nat → Int32) (p1 : Int32) : Option (Int32 × Int32 × Int32 × Int32 × Int32 × Int32 × Int32 × Int32 × Int32 × Int32 × Int32 × Int32 × Int32 × Int32 × Int32 × (Nat → Int32) × (Nat → Int32) × (Nat → Int32) × (Nat → Int32)) :=
    (f_X12_lays_L2 s_sources s_seed s_byStar s_code s_codeArg s_codeFrom s_codeTo s_many s_minuteOf s_shape s_sumFrom s_weekdays s_wide p1  FU) 0 s_atA s_atB s_atD s_atF s_atG s_atH s_atL s_atM s_atN s_atS s_atT s_atU s_atX s_paperHigh s_paperShape s_highAt s_isRefused s_shapeAt s_worth
noncomputable def f_X12_isMarked_L146 (s_code : Nat → Int32) (s_codeArg : Nat → Int32) (s_codeFrom : Nat → Int32) (s_codeTo : Nat → Int32) (s_many : Nat → Int32) (p1 : Int32) (p2 : Int32) (p3 : Int32) (p4 : Int32) (o_atA1_1 : Int32) (o_atN1_9 : Int32) (o_atU1_12 : Int32) (o_atX1_13 : Int32) (v10_18 : Int32) (t1_23 : Int32) (atG__27 : Int32) (v100_28 : Int32) (r112_34 : Int32) (v128_41 : Int32)  : Nat → Int32 → (Nat → Int32) → (Nat → Int32) → Option (Int32 × Int32 × Int32 × Int32 × Int32 × Int32 × Int32 × Int32 × Int32 × Int32 × Int32 × Int32 × Int32 × Int32 × (Nat → Int32) × (Nat → Int32))
  | 0, _, _, _ => none
  | n146 + 1, x5_50, isRefused__51, worth__52 =>
    rdI s_many 20 (10 + p1) fun v163_53 =>
    if ((12 * (10 + p1)) + v163_53) ≤ x5_50 then
    (some (0, o_atA1_1, t1_23, p2, v128_41, atG__27, v10_18, v100_28, p3, o_atN1_9, r112_34, p4, o_atU1_12, o_atX1_13, isRefused__51, worth__52))
    else
    (cb3 (f_X12_holds o_atA1_1 t1_23 p2 v128_41 atG__27 v10_18 v100_28 p3 o_atN1_9 r112_34 p4 o_atU1_12 o_atX1_13 s_code s_codeArg s_codeFrom s_codeTo isRefused__51 worth__52 x5_50) fun r171_76 o_isRefused171_77 o_worth171_78 =>
      if r171_76 = 0 then
      (nmI (x5_50 + 1) fun v179_86 =>
        (f_X12_isMarked_L146 s_code s_codeArg s_codeFrom s_codeTo s_many p1 p2 p3 p4 o_atA1_1 o_atN1_9 o_atU1_12 o_atX1_13 v10_18 t1_23 atG__27 v100_28 r112_34 v128_41  n146) v179_86 o_isRefused171_77 o_worth171_78)
      else
      (some (1, o_atA1_1, t1_23, p2, v128_41, atG__27, v10_18, v100_28, p3, o_atN1_9, r112_34, p4, o_atU1_12, o_atX1_13, o_isRefused171_77, o_worth171_78)))
noncomputable def f_X12_isMarked_J94 (s_code : Nat → Int32) (s_codeArg : Nat → Int32) (s_codeFrom : Nat → Int32) (s_codeTo : Nat → Int32) (s_isRefused : Nat → Int32) (s_many : Nat → Int32) (s_shapeAt : Nat → Int32) (s_worth : Nat → Int32) (p1 : Int32) (p2 : Int32) (p3 : Int32) (p4 : Int32) (o_atA1_1 : Int32) (o_atN1_9 : Int32) (o_atU1_12 : Int32) (o_atX1_13 : Int32) (v10_18 : Int32) (t1_23 : Int32)  (atG__27 : Int32) : Option (Int32 × Int32 × Int32 × Int32 × Int32 × Int32 × Int32 × Int32 × Int32 × Int32 × Int32 × Int32 × Int32 × Int32 × (Nat → Int32) × (Nat → Int32)) :=
    rdI s_shapeAt 1440 p3 fun v100_28 =>
    cb1 (f_X12_starAt p2 p3) fun r112_34 =>
    nmI (jrem p2 7) fun v128_41 =>
    nmI (12 * (10 + p1)) fun v144_46 =>
    (f_X12_isMarked_L146 s_code s_codeArg s_codeFrom s_codeTo s_many p1 p2 p3 p4 o_atA1_1 o_atN1_9 o_atU1_12 o_atX1_13 v10_18 t1_23 atG__27 v100_28 r112_34 v128_41  FU) v144_46 s_isRefused s_worth
noncomputable def f_X12_isMarked_L50 (s_highAt : Nat → Int32) (p3 : Int32) (K94 : Int32 → Option (Int32 × Int32 × Int32 × Int32 × Int32 × Int32 × Int32 × Int32 × Int32 × Int32 × Int32 × Int32 × Int32 × Int32 × (Nat → Int32) × (Nat → Int32))) : Nat → Int32 → Int32 → Option (Int32 × Int32 × Int32 × Int32 × Int32 × Int32 × Int32 × Int32 × Int32 × Int32 × Int32 × Int32 × Int32 × Int32 × (Nat → Int32) × (Nat → Int32))
  | 0, _, _ => none
  | n50 + 1, x5_106, atG__107 =>
    if p3 ≤ x5_106 then
    (K94 atG__107)
    else
    (rdI s_highAt 1440 x5_106 fun v63_111 =>
      if v63_111 ≤ atG__107 then
      (nmI (x5_106 + 1) fun v88_119 =>
        (f_X12_isMarked_L50 s_highAt p3 K94 n50) v88_119 atG__107)
      else
      (rdI s_highAt 1440 x5_106 fun v77_123 =>
        nmI (x5_106 + 1) fun v88_128 =>
        (f_X12_isMarked_L50 s_highAt p3 K94 n50) v88_128 v77_123))
noncomputable def f_X12_isMarked_J48 (s_code : Nat → Int32) (s_codeArg : Nat → Int32) (s_codeFrom : Nat → Int32) (s_codeTo : Nat → Int32) (s_highAt : Nat → Int32) (s_isRefused : Nat → Int32) (s_many : Nat → Int32) (s_shapeAt : Nat → Int32) (s_worth : Nat → Int32) (p1 : Int32) (p2 : Int32) (p3 : Int32) (p4 : Int32) (o_atA1_1 : Int32) (o_atG1_5 : Int32) (o_atN1_9 : Int32) (o_atU1_12 : Int32) (o_atX1_13 : Int32) (v10_18 : Int32) (t1_23 : Int32)  (t0_25 : Int32) : Option (Int32 × Int32 × Int32 × Int32 × Int32 × Int32 × Int32 × Int32 × Int32 × Int32 × Int32 × Int32 × Int32 × Int32 × (Nat → Int32) × (Nat → Int32)) :=
    (f_X12_isMarked_L50 s_highAt p3 (f_X12_isMarked_J94 s_code s_codeArg s_codeFrom s_codeTo s_isRefused s_many s_shapeAt s_worth p1 p2 p3 p4 o_atA1_1 o_atN1_9 o_atU1_12 o_atX1_13 v10_18 t1_23 ) FU) t0_25 o_atG1_5
noncomputable def f_X12_isMarked_J31 (s_code : Nat → Int32) (s_codeArg : Nat → Int32) (s_codeFrom : Nat → Int32) (s_codeTo : Nat → Int32) (s_highAt : Nat → Int32) (s_isRefused : Nat → Int32) (s_many : Nat → Int32) (s_shapeAt : Nat → Int32) (s_worth : Nat → Int32) (p1 : Int32) (p2 : Int32) (p3 : Int32) (p4 : Int32) (o_atA1_1 : Int32) (o_atG1_5 : Int32) (o_atN1_9 : Int32) (o_atU1_12 : Int32) (o_atX1_13 : Int32) (v10_18 : Int32)  (t1_23 : Int32) : Option (Int32 × Int32 × Int32 × Int32 × Int32 × Int32 × Int32 × Int32 × Int32 × Int32 × Int32 × Int32 × Int32 × Int32 × (Nat → Int32) × (Nat → Int32)) :=
    if 10 ≤ p3 then
    ((f_X12_isMarked_J48 s_code s_codeArg s_codeFrom s_codeTo s_highAt s_isRefused s_many s_shapeAt s_worth p1 p2 p3 p4 o_atA1_1 o_atG1_5 o_atN1_9 o_atU1_12 o_atX1_13 v10_18 t1_23 ) (p3 - 10))
    else
    ((f_X12_isMarked_J48 s_code s_codeArg s_codeFrom s_codeTo s_highAt s_isRefused s_many s_shapeAt s_worth p1 p2 p3 p4 o_atA1_1 o_atG1_5 o_atN1_9 o_atU1_12 o_atX1_13 v10_18 t1_23 ) 0)
noncomputable def f_X12_isMarked (s_atA : Int32) (s_atB : Int32) (s_atD : Int32) (s_atF : Int32) (s_atG : Int32) (s_atH : Int32) (s_atL : Int32) (s_atM : Int32) (s_atN : Int32) (s_atS : Int32) (s_atT : Int32) (s_atU : Int32) (s_atX : Int32) (s_code : Nat → Int32) (s_codeArg : Nat → Int32) (s_codeFrom : Nat → Int32) (s_codeTo : Nat → Int32) (s_highAt : Nat → Int32) (s_isRefused : Nat → Int32) (s_many : Nat → Int32) (s_shapeAt : Nat → Int32) (s_worth : Nat → Int32) (p1 : Int32) (p2 : Int32) (p3 : Int32) (p4 : Int32) : Option (Int32 × Int32 × Int32 × Int32 × Int32 × Int32 × Int32 × Int32 × Int32 × Int32 × Int32 × Int32 × Int32 × Int32 × (Nat → Int32) × (Nat → Int32)) :=
    cb13 (f_X12_clears s_atA s_atB s_atD s_atF s_atG s_atH s_atL s_atM s_atN s_atS s_atT s_atU s_atX) fun o_atA1_1 o_atB1_2 o_atD1_3 o_atF1_4 o_atG1_5 o_atH1_6 o_atL1_7 o_atM1_8 o_atN1_9 o_atS1_10 o_atT1_11 o_atU1_12 o_atX1_13 =>
    rdI s_highAt 1440 p3 fun v10_18 =>
    if p3 = 0 then
    ((f_X12_isMarked_J31 s_code s_codeArg s_codeFrom s_codeTo s_highAt s_isRefused s_many s_shapeAt s_worth p1 p2 p3 p4 o_atA1_1 o_atG1_5 o_atN1_9 o_atU1_12 o_atX1_13 v10_18 ) 0)
    else
    (rdI s_highAt 1440 (p3 - 1) fun v30_138 =>
      (f_X12_isMarked_J31 s_code s_codeArg s_codeFrom s_codeTo s_highAt s_isRefused s_many s_shapeAt s_worth p1 p2 p3 p4 o_atA1_1 o_atG1_5 o_atN1_9 o_atU1_12 o_atX1_13 v10_18 ) v30_138)
noncomputable def f_X12_goesOver_J160 (s_marked : Nat → Int32) (p3 : Int32)  (x4_4 : Int32) (atA__5 : Int32) (atB__6 : Int32) (atD__7 : Int32) (atF__8 : Int32) (atG__9 : Int32) (atH__10 : Int32) (atL__11 : Int32) (atM__12 : Int32) (atN__13 : Int32) (atS__14 : Int32) (atT__15 : Int32) (atU__16 : Int32) (atX__17 : Int32) (first__18 : Nat → Int32) (greatest__19 : Nat → Int32) (isRefused__20 : Nat → Int32) (last__21 : Nat → Int32) (worth__22 : Nat → Int32) : Option (Int32 × Int32 × Int32 × Int32 × Int32 × Int32 × Int32 × Int32 × Int32 × Int32 × Int32 × Int32 × Int32 × (Nat → Int32) × (Nat → Int32) × (Nat → Int32) × (Nat → Int32) × (Nat → Int32) × (Nat → Int32)) :=
    wrI s_marked 2 p3 x4_4 fun g167_23 =>
    some (atA__5, atB__6, atD__7, atF__8, atG__9, atH__10, atL__11, atM__12, atN__13, atS__14, atT__15, atU__16, atX__17, first__18, greatest__19, isRefused__20, last__21, g167_23, worth__22)
noncomputable def f_X12_goesOver_J149 (x6_49 : Int32) (r36_72 : Int32) (o_atA36_73 : Int32) (o_atB36_74 : Int32) (o_atD36_75 : Int32) (o_atF36_76 : Int32) (o_atG36_77 : Int32) (o_atH36_78 : Int32) (o_atL36_79 : Int32) (o_atM36_80 : Int32) (o_atN36_81 : Int32) (o_atS36_82 : Int32) (o_atT36_83 : Int32) (o_atU36_84 : Int32) (o_atX36_85 : Int32) (o_isRefused36_86 : Nat → Int32) (o_worth36_87 : Nat → Int32) (x4_93 : Int32) (first__94 : Nat → Int32) (greatest__95 : Nat → Int32) (v98_104 : Int32) (g108_108 : Nat → Int32) (K9 : Int32 → Int32 → Int32 → Int32 → Int32 → Int32 → Int32 → Int32 → Int32 → Int32 → Int32 → Int32 → Int32 → Int32 → Int32 → Int32 → (Nat → Int32) → (Nat → Int32) → (Nat → Int32) → (Nat → Int32) → (Nat → Int32) → Option (Int32 × Int32 × Int32 × Int32 × Int32 × Int32 × Int32 × Int32 × Int32 × Int32 × Int32 × Int32 × Int32 × (Nat → Int32) × (Nat → Int32) × (Nat → Int32) × (Nat → Int32) × (Nat → Int32) × (Nat → Int32))) (t2_121 : Int32) : Option (Int32 × Int32 × Int32 × Int32 × Int32 × Int32 × Int32 × Int32 × Int32 × Int32 × Int32 × Int32 × Int32 × (Nat → Int32) × (Nat → Int32) × (Nat → Int32) × (Nat → Int32) × (Nat → Int32) × (Nat → Int32)) :=
    wrI greatest__95 1440 v98_104 t2_121 fun g149_122 =>
    nmI (x6_49 + 1) fun v154_128 =>
    K9 x4_93 r36_72 v154_128 o_atA36_73 o_atB36_74 o_atD36_75 o_atF36_76 o_atG36_77 o_atH36_78 o_atL36_79 o_atM36_80 o_atN36_81 o_atS36_82 o_atT36_83 o_atU36_84 o_atX36_85 first__94 g149_122 o_isRefused36_86 g108_108 o_worth36_87
noncomputable def f_X12_goesOver_J83 (s_highAt : Nat → Int32) (p3 : Int32) (x6_49 : Int32) (last__66 : Nat → Int32) (r36_72 : Int32) (o_atA36_73 : Int32) (o_atB36_74 : Int32) (o_atD36_75 : Int32) (o_atF36_76 : Int32) (o_atG36_77 : Int32) (o_atH36_78 : Int32) (o_atL36_79 : Int32) (o_atM36_80 : Int32) (o_atN36_81 : Int32) (o_atS36_82 : Int32) (o_atT36_83 : Int32) (o_atU36_84 : Int32) (o_atX36_85 : Int32) (o_isRefused36_86 : Nat → Int32) (o_worth36_87 : Nat → Int32) (K9 : Int32 → Int32 → Int32 → Int32 → Int32 → Int32 → Int32 → Int32 → Int32 → Int32 → Int32 → Int32 → Int32 → Int32 → Int32 → Int32 → (Nat → Int32) → (Nat → Int32) → (Nat → Int32) → (Nat → Int32) → (Nat → Int32) → Option (Int32 × Int32 × Int32 × Int32 × Int32 × Int32 × Int32 × Int32 × Int32 × Int32 × Int32 × Int32 × Int32 × (Nat → Int32) × (Nat → Int32) × (Nat → Int32) × (Nat → Int32) × (Nat → Int32) × (Nat → Int32))) (x4_93 : Int32) (first__94 : Nat → Int32) (greatest__95 : Nat → Int32) : Option (Int32 × Int32 × Int32 × Int32 × Int32 × Int32 × Int32 × Int32 × Int32 × Int32 × Int32 × Int32 × Int32 × (Nat → Int32) × (Nat → Int32) × (Nat → Int32) × (Nat → Int32) × (Nat → Int32) × (Nat → Int32)) :=
    if r36_72 = 0 then
    (nmI (x6_49 + 1) fun v154_100 =>
      K9 x4_93 r36_72 v154_100 o_atA36_73 o_atB36_74 o_atD36_75 o_atF36_76 o_atG36_77 o_atH36_78 o_atL36_79 o_atM36_80 o_atN36_81 o_atS36_82 o_atT36_83 o_atU36_84 o_atX36_85 first__94 greatest__95 o_isRefused36_86 last__66 o_worth36_87)
    else
    (nmI (((720 * p3) + x4_93) - 1) fun v98_104 =>
      wrI last__66 1440 v98_104 x6_49 fun g108_108 =>
      rdI s_highAt 1440 x6_49 fun v121_113 =>
      rdI greatest__95 1440 v98_104 fun v128_117 =>
      if v121_113 ≤ v128_117 then
      (rdI greatest__95 1440 v98_104 fun v148_135 =>
        (f_X12_goesOver_J149 x6_49 r36_72 o_atA36_73 o_atB36_74 o_atD36_75 o_atF36_76 o_atG36_77 o_atH36_78 o_atL36_79 o_atM36_80 o_atN36_81 o_atS36_82 o_atT36_83 o_atU36_84 o_atX36_85 o_isRefused36_86 o_worth36_87 x4_93 first__94 greatest__95 v98_104 g108_108 K9) v148_135)
      else
      (rdI s_highAt 1440 x6_49 fun v138_139 =>
        (f_X12_goesOver_J149 x6_49 r36_72 o_atA36_73 o_atB36_74 o_atD36_75 o_atF36_76 o_atG36_77 o_atH36_78 o_atL36_79 o_atM36_80 o_atN36_81 o_atS36_82 o_atT36_83 o_atU36_84 o_atX36_85 o_isRefused36_86 o_worth36_87 x4_93 first__94 greatest__95 v98_104 g108_108 K9) v138_139))
noncomputable def f_X12_goesOver_J36 (s_code : Nat → Int32) (s_codeArg : Nat → Int32) (s_codeFrom : Nat → Int32) (s_codeTo : Nat → Int32) (s_highAt : Nat → Int32) (s_many : Nat → Int32) (s_shapeAt : Nat → Int32) (p1 : Int32) (p2 : Int32) (p3 : Int32) (x4_47 : Int32) (x5_48 : Int32) (x6_49 : Int32) (atA__50 : Int32) (atB__51 : Int32) (atD__52 : Int32) (atF__53 : Int32) (atG__54 : Int32) (atH__55 : Int32) (atL__56 : Int32) (atM__57 : Int32) (atN__58 : Int32) (atS__59 : Int32) (atT__60 : Int32) (atU__61 : Int32) (atX__62 : Int32) (first__63 : Nat → Int32) (greatest__64 : Nat → Int32) (isRefused__65 : Nat → Int32) (last__66 : Nat → Int32) (worth__67 : Nat → Int32) (K9 : Int32 → Int32 → Int32 → Int32 → Int32 → Int32 → Int32 → Int32 → Int32 → Int32 → Int32 → Int32 → Int32 → Int32 → Int32 → Int32 → (Nat → Int32) → (Nat → Int32) → (Nat → Int32) → (Nat → Int32) → (Nat → Int32) → Option (Int32 × Int32 × Int32 × Int32 × Int32 × Int32 × Int32 × Int32 × Int32 × Int32 × Int32 × Int32 × Int32 × (Nat → Int32) × (Nat → Int32) × (Nat → Int32) × (Nat → Int32) × (Nat → Int32) × (Nat → Int32))) (t4_71 : Int32) : Option (Int32 × Int32 × Int32 × Int32 × Int32 × Int32 × Int32 × Int32 × Int32 × Int32 × Int32 × Int32 × Int32 × (Nat → Int32) × (Nat → Int32) × (Nat → Int32) × (Nat → Int32) × (Nat → Int32) × (Nat → Int32)) :=
    cb16 (f_X12_isMarked atA__50 atB__51 atD__52 atF__53 atG__54 atH__55 atL__56 atM__57 atN__58 atS__59 atT__60 atU__61 atX__62 s_code s_codeArg s_codeFrom s_codeTo s_highAt isRefused__65 s_many s_shapeAt worth__67 p1 p2 x6_49 t4_71) fun r36_72 o_atA36_73 o_atB36_74 o_atD36_75 o_atF36_76 o_atG36_77 o_atH36_78 o_atL36_79 o_atM36_80 o_atN36_81 o_atS36_82 o_atT36_83 o_atU36_84 o_atX36_85 o_isRefused36_86 o_worth36_87 =>
    if r36_72 = 0 then
    ((f_X12_goesOver_J83 s_highAt p3 x6_49 last__66 r36_72 o_atA36_73 o_atB36_74 o_atD36_75 o_atF36_76 o_atG36_77 o_atH36_78 o_atL36_79 o_atM36_80 o_atN36_81 o_atS36_82 o_atT36_83 o_atU36_84 o_atX36_85 o_isRefused36_86 o_worth36_87 K9) x4_47 first__63 greatest__64)
    else
    (if x5_48 = 0 then
      (wrI first__63 1440 ((720 * p3) + x4_47) x6_49 fun g65_149 =>
        wrI greatest__64 1440 ((720 * p3) + x4_47) 0 fun g79_154 =>
        nmI (x4_47 + 1) fun v80_159 =>
        (f_X12_goesOver_J83 s_highAt p3 x6_49 last__66 r36_72 o_atA36_73 o_atB36_74 o_atD36_75 o_atF36_76 o_atG36_77 o_atH36_78 o_atL36_79 o_atM36_80 o_atN36_81 o_atS36_82 o_atT36_83 o_atU36_84 o_atX36_85 o_isRefused36_86 o_worth36_87 K9) v80_159 g65_149 g79_154)
      else
      ((f_X12_goesOver_J83 s_highAt p3 x6_49 last__66 r36_72 o_atA36_73 o_atB36_74 o_atD36_75 o_atF36_76 o_atG36_77 o_atH36_78 o_atL36_79 o_atM36_80 o_atN36_81 o_atS36_82 o_atT36_83 o_atU36_84 o_atX36_85 o_isRefused36_86 o_worth36_87 K9) x4_47 first__63 greatest__64))
noncomputable def f_X12_goesOver_L9 (s_code : Nat → Int32) (s_codeArg : Nat → Int32) (s_codeFrom : Nat → Int32) (s_codeTo : Nat → Int32) (s_highAt : Nat → Int32) (s_many : Nat → Int32) (s_shapeAt : Nat → Int32) (p1 : Int32) (p2 : Int32) (p3 : Int32) (K160 : Int32 → Int32 → Int32 → Int32 → Int32 → Int32 → Int32 → Int32 → Int32 → Int32 → Int32 → Int32 → Int32 → Int32 → (Nat → Int32) → (Nat → Int32) → (Nat → Int32) → (Nat → Int32) → (Nat → Int32) → Option (Int32 × Int32 × Int32 × Int32 × Int32 × Int32 × Int32 × Int32 × Int32 × Int32 × Int32 × Int32 × Int32 × (Nat → Int32) × (Nat → Int32) × (Nat → Int32) × (Nat → Int32) × (Nat → Int32) × (Nat → Int32))) : Nat → Int32 → Int32 → Int32 → Int32 → Int32 → Int32 → Int32 → Int32 → Int32 → Int32 → Int32 → Int32 → Int32 → Int32 → Int32 → Int32 → (Nat → Int32) → (Nat → Int32) → (Nat → Int32) → (Nat → Int32) → (Nat → Int32) → Option (Int32 × Int32 × Int32 × Int32 × Int32 × Int32 × Int32 × Int32 × Int32 × Int32 × Int32 × Int32 × Int32 × (Nat → Int32) × (Nat → Int32) × (Nat → Int32) × (Nat → Int32) × (Nat → Int32) × (Nat → Int32))
  | 0, _, _, _, _, _, _, _, _, _, _, _, _, _, _, _, _, _, _, _, _, _ => none
  | n9 + 1, x4_47, x5_48, x6_49, atA__50, atB__51, atD__52, atF__53, atG__54, atH__55, atL__56, atM__57, atN__58, atS__59, atT__60, atU__61, atX__62, first__63, greatest__64, isRefused__65, last__66, worth__67 =>
    if 1440 ≤ x6_49 then
    (K160 x4_47 atA__50 atB__51 atD__52 atF__53 atG__54 atH__55 atL__56 atM__57 atN__58 atS__59 atT__60 atU__61 atX__62 first__63 greatest__64 isRefused__65 last__66 worth__67)
    else
    (if x5_48 = 0 then
      ((f_X12_goesOver_J36 s_code s_codeArg s_codeFrom s_codeTo s_highAt s_many s_shapeAt p1 p2 p3 x4_47 x5_48 x6_49 atA__50 atB__51 atD__52 atF__53 atG__54 atH__55 atL__56 atM__57 atN__58 atS__59 atT__60 atU__61 atX__62 first__63 greatest__64 isRefused__65 last__66 worth__67 (f_X12_goesOver_L9 s_code s_codeArg s_codeFrom s_codeTo s_highAt s_many s_shapeAt p1 p2 p3 K160 n9)) x4_47)
      else
      ((f_X12_goesOver_J36 s_code s_codeArg s_codeFrom s_codeTo s_highAt s_many s_shapeAt p1 p2 p3 x4_47 x5_48 x6_49 atA__50 atB__51 atD__52 atF__53 atG__54 atH__55 atL__56 atM__57 atN__58 atS__59 atT__60 atU__61 atX__62 first__63 greatest__64 isRefused__65 last__66 worth__67 (f_X12_goesOver_L9 s_code s_codeArg s_codeFrom s_codeTo s_highAt s_many s_shapeAt p1 p2 p3 K160 n9)) (x4_47 - 1)))
noncomputable def f_X12_goesOver (s_atA : Int32) (s_atB : Int32) (s_atD : Int32) (s_atF : Int32) (s_atG : Int32) (s_atH : Int32) (s_atL : Int32) (s_atM : Int32) (s_atN : Int32) (s_atS : Int32) (s_atT : Int32) (s_atU : Int32) (s_atX : Int32) (s_code : Nat → Int32) (s_codeArg : Nat → Int32) (s_codeFrom : Nat → Int32) (s_codeTo : Nat → Int32) (s_first : Nat → Int32) (s_greatest : Nat → Int32) (s_highAt : Nat → Int32) (s_isRefused : Nat → Int32) (s_last : Nat → Int32) (s_many : Nat → Int32) (s_marked : Nat → Int32) (s_shapeAt : Nat → Int32) (s_worth : Nat → Int32) (p1 : Int32) (p2 : Int32) (p3 : Int32) : Option (Int32 × Int32 × Int32 × Int32 × Int32 × Int32 × Int32 × Int32 × Int32 × Int32 × Int32 × Int32 × Int32 × (Nat → Int32) × (Nat → Int32) × (Nat → Int32) × (Nat → Int32) × (Nat → Int32) × (Nat → Int32)) :=
    (f_X12_goesOver_L9 s_code s_codeArg s_codeFrom s_codeTo s_highAt s_many s_shapeAt p1 p2 p3 (f_X12_goesOver_J160 s_marked p3 ) FU) 0 0 0 s_atA s_atB s_atD s_atF s_atG s_atH s_atL s_atM s_atN s_atS s_atT s_atU s_atX s_first s_greatest s_isRefused s_last s_worth
noncomputable def f_X12_marks (s_sources : Int32) (s_seed : Int32) (s_atA : Int32) (s_atB : Int32) (s_atD : Int32) (s_atF : Int32) (s_atG : Int32) (s_atH : Int32) (s_atL : Int32) (s_atM : Int32) (s_atN : Int32) (s_atS : Int32) (s_atT : Int32) (s_atU : Int32) (s_atX : Int32) (s_paperHigh : Int32) (s_paperShape : Int32) (s_byStar : Nat → Int32) (s_code : Nat → Int32) (s_codeArg : Nat → Int32) (s_codeFrom : Nat → Int32) (s_codeTo : Nat → Int32) (s_first : Nat → Int32) (s_greatest : Nat → Int32) (s_highAt : Nat → Int32) (s_isRefused : Nat → Int32) (s_last : Nat → Int32) (s_many : Nat → Int32) (s_marked : Nat → Int32) (s_minuteOf : Nat → Int32) (s_shape : Nat → Int32) (s_shapeAt : Nat → Int32) (s_sumFrom : Nat → Int32) (s_weekdays : Nat → Int32) (s_wide : Nat → Int32) (s_worth : Nat → Int32) (p1 : Int32) (p2 : Int32) (p3 : Int32) : Option (Int32 × Int32 × Int32 × Int32 × Int32 × Int32 × Int32 × Int32 × Int32 × Int32 × Int32 × Int32 × Int32 × Int32 × Int32 × Int32 × (Nat → Int32) × (Nat → Int32) × (Nat → Int32) × (Nat → Int32) × (Nat → Int32) × (Nat → Int32) × (Nat → Int32) × (Nat → Int32)) :=
    cb1 (f_X12_isReader p1) fun r1_1 =>
    if r1_1 = 0 then
    (some ((-1), s_atA, s_atB, s_atD, s_atF, s_atG, s_atH, s_atL, s_atM, s_atN, s_atS, s_atT, s_atU, s_atX, s_paperHigh, s_paperShape, s_first, s_greatest, s_highAt, s_isRefused, s_last, s_marked, s_shapeAt, s_worth))
    else
    (cb1 (f_X12_isDay p2) fun r8_33 =>
      if r8_33 = 0 then
      (some ((-1), s_atA, s_atB, s_atD, s_atF, s_atG, s_atH, s_atL, s_atM, s_atN, s_atS, s_atT, s_atU, s_atX, s_paperHigh, s_paperShape, s_first, s_greatest, s_highAt, s_isRefused, s_last, s_marked, s_shapeAt, s_worth))
      else
      (if (-1) ≤ p3 then
        (cb19 (f_X12_lays s_sources s_seed s_atA s_atB s_atD s_atF s_atG s_atH s_atL s_atM s_atN s_atS s_atT s_atU s_atX s_paperHigh s_paperShape s_byStar s_code s_codeArg s_codeFrom s_codeTo s_highAt s_isRefused s_many s_minuteOf s_shape s_shapeAt s_sumFrom s_weekdays s_wide s_worth p2) fun o_atA23_68 o_atB23_69 o_atD23_70 o_atF23_71 o_atG23_72 o_atH23_73 o_atL23_74 o_atM23_75 o_atN23_76 o_atS23_77 o_atT23_78 o_atU23_79 o_atX23_80 o_paperHigh23_81 o_paperShape23_82 o_highAt23_83 o_isRefused23_84 o_shapeAt23_85 o_worth23_86 =>
          cb19 (f_X12_goesOver o_atA23_68 o_atB23_69 o_atD23_70 o_atF23_71 o_atG23_72 o_atH23_73 o_atL23_74 o_atM23_75 o_atN23_76 o_atS23_77 o_atT23_78 o_atU23_79 o_atX23_80 s_code s_codeArg s_codeFrom s_codeTo s_first s_greatest o_highAt23_83 o_isRefused23_84 s_last s_many s_marked o_shapeAt23_85 o_worth23_86 p1 p2 0) fun o_atA30_91 o_atB30_92 o_atD30_93 o_atF30_94 o_atG30_95 o_atH30_96 o_atL30_97 o_atM30_98 o_atN30_99 o_atS30_100 o_atT30_101 o_atU30_102 o_atX30_103 o_first30_104 o_greatest30_105 o_isRefused30_106 o_last30_107 o_marked30_108 o_worth30_109 =>
          if p3 = (-1) then
          (rdI o_marked30_108 2 0 fun v43_238 =>
            some (v43_238, o_atA30_91, o_atB30_92, o_atD30_93, o_atF30_94, o_atG30_95, o_atH30_96, o_atL30_97, o_atM30_98, o_atN30_99, o_atS30_100, o_atT30_101, o_atU30_102, o_atX30_103, o_paperHigh23_81, o_paperShape23_82, o_first30_104, o_greatest30_105, o_highAt23_83, o_isRefused30_106, o_last30_107, o_marked30_108, o_shapeAt23_85, o_worth30_109))
          else
          (rdI o_marked30_108 2 0 fun v53_117 =>
            if (p3 / 3) < v53_117 then
            (if (jrem p3 3) = 0 then
              (rdI o_first30_104 1440 (p3 / 3) fun v72_186 =>
                some (v72_186, o_atA30_91, o_atB30_92, o_atD30_93, o_atF30_94, o_atG30_95, o_atH30_96, o_atL30_97, o_atM30_98, o_atN30_99, o_atS30_100, o_atT30_101, o_atU30_102, o_atX30_103, o_paperHigh23_81, o_paperShape23_82, o_first30_104, o_greatest30_105, o_highAt23_83, o_isRefused30_106, o_last30_107, o_marked30_108, o_shapeAt23_85, o_worth30_109))
              else
              (if (jrem p3 3) = 1 then
                (rdI o_last30_107 1440 (p3 / 3) fun v90_158 =>
                  some (v90_158, o_atA30_91, o_atB30_92, o_atD30_93, o_atF30_94, o_atG30_95, o_atH30_96, o_atL30_97, o_atM30_98, o_atN30_99, o_atS30_100, o_atT30_101, o_atU30_102, o_atX30_103, o_paperHigh23_81, o_paperShape23_82, o_first30_104, o_greatest30_105, o_highAt23_83, o_isRefused30_106, o_last30_107, o_marked30_108, o_shapeAt23_85, o_worth30_109))
                else
                (rdI o_greatest30_105 1440 (p3 / 3) fun v101_130 =>
                  some (v101_130, o_atA30_91, o_atB30_92, o_atD30_93, o_atF30_94, o_atG30_95, o_atH30_96, o_atL30_97, o_atM30_98, o_atN30_99, o_atS30_100, o_atT30_101, o_atU30_102, o_atX30_103, o_paperHigh23_81, o_paperShape23_82, o_first30_104, o_greatest30_105, o_highAt23_83, o_isRefused30_106, o_last30_107, o_marked30_108, o_shapeAt23_85, o_worth30_109))))
            else
            (some ((-1), o_atA30_91, o_atB30_92, o_atD30_93, o_atF30_94, o_atG30_95, o_atH30_96, o_atL30_97, o_atM30_98, o_atN30_99, o_atS30_100, o_atT30_101, o_atU30_102, o_atX30_103, o_paperHigh23_81, o_paperShape23_82, o_first30_104, o_greatest30_105, o_highAt23_83, o_isRefused30_106, o_last30_107, o_marked30_108, o_shapeAt23_85, o_worth30_109))))
        else
        (some ((-1), s_atA, s_atB, s_atD, s_atF, s_atG, s_atH, s_atL, s_atM, s_atN, s_atS, s_atT, s_atU, s_atX, s_paperHigh, s_paperShape, s_first, s_greatest, s_highAt, s_isRefused, s_last, s_marked, s_shapeAt, s_worth))))
noncomputable def f_X12_isAlone_L2 (s_first : Nat → Int32) (s_last : Nat → Int32) (s_marked : Nat → Int32) (p1 : Int32)  : Nat → Int32 → Option (Int32)
  | 0, _ => none
  | n2 + 1, x2_2 =>
    rdI s_marked 2 0 fun v8_3 =>
    if v8_3 ≤ x2_2 then
    (some (1))
    else
    (rdI s_first 1440 x2_2 fun v17_11 =>
      rdI s_last 1440 (720 + p1) fun v27_15 =>
      if v27_15 < v17_11 then
      (nmI (x2_2 + 1) fun v52_22 =>
        (f_X12_isAlone_L2 s_first s_last s_marked p1  n2) v52_22)
      else
      (rdI s_last 1440 x2_2 fun v36_26 =>
        rdI s_first 1440 (720 + p1) fun v46_30 =>
        if v36_26 < v46_30 then
        (nmI (x2_2 + 1) fun v52_37 =>
          (f_X12_isAlone_L2 s_first s_last s_marked p1  n2) v52_37)
        else
        (some (0))))
noncomputable def f_X12_isAlone (s_first : Nat → Int32) (s_last : Nat → Int32) (s_marked : Nat → Int32) (p1 : Int32) : Option (Int32) :=
    (f_X12_isAlone_L2 s_first s_last s_marked p1  FU) 0
noncomputable def f_X12_passed_J164 (p5 : Int32)  (x6_173 : Int32) (x7_174 : Int32) (x8_175 : Int32) (atA__176 : Int32) (atB__177 : Int32) (atD__178 : Int32) (atF__179 : Int32) (atG__180 : Int32) (atH__181 : Int32) (atL__182 : Int32) (atM__183 : Int32) (atN__184 : Int32) (atS__185 : Int32) (atT__186 : Int32) (atU__187 : Int32) (atX__188 : Int32) (paperHigh__189 : Int32) (paperShape__190 : Int32) (first__191 : Nat → Int32) (greatest__192 : Nat → Int32) (highAt__193 : Nat → Int32) (isRefused__194 : Nat → Int32) (last__195 : Nat → Int32) (marked__196 : Nat → Int32) (shapeAt__197 : Nat → Int32) (worth__198 : Nat → Int32) : Option (Int32 × Int32 × Int32 × Int32 × Int32 × Int32 × Int32 × Int32 × Int32 × Int32 × Int32 × Int32 × Int32 × Int32 × Int32 × Int32 × (Nat → Int32) × (Nat → Int32) × (Nat → Int32) × (Nat → Int32) × (Nat → Int32) × (Nat → Int32) × (Nat → Int32) × (Nat → Int32)) :=
    if p5 = 0 then
    (some (x6_173, atA__176, atB__177, atD__178, atF__179, atG__180, atH__181, atL__182, atM__183, atN__184, atS__185, atT__186, atU__187, atX__188, paperHigh__189, paperShape__190, first__191, greatest__192, highAt__193, isRefused__194, last__195, marked__196, shapeAt__197, worth__198))
    else
    (if p5 = 1 then
      (some (x7_174, atA__176, atB__177, atD__178, atF__179, atG__180, atH__181, atL__182, atM__183, atN__184, atS__185, atT__186, atU__187, atX__188, paperHigh__189, paperShape__190, first__191, greatest__192, highAt__193, isRefused__194, last__195, marked__196, shapeAt__197, worth__198))
      else
      (some (x8_175, atA__176, atB__177, atD__178, atF__179, atG__180, atH__181, atL__182, atM__183, atN__184, atS__185, atT__186, atU__187, atX__188, paperHigh__189, paperShape__190, first__191, greatest__192, highAt__193, isRefused__194, last__195, marked__196, shapeAt__197, worth__198)))
noncomputable def f_X12_passed_L104 (x9_280 : Int32) (o_paperHigh82_320 : Int32) (o_paperShape82_321 : Int32) (o_highAt82_322 : Nat → Int32) (o_shapeAt82_324 : Nat → Int32) (o_atA98_353 : Int32) (o_atB98_354 : Int32) (o_atD98_355 : Int32) (o_atF98_356 : Int32) (o_atG98_357 : Int32) (o_atH98_358 : Int32) (o_atL98_359 : Int32) (o_atM98_360 : Int32) (o_atN98_361 : Int32) (o_atS98_362 : Int32) (o_atT98_363 : Int32) (o_atU98_364 : Int32) (o_atX98_365 : Int32) (o_first98_366 : Nat → Int32) (o_greatest98_367 : Nat → Int32) (o_isRefused98_368 : Nat → Int32) (o_last98_369 : Nat → Int32) (o_marked98_370 : Nat → Int32) (o_worth98_371 : Nat → Int32) (K72 : Int32 → Int32 → Int32 → Int32 → Int32 → Int32 → Int32 → Int32 → Int32 → Int32 → Int32 → Int32 → Int32 → Int32 → Int32 → Int32 → Int32 → Int32 → Int32 → (Nat → Int32) → (Nat → Int32) → (Nat → Int32) → (Nat → Int32) → (Nat → Int32) → (Nat → Int32) → (Nat → Int32) → (Nat → Int32) → Option (Int32 × Int32 × Int32 × Int32 × Int32 × Int32 × Int32 × Int32 × Int32 × Int32 × Int32 × Int32 × Int32 × Int32 × Int32 × Int32 × (Nat → Int32) × (Nat → Int32) × (Nat → Int32) × (Nat → Int32) × (Nat → Int32) × (Nat → Int32) × (Nat → Int32) × (Nat → Int32))) : Nat → Int32 → Int32 → Int32 → Int32 → Option (Int32 × Int32 × Int32 × Int32 × Int32 × Int32 × Int32 × Int32 × Int32 × Int32 × Int32 × Int32 × Int32 × Int32 × Int32 × Int32 × (Nat → Int32) × (Nat → Int32) × (Nat → Int32) × (Nat → Int32) × (Nat → Int32) × (Nat → Int32) × (Nat → Int32) × (Nat → Int32))
  | 0, _, _, _, _ => none
  | n104 + 1, x6_377, x7_378, x8_379, x10_380 =>
    rdI o_marked98_370 2 1 fun v111_381 =>
    if v111_381 ≤ x10_380 then
    (nmI (x9_280 + 1) fun v158_388 =>
      K72 x6_377 x7_378 x8_379 v158_388 o_atA98_353 o_atB98_354 o_atD98_355 o_atF98_356 o_atG98_357 o_atH98_358 o_atL98_359 o_atM98_360 o_atN98_361 o_atS98_362 o_atT98_363 o_atU98_364 o_atX98_365 o_paperHigh82_320 o_paperShape82_321 o_first98_366 o_greatest98_367 o_highAt82_322 o_isRefused98_368 o_last98_369 o_marked98_370 o_shapeAt82_324 o_worth98_371)
    else
    (cb1 (f_X12_isAlone o_first98_366 o_last98_369 o_marked98_370 x10_380) fun r118_392 =>
      if r118_392 = 0 then
      (nmI (x10_380 + 1) fun v152_425 =>
        (f_X12_passed_L104 x9_280 o_paperHigh82_320 o_paperShape82_321 o_highAt82_322 o_shapeAt82_324 o_atA98_353 o_atB98_354 o_atD98_355 o_atF98_356 o_atG98_357 o_atH98_358 o_atL98_359 o_atM98_360 o_atN98_361 o_atS98_362 o_atT98_363 o_atU98_364 o_atX98_365 o_first98_366 o_greatest98_367 o_isRefused98_368 o_last98_369 o_marked98_370 o_worth98_371 K72 n104) x6_377 x7_378 x8_379 v152_425)
      else
      (if x6_377 = 0 then
        (rdI o_first98_366 1440 (720 + x10_380) fun v146_412 =>
          nmI (x6_377 + 1) fun v149_417 =>
          nmI (x10_380 + 1) fun v152_421 =>
          (f_X12_passed_L104 x9_280 o_paperHigh82_320 o_paperShape82_321 o_highAt82_322 o_shapeAt82_324 o_atA98_353 o_atB98_354 o_atD98_355 o_atF98_356 o_atG98_357 o_atH98_358 o_atL98_359 o_atM98_360 o_atN98_361 o_atS98_362 o_atT98_363 o_atU98_364 o_atX98_365 o_first98_366 o_greatest98_367 o_isRefused98_368 o_last98_369 o_marked98_370 o_worth98_371 K72 n104) v149_417 x9_280 v146_412 v152_421)
        else
        (nmI (x6_377 + 1) fun v149_403 =>
          nmI (x10_380 + 1) fun v152_407 =>
          (f_X12_passed_L104 x9_280 o_paperHigh82_320 o_paperShape82_321 o_highAt82_322 o_shapeAt82_324 o_atA98_353 o_atB98_354 o_atD98_355 o_atF98_356 o_atG98_357 o_atH98_358 o_atL98_359 o_atM98_360 o_atN98_361 o_atS98_362 o_atT98_363 o_atU98_364 o_atX98_365 o_first98_366 o_greatest98_367 o_isRefused98_368 o_last98_369 o_marked98_370 o_worth98_371 K72 n104) v149_403 x7_378 x8_379 v152_407)))
noncomputable def f_X12_passed_L72 (s_sources : Int32) (s_seed : Int32) (s_byStar : Nat → Int32) (s_code : Nat → Int32) (s_codeArg : Nat → Int32) (s_codeFrom : Nat → Int32) (s_codeTo : Nat → Int32) (s_many : Nat → Int32) (s_minuteOf : Nat → Int32) (s_shape : Nat → Int32) (s_sumFrom : Nat → Int32) (s_weekdays : Nat → Int32) (s_wide : Nat → Int32) (p1 : Int32) (p2 : Int32) (p4 : Int32) (K164 : Int32 → Int32 → Int32 → Int32 → Int32 → Int32 → Int32 → Int32 → Int32 → Int32 → Int32 → Int32 → Int32 → Int32 → Int32 → Int32 → Int32 → Int32 → (Nat → Int32) → (Nat → Int32) → (Nat → Int32) → (Nat → Int32) → (Nat → Int32) → (Nat → Int32) → (Nat → Int32) → (Nat → Int32) → Option (Int32 × Int32 × Int32 × Int32 × Int32 × Int32 × Int32 × Int32 × Int32 × Int32 × Int32 × Int32 × Int32 × Int32 × Int32 × Int32 × (Nat → Int32) × (Nat → Int32) × (Nat → Int32) × (Nat → Int32) × (Nat → Int32) × (Nat → Int32) × (Nat → Int32) × (Nat → Int32))) : Nat → Int32 → Int32 → Int32 → Int32 → Int32 → Int32 → Int32 → Int32 → Int32 → Int32 → Int32 → Int32 → Int32 → Int32 → Int32 → Int32 → Int32 → Int32 → Int32 → (Nat → Int32) → (Nat → Int32) → (Nat → Int32) → (Nat → Int32) → (Nat → Int32) → (Nat → Int32) → (Nat → Int32) → (Nat → Int32) → Option (Int32 × Int32 × Int32 × Int32 × Int32 × Int32 × Int32 × Int32 × Int32 × Int32 × Int32 × Int32 × Int32 × Int32 × Int32 × Int32 × (Nat → Int32) × (Nat → Int32) × (Nat → Int32) × (Nat → Int32) × (Nat → Int32) × (Nat → Int32) × (Nat → Int32) × (Nat → Int32))
  | 0, _, _, _, _, _, _, _, _, _, _, _, _, _, _, _, _, _, _, _, _, _, _, _, _, _, _, _ => none
  | n72 + 1, x6_277, x7_278, x8_279, x9_280, atA__281, atB__282, atD__283, atF__284, atG__285, atH__286, atL__287, atM__288, atN__289, atS__290, atT__291, atU__292, atX__293, paperHigh__294, paperShape__295, first__296, greatest__297, highAt__298, isRefused__299, last__300, marked__301, shapeAt__302, worth__303 =>
    if p4 < x9_280 then
    (K164 x6_277 x7_278 x8_279 atA__281 atB__282 atD__283 atF__284 atG__285 atH__286 atL__287 atM__288 atN__289 atS__290 atT__291 atU__292 atX__293 paperHigh__294 paperShape__295 first__296 greatest__297 highAt__298 isRefused__299 last__300 marked__301 shapeAt__302 worth__303)
    else
    (cb19 (f_X12_lays s_sources s_seed atA__281 atB__282 atD__283 atF__284 atG__285 atH__286 atL__287 atM__288 atN__289 atS__290 atT__291 atU__292 atX__293 paperHigh__294 paperShape__295 s_byStar s_code s_codeArg s_codeFrom s_codeTo highAt__298 isRefused__299 s_many s_minuteOf s_shape shapeAt__302 s_sumFrom s_weekdays s_wide worth__303 x9_280) fun o_atA82_307 o_atB82_308 o_atD82_309 o_atF82_310 o_atG82_311 o_atH82_312 o_atL82_313 o_atM82_314 o_atN82_315 o_atS82_316 o_atT82_317 o_atU82_318 o_atX82_319 o_paperHigh82_320 o_paperShape82_321 o_highAt82_322 o_isRefused82_323 o_shapeAt82_324 o_worth82_325 =>
      cb19 (f_X12_goesOver o_atA82_307 o_atB82_308 o_atD82_309 o_atF82_310 o_atG82_311 o_atH82_312 o_atL82_313 o_atM82_314 o_atN82_315 o_atS82_316 o_atT82_317 o_atU82_318 o_atX82_319 s_code s_codeArg s_codeFrom s_codeTo first__296 greatest__297 o_highAt82_322 o_isRefused82_323 last__300 s_many marked__301 o_shapeAt82_324 o_worth82_325 p1 x9_280 0) fun o_atA90_330 o_atB90_331 o_atD90_332 o_atF90_333 o_atG90_334 o_atH90_335 o_atL90_336 o_atM90_337 o_atN90_338 o_atS90_339 o_atT90_340 o_atU90_341 o_atX90_342 o_first90_343 o_greatest90_344 o_isRefused90_345 o_last90_346 o_marked90_347 o_worth90_348 =>
      cb19 (f_X12_goesOver o_atA90_330 o_atB90_331 o_atD90_332 o_atF90_333 o_atG90_334 o_atH90_335 o_atL90_336 o_atM90_337 o_atN90_338 o_atS90_339 o_atT90_340 o_atU90_341 o_atX90_342 s_code s_codeArg s_codeFrom s_codeTo o_first90_343 o_greatest90_344 o_highAt82_322 o_isRefused90_345 o_last90_346 s_many o_marked90_347 o_shapeAt82_324 o_worth90_348 p2 x9_280 1) fun o_atA98_353 o_atB98_354 o_atD98_355 o_atF98_356 o_atG98_357 o_atH98_358 o_atL98_359 o_atM98_360 o_atN98_361 o_atS98_362 o_atT98_363 o_atU98_364 o_atX98_365 o_first98_366 o_greatest98_367 o_isRefused98_368 o_last98_369 o_marked98_370 o_worth98_371 =>
      (f_X12_passed_L104 x9_280 o_paperHigh82_320 o_paperShape82_321 o_highAt82_322 o_shapeAt82_324 o_atA98_353 o_atB98_354 o_atD98_355 o_atF98_356 o_atG98_357 o_atH98_358 o_atL98_359 o_atM98_360 o_atN98_361 o_atS98_362 o_atT98_363 o_atU98_364 o_atX98_365 o_first98_366 o_greatest98_367 o_isRefused98_368 o_last98_369 o_marked98_370 o_worth98_371 (f_X12_passed_L72 s_sources s_seed s_byStar s_code s_codeArg s_codeFrom s_codeTo s_many s_minuteOf s_shape s_sumFrom s_weekdays s_wide p1 p2 p4 K164 n72) FU) x6_277 x7_278 x8_279 0)
noncomputable def f_X12_passed (s_sources : Int32) (s_seed : Int32) (s_atA : Int32) (s_atB : Int32) (s_atD : Int32) (s_atF : Int32) (s_atG : Int32) (s_atH : Int32) (s_atL : Int32) (s_atM : Int32) (s_atN : Int32) (s_atS : Int32) (s_atT : Int32) (s_atU : Int32) (s_atX : Int32) (s_paperHigh : Int32) (s_paperShape : Int32) (s_byStar : Nat → Int32) (s_code : Nat → Int32) (s_codeArg : Nat → Int32) (s_codeFrom : Nat → Int32) (s_codeTo : Nat → Int32) (s_first : Nat → Int32) (s_greatest : Nat → Int32) (s_highAt : Nat → Int32) (s_isRefused : Nat → Int32) (s_last : Nat → Int32) (s_many : Nat → Int32) (s_marked : Nat → Int32) (s_minuteOf : Nat → Int32) (s_shape : Nat → Int32) (s_shapeAt : Nat → Int32) (s_sumFrom : Nat → Int32) (s_weekdays : Nat → Int32) (s_wide : Nat → Int32) (s_worth : Nat → Int32) (p1 : Int32) (p2 : Int32) (p3 : Int32) (p4 : Int32) (p5 : Int32) : Option (Int32 × Int32 × Int32 × Int32 × Int32 × Int32 × Int32 × Int32 × Int32 × Int32 × Int32 × Int32 × Int32 × Int32 × Int32 × Int32 × (Nat → Int32) × (Nat → Int32) × (Nat → Int32) × (Nat → Int32) × (Nat → Int32) × (Nat → Int32) × (Nat → Int32) × (Nat → Int32)) :=
    cb1 (f_X12_isReader p1) fun r1_1 =>
    if r1_1 = 0 then
    (some ((-1), s_atA, s_atB, s_atD, s_atF, s_atG, s_atH, s_atL, s_atM, s_atN, s_atS, s_atT, s_atU, s_atX, s_paperHigh, s_paperShape, s_first, s_greatest, s_highAt, s_isRefused, s_last, s_marked, s_shapeAt, s_worth))
    else
    (cb1 (f_X12_isReader p2) fun r8_33 =>
      if r8_33 = 0 then
      (some ((-1), s_atA, s_atB, s_atD, s_atF, s_atG, s_atH, s_atL, s_atM, s_atN, s_atS, s_atT, s_atU, s_atX, s_paperHigh, s_paperShape, s_first, s_greatest, s_highAt, s_isRefused, s_last, s_marked, s_shapeAt, s_worth))
      else
      (cb1 (f_X12_isDay p3) fun r15_65 =>
        if r15_65 = 0 then
        (some ((-1), s_atA, s_atB, s_atD, s_atF, s_atG, s_atH, s_atL, s_atM, s_atN, s_atS, s_atT, s_atU, s_atX, s_paperHigh, s_paperShape, s_first, s_greatest, s_highAt, s_isRefused, s_last, s_marked, s_shapeAt, s_worth))
        else
        (cb1 (f_X12_isDay p4) fun r23_97 =>
          if r23_97 = 0 then
          (some ((-1), s_atA, s_atB, s_atD, s_atF, s_atG, s_atH, s_atL, s_atM, s_atN, s_atS, s_atT, s_atU, s_atX, s_paperHigh, s_paperShape, s_first, s_greatest, s_highAt, s_isRefused, s_last, s_marked, s_shapeAt, s_worth))
          else
          (cb1 (f_X12_lies (Int32.toInt64 p4) (Int32.toInt64 p3) (Int32.toInt64 (p3 + 29))) fun r39_129 =>
            if r39_129 = 0 then
            (some ((-1), s_atA, s_atB, s_atD, s_atF, s_atG, s_atH, s_atL, s_atM, s_atN, s_atS, s_atT, s_atU, s_atX, s_paperHigh, s_paperShape, s_first, s_greatest, s_highAt, s_isRefused, s_last, s_marked, s_shapeAt, s_worth))
            else
            (cb1 (f_X12_lies (Int32.toInt64 p5) 0 2) fun r52_161 =>
              if r52_161 = 0 then
              (some ((-1), s_atA, s_atB, s_atD, s_atF, s_atG, s_atH, s_atL, s_atM, s_atN, s_atS, s_atT, s_atU, s_atX, s_paperHigh, s_paperShape, s_first, s_greatest, s_highAt, s_isRefused, s_last, s_marked, s_shapeAt, s_worth))
              else
              ((f_X12_passed_L72 s_sources s_seed s_byStar s_code s_codeArg s_codeFrom s_codeTo s_many s_minuteOf s_shape s_sumFrom s_weekdays s_wide p1 p2 p4 (f_X12_passed_J164 p5 ) FU) 0 (-1) (-1) p3 s_atA s_atB s_atD s_atF s_atG s_atH s_atL s_atM s_atN s_atS s_atT s_atU s_atX s_paperHigh s_paperShape s_first s_greatest s_highAt s_isRefused s_last s_marked s_shapeAt s_worth))))))
noncomputable def f_X12_note_J59 (s_notes : Int32) (s_noteDay : Nat → Int32) (s_noteMinute : Nat → Int32) (s_noteShape : Nat → Int32) (p1 : Int32) (p2 : Int32) (p3 : Int32)   : Option (Int32 × Int32 × (Nat → Int32) × (Nat → Int32) × (Nat → Int32)) :=
    wrI s_noteDay 40 s_notes p1 fun g68_48 =>
    wrI s_noteMinute 40 s_notes p2 fun g78_53 =>
    wrI s_noteShape 40 s_notes p3 fun g88_58 =>
    nmI (s_notes + 1) fun v96_63 =>
    some ((v96_63 - 1), v96_63, g68_48, g78_53, g88_58)
noncomputable def f_X12_note (s_notes : Int32) (s_noteDay : Nat → Int32) (s_noteMinute : Nat → Int32) (s_noteShape : Nat → Int32) (p1 : Int32) (p2 : Int32) (p3 : Int32) : Option (Int32 × Int32 × (Nat → Int32) × (Nat → Int32) × (Nat → Int32)) :=
    if s_notes = 40 then
    (some ((-1), s_notes, s_noteDay, s_noteMinute, s_noteShape))
    else
    (cb1 (f_X12_isDay p1) fun r10_9 =>
      if r10_9 = 0 then
      (some ((-1), s_notes, s_noteDay, s_noteMinute, s_noteShape))
      else
      (cb1 (f_X12_isMinute p2) fun r17_22 =>
        if r17_22 = 0 then
        (some ((-1), s_notes, s_noteDay, s_noteMinute, s_noteShape))
        else
        (cb1 (f_X12_lies (Int32.toInt64 p3) 0 3) fun r29_35 =>
          if r29_35 = 0 then
          (some ((-1), s_notes, s_noteDay, s_noteMinute, s_noteShape))
          else
          (if s_notes ≤ 0 then
            ((f_X12_note_J59 s_notes s_noteDay s_noteMinute s_noteShape p1 p2 p3 ))
            else
            (rdI s_noteDay 40 (s_notes - 1) fun v53_75 =>
              if v53_75 ≤ p1 then
              ((f_X12_note_J59 s_notes s_noteDay s_noteMinute s_noteShape p1 p2 p3 ))
              else
              (some ((-1), s_notes, s_noteDay, s_noteMinute, s_noteShape)))))))
noncomputable def f_X12_isWithin (p1 : Int32) : Option (Int32) :=
    cb1 (f_X12_lies (Int32.toInt64 p1) 0 700) fun r6_1 =>
    bo r6_1 <|
    some (r6_1)
noncomputable def f_X12_isShape (p1 : Int32) : Option (Int32) :=
    cb1 (f_X12_lies (Int32.toInt64 p1) 0 3) fun r6_1 =>
    bo r6_1 <|
    some (r6_1)
noncomputable def f_X12_minuteBy (s_noteDay : Nat → Int32) (s_noteMinute : Nat → Int32) (p1 : Int32) (p2 : Int32) : Option (Int32) :=
    if p2 = 0 then
    (rdI s_noteMinute 40 p1 fun v27_4 =>
      some (v27_4))
    else
    (rdI s_noteDay 40 p1 fun v9_9 =>
      rdI s_noteMinute 40 p1 fun v15_13 =>
      cb1 (f_X12_starAt v9_9 v15_13) fun r16_17 =>
      some (r16_17))
noncomputable def f_X12_onArc_L6 (s_notes : Int32) (s_noteDay : Nat → Int32) (s_noteMinute : Nat → Int32) (s_noteShape : Nat → Int32) (p1 : Int32) (p2 : Int32) (p3 : Int32) (p4 : Int32) (p5 : Int32)  : Nat → Int32 → Int32 → Option (Int32)
  | 0, _, _ => none
  | n6 + 1, x6_3, x7_4 =>
    if s_notes ≤ x7_4 then
    (some (x6_3))
    else
    (rdI s_noteShape 40 x7_4 fun v21_9 =>
      if v21_9 = p1 then
      (rdI s_noteDay 40 x7_4 fun v32_20 =>
        if p2 < v32_20 then
        (nmI (x7_4 + 1) fun v70_27 =>
          (f_X12_onArc_L6 s_notes s_noteDay s_noteMinute s_noteShape p1 p2 p3 p4 p5  n6) x6_3 v70_27)
        else
        (cb1 (f_X12_minuteBy s_noteDay s_noteMinute x7_4 p3) fun r43_31 =>
          if p5 < (jrem ((r43_31 - p4) + 1440) 1440) then
          (nmI (x6_3 + 0) fun v68_39 =>
            nmI (x7_4 + 1) fun v70_43 =>
            (f_X12_onArc_L6 s_notes s_noteDay s_noteMinute s_noteShape p1 p2 p3 p4 p5  n6) v68_39 v70_43)
          else
          (nmI (x6_3 + 1) fun v68_47 =>
            nmI (x7_4 + 1) fun v70_51 =>
            (f_X12_onArc_L6 s_notes s_noteDay s_noteMinute s_noteShape p1 p2 p3 p4 p5  n6) v68_47 v70_51)))
      else
      (nmI (x7_4 + 1) fun v70_16 =>
        (f_X12_onArc_L6 s_notes s_noteDay s_noteMinute s_noteShape p1 p2 p3 p4 p5  n6) x6_3 v70_16))
noncomputable def f_X12_onArc (s_notes : Int32) (s_noteDay : Nat → Int32) (s_noteMinute : Nat → Int32) (s_noteShape : Nat → Int32) (p1 : Int32) (p2 : Int32) (p3 : Int32) (p4 : Int32) (p5 : Int32) : Option (Int32) :=
    (f_X12_onArc_L6 s_notes s_noteDay s_noteMinute s_noteShape p1 p2 p3 p4 p5  FU) 0 0
noncomputable def f_X12_manyOf_L5 (s_notes : Int32) (s_noteDay : Nat → Int32) (s_noteShape : Nat → Int32) (p1 : Int32) (p2 : Int32)  : Nat → Int32 → Int32 → Option (Int32)
  | 0, _, _ => none
  | n5 + 1, x3_3, x4_4 =>
    if s_notes ≤ x4_4 then
    (some (x3_3))
    else
    (rdI s_noteShape 40 x4_4 fun v21_9 =>
      if v21_9 = p1 then
      (rdI s_noteDay 40 x4_4 fun v32_24 =>
        if p2 < v32_24 then
        (nmI (x3_3 + 0) fun v43_31 =>
          nmI (x4_4 + 1) fun v44_35 =>
          (f_X12_manyOf_L5 s_notes s_noteDay s_noteShape p1 p2  n5) v43_31 v44_35)
        else
        (nmI (x3_3 + 1) fun v43_39 =>
          nmI (x4_4 + 1) fun v44_43 =>
          (f_X12_manyOf_L5 s_notes s_noteDay s_noteShape p1 p2  n5) v43_39 v44_43))
      else
      (nmI (x3_3 + 0) fun v43_16 =>
        nmI (x4_4 + 1) fun v44_20 =>
        (f_X12_manyOf_L5 s_notes s_noteDay s_noteShape p1 p2  n5) v43_16 v44_20))
noncomputable def f_X12_manyOf (s_notes : Int32) (s_noteDay : Nat → Int32) (s_noteShape : Nat → Int32) (p1 : Int32) (p2 : Int32) : Option (Int32) :=
    (f_X12_manyOf_L5 s_notes s_noteDay s_noteShape p1 p2  FU) 0 0
noncomputable def f_X12_isOne_L11 (s_notes : Int32) (s_noteDay : Nat → Int32) (s_noteMinute : Nat → Int32) (s_noteShape : Nat → Int32) (p1 : Int32) (p2 : Int32) (p3 : Int32) (p4 : Int32) (r3_1 : Int32)  : Nat → Int32 → Option (Int32)
  | 0, _ => none
  | n11 + 1, x6_8 =>
    if s_notes ≤ x6_8 then
    (some (0))
    else
    (rdI s_noteShape 40 x6_8 fun v26_13 =>
      if v26_13 = p1 then
      (rdI s_noteDay 40 x6_8 fun v37_24 =>
        if p2 < v37_24 then
        (nmI (x6_8 + 1) fun v65_31 =>
          (f_X12_isOne_L11 s_notes s_noteDay s_noteMinute s_noteShape p1 p2 p3 p4 r3_1  n11) v65_31)
        else
        (cb1 (f_X12_minuteBy s_noteDay s_noteMinute x6_8 p3) fun r50_35 =>
          cb1 (f_X12_onArc s_notes s_noteDay s_noteMinute s_noteShape p1 p2 p3 r50_35 p4) fun r55_40 =>
          if r55_40 = r3_1 then
          (some (1))
          else
          (nmI (x6_8 + 1) fun v65_48 =>
            (f_X12_isOne_L11 s_notes s_noteDay s_noteMinute s_noteShape p1 p2 p3 p4 r3_1  n11) v65_48)))
      else
      (nmI (x6_8 + 1) fun v65_20 =>
        (f_X12_isOne_L11 s_notes s_noteDay s_noteMinute s_noteShape p1 p2 p3 p4 r3_1  n11) v65_20))
noncomputable def f_X12_isOne (s_notes : Int32) (s_noteDay : Nat → Int32) (s_noteMinute : Nat → Int32) (s_noteShape : Nat → Int32) (p1 : Int32) (p2 : Int32) (p3 : Int32) (p4 : Int32) : Option (Int32) :=
    cb1 (f_X12_manyOf s_notes s_noteDay s_noteShape p1 p2) fun r3_1 =>
    (f_X12_isOne_L11 s_notes s_noteDay s_noteMinute s_noteShape p1 p2 p3 p4 r3_1  FU) 0
noncomputable def f_X12_oneBits_J16 (s_notes : Int32) (s_noteDay : Nat → Int32) (s_noteMinute : Nat → Int32) (s_noteShape : Nat → Int32) (p1 : Int32) (p2 : Int32) (p3 : Int32)  (t0_6 : Int32) : Option (Int32) :=
    cb1 (f_X12_isOne s_notes s_noteDay s_noteMinute s_noteShape p1 p2 0 p3) fun r21_7 =>
    if r21_7 = 0 then
    (some ((t0_6 + 0)))
    else
    (some ((t0_6 + 2)))
noncomputable def f_X12_oneBits (s_notes : Int32) (s_noteDay : Nat → Int32) (s_noteMinute : Nat → Int32) (s_noteShape : Nat → Int32) (p1 : Int32) (p2 : Int32) (p3 : Int32) : Option (Int32) :=
    cb1 (f_X12_isOne s_notes s_noteDay s_noteMinute s_noteShape p1 p2 1 p3) fun r5_1 =>
    if r5_1 = 0 then
    ((f_X12_oneBits_J16 s_notes s_noteDay s_noteMinute s_noteShape p1 p2 p3 ) 0)
    else
    ((f_X12_oneBits_J16 s_notes s_noteDay s_noteMinute s_noteShape p1 p2 p3 ) 1)
noncomputable def f_X12_one (s_notes : Int32) (s_noteDay : Nat → Int32) (s_noteMinute : Nat → Int32) (s_noteShape : Nat → Int32) (p1 : Int32) (p2 : Int32) : Option (Int32) :=
    cb1 (f_X12_isShape p1) fun r1_1 =>
    if r1_1 = 0 then
    (some ((-1)))
    else
    (cb1 (f_X12_isWithin p2) fun r8_10 =>
      if r8_10 = 0 then
      (some ((-1)))
      else
      (cb1 (f_X12_manyOf s_notes s_noteDay s_noteShape p1 400) fun r19_19 =>
        if r19_19 ≤ 1 then
        (some ((-1)))
        else
        (cb1 (f_X12_oneBits s_notes s_noteDay s_noteMinute s_noteShape p1 400 p2) fun r32_28 =>
          some (r32_28))))
noncomputable def f_X12_known_L18 (s_notes : Int32) (s_noteDay : Nat → Int32) (s_noteMinute : Nat → Int32) (s_noteShape : Nat → Int32) (p1 : Int32) (p2 : Int32)  : Nat → Int32 → Option (Int32)
  | 0, _ => none
  | n18 + 1, x3_19 =>
    if s_notes ≤ x3_19 then
    (some ((-1)))
    else
    (rdI s_noteShape 40 x3_19 fun v31_24 =>
      if v31_24 = p1 then
      (rdI s_noteDay 40 x3_19 fun v43_35 =>
        cb1 (f_X12_manyOf s_notes s_noteDay s_noteShape p1 v43_35) fun r44_39 =>
        if 2 ≤ r44_39 then
        (rdI s_noteDay 40 x3_19 fun v61_47 =>
          cb1 (f_X12_oneBits s_notes s_noteDay s_noteMinute s_noteShape p1 v61_47 p2) fun r63_51 =>
          if r63_51 = 1 then
          (rdI s_noteDay 40 x3_19 fun v85_60 =>
            some (v85_60))
          else
          (if r63_51 = 2 then
            (rdI s_noteDay 40 x3_19 fun v85_72 =>
              some (v85_72))
            else
            (nmI (x3_19 + 1) fun v87_68 =>
              (f_X12_known_L18 s_notes s_noteDay s_noteMinute s_noteShape p1 p2  n18) v87_68)))
        else
        (nmI (x3_19 + 1) fun v87_77 =>
          (f_X12_known_L18 s_notes s_noteDay s_noteMinute s_noteShape p1 p2  n18) v87_77))
      else
      (nmI (x3_19 + 1) fun v87_31 =>
        (f_X12_known_L18 s_notes s_noteDay s_noteMinute s_noteShape p1 p2  n18) v87_31))
noncomputable def f_X12_known (s_notes : Int32) (s_noteDay : Nat → Int32) (s_noteMinute : Nat → Int32) (s_noteShape : Nat → Int32) (p1 : Int32) (p2 : Int32) : Option (Int32) :=
    cb1 (f_X12_isShape p1) fun r1_1 =>
    if r1_1 = 0 then
    (some ((-1)))
    else
    (cb1 (f_X12_isWithin p2) fun r8_10 =>
      if r8_10 = 0 then
      (some ((-1)))
      else
      ((f_X12_known_L18 s_notes s_noteDay s_noteMinute s_noteShape p1 p2  FU) 0))
noncomputable def f_X12_row_J130 (p3 : Int32)  (x4_39 : Int32) (x5_40 : Int32) : Option (Int32) :=
    if p3 = 0 then
    (some (x4_39))
    else
    (some (x5_40))
noncomputable def f_X12_row_J116 (r73_59 : Int32) (r87_65 : Int32) (K46 : Int32 → Int32 → Int32 → Option (Int32)) (x6_78 : Int32) : Option (Int32) :=
    nmI (x6_78 + 1) fun v124_81 =>
    K46 r87_65 r73_59 v124_81
noncomputable def f_X12_row_L46 (s_notes : Int32) (s_noteDay : Nat → Int32) (s_noteMinute : Nat → Int32) (s_noteShape : Nat → Int32) (p1 : Int32) (p2 : Int32) (K130 : Int32 → Int32 → Option (Int32)) : Nat → Int32 → Int32 → Int32 → Option (Int32)
  | 0, _, _, _ => none
  | n46 + 1, x4_46, x5_47, x6_48 =>
    if s_notes ≤ x6_48 then
    (K130 x4_46 x5_47)
    else
    (rdI s_noteShape 40 x6_48 fun v61_52 =>
      if v61_52 = p1 then
      (cb1 (f_X12_minuteBy s_noteDay s_noteMinute x6_48 1) fun r73_59 =>
        cb1 (f_X12_onArc s_notes s_noteDay s_noteMinute s_noteShape p1 400 1 r73_59 p2) fun r87_65 =>
        if r87_65 < x4_46 then
        (nmI (x6_48 + 1) fun v124_74 =>
          (f_X12_row_L46 s_notes s_noteDay s_noteMinute s_noteShape p1 p2 K130 n46) x4_46 x5_47 v124_74)
        else
        (if r87_65 = x4_46 then
          (if r73_59 < x5_47 then
            ((f_X12_row_J116 r73_59 r87_65 (f_X12_row_L46 s_notes s_noteDay s_noteMinute s_noteShape p1 p2 K130 n46)) x6_48)
            else
            (nmI (x6_48 + 1) fun v124_91 =>
              (f_X12_row_L46 s_notes s_noteDay s_noteMinute s_noteShape p1 p2 K130 n46) x4_46 x5_47 v124_91))
          else
          ((f_X12_row_J116 r73_59 r87_65 (f_X12_row_L46 s_notes s_noteDay s_noteMinute s_noteShape p1 p2 K130 n46)) x6_48)))
      else
      (nmI (x6_48 + 1) fun v124_95 =>
        (f_X12_row_L46 s_notes s_noteDay s_noteMinute s_noteShape p1 p2 K130 n46) x4_46 x5_47 v124_95))
noncomputable def f_X12_row (s_notes : Int32) (s_noteDay : Nat → Int32) (s_noteMinute : Nat → Int32) (s_noteShape : Nat → Int32) (p1 : Int32) (p2 : Int32) (p3 : Int32) : Option (Int32) :=
    cb1 (f_X12_isShape p1) fun r1_1 =>
    if r1_1 = 0 then
    (some ((-1)))
    else
    (cb1 (f_X12_isWithin p2) fun r8_10 =>
      if r8_10 = 0 then
      (some ((-1)))
      else
      (cb1 (f_X12_lies (Int32.toInt64 p3) 0 1) fun r18_19 =>
        if r18_19 = 0 then
        (some ((-1)))
        else
        (cb1 (f_X12_manyOf s_notes s_noteDay s_noteShape p1 400) fun r29_28 =>
          if r29_28 = 0 then
          (some ((-1)))
          else
          ((f_X12_row_L46 s_notes s_noteDay s_noteMinute s_noteShape p1 p2 (f_X12_row_J130 p3 ) FU) 0 0 0))))
noncomputable def f_X12_blip_J45 (s_blips : Int32) (s_time : Nat → Int32) (p1 : Int32)   : Option (Int32 × Int32 × (Nat → Int32)) :=
    wrI s_time 40 s_blips p1 fun g54_18 =>
    nmI (s_blips + 1) fun v62_23 =>
    some ((v62_23 - 1), v62_23, g54_18)
noncomputable def f_X12_blip (s_blips : Int32) (s_time : Nat → Int32) (p1 : Int32) : Option (Int32 × Int32 × (Nat → Int32)) :=
    if s_blips = 40 then
    (some ((-1), s_blips, s_time))
    else
    (cb1 (f_X12_lies (Int32.toInt64 p1) 0 1000000000) fun r15_7 =>
      if r15_7 = 0 then
      (some ((-1), s_blips, s_time))
      else
      (if s_blips ≤ 0 then
        ((f_X12_blip_J45 s_blips s_time p1 ))
        else
        (rdI s_time 40 (s_blips - 1) fun v39_33 =>
          if v39_33 < p1 then
          ((f_X12_blip_J45 s_blips s_time p1 ))
          else
          (some ((-1), s_blips, s_time)))))
noncomputable def f_X12_isFit_J69 (s_blips : Int32) (x3_2 : Int32) (K2 : Int32 → Option (Int32)) (x4_9 : Int32) : Option (Int32) :=
    if x4_9 = s_blips then
    (some (1))
    else
    (nmI (x3_2 + 1) fun v80_13 =>
      K2 v80_13)
noncomputable def f_X12_isFit_L16 (s_blips : Int32) (s_time : Nat → Int32) (p1 : Int32) (p2 : Int32) (x3_2 : Int32) (K69 : Int32 → Option (Int32)) : Nat → Int32 → Int32 → Option (Int32)
  | 0, _, _ => none
  | n16 + 1, x4_18, x5_19 =>
    if s_blips ≤ x5_19 then
    (K69 x4_18)
    else
    (rdI s_time 40 x5_19 fun v33_23 =>
      dvI p1 <|
      rdI s_time 40 x3_2 fun v41_29 =>
      dvI p1 <|
      dvI p1 <|
      if (2 * p2) < (jrem (((jrem v33_23 p1) - (jrem v41_29 p1)) + p1) p1) then
      (nmI (x4_18 + 0) fun v61_40 =>
        nmI (x5_19 + 1) fun v63_44 =>
        (f_X12_isFit_L16 s_blips s_time p1 p2 x3_2 K69 n16) v61_40 v63_44)
      else
      (nmI (x4_18 + 1) fun v61_48 =>
        nmI (x5_19 + 1) fun v63_52 =>
        (f_X12_isFit_L16 s_blips s_time p1 p2 x3_2 K69 n16) v61_48 v63_52))
noncomputable def f_X12_isFit_L2 (s_blips : Int32) (s_time : Nat → Int32) (p1 : Int32) (p2 : Int32)  : Nat → Int32 → Option (Int32)
  | 0, _ => none
  | n2 + 1, x3_2 =>
    if s_blips ≤ x3_2 then
    (some (0))
    else
    ((f_X12_isFit_L16 s_blips s_time p1 p2 x3_2 (f_X12_isFit_J69 s_blips x3_2 (f_X12_isFit_L2 s_blips s_time p1 p2  n2)) FU) 0 0)
noncomputable def f_X12_isFit (s_blips : Int32) (s_time : Nat → Int32) (p1 : Int32) (p2 : Int32) : Option (Int32) :=
    (f_X12_isFit_L2 s_blips s_time p1 p2  FU) 0
noncomputable def f_X12_isBeat (p1 : Int32) : Option (Int32) :=
    cb1 (f_X12_lies (Int32.toInt64 p1) 1 1000000) fun r6_1 =>
    bo r6_1 <|
    some (r6_1)
noncomputable def f_X12_fits (s_blips : Int32) (s_time : Nat → Int32) (p1 : Int32) (p2 : Int32) : Option (Int32) :=
    cb1 (f_X12_isBeat p1) fun r1_1 =>
    if r1_1 = 0 then
    (some ((-1)))
    else
    (cb1 (f_X12_lies (Int32.toInt64 p2) 0 1000) fun r13_10 =>
      if r13_10 = 0 then
      (some ((-1)))
      else
      (if p1 ≤ (2 * p2) then
        (some ((-1)))
        else
        (if s_blips ≤ 1 then
          (some ((-1)))
          else
          (cb1 (f_X12_isFit s_blips s_time p1 p2) fun r37_27 =>
            if r37_27 = 0 then
            (some (0))
            else
            (some (1))))))
noncomputable def f_X12_canBeat (s_blips : Int32) (p1 : Int32) (p2 : Int32) (p3 : Int32) : Option (Int32) :=
    cb1 (f_X12_isBeat p1) fun r1_1 =>
    if r1_1 = 0 then
    (some (0))
    else
    (cb1 (f_X12_isBeat p2) fun r8_10 =>
      if r8_10 = 0 then
      (some (0))
      else
      (cb1 (f_X12_lies (Int32.toInt64 p2) (Int32.toInt64 p1) (Int32.toInt64 (p1 + 2000))) fun r24_19 =>
        if r24_19 = 0 then
        (some (0))
        else
        (cb1 (f_X12_lies (Int32.toInt64 p3) 0 1000) fun r36_28 =>
          if r36_28 = 0 then
          (some (0))
          else
          (if p1 ≤ (2 * p3) then
            (some (0))
            else
            (if s_blips ≤ 1 then
              (some (0))
              else
              (some (1)))))))
noncomputable def f_X12_fitsAll_J65 (x4_5 : Int32) (v44_23 : Int32) (K18 : Int32 → Int32 → Int32 → Int32 → Option (Int32 × Int32 × Int32)) (t1_27 : Int32) : Option (Int32 × Int32 × Int32) :=
    nmI (x4_5 + 1) fun v74_30 =>
    K18 v74_30 t1_27 v44_23 x4_5
noncomputable def f_X12_fitsAll_L18 (s_blips : Int32) (s_time : Nat → Int32) (p2 : Int32) (p3 : Int32)  : Nat → Int32 → Int32 → Int32 → Int32 → Option (Int32 × Int32 × Int32)
  | 0, _, _, _, _ => none
  | n18 + 1, x4_5, fitLeast__6, fitMany__7, fitMost__8 =>
    if p2 < x4_5 then
    (some (fitMany__7, fitLeast__6, fitMost__8))
    else
    (cb1 (f_X12_isFit s_blips s_time x4_5 p3) fun r28_15 =>
      if r28_15 = 0 then
      (nmI (x4_5 + 1) fun v74_37 =>
        (f_X12_fitsAll_L18 s_blips s_time p2 p3  n18) v74_37 fitLeast__6 fitMany__7 fitMost__8)
      else
      (nmI (fitMany__7 + 1) fun v44_23 =>
        if fitLeast__6 = (-1) then
        ((f_X12_fitsAll_J65 x4_5 v44_23 (f_X12_fitsAll_L18 s_blips s_time p2 p3  n18)) x4_5)
        else
        ((f_X12_fitsAll_J65 x4_5 v44_23 (f_X12_fitsAll_L18 s_blips s_time p2 p3  n18)) fitLeast__6)))
noncomputable def f_X12_fitsAll (s_blips : Int32) (s_fitMany : Int32) (s_fitLeast : Int32) (s_fitMost : Int32) (s_time : Nat → Int32) (p1 : Int32) (p2 : Int32) (p3 : Int32) : Option (Int32 × Int32 × Int32) :=
    (f_X12_fitsAll_L18 s_blips s_time p2 p3  FU) p1 (-1) 0 (-1)
noncomputable def f_X12_beats (s_blips : Int32) (s_fitMany : Int32) (s_fitLeast : Int32) (s_fitMost : Int32) (s_time : Nat → Int32) (p1 : Int32) (p2 : Int32) (p3 : Int32) (p4 : Int32) : Option (Int32 × Int32 × Int32 × Int32) :=
    cb1 (f_X12_canBeat s_blips p1 p2 p3) fun r4_1 =>
    if r4_1 = 0 then
    (some ((-1), s_fitMany, s_fitLeast, s_fitMost))
    else
    (cb1 (f_X12_lies (Int32.toInt64 p4) 0 2) fun r17_13 =>
      if r17_13 = 0 then
      (some ((-1), s_fitMany, s_fitLeast, s_fitMost))
      else
      (cb3 (f_X12_fitsAll s_blips s_fitMany s_fitLeast s_fitMost s_time p1 p2 p3) fun o_fitMany29_21 o_fitLeast29_22 o_fitMost29_23 =>
        if p4 = 0 then
        (some (o_fitMany29_21, o_fitMany29_21, o_fitLeast29_22, o_fitMost29_23))
        else
        (if p4 = 1 then
          (some (o_fitLeast29_22, o_fitMany29_21, o_fitLeast29_22, o_fitMost29_23))
          else
          (some (o_fitMost29_23, o_fitMany29_21, o_fitLeast29_22, o_fitMost29_23)))))
noncomputable def f_X12_countOf (s_time : Nat → Int32) (p1 : Int32) (p2 : Int32) : Option (Int32) :=
    rdI s_time 40 p1 fun v8_1 =>
    rdI s_time 40 0 fun v14_5 =>
    dvL (2 * (Int32.toInt64 p2)) <|
    some ((Int64.toInt32 (((2 * (Int32.toInt64 (v8_1 - v14_5))) + (Int32.toInt64 p2)) / (2 * (Int32.toInt64 p2)))))
noncomputable def f_X12_counted (s_blips : Int32) (s_time : Nat → Int32) (p1 : Int32) (p2 : Int32) : Option (Int32) :=
    cb1 (f_X12_lies (Int32.toInt64 p1) 0 (Int32.toInt64 (s_blips - 1))) fun r10_1 =>
    if r10_1 = 0 then
    (some ((-1)))
    else
    (cb1 (f_X12_isBeat p2) fun r17_10 =>
      if r17_10 = 0 then
      (some ((-1)))
      else
      (cb1 (f_X12_countOf s_time p1 p2) fun r26_19 =>
        some (r26_19)))
noncomputable def f_X12_sure_L32 (s_blips : Int32) (s_time : Nat → Int32) (o_fitMany16_9 : Int32) (o_fitLeast16_10 : Int32) (o_fitMost16_11 : Int32)  : Nat → Int32 → Option (Int32 × Int32 × Int32 × Int32)
  | 0, _ => none
  | n32 + 1, x4_20 =>
    if s_blips ≤ x4_20 then
    (some (1, o_fitMany16_9, o_fitLeast16_10, o_fitMost16_11))
    else
    (cb1 (f_X12_countOf s_time x4_20 o_fitLeast16_10) fun r48_28 =>
      cb1 (f_X12_countOf s_time x4_20 o_fitMost16_11) fun r58_33 =>
      if r48_28 = r58_33 then
      (nmI (x4_20 + 1) fun v66_41 =>
        (f_X12_sure_L32 s_blips s_time o_fitMany16_9 o_fitLeast16_10 o_fitMost16_11  n32) v66_41)
      else
      (some (0, o_fitMany16_9, o_fitLeast16_10, o_fitMost16_11)))
noncomputable def f_X12_sure (s_blips : Int32) (s_fitMany : Int32) (s_fitLeast : Int32) (s_fitMost : Int32) (s_time : Nat → Int32) (p1 : Int32) (p2 : Int32) (p3 : Int32) : Option (Int32 × Int32 × Int32 × Int32) :=
    cb1 (f_X12_canBeat s_blips p1 p2 p3) fun r4_1 =>
    if r4_1 = 0 then
    (some ((-1), s_fitMany, s_fitLeast, s_fitMost))
    else
    (cb3 (f_X12_fitsAll s_blips s_fitMany s_fitLeast s_fitMost s_time p1 p2 p3) fun o_fitMany16_9 o_fitLeast16_10 o_fitMost16_11 =>
      if o_fitMany16_9 = 0 then
      (some ((-2), o_fitMany16_9, o_fitLeast16_10, o_fitMost16_11))
      else
      ((f_X12_sure_L32 s_blips s_time o_fitMany16_9 o_fitLeast16_10 o_fitMost16_11  FU) 0))
noncomputable def f_X12_lost (s_blips : Int32) (s_fitMany : Int32) (s_fitLeast : Int32) (s_fitMost : Int32) (s_time : Nat → Int32) (p1 : Int32) (p2 : Int32) (p3 : Int32) : Option (Int32 × Int32 × Int32 × Int32) :=
    cb1 (f_X12_canBeat s_blips p1 p2 p3) fun r4_1 =>
    if r4_1 = 0 then
    (some ((-1), s_fitMany, s_fitLeast, s_fitMost))
    else
    (cb3 (f_X12_fitsAll s_blips s_fitMany s_fitLeast s_fitMost s_time p1 p2 p3) fun o_fitMany16_9 o_fitLeast16_10 o_fitMost16_11 =>
      if 2 ≤ o_fitMany16_9 then
      (nmI (2 * (o_fitMost16_11 - o_fitLeast16_10)) fun v41_19 =>
        dvI v41_19 <|
        some ((((o_fitLeast16_10 + v41_19) - 1) / v41_19), o_fitMany16_9, o_fitLeast16_10, o_fitMost16_11))
      else
      (some ((-2), o_fitMany16_9, o_fitLeast16_10, o_fitMost16_11)))
noncomputable def f_X12_night (s_nights : Int32) (s_found : Nat → Int32) (s_nightDay : Nat → Int32) (p1 : Int32) (p2 : Int32) : Option (Int32 × Int32 × (Nat → Int32) × (Nat → Int32)) :=
    if s_nights = 30 then
    (some ((-1), s_nights, s_found, s_nightDay))
    else
    (cb1 (f_X12_isDay p1) fun r10_8 =>
      if r10_8 = 0 then
      (some ((-1), s_nights, s_found, s_nightDay))
      else
      (cb1 (f_X12_lies (Int32.toInt64 p2) (-100000) 100000) fun r24_20 =>
        if r24_20 = 0 then
        (some ((-1), s_nights, s_found, s_nightDay))
        else
        (wrI s_nightDay 30 s_nights p1 fun g41_28 =>
          wrI s_found 30 s_nights p2 fun g51_33 =>
          nmI (s_nights + 1) fun v59_38 =>
          some ((v59_38 - 1), v59_38, g51_33, g41_28))))
noncomputable def f_X12_isNight (s_nights : Int32) (p1 : Int32) : Option (Int32) :=
    cb1 (f_X12_lies (Int32.toInt64 p1) 0 (Int32.toInt64 (s_nights - 1))) fun r10_1 =>
    bo r10_1 <|
    some (r10_1)
noncomputable def f_X12_isTold (s_many : Nat → Int32) (p1 : Int32) : Option (Int32) :=
    cb1 (f_X12_isTale p1) fun r1_1 =>
    if r1_1 = 0 then
    (some (0))
    else
    (rdI s_many 20 (14 + p1) fun v15_10 =>
      if v15_10 ≤ 0 then
      (some (0))
      else
      (some (1)))
noncomputable def f_X12_saysOf (s_atA : Int32) (s_atB : Int32) (s_atD : Int32) (s_atF : Int32) (s_atG : Int32) (s_atH : Int32) (s_atL : Int32) (s_atM : Int32) (s_atN : Int32) (s_atS : Int32) (s_atT : Int32) (s_atU : Int32) (s_atX : Int32) (s_code : Nat → Int32) (s_codeArg : Nat → Int32) (s_codeFrom : Nat → Int32) (s_isRefused : Nat → Int32) (s_nightDay : Nat → Int32) (s_sumFrom : Nat → Int32) (s_worth : Nat → Int32) (p1 : Int32) (p2 : Int32) : Option (Int32 × Int32 × Int32 × Int32 × Int32 × Int32 × Int32 × Int32 × Int32 × Int32 × Int32 × Int32 × Int32 × Int32 × (Nat → Int32) × (Nat → Int32)) :=
    cb13 (f_X12_clears s_atA s_atB s_atD s_atF s_atG s_atH s_atL s_atM s_atN s_atS s_atT s_atU s_atX) fun o_atA1_1 o_atB1_2 o_atD1_3 o_atF1_4 o_atG1_5 o_atH1_6 o_atL1_7 o_atM1_8 o_atN1_9 o_atS1_10 o_atT1_11 o_atU1_12 o_atX1_13 =>
    rdI s_nightDay 30 p2 fun v10_18 =>
    cb3 (f_X12_sumOf o_atA1_1 o_atB1_2 v10_18 o_atF1_4 o_atG1_5 o_atH1_6 o_atL1_7 o_atM1_8 p2 o_atS1_10 o_atT1_11 o_atU1_12 o_atX1_13 s_code s_codeArg s_codeFrom s_isRefused s_sumFrom s_worth (12 * (14 + p1))) fun r27_24 o_isRefused27_25 o_worth27_26 =>
    some (r27_24, o_atA1_1, o_atB1_2, v10_18, o_atF1_4, o_atG1_5, o_atH1_6, o_atL1_7, o_atM1_8, p2, o_atS1_10, o_atT1_11, o_atU1_12, o_atX1_13, o_isRefused27_25, o_worth27_26)
noncomputable def f_X12_says (s_nights : Int32) (s_atA : Int32) (s_atB : Int32) (s_atD : Int32) (s_atF : Int32) (s_atG : Int32) (s_atH : Int32) (s_atL : Int32) (s_atM : Int32) (s_atN : Int32) (s_atS : Int32) (s_atT : Int32) (s_atU : Int32) (s_atX : Int32) (s_code : Nat → Int32) (s_codeArg : Nat → Int32) (s_codeFrom : Nat → Int32) (s_isRefused : Nat → Int32) (s_many : Nat → Int32) (s_nightDay : Nat → Int32) (s_sumFrom : Nat → Int32) (s_worth : Nat → Int32) (p1 : Int32) (p2 : Int32) : Option (Int32 × Int32 × Int32 × Int32 × Int32 × Int32 × Int32 × Int32 × Int32 × Int32 × Int32 × Int32 × Int32 × Int32 × (Nat → Int32) × (Nat → Int32)) :=
    cb1 (f_X12_isTold s_many p1) fun r2_1 =>
    if r2_1 = 0 then
    (some ((-1000000), s_atA, s_atB, s_atD, s_atF, s_atG, s_atH, s_atL, s_atM, s_atN, s_atS, s_atT, s_atU, s_atX, s_isRefused, s_worth))
    else
    (cb1 (f_X12_isNight s_nights p2) fun r10_25 =>
      if r10_25 = 0 then
      (some ((-1000000), s_atA, s_atB, s_atD, s_atF, s_atG, s_atH, s_atL, s_atM, s_atN, s_atS, s_atT, s_atU, s_atX, s_isRefused, s_worth))
      else
      (cb16 (f_X12_saysOf s_atA s_atB s_atD s_atF s_atG s_atH s_atL s_atM s_atN s_atS s_atT s_atU s_atX s_code s_codeArg s_codeFrom s_isRefused s_nightDay s_sumFrom s_worth p1 p2) fun r19_49 o_atA19_50 o_atB19_51 o_atD19_52 o_atF19_53 o_atG19_54 o_atH19_55 o_atL19_56 o_atM19_57 o_atN19_58 o_atS19_59 o_atT19_60 o_atU19_61 o_atX19_62 o_isRefused19_63 o_worth19_64 =>
        some (r19_49, o_atA19_50, o_atB19_51, o_atD19_52, o_atF19_53, o_atG19_54, o_atH19_55, o_atL19_56, o_atM19_57, o_atN19_58, o_atS19_59, o_atT19_60, o_atU19_61, o_atX19_62, o_isRefused19_63, o_worth19_64)))
noncomputable def f_X12_isError (p1 : Int32) : Option (Int32) :=
    cb1 (f_X12_lies (Int32.toInt64 p1) 0 100000) fun r6_1 =>
    bo r6_1 <|
    some (r6_1)
noncomputable def f_X12_fallsAt_L2 (s_nights : Int32) (s_code : Nat → Int32) (s_codeArg : Nat → Int32) (s_codeFrom : Nat → Int32) (s_found : Nat → Int32) (s_nightDay : Nat → Int32) (s_sumFrom : Nat → Int32) (p1 : Int32) (p2 : Int32)  : Nat → Int32 → Int32 → Int32 → Int32 → Int32 → Int32 → Int32 → Int32 → Int32 → Int32 → Int32 → Int32 → Int32 → Int32 → (Nat → Int32) → (Nat → Int32) → Option (Int32 × Int32 × Int32 × Int32 × Int32 × Int32 × Int32 × Int32 × Int32 × Int32 × Int32 × Int32 × Int32 × Int32 × (Nat → Int32) × (Nat → Int32))
  | 0, _, _, _, _, _, _, _, _, _, _, _, _, _, _, _, _ => none
  | n2 + 1, x3_2, atA__3, atB__4, atD__5, atF__6, atG__7, atH__8, atL__9, atM__10, atN__11, atS__12, atT__13, atU__14, atX__15, isRefused__16, worth__17 =>
    if s_nights ≤ x3_2 then
    (some (s_nights, atA__3, atB__4, atD__5, atF__6, atG__7, atH__8, atL__9, atM__10, atN__11, atS__12, atT__13, atU__14, atX__15, isRefused__16, worth__17))
    else
    (cb16 (f_X12_saysOf atA__3 atB__4 atD__5 atF__6 atG__7 atH__8 atL__9 atM__10 atN__11 atS__12 atT__13 atU__14 atX__15 s_code s_codeArg s_codeFrom isRefused__16 s_nightDay s_sumFrom worth__17 p1 x3_2) fun r13_37 o_atA13_38 o_atB13_39 o_atD13_40 o_atF13_41 o_atG13_42 o_atH13_43 o_atL13_44 o_atM13_45 o_atN13_46 o_atS13_47 o_atT13_48 o_atU13_49 o_atX13_50 o_isRefused13_51 o_worth13_52 =>
      rdI s_found 30 x3_2 fun v22_57 =>
      cb1 (f_X12_lies ((Int32.toInt64 r13_37) - (Int32.toInt64 v22_57)) (Int32.toInt64 (-p2)) (Int32.toInt64 p2)) fun r30_61 =>
      if r30_61 = 0 then
      (some (x3_2, o_atA13_38, o_atB13_39, o_atD13_40, o_atF13_41, o_atG13_42, o_atH13_43, o_atL13_44, o_atM13_45, o_atN13_46, o_atS13_47, o_atT13_48, o_atU13_49, o_atX13_50, o_isRefused13_51, o_worth13_52))
      else
      (nmI (x3_2 + 1) fun v38_69 =>
        (f_X12_fallsAt_L2 s_nights s_code s_codeArg s_codeFrom s_found s_nightDay s_sumFrom p1 p2  n2) v38_69 o_atA13_38 o_atB13_39 o_atD13_40 o_atF13_41 o_atG13_42 o_atH13_43 o_atL13_44 o_atM13_45 o_atN13_46 o_atS13_47 o_atT13_48 o_atU13_49 o_atX13_50 o_isRefused13_51 o_worth13_52))
noncomputable def f_X12_fallsAt (s_nights : Int32) (s_atA : Int32) (s_atB : Int32) (s_atD : Int32) (s_atF : Int32) (s_atG : Int32) (s_atH : Int32) (s_atL : Int32) (s_atM : Int32) (s_atN : Int32) (s_atS : Int32) (s_atT : Int32) (s_atU : Int32) (s_atX : Int32) (s_code : Nat → Int32) (s_codeArg : Nat → Int32) (s_codeFrom : Nat → Int32) (s_found : Nat → Int32) (s_isRefused : Nat → Int32) (s_nightDay : Nat → Int32) (s_sumFrom : Nat → Int32) (s_worth : Nat → Int32) (p1 : Int32) (p2 : Int32) : Option (Int32 × Int32 × Int32 × Int32 × Int32 × Int32 × Int32 × Int32 × Int32 × Int32 × Int32 × Int32 × Int32 × Int32 × (Nat → Int32) × (Nat → Int32)) :=
    (f_X12_fallsAt_L2 s_nights s_code s_codeArg s_codeFrom s_found s_nightDay s_sumFrom p1 p2  FU) 0 s_atA s_atB s_atD s_atF s_atG s_atH s_atL s_atM s_atN s_atS s_atT s_atU s_atX s_isRefused s_worth
noncomputable def f_X12_falls (s_nights : Int32) (s_atA : Int32) (s_atB : Int32) (s_atD : Int32) (s_atF : Int32) (s_atG : Int32) (s_atH : Int32) (s_atL : Int32) (s_atM : Int32) (s_atN : Int32) (s_atS : Int32) (s_atT : Int32) (s_atU : Int32) (s_atX : Int32) (s_code : Nat → Int32) (s_codeArg : Nat → Int32) (s_codeFrom : Nat → Int32) (s_found : Nat → Int32) (s_isRefused : Nat → Int32) (s_many : Nat → Int32) (s_nightDay : Nat → Int32) (s_sumFrom : Nat → Int32) (s_worth : Nat → Int32) (p1 : Int32) (p2 : Int32) : Option (Int32 × Int32 × Int32 × Int32 × Int32 × Int32 × Int32 × Int32 × Int32 × Int32 × Int32 × Int32 × Int32 × Int32 × (Nat → Int32) × (Nat → Int32)) :=
    cb1 (f_X12_isTold s_many p1) fun r2_1 =>
    if r2_1 = 0 then
    (some ((-1), s_atA, s_atB, s_atD, s_atF, s_atG, s_atH, s_atL, s_atM, s_atN, s_atS, s_atT, s_atU, s_atX, s_isRefused, s_worth))
    else
    (cb1 (f_X12_isError p2) fun r9_25 =>
      if r9_25 = 0 then
      (some ((-1), s_atA, s_atB, s_atD, s_atF, s_atG, s_atH, s_atL, s_atM, s_atN, s_atS, s_atT, s_atU, s_atX, s_isRefused, s_worth))
      else
      (cb16 (f_X12_fallsAt s_nights s_atA s_atB s_atD s_atF s_atG s_atH s_atL s_atM s_atN s_atS s_atT s_atU s_atX s_code s_codeArg s_codeFrom s_found s_isRefused s_nightDay s_sumFrom s_worth p1 p2) fun r20_33 o_atA20_34 o_atB20_35 o_atD20_36 o_atF20_37 o_atG20_38 o_atH20_39 o_atL20_40 o_atM20_41 o_atN20_42 o_atS20_43 o_atT20_44 o_atU20_45 o_atX20_46 o_isRefused20_47 o_worth20_48 =>
        if r20_33 = s_nights then
        (some ((-2), o_atA20_34, o_atB20_35, o_atD20_36, o_atF20_37, o_atG20_38, o_atH20_39, o_atL20_40, o_atM20_41, o_atN20_42, o_atS20_43, o_atT20_44, o_atU20_45, o_atX20_46, o_isRefused20_47, o_worth20_48))
        else
        (some (r20_33, o_atA20_34, o_atB20_35, o_atD20_36, o_atF20_37, o_atG20_38, o_atH20_39, o_atL20_40, o_atM20_41, o_atN20_42, o_atS20_43, o_atT20_44, o_atU20_45, o_atX20_46, o_isRefused20_47, o_worth20_48))))
noncomputable def f_X12_told_J87 (p2 : Int32)  (x3_34 : Int32) (x5_35 : Int32) (atA__36 : Int32) (atB__37 : Int32) (atD__38 : Int32) (atF__39 : Int32) (atG__40 : Int32) (atH__41 : Int32) (atL__42 : Int32) (atM__43 : Int32) (atN__44 : Int32) (atS__45 : Int32) (atT__46 : Int32) (atU__47 : Int32) (atX__48 : Int32) (isRefused__49 : Nat → Int32) (worth__50 : Nat → Int32) : Option (Int32 × Int32 × Int32 × Int32 × Int32 × Int32 × Int32 × Int32 × Int32 × Int32 × Int32 × Int32 × Int32 × Int32 × (Nat → Int32) × (Nat → Int32)) :=
    if p2 = 0 then
    (some (x3_34, atA__36, atB__37, atD__38, atF__39, atG__40, atH__41, atL__42, atM__43, atN__44, atS__45, atT__46, atU__47, atX__48, isRefused__49, worth__50))
    else
    (some (x5_35, atA__36, atB__37, atD__38, atF__39, atG__40, atH__41, atL__42, atM__43, atN__44, atS__45, atT__46, atU__47, atX__48, isRefused__49, worth__50))
noncomputable def f_X12_told_J81 (x3_86 : Int32) (K21 : Int32 → Int32 → Int32 → Int32 → Int32 → Int32 → Int32 → Int32 → Int32 → Int32 → Int32 → Int32 → Int32 → Int32 → (Nat → Int32) → (Nat → Int32) → Option (Int32 × Int32 × Int32 × Int32 × Int32 × Int32 × Int32 × Int32 × Int32 × Int32 × Int32 × Int32 × Int32 × Int32 × (Nat → Int32) × (Nat → Int32))) (K87 : Int32 → Int32 → Int32 → Int32 → Int32 → Int32 → Int32 → Int32 → Int32 → Int32 → Int32 → Int32 → Int32 → Int32 → Int32 → (Nat → Int32) → (Nat → Int32) → Option (Int32 × Int32 × Int32 × Int32 × Int32 × Int32 × Int32 × Int32 × Int32 × Int32 × Int32 × Int32 × Int32 × Int32 × (Nat → Int32) × (Nat → Int32))) (x4_124 : Int32) (x5_125 : Int32) (atA__126 : Int32) (atB__127 : Int32) (atD__128 : Int32) (atF__129 : Int32) (atG__130 : Int32) (atH__131 : Int32) (atL__132 : Int32) (atM__133 : Int32) (atN__134 : Int32) (atS__135 : Int32) (atT__136 : Int32) (atU__137 : Int32) (atX__138 : Int32) (isRefused__139 : Nat → Int32) (worth__140 : Nat → Int32) : Option (Int32 × Int32 × Int32 × Int32 × Int32 × Int32 × Int32 × Int32 × Int32 × Int32 × Int32 × Int32 × Int32 × Int32 × (Nat → Int32) × (Nat → Int32)) :=
    if x4_124 = 1 then
    (K87 x3_86 x5_125 atA__126 atB__127 atD__128 atF__129 atG__130 atH__131 atL__132 atM__133 atN__134 atS__135 atT__136 atU__137 atX__138 isRefused__139 worth__140)
    else
    (nmI (x3_86 + 1) fun v98_144 =>
      K21 v98_144 atA__126 atB__127 atD__128 atF__129 atG__130 atH__131 atL__132 atM__133 atN__134 atS__135 atT__136 atU__137 atX__138 isRefused__139 worth__140)
noncomputable def f_X12_told_L38 (s_nights : Int32) (s_code : Nat → Int32) (s_codeArg : Nat → Int32) (s_codeFrom : Nat → Int32) (s_found : Nat → Int32) (s_many : Nat → Int32) (s_nightDay : Nat → Int32) (s_sumFrom : Nat → Int32) (p1 : Int32) (x3_86 : Int32) (K81 : Int32 → Int32 → Int32 → Int32 → Int32 → Int32 → Int32 → Int32 → Int32 → Int32 → Int32 → Int32 → Int32 → Int32 → Int32 → (Nat → Int32) → (Nat → Int32) → Option (Int32 × Int32 × Int32 × Int32 × Int32 × Int32 × Int32 × Int32 × Int32 × Int32 × Int32 × Int32 × Int32 × Int32 × (Nat → Int32) × (Nat → Int32))) : Nat → Int32 → Int32 → Int32 → Int32 → Int32 → Int32 → Int32 → Int32 → Int32 → Int32 → Int32 → Int32 → Int32 → Int32 → Int32 → Int32 → (Nat → Int32) → (Nat → Int32) → Option (Int32 × Int32 × Int32 × Int32 × Int32 × Int32 × Int32 × Int32 × Int32 × Int32 × Int32 × Int32 × Int32 × Int32 × (Nat → Int32) × (Nat → Int32))
  | 0, _, _, _, _, _, _, _, _, _, _, _, _, _, _, _, _, _, _ => none
  | n38 + 1, x4_148, x5_149, x6_150, atA__151, atB__152, atD__153, atF__154, atG__155, atH__156, atL__157, atM__158, atN__159, atS__160, atT__161, atU__162, atX__163, isRefused__164, worth__165 =>
    if 6 ≤ x6_150 then
    (K81 x4_148 x5_149 atA__151 atB__152 atD__153 atF__154 atG__155 atH__156 atL__157 atM__158 atN__159 atS__160 atT__161 atU__162 atX__163 isRefused__164 worth__165)
    else
    (cb1 (f_X12_isTold s_many x6_150) fun r48_169 =>
      if r48_169 = 0 then
      (nmI (x6_150 + 1) fun v75_177 =>
        (f_X12_told_L38 s_nights s_code s_codeArg s_codeFrom s_found s_many s_nightDay s_sumFrom p1 x3_86 K81 n38) x4_148 x5_149 v75_177 atA__151 atB__152 atD__153 atF__154 atG__155 atH__156 atL__157 atM__158 atN__159 atS__160 atT__161 atU__162 atX__163 isRefused__164 worth__165)
      else
      (cb16 (f_X12_fallsAt s_nights atA__151 atB__152 atD__153 atF__154 atG__155 atH__156 atL__157 atM__158 atN__159 atS__160 atT__161 atU__162 atX__163 s_code s_codeArg s_codeFrom s_found isRefused__164 s_nightDay s_sumFrom worth__165 x6_150 p1) fun r58_181 o_atA58_182 o_atB58_183 o_atD58_184 o_atF58_185 o_atG58_186 o_atH58_187 o_atL58_188 o_atM58_189 o_atN58_190 o_atS58_191 o_atT58_192 o_atU58_193 o_atX58_194 o_isRefused58_195 o_worth58_196 =>
        if x3_86 < r58_181 then
        (nmI (x4_148 + 1) fun v68_204 =>
          nmI (x6_150 + 1) fun v75_209 =>
          (f_X12_told_L38 s_nights s_code s_codeArg s_codeFrom s_found s_many s_nightDay s_sumFrom p1 x3_86 K81 n38) v68_204 x6_150 v75_209 o_atA58_182 o_atB58_183 o_atD58_184 o_atF58_185 o_atG58_186 o_atH58_187 o_atL58_188 o_atM58_189 o_atN58_190 o_atS58_191 o_atT58_192 o_atU58_193 o_atX58_194 o_isRefused58_195 o_worth58_196)
        else
        (nmI (x6_150 + 1) fun v75_213 =>
          (f_X12_told_L38 s_nights s_code s_codeArg s_codeFrom s_found s_many s_nightDay s_sumFrom p1 x3_86 K81 n38) x4_148 x5_149 v75_213 o_atA58_182 o_atB58_183 o_atD58_184 o_atF58_185 o_atG58_186 o_atH58_187 o_atL58_188 o_atM58_189 o_atN58_190 o_atS58_191 o_atT58_192 o_atU58_193 o_atX58_194 o_isRefused58_195 o_worth58_196)))
noncomputable def f_X12_told_L21 (s_nights : Int32) (s_code : Nat → Int32) (s_codeArg : Nat → Int32) (s_codeFrom : Nat → Int32) (s_found : Nat → Int32) (s_many : Nat → Int32) (s_nightDay : Nat → Int32) (s_sumFrom : Nat → Int32) (p1 : Int32) (K87 : Int32 → Int32 → Int32 → Int32 → Int32 → Int32 → Int32 → Int32 → Int32 → Int32 → Int32 → Int32 → Int32 → Int32 → Int32 → (Nat → Int32) → (Nat → Int32) → Option (Int32 × Int32 × Int32 × Int32 × Int32 × Int32 × Int32 × Int32 × Int32 × Int32 × Int32 × Int32 × Int32 × Int32 × (Nat → Int32) × (Nat → Int32))) : Nat → Int32 → Int32 → Int32 → Int32 → Int32 → Int32 → Int32 → Int32 → Int32 → Int32 → Int32 → Int32 → Int32 → Int32 → (Nat → Int32) → (Nat → Int32) → Option (Int32 × Int32 × Int32 × Int32 × Int32 × Int32 × Int32 × Int32 × Int32 × Int32 × Int32 × Int32 × Int32 × Int32 × (Nat → Int32) × (Nat → Int32))
  | 0, _, _, _, _, _, _, _, _, _, _, _, _, _, _, _, _ => none
  | n21 + 1, x3_86, atA__87, atB__88, atD__89, atF__90, atG__91, atH__92, atL__93, atM__94, atN__95, atS__96, atT__97, atU__98, atX__99, isRefused__100, worth__101 =>
    if s_nights ≤ x3_86 then
    (some ((-1), atA__87, atB__88, atD__89, atF__90, atG__91, atH__92, atL__93, atM__94, atN__95, atS__96, atT__97, atU__98, atX__99, isRefused__100, worth__101))
    else
    ((f_X12_told_L38 s_nights s_code s_codeArg s_codeFrom s_found s_many s_nightDay s_sumFrom p1 x3_86 (f_X12_told_J81 x3_86 (f_X12_told_L21 s_nights s_code s_codeArg s_codeFrom s_found s_many s_nightDay s_sumFrom p1 K87 n21) K87) FU) 0 (-1) 0 atA__87 atB__88 atD__89 atF__90 atG__91 atH__92 atL__93 atM__94 atN__95 atS__96 atT__97 atU__98 atX__99 isRefused__100 worth__101)
noncomputable def f_X12_told (s_nights : Int32) (s_atA : Int32) (s_atB : Int32) (s_atD : Int32) (s_atF : Int32) (s_atG : Int32) (s_atH : Int32) (s_atL : Int32) (s_atM : Int32) (s_atN : Int32) (s_atS : Int32) (s_atT : Int32) (s_atU : Int32) (s_atX : Int32) (s_code : Nat → Int32) (s_codeArg : Nat → Int32) (s_codeFrom : Nat → Int32) (s_found : Nat → Int32) (s_isRefused : Nat → Int32) (s_many : Nat → Int32) (s_nightDay : Nat → Int32) (s_sumFrom : Nat → Int32) (s_worth : Nat → Int32) (p1 : Int32) (p2 : Int32) : Option (Int32 × Int32 × Int32 × Int32 × Int32 × Int32 × Int32 × Int32 × Int32 × Int32 × Int32 × Int32 × Int32 × Int32 × (Nat → Int32) × (Nat → Int32)) :=
    cb1 (f_X12_isError p1) fun r1_1 =>
    if r1_1 = 0 then
    (some ((-1), s_atA, s_atB, s_atD, s_atF, s_atG, s_atH, s_atL, s_atM, s_atN, s_atS, s_atT, s_atU, s_atX, s_isRefused, s_worth))
    else
    (cb1 (f_X12_lies (Int32.toInt64 p2) 0 1) fun r11_25 =>
      if r11_25 = 0 then
      (some ((-1), s_atA, s_atB, s_atD, s_atF, s_atG, s_atH, s_atL, s_atM, s_atN, s_atS, s_atT, s_atU, s_atX, s_isRefused, s_worth))
      else
      ((f_X12_told_L21 s_nights s_code s_codeArg s_codeFrom s_found s_many s_nightDay s_sumFrom p1 (f_X12_told_J87 p2 ) FU) 0 s_atA s_atB s_atD s_atF s_atG s_atH s_atL s_atM s_atN s_atS s_atT s_atU s_atX s_isRefused s_worth))
noncomputable def f_X12_waveOf (p1 : Int32) (p2 : Int32) : Option (Int32) :=
    dvI p2 <|
    nmI ((4000 * p1) / p2) fun v7_3 =>
    if p2 ≤ (4 * p1) then
    (if (3 * p2) ≤ (4 * p1) then
      (some ((v7_3 - 4000)))
      else
      (some ((2000 - v7_3))))
    else
    (some (v7_3))
noncomputable def f_X12_canGoAbout_L3 (s_nights : Int32) (s_found : Nat → Int32) (s_nightDay : Nat → Int32) (p1 : Int32) (p2 : Int32) (p3 : Int32) (p4 : Int32)  : Nat → Int32 → Option (Int32)
  | 0, _ => none
  | n3 + 1, x5_2 =>
    if s_nights ≤ x5_2 then
    (some (1))
    else
    (rdI s_nightDay 30 x5_2 fun v19_7 =>
      dvI p1 <|
      cb1 (f_X12_waveOf (jrem (v19_7 + p4) p1) p1) fun r26_13 =>
      rdI s_found 30 x5_2 fun v40_18 =>
      cb1 (f_X12_lies (Int32.toInt64 (((p3 * r26_13) / 1000) - v40_18)) (Int32.toInt64 (-p2)) (Int32.toInt64 p2)) fun r48_22 =>
      if r48_22 = 0 then
      (some (0))
      else
      (nmI (x5_2 + 1) fun v56_30 =>
        (f_X12_canGoAbout_L3 s_nights s_found s_nightDay p1 p2 p3 p4  n3) v56_30))
noncomputable def f_X12_canGoAbout (s_nights : Int32) (s_found : Nat → Int32) (s_nightDay : Nat → Int32) (p1 : Int32) (p2 : Int32) (p3 : Int32) (p4 : Int32) : Option (Int32) :=
    (f_X12_canGoAbout_L3 s_nights s_found s_nightDay p1 p2 p3 p4  FU) 0
noncomputable def f_X12_bound_L34 (s_nights : Int32) (s_found : Nat → Int32) (s_nightDay : Nat → Int32) (p1 : Int32) (p2 : Int32) (x3_19 : Int32) (K27 : Int32 → Option (Int32)) : Nat → Int32 → Option (Int32)
  | 0, _ => none
  | n34 + 1, x4_25 =>
    if p1 ≤ x4_25 then
    (nmI (x3_19 + (-1)) fun v60_29 =>
      K27 v60_29)
    else
    (cb1 (f_X12_canGoAbout s_nights s_found s_nightDay p1 p2 x3_19 x4_25) fun r46_33 =>
      if r46_33 = 0 then
      (nmI (x4_25 + 1) fun v54_41 =>
        (f_X12_bound_L34 s_nights s_found s_nightDay p1 p2 x3_19 K27 n34) v54_41)
      else
      (some (x3_19)))
noncomputable def f_X12_bound_L27 (s_nights : Int32) (s_found : Nat → Int32) (s_nightDay : Nat → Int32) (p1 : Int32) (p2 : Int32)  : Nat → Int32 → Option (Int32)
  | 0, _ => none
  | n27 + 1, x3_19 =>
    if x3_19 < 0 then
    (some ((-2)))
    else
    ((f_X12_bound_L34 s_nights s_found s_nightDay p1 p2 x3_19 (f_X12_bound_L27 s_nights s_found s_nightDay p1 p2  n27) FU) 0)
noncomputable def f_X12_bound (s_nights : Int32) (s_found : Nat → Int32) (s_nightDay : Nat → Int32) (p1 : Int32) (p2 : Int32) : Option (Int32) :=
    cb1 (f_X12_lies (Int32.toInt64 p1) 4 400) fun r8_1 =>
    if r8_1 = 0 then
    (some ((-1)))
    else
    (cb1 (f_X12_isError p2) fun r15_10 =>
      if r15_10 = 0 then
      (some ((-1)))
      else
      ((f_X12_bound_L27 s_nights s_found s_nightDay p1 p2  FU) 2000))
noncomputable def f_X12_there (s_ten : Nat → Int32) (p1 : Int32) (p2 : Int32) : Option (Int32 × (Nat → Int32)) :=
    cb1 (f_X12_lies (Int32.toInt64 p1) 0 39) fun r6_1 =>
    if r6_1 = 0 then
    (some (0, s_ten))
    else
    (cb1 (f_X12_lies (Int32.toInt64 p2) 0 10) fun r18_11 =>
      if r18_11 = 0 then
      (some (0, s_ten))
      else
      (wrI s_ten 40 p1 p2 fun g32_19 =>
        some (1, g32_19)))
noncomputable def f_X12_leastAt (s_leastFrom : Nat → Int32) (p1 : Int32) (p2 : Int32) : Option (Int32) :=
    if p2 ≤ 40 then
    (rdI s_leastFrom 371 ((53 * p1) + p2) fun v28_4 =>
      some (v28_4))
    else
    (if p1 = 0 then
      (some (1))
      else
      (some ((-1))))
noncomputable def f_X12_pen_J287 (p1 : Int32) (p2 : Int32) (p3 : Int32) (leastFrom__25 : Nat → Int32) (x5_32 : Int32) (K222 : Int32 → Int32 → Option (Int32 × (Nat → Int32))) (x4_38 : Int32) : Option (Int32 × (Nat → Int32)) :=
    if (p1 - x5_32) = p3 then
    (some (x4_38, leastFrom__25))
    else
    (nmI (x4_38 + p2) fun v302_42 =>
      nmI (x5_32 + (-1)) fun v304_46 =>
      K222 v302_42 v304_46)
noncomputable def f_X12_pen_L227 (s_ten : Nat → Int32) (p2 : Int32) (leastFrom__25 : Nat → Int32) (x5_32 : Int32) (K287 : Int32 → Option (Int32 × (Nat → Int32))) : Nat → Int32 → Option (Int32 × (Nat → Int32))
  | 0, _ => none
  | n227 + 1, x4_52 =>
    cb1 (f_X12_leastAt leastFrom__25 (x5_32 - 1) (x4_52 + p2)) fun r236_53 =>
    if r236_53 < 0 then
    (nmI (x4_52 + 1) fun v281_61 =>
      (f_X12_pen_L227 s_ten p2 leastFrom__25 x5_32 K287 n227) v281_61)
    else
    (rdI s_ten 40 x4_52 fun v250_65 =>
      cb1 (f_X12_leastAt leastFrom__25 (x5_32 - 1) (x4_52 + p2)) fun r261_69 =>
      rdI leastFrom__25 371 ((53 * x5_32) + x4_52) fun v277_74 =>
      if ((10 - v250_65) * r261_69) = v277_74 then
      (K287 x4_52)
      else
      (nmI (x4_52 + 1) fun v281_81 =>
        (f_X12_pen_L227 s_ten p2 leastFrom__25 x5_32 K287 n227) v281_81))
noncomputable def f_X12_pen_L222 (s_ten : Nat → Int32) (p1 : Int32) (p2 : Int32) (p3 : Int32) (leastFrom__25 : Nat → Int32)  : Nat → Int32 → Int32 → Option (Int32 × (Nat → Int32))
  | 0, _, _ => none
  | n222 + 1, x4_31, x5_32 =>
    if x5_32 ≤ 0 then
    (some ((-1), leastFrom__25))
    else
    ((f_X12_pen_L227 s_ten p2 leastFrom__25 x5_32 (f_X12_pen_J287 p1 p2 p3 leastFrom__25 x5_32 (f_X12_pen_L222 s_ten p1 p2 p3 leastFrom__25  n222)) FU) x4_31)
noncomputable def f_X12_pen_J200 (s_ten : Nat → Int32) (p1 : Int32) (p2 : Int32) (p3 : Int32)  (leastFrom__25 : Nat → Int32) : Option (Int32 × (Nat → Int32)) :=
    if p3 = 6 then
    (rdI leastFrom__25 371 (53 * p1) fun v214_85 =>
      some (v214_85, leastFrom__25))
    else
    ((f_X12_pen_L222 s_ten p1 p2 p3 leastFrom__25  FU) 0 p1)
noncomputable def f_X12_pen_J173 (x4_91 : Int32) (x5_97 : Int32) (leastFrom__98 : Nat → Int32) (K68 : Int32 → (Nat → Int32) → Option (Int32 × (Nat → Int32))) (x6_108 : Int32) : Option (Int32 × (Nat → Int32)) :=
    wrI leastFrom__98 371 ((53 * x4_91) + x5_97) x6_108 fun g187_109 =>
    nmI (x5_97 + (-1)) fun v188_114 =>
    K68 v188_114 g187_109
noncomputable def f_X12_pen_J150 (v111_124 : Int32) (K173 : Int32 → Option (Int32 × (Nat → Int32))) (t0_135 : Int32) : Option (Int32 × (Nat → Int32)) :=
    if t0_135 < 0 then
    (K173 v111_124)
    else
    (if v111_124 < 0 then
      (K173 t0_135)
      else
      (if v111_124 ≤ t0_135 then
        (K173 v111_124)
        else
        (K173 t0_135)))
noncomputable def f_X12_pen_J83 (s_ten : Nat → Int32) (p2 : Int32) (x4_91 : Int32) (x5_97 : Int32) (leastFrom__98 : Nat → Int32) (K68 : Int32 → (Nat → Int32) → Option (Int32 × (Nat → Int32))) (t0_106 : Int32) : Option (Int32 × (Nat → Int32)) :=
    if x4_91 ≤ 0 then
    ((f_X12_pen_J173 x4_91 x5_97 leastFrom__98 K68) t0_106)
    else
    (if 40 ≤ x5_97 then
      ((f_X12_pen_J173 x4_91 x5_97 leastFrom__98 K68) t0_106)
      else
      (rdI leastFrom__98 371 (((53 * x4_91) + x5_97) + 1) fun v111_124 =>
        cb1 (f_X12_leastAt leastFrom__98 (x4_91 - 1) (x5_97 + p2)) fun r123_129 =>
        if 0 ≤ r123_129 then
        (rdI s_ten 40 x5_97 fun v145_151 =>
          (f_X12_pen_J150 v111_124 (f_X12_pen_J173 x4_91 x5_97 leastFrom__98 K68)) ((10 - v145_151) * r123_129))
        else
        ((f_X12_pen_J150 v111_124 (f_X12_pen_J173 x4_91 x5_97 leastFrom__98 K68)) (-1))))
noncomputable def f_X12_pen_L68 (s_ten : Nat → Int32) (p2 : Int32) (x4_91 : Int32) (K58 : Int32 → (Nat → Int32) → Option (Int32 × (Nat → Int32))) : Nat → Int32 → (Nat → Int32) → Option (Int32 × (Nat → Int32))
  | 0, _, _ => none
  | n68 + 1, x5_97, leastFrom__98 =>
    if x5_97 < 0 then
    (nmI (x4_91 + 1) fun v194_102 =>
      K58 v194_102 leastFrom__98)
    else
    (if x4_91 = 0 then
      ((f_X12_pen_J83 s_ten p2 x4_91 x5_97 leastFrom__98 (f_X12_pen_L68 s_ten p2 x4_91 K58 n68)) 1)
      else
      ((f_X12_pen_J83 s_ten p2 x4_91 x5_97 leastFrom__98 (f_X12_pen_L68 s_ten p2 x4_91 K58 n68)) (-1)))
noncomputable def f_X12_pen_L58 (s_ten : Nat → Int32) (p1 : Int32) (p2 : Int32) (K200 : (Nat → Int32) → Option (Int32 × (Nat → Int32))) : Nat → Int32 → (Nat → Int32) → Option (Int32 × (Nat → Int32))
  | 0, _, _ => none
  | n58 + 1, x4_91, leastFrom__92 =>
    if p1 < x4_91 then
    (K200 leastFrom__92)
    else
    ((f_X12_pen_L68 s_ten p2 x4_91 (f_X12_pen_L58 s_ten p1 p2 K200 n58) FU) 40 leastFrom__92)
noncomputable def f_X12_pen_J43 (s_leastFrom : Nat → Int32) (s_ten : Nat → Int32) (p1 : Int32) (p2 : Int32) (p3 : Int32)   : Option (Int32 × (Nat → Int32)) :=
    if ((p1 - 1) * p2) ≤ 39 then
    ((f_X12_pen_L58 s_ten p1 p2 (f_X12_pen_J200 s_ten p1 p2 p3 ) FU) 0 s_leastFrom)
    else
    (some ((-1), s_leastFrom))
noncomputable def f_X12_pen (s_leastFrom : Nat → Int32) (s_ten : Nat → Int32) (p1 : Int32) (p2 : Int32) (p3 : Int32) : Option (Int32 × (Nat → Int32)) :=
    cb1 (f_X12_lies (Int32.toInt64 p1) 1 6) fun r6_1 =>
    if r6_1 = 0 then
    (some ((-1), s_leastFrom))
    else
    (cb1 (f_X12_lies (Int32.toInt64 p2) 1 10) fun r18_11 =>
      if r18_11 = 0 then
      (some ((-1), s_leastFrom))
      else
      (if p3 = 6 then
        ((f_X12_pen_J43 s_leastFrom s_ten p1 p2 p3 ))
        else
        (cb1 (f_X12_lies (Int32.toInt64 p3) 0 (Int32.toInt64 (p1 - 1))) fun r37_163 =>
          if r37_163 = 0 then
          (some ((-1), s_leastFrom))
          else
          ((f_X12_pen_J43 s_leastFrom s_ten p1 p2 p3 )))))
noncomputable def f_X12_choices_L16 (p1 : Int32) (p2 : Int32)  : Nat → Int64 → Int32 → Option (Int64)
  | 0, _, _ => none
  | n16 + 1, x2_10, x4_11 =>
    if p2 < x4_11 then
    (some (x2_10))
    else
    (dvL (Int32.toInt64 x4_11) <|
      nmL ((x2_10 * (Int32.toInt64 ((p1 - p2) + x4_11))) / (Int32.toInt64 x4_11)) fun v35_18 =>
      nmI (x4_11 + 1) fun v36_22 =>
      (f_X12_choices_L16 p1 p2  n16) v35_18 v36_22)
noncomputable def f_X12_choices (p1 : Int32) (p2 : Int32) : Option (Int64) :=
    if p2 < 0 then
    (some (0))
    else
    (if p2 ≤ p1 then
      ((f_X12_choices_L16 p1 p2  FU) 1 1)
      else
      (some (0)))
noncomputable def f_X12_divisor_L6   : Nat → Int64 → Int64 → Option (Int64)
  | 0, _, _ => none
  | n6 + 1, x4_3, x6_4 =>
    if (lg_cmp x6_4 0) = 0 then
    (some (x4_3))
    else
    (dvL x6_4 <|
      nmL (jremL x4_3 x6_4) fun v18_11 =>
      (f_X12_divisor_L6   n6) x6_4 v18_11)
noncomputable def f_X12_divisor (p1 : Int64) (p2 : Int64) : Option (Int64) :=
    (f_X12_divisor_L6   FU) p1 p2
noncomputable def f_X12_canLook (p1 : Int32) (p2 : Int32) (p3 : Int32) : Option (Int32) :=
    cb1 (f_X12_lies (Int32.toInt64 p1) 0 20) fun r6_1 =>
    if r6_1 = 0 then
    (some (0))
    else
    (cb1 (f_X12_lies (Int32.toInt64 p2) 0 20) fun r18_10 =>
      if r18_10 = 0 then
      (some (0))
      else
      (cb1 (f_X12_lies (Int32.toInt64 p3) 0 (Int32.toInt64 p1)) fun r29_19 =>
        if r29_19 = 0 then
        (some (0))
        else
        (if p2 < p3 then
          (some (0))
          else
          (some (1)))))
noncomputable def f_X12_waysOf (p1 : Int32) (p2 : Int32) (p3 : Int32) (p4 : Int32) : Option (Int64) :=
    cb1 (f_X12_choices p1 p3) fun r2_1 =>
    cb1 (f_X12_choices (p4 - p1) (p2 - p3)) fun r11_6 =>
    some ((r2_1 * r11_6))
noncomputable def f_X12_odds (p1 : Int32) (p2 : Int32) (p3 : Int32) (p4 : Int32) (p5 : Int32) : Option (Int64) :=
    cb1 (f_X12_canLook p1 p2 p3) fun r3_1 =>
    if r3_1 = 0 then
    (some ((-1)))
    else
    (cb1 (f_X12_lies (Int32.toInt64 p4) (Int32.toInt64 ((p1 + p2) - p3)) 40) fun r21_10 =>
      if r21_10 = 0 then
      (some ((-1)))
      else
      (cb1 (f_X12_lies (Int32.toInt64 p5) 0 1) fun r32_19 =>
        if r32_19 = 0 then
        (some ((-1)))
        else
        (cb1 (f_X12_waysOf p1 p2 p3 p4) fun r47_27 =>
          cb1 (f_X12_choices p4 p2) fun r55_33 =>
          cb1 (f_X12_divisor r47_27 r55_33) fun r64_39 =>
          if p5 = 0 then
          (dvL r64_39 <|
            some ((r47_27 / r64_39)))
          else
          (dvL r64_39 <|
            some ((r55_33 / r64_39))))))
noncomputable def f_X12_more_L46 (p1 : Int32) (p2 : Int32) (p3 : Int32) (p4 : Int32) (p5 : Int32)  : Nat → Int32 → Int32 → Option (Int32)
  | 0, _, _ => none
  | n46 + 1, x6_32, x7_33 =>
    if 40 < x7_33 then
    (some (x6_32))
    else
    (cb1 (f_X12_waysOf p1 p2 p3 x7_33) fun r58_38 =>
      cb1 (f_X12_choices x7_33 p2) fun r71_43 =>
      if (lg_cmp (r58_38 * 1000) ((Int32.toInt64 p4) * r71_43)) < 0 then
      (nmI (x7_33 + 1) fun v94_51 =>
        (f_X12_more_L46 p1 p2 p3 p4 p5  n46) x6_32 v94_51)
      else
      (if p5 = 1 then
        (nmI (x7_33 + 1) fun v94_59 =>
          (f_X12_more_L46 p1 p2 p3 p4 p5  n46) x7_33 v94_59)
        else
        (if 0 ≤ x6_32 then
          (nmI (x7_33 + 1) fun v94_66 =>
            (f_X12_more_L46 p1 p2 p3 p4 p5  n46) x6_32 v94_66)
          else
          (nmI (x7_33 + 1) fun v94_71 =>
            (f_X12_more_L46 p1 p2 p3 p4 p5  n46) x7_33 v94_71))))
noncomputable def f_X12_more (p1 : Int32) (p2 : Int32) (p3 : Int32) (p4 : Int32) (p5 : Int32) : Option (Int32) :=
    cb1 (f_X12_canLook p1 p2 p3) fun r3_1 =>
    if r3_1 = 0 then
    (some ((-1)))
    else
    (cb1 (f_X12_lies (Int32.toInt64 p4) 1 1000) fun r16_10 =>
      if r16_10 = 0 then
      (some ((-1)))
      else
      (cb1 (f_X12_lies (Int32.toInt64 p5) 0 1) fun r27_19 =>
        if r27_19 = 0 then
        (some ((-1)))
        else
        (nmI ((p1 + p2) - p3) fun v44_28 =>
          (f_X12_more_L46 p1 p2 p3 p4 p5  FU) (-2) v44_28)))
noncomputable def f_X12_numberAt_L4 (s_tape : Nat → Int32) (p1 : Int32)  : Nat → Int32 → Int32 → Option (Int32)
  | 0, _, _ => none
  | n4 + 1, x2_3, x3_4 =>
    if 4 ≤ x3_4 then
    (some (x2_3))
    else
    (rdI s_tape 200 ((4 * p1) + x3_4) fun v22_9 =>
      nmI ((jshl x2_3 8) ||| (v22_9 &&& 255)) fun v28_13 =>
      nmI (x3_4 + 1) fun v29_17 =>
      (f_X12_numberAt_L4 s_tape p1  n4) v28_13 v29_17)
noncomputable def f_X12_numberAt (s_tape : Nat → Int32) (p1 : Int32) : Option (Int32) :=
    (f_X12_numberAt_L4 s_tape p1  FU) 0 0
noncomputable def f_X12_check_J116 (o_paperHigh39_112 : Int32) (o_paperShape39_113 : Int32) (o_highAt39_114 : Nat → Int32) (o_shapeAt39_116 : Nat → Int32) (o_atA46_122 : Int32) (o_atB46_123 : Int32) (o_atD46_124 : Int32) (o_atF46_125 : Int32) (o_atG46_126 : Int32) (o_atH46_127 : Int32) (o_atL46_128 : Int32) (o_atM46_129 : Int32) (o_atN46_130 : Int32) (o_atS46_131 : Int32) (o_atT46_132 : Int32) (o_atU46_133 : Int32) (o_atX46_134 : Int32) (o_first46_135 : Nat → Int32) (o_greatest46_136 : Nat → Int32) (o_isRefused46_137 : Nat → Int32) (o_last46_138 : Nat → Int32) (o_marked46_139 : Nat → Int32) (o_worth46_140 : Nat → Int32)  (x4_146 : Int32) : Option (Int32 × Int32 × Int32 × Int32 × Int32 × Int32 × Int32 × Int32 × Int32 × Int32 × Int32 × Int32 × Int32 × Int32 × Int32 × Int32 × Int32 × (Nat → Int32) × (Nat → Int32) × (Nat → Int32) × (Nat → Int32) × (Nat → Int32) × (Nat → Int32) × (Nat → Int32) × (Nat → Int32)) :=
    some (((3 * x4_146) + 1), 0, o_atA46_122, o_atB46_123, o_atD46_124, o_atF46_125, o_atG46_126, o_atH46_127, o_atL46_128, o_atM46_129, o_atN46_130, o_atS46_131, o_atT46_132, o_atU46_133, o_atX46_134, o_paperHigh39_112, o_paperShape39_113, o_first46_135, o_greatest46_136, o_highAt39_114, o_isRefused46_137, o_last46_138, o_marked46_139, o_shapeAt39_116, o_worth46_140)
noncomputable def f_X12_check_J143 (o_paperHigh39_112 : Int32) (o_paperShape39_113 : Int32) (o_highAt39_114 : Nat → Int32) (o_shapeAt39_116 : Nat → Int32) (o_atA46_122 : Int32) (o_atB46_123 : Int32) (o_atD46_124 : Int32) (o_atF46_125 : Int32) (o_atG46_126 : Int32) (o_atH46_127 : Int32) (o_atL46_128 : Int32) (o_atM46_129 : Int32) (o_atN46_130 : Int32) (o_atS46_131 : Int32) (o_atT46_132 : Int32) (o_atU46_133 : Int32) (o_atX46_134 : Int32) (o_first46_135 : Nat → Int32) (o_greatest46_136 : Nat → Int32) (o_isRefused46_137 : Nat → Int32) (o_last46_138 : Nat → Int32) (o_marked46_139 : Nat → Int32) (o_worth46_140 : Nat → Int32)  (x4_172 : Int32) : Option (Int32 × Int32 × Int32 × Int32 × Int32 × Int32 × Int32 × Int32 × Int32 × Int32 × Int32 × Int32 × Int32 × Int32 × Int32 × Int32 × Int32 × (Nat → Int32) × (Nat → Int32) × (Nat → Int32) × (Nat → Int32) × (Nat → Int32) × (Nat → Int32) × (Nat → Int32) × (Nat → Int32)) :=
    some (((3 * x4_172) + 2), 0, o_atA46_122, o_atB46_123, o_atD46_124, o_atF46_125, o_atG46_126, o_atH46_127, o_atL46_128, o_atM46_129, o_atN46_130, o_atS46_131, o_atT46_132, o_atU46_133, o_atX46_134, o_paperHigh39_112, o_paperShape39_113, o_first46_135, o_greatest46_136, o_highAt39_114, o_isRefused46_137, o_last46_138, o_marked46_139, o_shapeAt39_116, o_worth46_140)
noncomputable def f_X12_check_J156 (p3 : Int32) (o_paperHigh39_112 : Int32) (o_paperShape39_113 : Int32) (o_highAt39_114 : Nat → Int32) (o_shapeAt39_116 : Nat → Int32) (o_atA46_122 : Int32) (o_atB46_123 : Int32) (o_atD46_124 : Int32) (o_atF46_125 : Int32) (o_atG46_126 : Int32) (o_atH46_127 : Int32) (o_atL46_128 : Int32) (o_atM46_129 : Int32) (o_atN46_130 : Int32) (o_atS46_131 : Int32) (o_atT46_132 : Int32) (o_atU46_133 : Int32) (o_atX46_134 : Int32) (o_first46_135 : Nat → Int32) (o_greatest46_136 : Nat → Int32) (o_isRefused46_137 : Nat → Int32) (o_last46_138 : Nat → Int32) (o_marked46_139 : Nat → Int32) (o_worth46_140 : Nat → Int32)   : Option (Int32 × Int32 × Int32 × Int32 × Int32 × Int32 × Int32 × Int32 × Int32 × Int32 × Int32 × Int32 × Int32 × Int32 × Int32 × Int32 × Int32 × (Nat → Int32) × (Nat → Int32) × (Nat → Int32) × (Nat → Int32) × (Nat → Int32) × (Nat → Int32) × (Nat → Int32) × (Nat → Int32)) :=
    rdI o_marked46_139 2 0 fun v162_198 =>
    if p3 = v162_198 then
    (some ((-1), 0, o_atA46_122, o_atB46_123, o_atD46_124, o_atF46_125, o_atG46_126, o_atH46_127, o_atL46_128, o_atM46_129, o_atN46_130, o_atS46_131, o_atT46_132, o_atU46_133, o_atX46_134, o_paperHigh39_112, o_paperShape39_113, o_first46_135, o_greatest46_136, o_highAt39_114, o_isRefused46_137, o_last46_138, o_marked46_139, o_shapeAt39_116, o_worth46_140))
    else
    (rdI o_marked46_139 2 0 fun v176_205 =>
      some ((3 * v176_205), 0, o_atA46_122, o_atB46_123, o_atD46_124, o_atF46_125, o_atG46_126, o_atH46_127, o_atL46_128, o_atM46_129, o_atN46_130, o_atS46_131, o_atT46_132, o_atU46_133, o_atX46_134, o_paperHigh39_112, o_paperShape39_113, o_first46_135, o_greatest46_136, o_highAt39_114, o_isRefused46_137, o_last46_138, o_marked46_139, o_shapeAt39_116, o_worth46_140))
noncomputable def f_X12_check_L52 (s_tape : Nat → Int32) (p3 : Int32) (o_paperHigh39_112 : Int32) (o_paperShape39_113 : Int32) (o_highAt39_114 : Nat → Int32) (o_shapeAt39_116 : Nat → Int32) (o_atA46_122 : Int32) (o_atB46_123 : Int32) (o_atD46_124 : Int32) (o_atF46_125 : Int32) (o_atG46_126 : Int32) (o_atH46_127 : Int32) (o_atL46_128 : Int32) (o_atM46_129 : Int32) (o_atN46_130 : Int32) (o_atS46_131 : Int32) (o_atT46_132 : Int32) (o_atU46_133 : Int32) (o_atX46_134 : Int32) (o_first46_135 : Nat → Int32) (o_greatest46_136 : Nat → Int32) (o_isRefused46_137 : Nat → Int32) (o_last46_138 : Nat → Int32) (o_marked46_139 : Nat → Int32) (o_worth46_140 : Nat → Int32) (K116 : Int32 → Option (Int32 × Int32 × Int32 × Int32 × Int32 × Int32 × Int32 × Int32 × Int32 × Int32 × Int32 × Int32 × Int32 × Int32 × Int32 × Int32 × Int32 × (Nat → Int32) × (Nat → Int32) × (Nat → Int32) × (Nat → Int32) × (Nat → Int32) × (Nat → Int32) × (Nat → Int32) × (Nat → Int32))) (K143 : Int32 → Option (Int32 × Int32 × Int32 × Int32 × Int32 × Int32 × Int32 × Int32 × Int32 × Int32 × Int32 × Int32 × Int32 × Int32 × Int32 × Int32 × Int32 × (Nat → Int32) × (Nat → Int32) × (Nat → Int32) × (Nat → Int32) × (Nat → Int32) × (Nat → Int32) × (Nat → Int32) × (Nat → Int32))) (K156 : Option (Int32 × Int32 × Int32 × Int32 × Int32 × Int32 × Int32 × Int32 × Int32 × Int32 × Int32 × Int32 × Int32 × Int32 × Int32 × Int32 × Int32 × (Nat → Int32) × (Nat → Int32) × (Nat → Int32) × (Nat → Int32) × (Nat → Int32) × (Nat → Int32) × (Nat → Int32) × (Nat → Int32))) : Nat → Int32 → Option (Int32 × Int32 × Int32 × Int32 × Int32 × Int32 × Int32 × Int32 × Int32 × Int32 × Int32 × Int32 × Int32 × Int32 × Int32 × Int32 × Int32 × (Nat → Int32) × (Nat → Int32) × (Nat → Int32) × (Nat → Int32) × (Nat → Int32) × (Nat → Int32) × (Nat → Int32) × (Nat → Int32))
  | 0, _ => none
  | n52 + 1, x4_259 =>
    rdI o_marked46_139 2 0 fun v59_260 =>
    if v59_260 ≤ x4_259 then
    (K156)
    else
    (if x4_259 = p3 then
      (some ((3 * p3), 0, o_atA46_122, o_atB46_123, o_atD46_124, o_atF46_125, o_atG46_126, o_atH46_127, o_atL46_128, o_atM46_129, o_atN46_130, o_atS46_131, o_atT46_132, o_atU46_133, o_atX46_134, o_paperHigh39_112, o_paperShape39_113, o_first46_135, o_greatest46_136, o_highAt39_114, o_isRefused46_137, o_last46_138, o_marked46_139, o_shapeAt39_116, o_worth46_140))
      else
      (cb1 (f_X12_numberAt s_tape (3 * x4_259)) fun r78_270 =>
        rdI o_first46_135 1440 x4_259 fun v87_275 =>
        if r78_270 = v87_275 then
        (cb1 (f_X12_numberAt s_tape ((3 * x4_259) + 1)) fun r103_282 =>
          rdI o_last46_138 1440 x4_259 fun v112_287 =>
          if r103_282 = v112_287 then
          (cb1 (f_X12_numberAt s_tape ((3 * x4_259) + 2)) fun r130_294 =>
            rdI o_greatest46_136 1440 x4_259 fun v139_299 =>
            if r130_294 = v139_299 then
            (nmI (x4_259 + 1) fun v150_306 =>
              (f_X12_check_L52 s_tape p3 o_paperHigh39_112 o_paperShape39_113 o_highAt39_114 o_shapeAt39_116 o_atA46_122 o_atB46_123 o_atD46_124 o_atF46_125 o_atG46_126 o_atH46_127 o_atL46_128 o_atM46_129 o_atN46_130 o_atS46_131 o_atT46_132 o_atU46_133 o_atX46_134 o_first46_135 o_greatest46_136 o_isRefused46_137 o_last46_138 o_marked46_139 o_worth46_140 K116 K143 K156 n52) v150_306)
            else
            (K143 x4_259))
          else
          (K116 x4_259))
        else
        (some ((3 * x4_259), 0, o_atA46_122, o_atB46_123, o_atD46_124, o_atF46_125, o_atG46_126, o_atH46_127, o_atL46_128, o_atM46_129, o_atN46_130, o_atS46_131, o_atT46_132, o_atU46_133, o_atX46_134, o_paperHigh39_112, o_paperShape39_113, o_first46_135, o_greatest46_136, o_highAt39_114, o_isRefused46_137, o_last46_138, o_marked46_139, o_shapeAt39_116, o_worth46_140))))
noncomputable def f_X12_check (s_taped : Int32) (s_sources : Int32) (s_seed : Int32) (s_atA : Int32) (s_atB : Int32) (s_atD : Int32) (s_atF : Int32) (s_atG : Int32) (s_atH : Int32) (s_atL : Int32) (s_atM : Int32) (s_atN : Int32) (s_atS : Int32) (s_atT : Int32) (s_atU : Int32) (s_atX : Int32) (s_paperHigh : Int32) (s_paperShape : Int32) (s_byStar : Nat → Int32) (s_code : Nat → Int32) (s_codeArg : Nat → Int32) (s_codeFrom : Nat → Int32) (s_codeTo : Nat → Int32) (s_first : Nat → Int32) (s_greatest : Nat → Int32) (s_highAt : Nat → Int32) (s_isRefused : Nat → Int32) (s_last : Nat → Int32) (s_many : Nat → Int32) (s_marked : Nat → Int32) (s_minuteOf : Nat → Int32) (s_shape : Nat → Int32) (s_shapeAt : Nat → Int32) (s_sumFrom : Nat → Int32) (s_tape : Nat → Int32) (s_weekdays : Nat → Int32) (s_wide : Nat → Int32) (s_worth : Nat → Int32) (p1 : Int32) (p2 : Int32) (p3 : Int32) : Option (Int32 × Int32 × Int32 × Int32 × Int32 × Int32 × Int32 × Int32 × Int32 × Int32 × Int32 × Int32 × Int32 × Int32 × Int32 × Int32 × Int32 × (Nat → Int32) × (Nat → Int32) × (Nat → Int32) × (Nat → Int32) × (Nat → Int32) × (Nat → Int32) × (Nat → Int32) × (Nat → Int32)) :=
    cb1 (f_X12_isReader p1) fun r1_1 =>
    if r1_1 = 0 then
    (some ((-2), s_taped, s_atA, s_atB, s_atD, s_atF, s_atG, s_atH, s_atL, s_atM, s_atN, s_atS, s_atT, s_atU, s_atX, s_paperHigh, s_paperShape, s_first, s_greatest, s_highAt, s_isRefused, s_last, s_marked, s_shapeAt, s_worth))
    else
    (cb1 (f_X12_isDay p2) fun r8_34 =>
      if r8_34 = 0 then
      (some ((-2), s_taped, s_atA, s_atB, s_atD, s_atF, s_atG, s_atH, s_atL, s_atM, s_atN, s_atS, s_atT, s_atU, s_atX, s_paperHigh, s_paperShape, s_first, s_greatest, s_highAt, s_isRefused, s_last, s_marked, s_shapeAt, s_worth))
      else
      (if p3 < 0 then
        (some ((-2), s_taped, s_atA, s_atB, s_atD, s_atF, s_atG, s_atH, s_atL, s_atM, s_atN, s_atS, s_atT, s_atU, s_atX, s_paperHigh, s_paperShape, s_first, s_greatest, s_highAt, s_isRefused, s_last, s_marked, s_shapeAt, s_worth))
        else
        (if p3 ≤ (s_taped / 12) then
          (cb19 (f_X12_lays s_sources s_seed s_atA s_atB s_atD s_atF s_atG s_atH s_atL s_atM s_atN s_atS s_atT s_atU s_atX s_paperHigh s_paperShape s_byStar s_code s_codeArg s_codeFrom s_codeTo s_highAt s_isRefused s_many s_minuteOf s_shape s_shapeAt s_sumFrom s_weekdays s_wide s_worth p2) fun o_atA39_99 o_atB39_100 o_atD39_101 o_atF39_102 o_atG39_103 o_atH39_104 o_atL39_105 o_atM39_106 o_atN39_107 o_atS39_108 o_atT39_109 o_atU39_110 o_atX39_111 o_paperHigh39_112 o_paperShape39_113 o_highAt39_114 o_isRefused39_115 o_shapeAt39_116 o_worth39_117 =>
            cb19 (f_X12_goesOver o_atA39_99 o_atB39_100 o_atD39_101 o_atF39_102 o_atG39_103 o_atH39_104 o_atL39_105 o_atM39_106 o_atN39_107 o_atS39_108 o_atT39_109 o_atU39_110 o_atX39_111 s_code s_codeArg s_codeFrom s_codeTo s_first s_greatest o_highAt39_114 o_isRefused39_115 s_last s_many s_marked o_shapeAt39_116 o_worth39_117 p1 p2 0) fun o_atA46_122 o_atB46_123 o_atD46_124 o_atF46_125 o_atG46_126 o_atH46_127 o_atL46_128 o_atM46_129 o_atN46_130 o_atS46_131 o_atT46_132 o_atU46_133 o_atX46_134 o_first46_135 o_greatest46_136 o_isRefused46_137 o_last46_138 o_marked46_139 o_worth46_140 =>
            (f_X12_check_L52 s_tape p3 o_paperHigh39_112 o_paperShape39_113 o_highAt39_114 o_shapeAt39_116 o_atA46_122 o_atB46_123 o_atD46_124 o_atF46_125 o_atG46_126 o_atH46_127 o_atL46_128 o_atM46_129 o_atN46_130 o_atS46_131 o_atT46_132 o_atU46_133 o_atX46_134 o_first46_135 o_greatest46_136 o_isRefused46_137 o_last46_138 o_marked46_139 o_worth46_140 (f_X12_check_J116 o_paperHigh39_112 o_paperShape39_113 o_highAt39_114 o_shapeAt39_116 o_atA46_122 o_atB46_123 o_atD46_124 o_atF46_125 o_atG46_126 o_atH46_127 o_atL46_128 o_atM46_129 o_atN46_130 o_atS46_131 o_atT46_132 o_atU46_133 o_atX46_134 o_first46_135 o_greatest46_136 o_isRefused46_137 o_last46_138 o_marked46_139 o_worth46_140 ) (f_X12_check_J143 o_paperHigh39_112 o_paperShape39_113 o_highAt39_114 o_shapeAt39_116 o_atA46_122 o_atB46_123 o_atD46_124 o_atF46_125 o_atG46_126 o_atH46_127 o_atL46_128 o_atM46_129 o_atN46_130 o_atS46_131 o_atT46_132 o_atU46_133 o_atX46_134 o_first46_135 o_greatest46_136 o_isRefused46_137 o_last46_138 o_marked46_139 o_worth46_140 ) (f_X12_check_J156 p3 o_paperHigh39_112 o_paperShape39_113 o_highAt39_114 o_shapeAt39_116 o_atA46_122 o_atB46_123 o_atD46_124 o_atF46_125 o_atG46_126 o_atH46_127 o_atL46_128 o_atM46_129 o_atN46_130 o_atS46_131 o_atT46_132 o_atU46_133 o_atX46_134 o_first46_135 o_greatest46_136 o_isRefused46_137 o_last46_138 o_marked46_139 o_worth46_140 ) FU) 0)
          else
          (some ((-2), s_taped, s_atA, s_atB, s_atD, s_atF, s_atG, s_atH, s_atL, s_atM, s_atN, s_atS, s_atT, s_atU, s_atX, s_paperHigh, s_paperShape, s_first, s_greatest, s_highAt, s_isRefused, s_last, s_marked, s_shapeAt, s_worth)))))
noncomputable def f_X12_count (s_taped : Int32) (s_sources : Int32) (s_seed : Int32) (s_notes : Int32) (s_blips : Int32) (s_nights : Int32) (s_many : Nat → Int32) (p1 : Int32) : Option (Int32) :=
    cb1 (f_X12_isSource s_sources (p1 - 10)) fun r5_1 =>
    if r5_1 = 0 then
    (cb1 (f_X12_isReader (p1 - 20)) fun r27_9 =>
      if r27_9 = 0 then
      (cb1 (f_X12_isTale (p1 - 30)) fun r50_17 =>
        if r50_17 = 0 then
        (if p1 = 0 then (some (s_sources))
          else if p1 = 1 then (some (s_notes))
          else if p1 = 2 then (some (s_blips))
          else if p1 = 3 then (some (s_nights))
          else if p1 = 4 then (some (s_seed))
          else if p1 = 5 then (some (s_taped))
          else (some ((-1))))
        else
        (rdI s_many 20 ((14 + p1) - 30) fun v67_50 =>
          some (v67_50)))
      else
      (rdI s_many 20 ((10 + p1) - 20) fun v44_55 =>
        some (v44_55)))
    else
    (rdI s_many 20 ((0 + p1) - 10) fun v21_60 =>
      some (v21_60))
