abbrev r_X12_marks : Room := { frames := 7, cells := 0, slots := 0, locals := 162 }
set_option maxHeartbeats 4000000 in
set_option maxRecDepth 100000 in
theorem c_X12_marks (l : Launch) (E : kE) (sz : Nat) (a0 a1 a2 a3 a4 a5 a6 a7 a8 a9 a10 a11 a12 a13 a14 a15 a16 a17 a18 a19 : Nat) (w0_0 w0_1 w0_4 w0_5 w0_6 w0_13 w0_14 w0_15 w0_16 w0_17 w0_18 w0_19 w0_20 w0_21 w0_22 w0_23 w0_24 w0_25 w0_26 w0_27 w0_56 w0_57 w0_58 w0_59 w0_60 w0_61 w0_62 w0_63 w0_64 w0_65 w0_66 : Value) (s_sources : Int32) (s_seed : Int32) (s_atA : Int32) (s_atB : Int32) (s_atD : Int32) (s_atF : Int32) (s_atG : Int32) (s_atH : Int32) (s_atL : Int32) (s_atM : Int32) (s_atN : Int32) (s_atS : Int32) (s_atT : Int32) (s_atU : Int32) (s_atX : Int32) (s_paperHigh : Int32) (s_paperShape : Int32) (s_byStar : Nat → Int32) (s_code : Nat → Int32) (s_codeArg : Nat → Int32) (s_codeFrom : Nat → Int32) (s_codeTo : Nat → Int32) (s_first : Nat → Int32) (s_greatest : Nat → Int32) (s_highAt : Nat → Int32) (s_isRefused : Nat → Int32) (s_last : Nat → Int32) (s_many : Nat → Int32) (s_marked : Nat → Int32) (s_minuteOf : Nat → Int32) (s_shape : Nat → Int32) (s_shapeAt : Nat → Int32) (s_sumFrom : Nat → Int32) (s_weekdays : Nat → Int32) (s_wide : Nat → Int32) (s_worth : Nat → Int32) (p1 : Int32) (p2 : Int32) (p3 : Int32) (r : Int32) (o_atA : Int32) (o_atB : Int32) (o_atD : Int32) (o_atF : Int32) (o_atG : Int32) (o_atH : Int32) (o_atL : Int32) (o_atM : Int32) (o_atN : Int32) (o_atS : Int32) (o_atT : Int32) (o_atU : Int32) (o_atX : Int32) (o_paperHigh : Int32) (o_paperShape : Int32) (o_first : Nat → Int32) (o_greatest : Nat → Int32) (o_highAt : Nat → Int32) (o_isRefused : Nat → Int32) (o_last : Nat → Int32) (o_marked : Nat → Int32) (o_shapeAt : Nat → Int32) (o_worth : Nat → Int32) (h : f_X12_marks s_sources s_seed s_atA s_atB s_atD s_atF s_atG s_atH s_atL s_atM s_atN s_atS s_atT s_atU s_atX s_paperHigh s_paperShape s_byStar s_code s_codeArg s_codeFrom s_codeTo s_first s_greatest s_highAt s_isRefused s_last s_many s_marked s_minuteOf s_shape s_shapeAt s_sumFrom s_weekdays s_wide s_worth p1 p2 p3 = some (r, o_atA, o_atB, o_atD, o_atF, o_atG, o_atH, o_atL, o_atM, o_atN, o_atS, o_atT, o_atU, o_atX, o_paperHigh, o_paperShape, o_first, o_greatest, o_highAt, o_isRefused, o_last, o_marked, o_shapeAt, o_worth)) : kMi l yX12_marks cX12_marks 4 (some .int) r_X12_marks [.ref a0, .int p1, .int p2, .int p3] E [(a0, .inr (12, [w0_0, w0_1, .int s_sources, .int s_seed, w0_4, w0_5, w0_6, .ref a11, .ref a16, .ref a4, .ref a5, .ref a2, .ref a3, w0_13, w0_14, w0_15, w0_16, w0_17, w0_18, w0_19, w0_20, w0_21, w0_22, w0_23, w0_24, w0_25, w0_26, w0_27, .int s_atA, .int s_atB, .int s_atD, .int s_atF, .int s_atG, .int s_atH, .int s_atL, .int s_atM, .int s_atN, .int s_atS, .int s_atT, .int s_atU, .int s_atX, .ref a19, .ref a9, .ref a1, .ref a13, .ref a18, .ref a14, .ref a17, .int s_paperHigh, .int s_paperShape, .ref a8, .ref a15, .ref a6, .ref a10, .ref a7, .ref a12, w0_56, w0_57, w0_58, w0_59, w0_60, w0_61, w0_62, w0_63, w0_64, w0_65, w0_66])), (a1, .inl (E.2 2, 10, .inl s_byStar)), (a2, .inl (E.2 0, 2400, .inl s_code)), (a3, .inl (E.2 0, 2400, .inl s_codeArg)), (a4, .inl (E.2 0, 240, .inl s_codeFrom)), (a5, .inl (E.2 0, 240, .inl s_codeTo)), (a6, .inl (E.2 0, 1440, .inl s_first)), (a7, .inl (E.2 0, 1440, .inl s_greatest)), (a8, .inl (E.2 0, 1440, .inl s_highAt)), (a9, .inl (E.2 2, 200, .inl s_isRefused)), (a10, .inl (E.2 0, 1440, .inl s_last)), (a11, .inl (E.2 0, 20, .inl s_many)), (a12, .inl (E.2 0, 2, .inl s_marked)), (a13, .inl (E.2 0, 10, .inl s_minuteOf)), (a14, .inl (E.2 0, 10, .inl s_shape)), (a15, .inl (E.2 0, 1440, .inl s_shapeAt)), (a16, .inl (E.2 0, 240, .inl s_sumFrom)), (a17, .inl (E.2 0, 10, .inl s_weekdays)), (a18, .inl (E.2 0, 10, .inl s_wide)), (a19, .inl (E.2 0, 200, .inl s_worth))] sz 0 0 (fun x (_ : Unit) => x = r) (fun _ => [(a0, .inr (12, [w0_0, w0_1, .int s_sources, .int s_seed, w0_4, w0_5, w0_6, .ref a11, .ref a16, .ref a4, .ref a5, .ref a2, .ref a3, w0_13, w0_14, w0_15, w0_16, w0_17, w0_18, w0_19, w0_20, w0_21, w0_22, w0_23, w0_24, w0_25, w0_26, w0_27, .int o_atA, .int o_atB, .int o_atD, .int o_atF, .int o_atG, .int o_atH, .int o_atL, .int o_atM, .int o_atN, .int o_atS, .int o_atT, .int o_atU, .int o_atX, .ref a19, .ref a9, .ref a1, .ref a13, .ref a18, .ref a14, .ref a17, .int o_paperHigh, .int o_paperShape, .ref a8, .ref a15, .ref a6, .ref a10, .ref a7, .ref a12, w0_56, w0_57, w0_58, w0_59, w0_60, w0_61, w0_62, w0_63, w0_64, w0_65, w0_66])), (a1, .inl (E.2 2, 10, .inl s_byStar)), (a2, .inl (E.2 0, 2400, .inl s_code)), (a3, .inl (E.2 0, 2400, .inl s_codeArg)), (a4, .inl (E.2 0, 240, .inl s_codeFrom)), (a5, .inl (E.2 0, 240, .inl s_codeTo)), (a6, .inl (E.2 0, 1440, .inl o_first)), (a7, .inl (E.2 0, 1440, .inl o_greatest)), (a8, .inl (E.2 0, 1440, .inl o_highAt)), (a9, .inl (E.2 2, 200, .inl o_isRefused)), (a10, .inl (E.2 0, 1440, .inl o_last)), (a11, .inl (E.2 0, 20, .inl s_many)), (a12, .inl (E.2 0, 2, .inl o_marked)), (a13, .inl (E.2 0, 10, .inl s_minuteOf)), (a14, .inl (E.2 0, 10, .inl s_shape)), (a15, .inl (E.2 0, 1440, .inl o_shapeAt)), (a16, .inl (E.2 0, 240, .inl s_sumFrom)), (a17, .inl (E.2 0, 10, .inl s_weekdays)), (a18, .inl (E.2 0, 10, .inl s_wide)), (a19, .inl (E.2 0, 200, .inl o_worth))]) := by
  refine kmeti rfl (Nat.le_of_ble_eq_true rfl) ?_
  intro p e s m args below meth c ls A Q X hV hret hl
  have X : kC p s m c cX12_marks 4 RX12 args E A := X
  have hx := X.1
  have hb := X.2.1
  have hl : lv_has ls 4 [(0, .ref a0), (1, .int p1), (2, .int p2), (3, .int p3)] := hl
  rw [f_X12_marks] at h
  refine lv_iload_n hx hb dX12_marks_0 rfl (lv_at hl 1 rfl) ?_
  obtain ⟨r1_1, hc2, h3⟩ := cb1_s h
  clear h
  refine kgoiE (krunS (rest := []) X hV [] (c_X12_isReader l E _ p1 r1_1 hc2) mw_595 kb_X12_isReader (by decide) rfl rfl hl.1 rfl (Nat.le_of_ble_eq_true rfl) dX12_marks_1 (by decide)) X hV [] [0, 1, 2, 3, 4, 5, 6, 7, 8, 9, 10, 11, 12, 13, 14, 15, 16, 17, 18, 19] rfl rfl rfl (by decide) (fun u H locs hV4 => ?_)
  have hV4 : kV E A s.heap H locs [(a0, .inr (12, [w0_0, w0_1, .int s_sources, .int s_seed, w0_4, w0_5, w0_6, .ref a11, .ref a16, .ref a4, .ref a5, .ref a2, .ref a3, w0_13, w0_14, w0_15, w0_16, w0_17, w0_18, w0_19, w0_20, w0_21, w0_22, w0_23, w0_24, w0_25, w0_26, w0_27, .int s_atA, .int s_atB, .int s_atD, .int s_atF, .int s_atG, .int s_atH, .int s_atL, .int s_atM, .int s_atN, .int s_atS, .int s_atT, .int s_atU, .int s_atX, .ref a19, .ref a9, .ref a1, .ref a13, .ref a18, .ref a14, .ref a17, .int s_paperHigh, .int s_paperShape, .ref a8, .ref a15, .ref a6, .ref a10, .ref a7, .ref a12, w0_56, w0_57, w0_58, w0_59, w0_60, w0_61, w0_62, w0_63, w0_64, w0_65, w0_66])), (a1, .inl (E.2 2, 10, .inl s_byStar)), (a2, .inl (E.2 0, 2400, .inl s_code)), (a3, .inl (E.2 0, 2400, .inl s_codeArg)), (a4, .inl (E.2 0, 240, .inl s_codeFrom)), (a5, .inl (E.2 0, 240, .inl s_codeTo)), (a6, .inl (E.2 0, 1440, .inl s_first)), (a7, .inl (E.2 0, 1440, .inl s_greatest)), (a8, .inl (E.2 0, 1440, .inl s_highAt)), (a9, .inl (E.2 2, 200, .inl s_isRefused)), (a10, .inl (E.2 0, 1440, .inl s_last)), (a11, .inl (E.2 0, 20, .inl s_many)), (a12, .inl (E.2 0, 2, .inl s_marked)), (a13, .inl (E.2 0, 10, .inl s_minuteOf)), (a14, .inl (E.2 0, 10, .inl s_shape)), (a15, .inl (E.2 0, 1440, .inl s_shapeAt)), (a16, .inl (E.2 0, 240, .inl s_sumFrom)), (a17, .inl (E.2 0, 10, .inl s_weekdays)), (a18, .inl (E.2 0, 10, .inl s_wide)), (a19, .inl (E.2 0, 200, .inl s_worth))] := hV4.sub [0, 1, 2, 3, 4, 5, 6, 7, 8, 9, 10, 11, 12, 13, 14, 15, 16, 17, 18, 19] rfl rfl
  clear hV
  refine lv_if_eq (tgt := 19) hx hb dX12_marks_4 (by decide) (fun c6 => ?_) (fun c6 => ?_)
  · have h7 := itS c6 h3
    clear h3 c6
    refine lv_iconst (v := (-1)) hx hb dX12_marks_19 (by decide) ?_
    obtain ⟨q9, q10, q11, q12, q13, q14, q15, q16, q17, q18, q19, q20, q21, q22, q23, q24, q25, q26, q27, q28, q29, q30, q31, q32⟩ := tup24_s h7
    clear h7
    exact hret _ () _ _ _ _ q9 rfl (by rw [← q10, ← q11, ← q12, ← q13, ← q14, ← q15, ← q16, ← q17, ← q18, ← q19, ← q20, ← q21, ← q22, ← q23, ← q24, ← q25, ← q26, ← q27, ← q28, ← q29, ← q30, ← q31, ← q32]; exact hV4) dX12_marks_20
  · have h8 := ieS c6 h3
    clear h3 c6
    refine lv_iload_n hx hb dX12_marks_7 rfl (lv_at hl 2 rfl) ?_
    obtain ⟨r8_33, hc34, h35⟩ := cb1_s h8
    clear h8
    refine kgoiE (krunS (rest := []) X hV4 [] (c_X12_isDay l E _ p2 r8_33 hc34) mw_632 kb_X12_isDay (by decide) rfl rfl hl.1 rfl (Nat.le_of_ble_eq_true rfl) dX12_marks_8 (by decide)) X hV4 [] [0, 1, 2, 3, 4, 5, 6, 7, 8, 9, 10, 11, 12, 13, 14, 15, 16, 17, 18, 19] rfl rfl rfl (by decide) (fun u H locs hV36 => ?_)
    have hV36 : kV E A s.heap H locs [(a0, .inr (12, [w0_0, w0_1, .int s_sources, .int s_seed, w0_4, w0_5, w0_6, .ref a11, .ref a16, .ref a4, .ref a5, .ref a2, .ref a3, w0_13, w0_14, w0_15, w0_16, w0_17, w0_18, w0_19, w0_20, w0_21, w0_22, w0_23, w0_24, w0_25, w0_26, w0_27, .int s_atA, .int s_atB, .int s_atD, .int s_atF, .int s_atG, .int s_atH, .int s_atL, .int s_atM, .int s_atN, .int s_atS, .int s_atT, .int s_atU, .int s_atX, .ref a19, .ref a9, .ref a1, .ref a13, .ref a18, .ref a14, .ref a17, .int s_paperHigh, .int s_paperShape, .ref a8, .ref a15, .ref a6, .ref a10, .ref a7, .ref a12, w0_56, w0_57, w0_58, w0_59, w0_60, w0_61, w0_62, w0_63, w0_64, w0_65, w0_66])), (a1, .inl (E.2 2, 10, .inl s_byStar)), (a2, .inl (E.2 0, 2400, .inl s_code)), (a3, .inl (E.2 0, 2400, .inl s_codeArg)), (a4, .inl (E.2 0, 240, .inl s_codeFrom)), (a5, .inl (E.2 0, 240, .inl s_codeTo)), (a6, .inl (E.2 0, 1440, .inl s_first)), (a7, .inl (E.2 0, 1440, .inl s_greatest)), (a8, .inl (E.2 0, 1440, .inl s_highAt)), (a9, .inl (E.2 2, 200, .inl s_isRefused)), (a10, .inl (E.2 0, 1440, .inl s_last)), (a11, .inl (E.2 0, 20, .inl s_many)), (a12, .inl (E.2 0, 2, .inl s_marked)), (a13, .inl (E.2 0, 10, .inl s_minuteOf)), (a14, .inl (E.2 0, 10, .inl s_shape)), (a15, .inl (E.2 0, 1440, .inl s_shapeAt)), (a16, .inl (E.2 0, 240, .inl s_sumFrom)), (a17, .inl (E.2 0, 10, .inl s_weekdays)), (a18, .inl (E.2 0, 10, .inl s_wide)), (a19, .inl (E.2 0, 200, .inl s_worth))] := hV36.sub [0, 1, 2, 3, 4, 5, 6, 7, 8, 9, 10, 11, 12, 13, 14, 15, 16, 17, 18, 19] rfl rfl
    clear hV4
    refine lv_if_eq (tgt := 19) hx hb dX12_marks_11 (by decide) (fun c38 => ?_) (fun c38 => ?_)
    · have h39 := itS c38 h35
      clear h35 c38
      refine lv_iconst (v := (-1)) hx hb dX12_marks_19 (by decide) ?_
      obtain ⟨q41, q42, q43, q44, q45, q46, q47, q48, q49, q50, q51, q52, q53, q54, q55, q56, q57, q58, q59, q60, q61, q62, q63, q64⟩ := tup24_s h39
      clear h39
      exact hret _ () _ _ _ _ q41 rfl (by rw [← q42, ← q43, ← q44, ← q45, ← q46, ← q47, ← q48, ← q49, ← q50, ← q51, ← q52, ← q53, ← q54, ← q55, ← q56, ← q57, ← q58, ← q59, ← q60, ← q61, ← q62, ← q63, ← q64]; exact hV36) dX12_marks_20
    · have h40 := ieS c38 h35
      clear h35 c38
      refine lv_iload_n hx hb dX12_marks_14 rfl (lv_at hl 3 rfl) ?_
      refine lv_iconst (v := (-1)) hx hb dX12_marks_15 (by decide) ?_
      refine lv_icmp_ge (tgt := 21) hx hb dX12_marks_16 (by decide) (fun c65 => ?_) (fun c65 => ?_)
      · have h66 := itS c65 h40
        clear h40 c65
        refine lv_aload_n hx hb dX12_marks_21 rfl (lv_at hl 0 rfl) ?_
        refine lv_iload_n hx hb dX12_marks_22 rfl (lv_at hl 2 rfl) ?_
        obtain ⟨o_atA23_68, o_atB23_69, o_atD23_70, o_atF23_71, o_atG23_72, o_atH23_73, o_atL23_74, o_atM23_75, o_atN23_76, o_atS23_77, o_atT23_78, o_atU23_79, o_atX23_80, o_paperHigh23_81, o_paperShape23_82, o_highAt23_83, o_isRefused23_84, o_shapeAt23_85, o_worth23_86, hc87, h88⟩ := cb19_s h66
        clear h66
        refine kgov (krunV (rest := []) X hV36 [0, 1, 2, 3, 4, 5, 8, 9, 11, 13, 14, 15, 16, 17, 18, 19] (c_X12_lays l E _ a0 a1 a2 a3 a4 a5 a8 a9 a11 a13 a14 a15 a16 a17 a18 a19 (w0_0) (w0_1) (w0_4) (w0_5) (w0_6) (w0_13) (w0_14) (w0_15) (w0_16) (w0_17) (w0_18) (w0_19) (w0_20) (w0_21) (w0_22) (w0_23) (w0_24) (w0_25) (w0_26) (w0_27) (.ref a6) (.ref a10) (.ref a7) (.ref a12) (w0_56) (w0_57) (w0_58) (w0_59) (w0_60) (w0_61) (w0_62) (w0_63) (w0_64) (w0_65) (w0_66) s_sources s_seed s_atA s_atB s_atD s_atF s_atG s_atH s_atL s_atM s_atN s_atS s_atT s_atU s_atX s_paperHigh s_paperShape s_byStar s_code s_codeArg s_codeFrom s_codeTo s_highAt s_isRefused s_many s_minuteOf s_shape s_shapeAt s_sumFrom s_weekdays s_wide s_worth p2 o_atA23_68 o_atB23_69 o_atD23_70 o_atF23_71 o_atG23_72 o_atH23_73 o_atL23_74 o_atM23_75 o_atN23_76 o_atS23_77 o_atT23_78 o_atU23_79 o_atX23_80 o_paperHigh23_81 o_paperShape23_82 o_highAt23_83 o_isRefused23_84 o_shapeAt23_85 o_worth23_86 hc87) mw_850 kb_X12_lays (ci := 12) rfl rfl (by decide) rfl rfl hl.1 rfl (Nat.le_of_ble_eq_true rfl) dX12_marks_23 (by decide)) X hV36 [0, 1, 2, 3, 4, 5, 8, 9, 11, 13, 14, 15, 16, 17, 18, 19] [6, 7, 10, 12] rfl rfl rfl (by decide) (fun u H locs hp90 hV89 => ?_)
        have hV89 : kV E A s.heap H locs [(a0, .inr (12, [w0_0, w0_1, .int s_sources, .int s_seed, w0_4, w0_5, w0_6, .ref a11, .ref a16, .ref a4, .ref a5, .ref a2, .ref a3, w0_13, w0_14, w0_15, w0_16, w0_17, w0_18, w0_19, w0_20, w0_21, w0_22, w0_23, w0_24, w0_25, w0_26, w0_27, .int o_atA23_68, .int o_atB23_69, .int o_atD23_70, .int o_atF23_71, .int o_atG23_72, .int o_atH23_73, .int o_atL23_74, .int o_atM23_75, .int o_atN23_76, .int o_atS23_77, .int o_atT23_78, .int o_atU23_79, .int o_atX23_80, .ref a19, .ref a9, .ref a1, .ref a13, .ref a18, .ref a14, .ref a17, .int o_paperHigh23_81, .int o_paperShape23_82, .ref a8, .ref a15, .ref a6, .ref a10, .ref a7, .ref a12, w0_56, w0_57, w0_58, w0_59, w0_60, w0_61, w0_62, w0_63, w0_64, w0_65, w0_66])), (a1, .inl (E.2 2, 10, .inl s_byStar)), (a2, .inl (E.2 0, 2400, .inl s_code)), (a3, .inl (E.2 0, 2400, .inl s_codeArg)), (a4, .inl (E.2 0, 240, .inl s_codeFrom)), (a5, .inl (E.2 0, 240, .inl s_codeTo)), (a6, .inl (E.2 0, 1440, .inl s_first)), (a7, .inl (E.2 0, 1440, .inl s_greatest)), (a8, .inl (E.2 0, 1440, .inl o_highAt23_83)), (a9, .inl (E.2 2, 200, .inl o_isRefused23_84)), (a10, .inl (E.2 0, 1440, .inl s_last)), (a11, .inl (E.2 0, 20, .inl s_many)), (a12, .inl (E.2 0, 2, .inl s_marked)), (a13, .inl (E.2 0, 10, .inl s_minuteOf)), (a14, .inl (E.2 0, 10, .inl s_shape)), (a15, .inl (E.2 0, 1440, .inl o_shapeAt23_85)), (a16, .inl (E.2 0, 240, .inl s_sumFrom)), (a17, .inl (E.2 0, 10, .inl s_weekdays)), (a18, .inl (E.2 0, 10, .inl s_wide)), (a19, .inl (E.2 0, 200, .inl o_worth23_86))] := hV89.sub [4, 5, 6, 7, 8, 9, 0, 1, 10, 11, 2, 12, 3, 13, 14, 15, 16, 17, 18, 19] rfl rfl
        clear hV36
        refine lv_aload_n hx hb dX12_marks_26 rfl (lv_at hl 0 rfl) ?_
        refine lv_iload_n hx hb dX12_marks_27 rfl (lv_at hl 1 rfl) ?_
        refine lv_iload_n hx hb dX12_marks_28 rfl (lv_at hl 2 rfl) ?_
        refine lv_iconst (v := 0) hx hb dX12_marks_29 (by decide) ?_
        obtain ⟨o_atA30_91, o_atB30_92, o_atD30_93, o_atF30_94, o_atG30_95, o_atH30_96, o_atL30_97, o_atM30_98, o_atN30_99, o_atS30_100, o_atT30_101, o_atU30_102, o_atX30_103, o_first30_104, o_greatest30_105, o_isRefused30_106, o_last30_107, o_marked30_108, o_worth30_109, hc110, h111⟩ := cb19_s h88
        clear h88
        refine kgov (krunV (rest := []) X hV89 [0, 2, 3, 4, 5, 6, 7, 8, 9, 10, 11, 12, 15, 19] (c_X12_goesOver l E _ a0 a2 a3 a4 a5 a6 a7 a8 a9 a10 a11 a12 a15 a19 (w0_0) (w0_1) (.int s_sources) (.int s_seed) (w0_4) (w0_5) (w0_6) (.ref a16) (w0_13) (w0_14) (w0_15) (w0_16) (w0_17) (w0_18) (w0_19) (w0_20) (w0_21) (w0_22) (w0_23) (w0_24) (w0_25) (w0_26) (w0_27) (.ref a1) (.ref a13) (.ref a18) (.ref a14) (.ref a17) (.int o_paperHigh23_81) (.int o_paperShape23_82) (w0_56) (w0_57) (w0_58) (w0_59) (w0_60) (w0_61) (w0_62) (w0_63) (w0_64) (w0_65) (w0_66) o_atA23_68 o_atB23_69 o_atD23_70 o_atF23_71 o_atG23_72 o_atH23_73 o_atL23_74 o_atM23_75 o_atN23_76 o_atS23_77 o_atT23_78 o_atU23_79 o_atX23_80 s_code s_codeArg s_codeFrom s_codeTo s_first s_greatest o_highAt23_83 o_isRefused23_84 s_last s_many s_marked o_shapeAt23_85 o_worth23_86 p1 p2 0 o_atA30_91 o_atB30_92 o_atD30_93 o_atF30_94 o_atG30_95 o_atH30_96 o_atL30_97 o_atM30_98 o_atN30_99 o_atS30_100 o_atT30_101 o_atU30_102 o_atX30_103 o_first30_104 o_greatest30_105 o_isRefused30_106 o_last30_107 o_marked30_108 o_worth30_109 hc110) mw_854 kb_X12_goesOver (ci := 12) rfl rfl (by decide) rfl rfl hl.1 rfl (Nat.le_of_ble_eq_true rfl) dX12_marks_30 (by decide)) X hV89 [0, 2, 3, 4, 5, 6, 7, 8, 9, 10, 11, 12, 15, 19] [1, 13, 14, 16, 17, 18] rfl rfl rfl (by decide) (fun u H locs hp113 hV112 => ?_)
        have hV112 : kV E A s.heap H locs [(a0, .inr (12, [w0_0, w0_1, .int s_sources, .int s_seed, w0_4, w0_5, w0_6, .ref a11, .ref a16, .ref a4, .ref a5, .ref a2, .ref a3, w0_13, w0_14, w0_15, w0_16, w0_17, w0_18, w0_19, w0_20, w0_21, w0_22, w0_23, w0_24, w0_25, w0_26, w0_27, .int o_atA30_91, .int o_atB30_92, .int o_atD30_93, .int o_atF30_94, .int o_atG30_95, .int o_atH30_96, .int o_atL30_97, .int o_atM30_98, .int o_atN30_99, .int o_atS30_100, .int o_atT30_101, .int o_atU30_102, .int o_atX30_103, .ref a19, .ref a9, .ref a1, .ref a13, .ref a18, .ref a14, .ref a17, .int o_paperHigh23_81, .int o_paperShape23_82, .ref a8, .ref a15, .ref a6, .ref a10, .ref a7, .ref a12, w0_56, w0_57, w0_58, w0_59, w0_60, w0_61, w0_62, w0_63, w0_64, w0_65, w0_66])), (a1, .inl (E.2 2, 10, .inl s_byStar)), (a2, .inl (E.2 0, 2400, .inl s_code)), (a3, .inl (E.2 0, 2400, .inl s_codeArg)), (a4, .inl (E.2 0, 240, .inl s_codeFrom)), (a5, .inl (E.2 0, 240, .inl s_codeTo)), (a6, .inl (E.2 0, 1440, .inl o_first30_104)), (a7, .inl (E.2 0, 1440, .inl o_greatest30_105)), (a8, .inl (E.2 0, 1440, .inl o_highAt23_83)), (a9, .inl (E.2 2, 200, .inl o_isRefused30_106)), (a10, .inl (E.2 0, 1440, .inl o_last30_107)), (a11, .inl (E.2 0, 20, .inl s_many)), (a12, .inl (E.2 0, 2, .inl o_marked30_108)), (a13, .inl (E.2 0, 10, .inl s_minuteOf)), (a14, .inl (E.2 0, 10, .inl s_shape)), (a15, .inl (E.2 0, 1440, .inl o_shapeAt23_85)), (a16, .inl (E.2 0, 240, .inl s_sumFrom)), (a17, .inl (E.2 0, 10, .inl s_weekdays)), (a18, .inl (E.2 0, 10, .inl s_wide)), (a19, .inl (E.2 0, 200, .inl o_worth30_109))] := hV112.sub [6, 0, 7, 8, 9, 10, 11, 12, 13, 14, 15, 16, 17, 1, 2, 18, 3, 4, 5, 19] rfl rfl
        clear hV89
        refine lv_iload_n hx hb dX12_marks_33 rfl (lv_at hl 3 rfl) ?_
        refine lv_iconst (v := (-1)) hx hb dX12_marks_34 (by decide) ?_
        refine lv_icmp_ne (tgt := 45) hx hb dX12_marks_35 (by decide) (fun c114 => ?_) (fun c114 => ?_)
        · have h115 := ieS c114 h111
          clear h111 c114
          refine lv_iload_n hx hb dX12_marks_45 rfl (lv_at hl 3 rfl) ?_
          refine lv_iconst (v := 3) hx hb dX12_marks_46 (by decide) ?_
          refine lv_idiv hx hb dX12_marks_47 (by decide) ?_
          refine lv_aload_n hx hb dX12_marks_48 rfl (lv_at hl 0 rfl) ?_
          refine kget X hV112 (ci := 12) inlX12 rfl 0 rfl 55 (by decide) mw_167 rfl dX12_marks_49 ?_
          refine lv_iconst (v := 0) hx hb dX12_marks_52 (by decide) ?_
          obtain ⟨hi118, v53_117, e119, h120⟩ := rdI_s h115
          clear h115
          refine kiald X hV112 12 rfl hi118 e119 dX12_marks_53 ?_
          clear hi118 e119
          refine lv_icmp_lt (tgt := 59) hx hb dX12_marks_54 (by decide) (fun c121 => ?_) (fun c121 => ?_)
          · have h122 := itS c121 h120
            clear h120 c121
            refine lv_iload_n hx hb dX12_marks_59 rfl (lv_at hl 3 rfl) ?_
            refine lv_iconst (v := 3) hx hb dX12_marks_60 (by decide) ?_
            refine lv_irem hx hb dX12_marks_61 (by decide) ?_
            refine lv_if_ne (tgt := 76) hx hb dX12_marks_62 (by decide) (fun c124 => ?_) (fun c124 => ?_)
            · have h125 := ieS c124 h122
              clear h122 c124
              refine lv_iload_n hx hb dX12_marks_76 rfl (lv_at hl 3 rfl) ?_
              refine lv_iconst (v := 3) hx hb dX12_marks_77 (by decide) ?_
              refine lv_irem hx hb dX12_marks_78 (by decide) ?_
              refine lv_iconst (v := 1) hx hb dX12_marks_79 (by decide) ?_
              refine lv_icmp_ne (tgt := 94) hx hb dX12_marks_80 (by decide) (fun c127 => ?_) (fun c127 => ?_)
              · have h128 := ieS c127 h125
                clear h125 c127
                refine lv_aload_n hx hb dX12_marks_94 rfl (lv_at hl 0 rfl) ?_
                refine kget X hV112 (ci := 12) inlX12 rfl 0 rfl 54 (by decide) mw_166 rfl dX12_marks_95 ?_
                refine lv_iload_n hx hb dX12_marks_98 rfl (lv_at hl 3 rfl) ?_
                refine lv_iconst (v := 3) hx hb dX12_marks_99 (by decide) ?_
                refine lv_idiv hx hb dX12_marks_100 (by decide) ?_
                obtain ⟨hi131, v101_130, e132, h133⟩ := rdI_s h128
                clear h128
                refine kiald X hV112 7 rfl hi131 e132 dX12_marks_101 ?_
                clear hi131 e132
                obtain ⟨q134, q135, q136, q137, q138, q139, q140, q141, q142, q143, q144, q145, q146, q147, q148, q149, q150, q151, q152, q153, q154, q155, q156, q157⟩ := tup24_s h133
                clear h133
                exact hret _ () _ _ _ _ q134 rfl (by rw [← q135, ← q136, ← q137, ← q138, ← q139, ← q140, ← q141, ← q142, ← q143, ← q144, ← q145, ← q146, ← q147, ← q148, ← q149, ← q150, ← q151, ← q152, ← q153, ← q154, ← q155, ← q156, ← q157]; exact hV112) dX12_marks_102
              · have h129 := itS c127 h125
                clear h125 c127
                refine lv_aload_n hx hb dX12_marks_83 rfl (lv_at hl 0 rfl) ?_
                refine kget X hV112 (ci := 12) inlX12 rfl 0 rfl 53 (by decide) mw_165 rfl dX12_marks_84 ?_
                refine lv_iload_n hx hb dX12_marks_87 rfl (lv_at hl 3 rfl) ?_
                refine lv_iconst (v := 3) hx hb dX12_marks_88 (by decide) ?_
                refine lv_idiv hx hb dX12_marks_89 (by decide) ?_
                obtain ⟨hi159, v90_158, e160, h161⟩ := rdI_s h129
                clear h129
                refine kiald X hV112 10 rfl hi159 e160 dX12_marks_90 ?_
                clear hi159 e160
                refine lv_goto (tgt := 102) hx hb dX12_marks_91 (by decide) ?_
                obtain ⟨q162, q163, q164, q165, q166, q167, q168, q169, q170, q171, q172, q173, q174, q175, q176, q177, q178, q179, q180, q181, q182, q183, q184, q185⟩ := tup24_s h161
                clear h161
                exact hret _ () _ _ _ _ q162 rfl (by rw [← q163, ← q164, ← q165, ← q166, ← q167, ← q168, ← q169, ← q170, ← q171, ← q172, ← q173, ← q174, ← q175, ← q176, ← q177, ← q178, ← q179, ← q180, ← q181, ← q182, ← q183, ← q184, ← q185]; exact hV112) dX12_marks_102
            · have h126 := itS c124 h122
              clear h122 c124
              refine lv_aload_n hx hb dX12_marks_65 rfl (lv_at hl 0 rfl) ?_
              refine kget X hV112 (ci := 12) inlX12 rfl 0 rfl 52 (by decide) mw_164 rfl dX12_marks_66 ?_
              refine lv_iload_n hx hb dX12_marks_69 rfl (lv_at hl 3 rfl) ?_
              refine lv_iconst (v := 3) hx hb dX12_marks_70 (by decide) ?_
              refine lv_idiv hx hb dX12_marks_71 (by decide) ?_
              obtain ⟨hi187, v72_186, e188, h189⟩ := rdI_s h126
              clear h126
              refine kiald X hV112 6 rfl hi187 e188 dX12_marks_72 ?_
              clear hi187 e188
              refine lv_goto (tgt := 102) hx hb dX12_marks_73 (by decide) ?_
              obtain ⟨q190, q191, q192, q193, q194, q195, q196, q197, q198, q199, q200, q201, q202, q203, q204, q205, q206, q207, q208, q209, q210, q211, q212, q213⟩ := tup24_s h189
              clear h189
              exact hret _ () _ _ _ _ q190 rfl (by rw [← q191, ← q192, ← q193, ← q194, ← q195, ← q196, ← q197, ← q198, ← q199, ← q200, ← q201, ← q202, ← q203, ← q204, ← q205, ← q206, ← q207, ← q208, ← q209, ← q210, ← q211, ← q212, ← q213]; exact hV112) dX12_marks_102
          · have h123 := ieS c121 h120
            clear h120 c121
            refine lv_iconst (v := (-1)) hx hb dX12_marks_57 (by decide) ?_
            obtain ⟨q214, q215, q216, q217, q218, q219, q220, q221, q222, q223, q224, q225, q226, q227, q228, q229, q230, q231, q232, q233, q234, q235, q236, q237⟩ := tup24_s h123
            clear h123
            exact hret _ () _ _ _ _ q214 rfl (by rw [← q215, ← q216, ← q217, ← q218, ← q219, ← q220, ← q221, ← q222, ← q223, ← q224, ← q225, ← q226, ← q227, ← q228, ← q229, ← q230, ← q231, ← q232, ← q233, ← q234, ← q235, ← q236, ← q237]; exact hV112) dX12_marks_58
        · have h116 := itS c114 h111
          clear h111 c114
          refine lv_aload_n hx hb dX12_marks_38 rfl (lv_at hl 0 rfl) ?_
          refine kget X hV112 (ci := 12) inlX12 rfl 0 rfl 55 (by decide) mw_167 rfl dX12_marks_39 ?_
          refine lv_iconst (v := 0) hx hb dX12_marks_42 (by decide) ?_
          obtain ⟨hi239, v43_238, e240, h241⟩ := rdI_s h116
          clear h116
          refine kiald X hV112 12 rfl hi239 e240 dX12_marks_43 ?_
          clear hi239 e240
          obtain ⟨q242, q243, q244, q245, q246, q247, q248, q249, q250, q251, q252, q253, q254, q255, q256, q257, q258, q259, q260, q261, q262, q263, q264, q265⟩ := tup24_s h241
          clear h241
          exact hret _ () _ _ _ _ q242 rfl (by rw [← q243, ← q244, ← q245, ← q246, ← q247, ← q248, ← q249, ← q250, ← q251, ← q252, ← q253, ← q254, ← q255, ← q256, ← q257, ← q258, ← q259, ← q260, ← q261, ← q262, ← q263, ← q264, ← q265]; exact hV112) dX12_marks_44
      · have h67 := ieS c65 h40
        clear h40 c65
        refine lv_iconst (v := (-1)) hx hb dX12_marks_19 (by decide) ?_
        obtain ⟨q266, q267, q268, q269, q270, q271, q272, q273, q274, q275, q276, q277, q278, q279, q280, q281, q282, q283, q284, q285, q286, q287, q288, q289⟩ := tup24_s h67
        clear h67
        exact hret _ () _ _ _ _ q266 rfl (by rw [← q267, ← q268, ← q269, ← q270, ← q271, ← q272, ← q273, ← q274, ← q275, ← q276, ← q277, ← q278, ← q279, ← q280, ← q281, ← q282, ← q283, ← q284, ← q285, ← q286, ← q287, ← q288, ← q289]; exact hV36) dX12_marks_20
abbrev r_X12_isAlone : Room := { frames := 0, cells := 0, slots := 0, locals := 0 }
set_option maxHeartbeats 4000000 in
set_option maxRecDepth 100000 in
theorem c_X12_isAlone (l : Launch) (E : kE) (sz : Nat) (a0 a1 a2 a3 : Nat) (w0_0 w0_1 w0_2 w0_3 w0_4 w0_5 w0_6 w0_7 w0_8 w0_9 w0_10 w0_11 w0_12 w0_13 w0_14 w0_15 w0_16 w0_17 w0_18 w0_19 w0_20 w0_21 w0_22 w0_23 w0_24 w0_25 w0_26 w0_27 w0_28 w0_29 w0_30 w0_31 w0_32 w0_33 w0_34 w0_35 w0_36 w0_37 w0_38 w0_39 w0_40 w0_41 w0_42 w0_43 w0_44 w0_45 w0_46 w0_47 w0_48 w0_49 w0_50 w0_51 w0_54 w0_56 w0_57 w0_58 w0_59 w0_60 w0_61 w0_62 w0_63 w0_64 w0_65 w0_66 : Value) (s_first : Nat → Int32) (s_last : Nat → Int32) (s_marked : Nat → Int32) (p1 : Int32) (r : Int32) (h : f_X12_isAlone s_first s_last s_marked p1 = some (r)) : kMi l yX12_isAlone cX12_isAlone 3 (some .boolean) r_X12_isAlone [.ref a0, .int p1] E [(a0, .inr (12, [w0_0, w0_1, w0_2, w0_3, w0_4, w0_5, w0_6, w0_7, w0_8, w0_9, w0_10, w0_11, w0_12, w0_13, w0_14, w0_15, w0_16, w0_17, w0_18, w0_19, w0_20, w0_21, w0_22, w0_23, w0_24, w0_25, w0_26, w0_27, w0_28, w0_29, w0_30, w0_31, w0_32, w0_33, w0_34, w0_35, w0_36, w0_37, w0_38, w0_39, w0_40, w0_41, w0_42, w0_43, w0_44, w0_45, w0_46, w0_47, w0_48, w0_49, w0_50, w0_51, .ref a1, .ref a2, w0_54, .ref a3, w0_56, w0_57, w0_58, w0_59, w0_60, w0_61, w0_62, w0_63, w0_64, w0_65, w0_66])), (a1, .inl (E.2 0, 1440, .inl s_first)), (a2, .inl (E.2 0, 1440, .inl s_last)), (a3, .inl (E.2 0, 2, .inl s_marked))] sz 0 0 (fun x (_ : Unit) => x = r) (fun _ => [(a0, .inr (12, [w0_0, w0_1, w0_2, w0_3, w0_4, w0_5, w0_6, w0_7, w0_8, w0_9, w0_10, w0_11, w0_12, w0_13, w0_14, w0_15, w0_16, w0_17, w0_18, w0_19, w0_20, w0_21, w0_22, w0_23, w0_24, w0_25, w0_26, w0_27, w0_28, w0_29, w0_30, w0_31, w0_32, w0_33, w0_34, w0_35, w0_36, w0_37, w0_38, w0_39, w0_40, w0_41, w0_42, w0_43, w0_44, w0_45, w0_46, w0_47, w0_48, w0_49, w0_50, w0_51, .ref a1, .ref a2, w0_54, .ref a3, w0_56, w0_57, w0_58, w0_59, w0_60, w0_61, w0_62, w0_63, w0_64, w0_65, w0_66])), (a1, .inl (E.2 0, 1440, .inl s_first)), (a2, .inl (E.2 0, 1440, .inl s_last)), (a3, .inl (E.2 0, 2, .inl s_marked))]) := by
  refine kmeti rfl (Nat.le_of_ble_eq_true rfl) ?_
  intro p e s m args below meth c ls A Q X hV hret hl
  have X : kC p s m c cX12_isAlone 3 RX12 args E A := X
  have hx := X.1
  have hb := X.2.1
  have hl : lv_has ls 3 [(0, .ref a0), (1, .int p1)] := hl
  rw [f_X12_isAlone] at h
  refine lv_iconst (v := 0) hx hb dX12_isAlone_0 (by decide) ?_
  refine lv_istore_n (lv' := [(2, .int 0), (0, .ref a0), (1, .int p1)]) hx hb dX12_isAlone_1 rfl hl (by decide) rfl (fun ls hl1 => ?_)
  clear hl
  have L2 : ∀ (n2 : Nat) (x2_2 : Int32) (H : Heap) (locs : List Loc) (ls : Array Slot), (f_X12_isAlone_L2 s_first s_last s_marked p1  n2) x2_2 = some (r) → kV E A s.heap H locs [(a0, .inr (12, [w0_0, w0_1, w0_2, w0_3, w0_4, w0_5, w0_6, w0_7, w0_8, w0_9, w0_10, w0_11, w0_12, w0_13, w0_14, w0_15, w0_16, w0_17, w0_18, w0_19, w0_20, w0_21, w0_22, w0_23, w0_24, w0_25, w0_26, w0_27, w0_28, w0_29, w0_30, w0_31, w0_32, w0_33, w0_34, w0_35, w0_36, w0_37, w0_38, w0_39, w0_40, w0_41, w0_42, w0_43, w0_44, w0_45, w0_46, w0_47, w0_48, w0_49, w0_50, w0_51, .ref a1, .ref a2, w0_54, .ref a3, w0_56, w0_57, w0_58, w0_59, w0_60, w0_61, w0_62, w0_63, w0_64, w0_65, w0_66])), (a1, .inl (E.2 0, 1440, .inl s_first)), (a2, .inl (E.2 0, 1440, .inl s_last)), (a3, .inl (E.2 0, 2, .inl s_marked))] → lv_has ls 3 [(0, .ref a0), (1, .int p1), (2, .int x2_2)] → W p l e r_X12_isAlone s m args below meth c H locs 0 0 Q (F0 m 2 ls []) := by
    intro n2
    induction n2 with
    | zero =>
      intro x2_2 H locs ls hB2 hVB2 hlB2
      rw [f_X12_isAlone_L2] at hB2
      exact nomatch hB2
    | succ n2 ih2 =>
      intro x2_2 H locs ls hB2 hVB2 hlB2
      rw [f_X12_isAlone_L2] at hB2
      refine lv_iload_n hx hb dX12_isAlone_2 rfl (lv_at hlB2 2 rfl) ?_
      refine lv_aload_n hx hb dX12_isAlone_3 rfl (lv_at hlB2 0 rfl) ?_
      refine kget X hVB2 (ci := 12) inlX12 rfl 0 rfl 55 (by decide) mw_167 rfl dX12_isAlone_4 ?_
      refine lv_iconst (v := 0) hx hb dX12_isAlone_7 (by decide) ?_
      obtain ⟨hi4, v8_3, e5, h6⟩ := rdI_s hB2
      clear hB2
      refine kiald X hVB2 3 rfl hi4 e5 dX12_isAlone_8 ?_
      clear hi4 e5
      refine lv_icmp_ge (tgt := 58) hx hb dX12_isAlone_9 (by decide) (fun c7 => ?_) (fun c7 => ?_)
      · have h8 := itS c7 h6
        clear h6 c7
        refine lv_iconst (v := 1) hx hb dX12_isAlone_58 (by decide) ?_
        have q10 := tup1_s h8
        clear h8
        exact hret _ () _ _ _ _ q10 rfl hVB2 dX12_isAlone_59
      · have h9 := ieS c7 h6
        clear h6 c7
        refine lv_aload_n hx hb dX12_isAlone_12 rfl (lv_at hlB2 0 rfl) ?_
        refine kget X hVB2 (ci := 12) inlX12 rfl 0 rfl 52 (by decide) mw_164 rfl dX12_isAlone_13 ?_
        refine lv_iload_n hx hb dX12_isAlone_16 rfl (lv_at hlB2 2 rfl) ?_
        obtain ⟨hi12, v17_11, e13, h14⟩ := rdI_s h9
        clear h9
        refine kiald X hVB2 1 rfl hi12 e13 dX12_isAlone_17 ?_
        clear hi12 e13
        refine lv_aload_n hx hb dX12_isAlone_18 rfl (lv_at hlB2 0 rfl) ?_
        refine kget X hVB2 (ci := 12) inlX12 rfl 0 rfl 53 (by decide) mw_165 rfl dX12_isAlone_19 ?_
        refine lv_sipush (v := 720) hx hb dX12_isAlone_22 (by decide) ?_
        refine lv_iload_n hx hb dX12_isAlone_25 rfl (lv_at hlB2 1 rfl) ?_
        refine lv_iadd hx hb dX12_isAlone_26 ?_
        obtain ⟨hi16, v27_15, e17, h18⟩ := rdI_s h14
        clear h14
        refine kiald X hVB2 2 rfl hi16 e17 dX12_isAlone_27 ?_
        clear hi16 e17
        refine lv_icmp_gt (tgt := 52) hx hb dX12_isAlone_28 (by decide) (fun c19 => ?_) (fun c19 => ?_)
        · have h20 := itS c19 h18
          clear h18 c19
          obtain ⟨v52_22, e23, h24⟩ := nmI_s h20
          clear h20
          refine lv_iinc (v := v52_22) (lv' := [(2, .int v52_22), (0, .ref a0), (1, .int p1)]) hx hb dX12_isAlone_52 hlB2 (k := 2) rfl (by rw [e23]; rfl) (by decide) rfl (fun ls hl25 => ?_)
          clear hlB2 e23
          refine lv_goto (tgt := 2) hx hb dX12_isAlone_55 (by decide) ?_
          exact ih2 v52_22 _ _ _ h24 hVB2 (lv_sub hl25 [1, 2, 0] rfl)
        · have h21 := ieS c19 h18
          clear h18 c19
          refine lv_aload_n hx hb dX12_isAlone_31 rfl (lv_at hlB2 0 rfl) ?_
          refine kget X hVB2 (ci := 12) inlX12 rfl 0 rfl 53 (by decide) mw_165 rfl dX12_isAlone_32 ?_
          refine lv_iload_n hx hb dX12_isAlone_35 rfl (lv_at hlB2 2 rfl) ?_
          obtain ⟨hi27, v36_26, e28, h29⟩ := rdI_s h21
          clear h21
          refine kiald X hVB2 2 rfl hi27 e28 dX12_isAlone_36 ?_
          clear hi27 e28
          refine lv_aload_n hx hb dX12_isAlone_37 rfl (lv_at hlB2 0 rfl) ?_
          refine kget X hVB2 (ci := 12) inlX12 rfl 0 rfl 52 (by decide) mw_164 rfl dX12_isAlone_38 ?_
          refine lv_sipush (v := 720) hx hb dX12_isAlone_41 (by decide) ?_
          refine lv_iload_n hx hb dX12_isAlone_44 rfl (lv_at hlB2 1 rfl) ?_
          refine lv_iadd hx hb dX12_isAlone_45 ?_
          obtain ⟨hi31, v46_30, e32, h33⟩ := rdI_s h29
          clear h29
          refine kiald X hVB2 1 rfl hi31 e32 dX12_isAlone_46 ?_
          clear hi31 e32
          refine lv_icmp_lt (tgt := 52) hx hb dX12_isAlone_47 (by decide) (fun c34 => ?_) (fun c34 => ?_)
          · have h35 := itS c34 h33
            clear h33 c34
            obtain ⟨v52_37, e38, h39⟩ := nmI_s h35
            clear h35
            refine lv_iinc (v := v52_37) (lv' := [(2, .int v52_37), (0, .ref a0), (1, .int p1)]) hx hb dX12_isAlone_52 hlB2 (k := 2) rfl (by rw [e38]; rfl) (by decide) rfl (fun ls hl40 => ?_)
            clear hlB2 e38
            refine lv_goto (tgt := 2) hx hb dX12_isAlone_55 (by decide) ?_
            exact ih2 v52_37 _ _ _ h39 hVB2 (lv_sub hl40 [1, 2, 0] rfl)
          · have h36 := ieS c34 h33
            clear h33 c34
            refine lv_iconst (v := 0) hx hb dX12_isAlone_50 (by decide) ?_
            have q41 := tup1_s h36
            clear h36
            exact hret _ () _ _ _ _ q41 rfl hVB2 dX12_isAlone_51
  exact L2 FU 0 _ _ _ h hV (lv_sub hl1 [1, 2, 0] rfl)
abbrev r_X12_passed : Room := { frames := 7, cells := 0, slots := 0, locals := 162 }
set_option maxHeartbeats 4000000 in
set_option maxRecDepth 100000 in
theorem c_X12_passed (l : Launch) (E : kE) (sz : Nat) (a0 a1 a2 a3 a4 a5 a6 a7 a8 a9 a10 a11 a12 a13 a14 a15 a16 a17 a18 a19 : Nat) (w0_0 w0_1 w0_4 w0_5 w0_6 w0_13 w0_14 w0_15 w0_16 w0_17 w0_18 w0_19 w0_20 w0_21 w0_22 w0_23 w0_24 w0_25 w0_26 w0_27 w0_56 w0_57 w0_58 w0_59 w0_60 w0_61 w0_62 w0_63 w0_64 w0_65 w0_66 : Value) (s_sources : Int32) (s_seed : Int32) (s_atA : Int32) (s_atB : Int32) (s_atD : Int32) (s_atF : Int32) (s_atG : Int32) (s_atH : Int32) (s_atL : Int32) (s_atM : Int32) (s_atN : Int32) (s_atS : Int32) (s_atT : Int32) (s_atU : Int32) (s_atX : Int32) (s_paperHigh : Int32) (s_paperShape : Int32) (s_byStar : Nat → Int32) (s_code : Nat → Int32) (s_codeArg : Nat → Int32) (s_codeFrom : Nat → Int32) (s_codeTo : Nat → Int32) (s_first : Nat → Int32) (s_greatest : Nat → Int32) (s_highAt : Nat → Int32) (s_isRefused : Nat → Int32) (s_last : Nat → Int32) (s_many : Nat → Int32) (s_marked : Nat → Int32) (s_minuteOf : Nat → Int32) (s_shape : Nat → Int32) (s_shapeAt : Nat → Int32) (s_sumFrom : Nat → Int32) (s_weekdays : Nat → Int32) (s_wide : Nat → Int32) (s_worth : Nat → Int32) (p1 : Int32) (p2 : Int32) (p3 : Int32) (p4 : Int32) (p5 : Int32) (r : Int32) (o_atA : Int32) (o_atB : Int32) (o_atD : Int32) (o_atF : Int32) (o_atG : Int32) (o_atH : Int32) (o_atL : Int32) (o_atM : Int32) (o_atN : Int32) (o_atS : Int32) (o_atT : Int32) (o_atU : Int32) (o_atX : Int32) (o_paperHigh : Int32) (o_paperShape : Int32) (o_first : Nat → Int32) (o_greatest : Nat → Int32) (o_highAt : Nat → Int32) (o_isRefused : Nat → Int32) (o_last : Nat → Int32) (o_marked : Nat → Int32) (o_shapeAt : Nat → Int32) (o_worth : Nat → Int32) (h : f_X12_passed s_sources s_seed s_atA s_atB s_atD s_atF s_atG s_atH s_atL s_atM s_atN s_atS s_atT s_atU s_atX s_paperHigh s_paperShape s_byStar s_code s_codeArg s_codeFrom s_codeTo s_first s_greatest s_highAt s_isRefused s_last s_many s_marked s_minuteOf s_shape s_shapeAt s_sumFrom s_weekdays s_wide s_worth p1 p2 p3 p4 p5 = some (r, o_atA, o_atB, o_atD, o_atF, o_atG, o_atH, o_atL, o_atM, o_atN, o_atS, o_atT, o_atU, o_atX, o_paperHigh, o_paperShape, o_first, o_greatest, o_highAt, o_isRefused, o_last, o_marked, o_shapeAt, o_worth)) : kMi l yX12_passed cX12_passed 11 (some .int) r_X12_passed [.ref a0, .int p1, .int p2, .int p3, .int p4, .int p5] E [(a0, .inr (12, [w0_0, w0_1, .int s_sources, .int s_seed, w0_4, w0_5, w0_6, .ref a11, .ref a16, .ref a4, .ref a5, .ref a2, .ref a3, w0_13, w0_14, w0_15, w0_16, w0_17, w0_18, w0_19, w0_20, w0_21, w0_22, w0_23, w0_24, w0_25, w0_26, w0_27, .int s_atA, .int s_atB, .int s_atD, .int s_atF, .int s_atG, .int s_atH, .int s_atL, .int s_atM, .int s_atN, .int s_atS, .int s_atT, .int s_atU, .int s_atX, .ref a19, .ref a9, .ref a1, .ref a13, .ref a18, .ref a14, .ref a17, .int s_paperHigh, .int s_paperShape, .ref a8, .ref a15, .ref a6, .ref a10, .ref a7, .ref a12, w0_56, w0_57, w0_58, w0_59, w0_60, w0_61, w0_62, w0_63, w0_64, w0_65, w0_66])), (a1, .inl (E.2 2, 10, .inl s_byStar)), (a2, .inl (E.2 0, 2400, .inl s_code)), (a3, .inl (E.2 0, 2400, .inl s_codeArg)), (a4, .inl (E.2 0, 240, .inl s_codeFrom)), (a5, .inl (E.2 0, 240, .inl s_codeTo)), (a6, .inl (E.2 0, 1440, .inl s_first)), (a7, .inl (E.2 0, 1440, .inl s_greatest)), (a8, .inl (E.2 0, 1440, .inl s_highAt)), (a9, .inl (E.2 2, 200, .inl s_isRefused)), (a10, .inl (E.2 0, 1440, .inl s_last)), (a11, .inl (E.2 0, 20, .inl s_many)), (a12, .inl (E.2 0, 2, .inl s_marked)), (a13, .inl (E.2 0, 10, .inl s_minuteOf)), (a14, .inl (E.2 0, 10, .inl s_shape)), (a15, .inl (E.2 0, 1440, .inl s_shapeAt)), (a16, .inl (E.2 0, 240, .inl s_sumFrom)), (a17, .inl (E.2 0, 10, .inl s_weekdays)), (a18, .inl (E.2 0, 10, .inl s_wide)), (a19, .inl (E.2 0, 200, .inl s_worth))] sz 0 0 (fun x (_ : Unit) => x = r) (fun _ => [(a0, .inr (12, [w0_0, w0_1, .int s_sources, .int s_seed, w0_4, w0_5, w0_6, .ref a11, .ref a16, .ref a4, .ref a5, .ref a2, .ref a3, w0_13, w0_14, w0_15, w0_16, w0_17, w0_18, w0_19, w0_20, w0_21, w0_22, w0_23, w0_24, w0_25, w0_26, w0_27, .int o_atA, .int o_atB, .int o_atD, .int o_atF, .int o_atG, .int o_atH, .int o_atL, .int o_atM, .int o_atN, .int o_atS, .int o_atT, .int o_atU, .int o_atX, .ref a19, .ref a9, .ref a1, .ref a13, .ref a18, .ref a14, .ref a17, .int o_paperHigh, .int o_paperShape, .ref a8, .ref a15, .ref a6, .ref a10, .ref a7, .ref a12, w0_56, w0_57, w0_58, w0_59, w0_60, w0_61, w0_62, w0_63, w0_64, w0_65, w0_66])), (a1, .inl (E.2 2, 10, .inl s_byStar)), (a2, .inl (E.2 0, 2400, .inl s_code)), (a3, .inl (E.2 0, 2400, .inl s_codeArg)), (a4, .inl (E.2 0, 240, .inl s_codeFrom)), (a5, .inl (E.2 0, 240, .inl s_codeTo)), (a6, .inl (E.2 0, 1440, .inl o_first)), (a7, .inl (E.2 0, 1440, .inl o_greatest)), (a8, .inl (E.2 0, 1440, .inl o_highAt)), (a9, .inl (E.2 2, 200, .inl o_isRefused)), (a10, .inl (E.2 0, 1440, .inl o_last)), (a11, .inl (E.2 0, 20, .inl s_many)), (a12, .inl (E.2 0, 2, .inl o_marked)), (a13, .inl (E.2 0, 10, .inl s_minuteOf)), (a14, .inl (E.2 0, 10, .inl s_shape)), (a15, .inl (E.2 0, 1440, .inl o_shapeAt)), (a16, .inl (E.2 0, 240, .inl s_sumFrom)), (a17, .inl (E.2 0, 10, .inl s_weekdays)), (a18, .inl (E.2 0, 10, .inl s_wide)), (a19, .inl (E.2 0, 200, .inl o_worth))]) := by
  refine kmeti rfl (Nat.le_of_ble_eq_true rfl) ?_
  intro p e s m args below meth c ls A Q X hV hret hl
  have X : kC p s m c cX12_passed 11 RX12 args E A := X
  have hx := X.1
  have hb := X.2.1
  have hl : lv_has ls 11 [(0, .ref a0), (1, .int p1), (2, .int p2), (3, .int p3), (4, .int p4), (5, .int p5)] := hl
  rw [f_X12_passed] at h
  refine lv_iload_n hx hb dX12_passed_0 rfl (lv_at hl 1 rfl) ?_
  obtain ⟨r1_1, hc2, h3⟩ := cb1_s h
  clear h
  refine kgoiE (krunS (rest := []) X hV [] (c_X12_isReader l E _ p1 r1_1 hc2) mw_595 kb_X12_isReader (by decide) rfl rfl hl.1 rfl (Nat.le_of_ble_eq_true rfl) dX12_passed_1 (by decide)) X hV [] [0, 1, 2, 3, 4, 5, 6, 7, 8, 9, 10, 11, 12, 13, 14, 15, 16, 17, 18, 19] rfl rfl rfl (by decide) (fun u H locs hV4 => ?_)
  have hV4 : kV E A s.heap H locs [(a0, .inr (12, [w0_0, w0_1, .int s_sources, .int s_seed, w0_4, w0_5, w0_6, .ref a11, .ref a16, .ref a4, .ref a5, .ref a2, .ref a3, w0_13, w0_14, w0_15, w0_16, w0_17, w0_18, w0_19, w0_20, w0_21, w0_22, w0_23, w0_24, w0_25, w0_26, w0_27, .int s_atA, .int s_atB, .int s_atD, .int s_atF, .int s_atG, .int s_atH, .int s_atL, .int s_atM, .int s_atN, .int s_atS, .int s_atT, .int s_atU, .int s_atX, .ref a19, .ref a9, .ref a1, .ref a13, .ref a18, .ref a14, .ref a17, .int s_paperHigh, .int s_paperShape, .ref a8, .ref a15, .ref a6, .ref a10, .ref a7, .ref a12, w0_56, w0_57, w0_58, w0_59, w0_60, w0_61, w0_62, w0_63, w0_64, w0_65, w0_66])), (a1, .inl (E.2 2, 10, .inl s_byStar)), (a2, .inl (E.2 0, 2400, .inl s_code)), (a3, .inl (E.2 0, 2400, .inl s_codeArg)), (a4, .inl (E.2 0, 240, .inl s_codeFrom)), (a5, .inl (E.2 0, 240, .inl s_codeTo)), (a6, .inl (E.2 0, 1440, .inl s_first)), (a7, .inl (E.2 0, 1440, .inl s_greatest)), (a8, .inl (E.2 0, 1440, .inl s_highAt)), (a9, .inl (E.2 2, 200, .inl s_isRefused)), (a10, .inl (E.2 0, 1440, .inl s_last)), (a11, .inl (E.2 0, 20, .inl s_many)), (a12, .inl (E.2 0, 2, .inl s_marked)), (a13, .inl (E.2 0, 10, .inl s_minuteOf)), (a14, .inl (E.2 0, 10, .inl s_shape)), (a15, .inl (E.2 0, 1440, .inl s_shapeAt)), (a16, .inl (E.2 0, 240, .inl s_sumFrom)), (a17, .inl (E.2 0, 10, .inl s_weekdays)), (a18, .inl (E.2 0, 10, .inl s_wide)), (a19, .inl (E.2 0, 200, .inl s_worth))] := hV4.sub [0, 1, 2, 3, 4, 5, 6, 7, 8, 9, 10, 11, 12, 13, 14, 15, 16, 17, 18, 19] rfl rfl
  clear hV
  refine lv_if_eq (tgt := 58) hx hb dX12_passed_4 (by decide) (fun c6 => ?_) (fun c6 => ?_)
  · have h7 := itS c6 h3
    clear h3 c6
    refine lv_iconst (v := (-1)) hx hb dX12_passed_58 (by decide) ?_
    obtain ⟨q9, q10, q11, q12, q13, q14, q15, q16, q17, q18, q19, q20, q21, q22, q23, q24, q25, q26, q27, q28, q29, q30, q31, q32⟩ := tup24_s h7
    clear h7
    exact hret _ () _ _ _ _ q9 rfl (by rw [← q10, ← q11, ← q12, ← q13, ← q14, ← q15, ← q16, ← q17, ← q18, ← q19, ← q20, ← q21, ← q22, ← q23, ← q24, ← q25, ← q26, ← q27, ← q28, ← q29, ← q30, ← q31, ← q32]; exact hV4) dX12_passed_59
  · have h8 := ieS c6 h3
    clear h3 c6
    refine lv_iload_n hx hb dX12_passed_7 rfl (lv_at hl 2 rfl) ?_
    obtain ⟨r8_33, hc34, h35⟩ := cb1_s h8
    clear h8
    refine kgoiE (krunS (rest := []) X hV4 [] (c_X12_isReader l E _ p2 r8_33 hc34) mw_595 kb_X12_isReader (by decide) rfl rfl hl.1 rfl (Nat.le_of_ble_eq_true rfl) dX12_passed_8 (by decide)) X hV4 [] [0, 1, 2, 3, 4, 5, 6, 7, 8, 9, 10, 11, 12, 13, 14, 15, 16, 17, 18, 19] rfl rfl rfl (by decide) (fun u H locs hV36 => ?_)
    have hV36 : kV E A s.heap H locs [(a0, .inr (12, [w0_0, w0_1, .int s_sources, .int s_seed, w0_4, w0_5, w0_6, .ref a11, .ref a16, .ref a4, .ref a5, .ref a2, .ref a3, w0_13, w0_14, w0_15, w0_16, w0_17, w0_18, w0_19, w0_20, w0_21, w0_22, w0_23, w0_24, w0_25, w0_26, w0_27, .int s_atA, .int s_atB, .int s_atD, .int s_atF, .int s_atG, .int s_atH, .int s_atL, .int s_atM, .int s_atN, .int s_atS, .int s_atT, .int s_atU, .int s_atX, .ref a19, .ref a9, .ref a1, .ref a13, .ref a18, .ref a14, .ref a17, .int s_paperHigh, .int s_paperShape, .ref a8, .ref a15, .ref a6, .ref a10, .ref a7, .ref a12, w0_56, w0_57, w0_58, w0_59, w0_60, w0_61, w0_62, w0_63, w0_64, w0_65, w0_66])), (a1, .inl (E.2 2, 10, .inl s_byStar)), (a2, .inl (E.2 0, 2400, .inl s_code)), (a3, .inl (E.2 0, 2400, .inl s_codeArg)), (a4, .inl (E.2 0, 240, .inl s_codeFrom)), (a5, .inl (E.2 0, 240, .inl s_codeTo)), (a6, .inl (E.2 0, 1440, .inl s_first)), (a7, .inl (E.2 0, 1440, .inl s_greatest)), (a8, .inl (E.2 0, 1440, .inl s_highAt)), (a9, .inl (E.2 2, 200, .inl s_isRefused)), (a10, .inl (E.2 0, 1440, .inl s_last)), (a11, .inl (E.2 0, 20, .inl s_many)), (a12, .inl (E.2 0, 2, .inl s_marked)), (a13, .inl (E.2 0, 10, .inl s_minuteOf)), (a14, .inl (E.2 0, 10, .inl s_shape)), (a15, .inl (E.2 0, 1440, .inl s_shapeAt)), (a16, .inl (E.2 0, 240, .inl s_sumFrom)), (a17, .inl (E.2 0, 10, .inl s_weekdays)), (a18, .inl (E.2 0, 10, .inl s_wide)), (a19, .inl (E.2 0, 200, .inl s_worth))] := hV36.sub [0, 1, 2, 3, 4, 5, 6, 7, 8, 9, 10, 11, 12, 13, 14, 15, 16, 17, 18, 19] rfl rfl
    clear hV4
    refine lv_if_eq (tgt := 58) hx hb dX12_passed_11 (by decide) (fun c38 => ?_) (fun c38 => ?_)
    · have h39 := itS c38 h35
      clear h35 c38
      refine lv_iconst (v := (-1)) hx hb dX12_passed_58 (by decide) ?_
      obtain ⟨q41, q42, q43, q44, q45, q46, q47, q48, q49, q50, q51, q52, q53, q54, q55, q56, q57, q58, q59, q60, q61, q62, q63, q64⟩ := tup24_s h39
      clear h39
      exact hret _ () _ _ _ _ q41 rfl (by rw [← q42, ← q43, ← q44, ← q45, ← q46, ← q47, ← q48, ← q49, ← q50, ← q51, ← q52, ← q53, ← q54, ← q55, ← q56, ← q57, ← q58, ← q59, ← q60, ← q61, ← q62, ← q63, ← q64]; exact hV36) dX12_passed_59
    · have h40 := ieS c38 h35
      clear h35 c38
      refine lv_iload_n hx hb dX12_passed_14 rfl (lv_at hl 3 rfl) ?_
      obtain ⟨r15_65, hc66, h67⟩ := cb1_s h40
      clear h40
      refine kgoiE (krunS (rest := []) X hV36 [] (c_X12_isDay l E _ p3 r15_65 hc66) mw_632 kb_X12_isDay (by decide) rfl rfl hl.1 rfl (Nat.le_of_ble_eq_true rfl) dX12_passed_15 (by decide)) X hV36 [] [0, 1, 2, 3, 4, 5, 6, 7, 8, 9, 10, 11, 12, 13, 14, 15, 16, 17, 18, 19] rfl rfl rfl (by decide) (fun u H locs hV68 => ?_)
      have hV68 : kV E A s.heap H locs [(a0, .inr (12, [w0_0, w0_1, .int s_sources, .int s_seed, w0_4, w0_5, w0_6, .ref a11, .ref a16, .ref a4, .ref a5, .ref a2, .ref a3, w0_13, w0_14, w0_15, w0_16, w0_17, w0_18, w0_19, w0_20, w0_21, w0_22, w0_23, w0_24, w0_25, w0_26, w0_27, .int s_atA, .int s_atB, .int s_atD, .int s_atF, .int s_atG, .int s_atH, .int s_atL, .int s_atM, .int s_atN, .int s_atS, .int s_atT, .int s_atU, .int s_atX, .ref a19, .ref a9, .ref a1, .ref a13, .ref a18, .ref a14, .ref a17, .int s_paperHigh, .int s_paperShape, .ref a8, .ref a15, .ref a6, .ref a10, .ref a7, .ref a12, w0_56, w0_57, w0_58, w0_59, w0_60, w0_61, w0_62, w0_63, w0_64, w0_65, w0_66])), (a1, .inl (E.2 2, 10, .inl s_byStar)), (a2, .inl (E.2 0, 2400, .inl s_code)), (a3, .inl (E.2 0, 2400, .inl s_codeArg)), (a4, .inl (E.2 0, 240, .inl s_codeFrom)), (a5, .inl (E.2 0, 240, .inl s_codeTo)), (a6, .inl (E.2 0, 1440, .inl s_first)), (a7, .inl (E.2 0, 1440, .inl s_greatest)), (a8, .inl (E.2 0, 1440, .inl s_highAt)), (a9, .inl (E.2 2, 200, .inl s_isRefused)), (a10, .inl (E.2 0, 1440, .inl s_last)), (a11, .inl (E.2 0, 20, .inl s_many)), (a12, .inl (E.2 0, 2, .inl s_marked)), (a13, .inl (E.2 0, 10, .inl s_minuteOf)), (a14, .inl (E.2 0, 10, .inl s_shape)), (a15, .inl (E.2 0, 1440, .inl s_shapeAt)), (a16, .inl (E.2 0, 240, .inl s_sumFrom)), (a17, .inl (E.2 0, 10, .inl s_weekdays)), (a18, .inl (E.2 0, 10, .inl s_wide)), (a19, .inl (E.2 0, 200, .inl s_worth))] := hV68.sub [0, 1, 2, 3, 4, 5, 6, 7, 8, 9, 10, 11, 12, 13, 14, 15, 16, 17, 18, 19] rfl rfl
      clear hV36
      refine lv_if_eq (tgt := 58) hx hb dX12_passed_18 (by decide) (fun c70 => ?_) (fun c70 => ?_)
      · have h71 := itS c70 h67
        clear h67 c70
        refine lv_iconst (v := (-1)) hx hb dX12_passed_58 (by decide) ?_
        obtain ⟨q73, q74, q75, q76, q77, q78, q79, q80, q81, q82, q83, q84, q85, q86, q87, q88, q89, q90, q91, q92, q93, q94, q95, q96⟩ := tup24_s h71
        clear h71
        exact hret _ () _ _ _ _ q73 rfl (by rw [← q74, ← q75, ← q76, ← q77, ← q78, ← q79, ← q80, ← q81, ← q82, ← q83, ← q84, ← q85, ← q86, ← q87, ← q88, ← q89, ← q90, ← q91, ← q92, ← q93, ← q94, ← q95, ← q96]; exact hV68) dX12_passed_59
      · have h72 := ieS c70 h67
        clear h67 c70
        refine lv_iload hx hb dX12_passed_21 (lv_at hl 4 rfl) ?_
        obtain ⟨r23_97, hc98, h99⟩ := cb1_s h72
        clear h72
        refine kgoiE (krunS (rest := []) X hV68 [] (c_X12_isDay l E _ p4 r23_97 hc98) mw_632 kb_X12_isDay (by decide) rfl rfl hl.1 rfl (Nat.le_of_ble_eq_true rfl) dX12_passed_23 (by decide)) X hV68 [] [0, 1, 2, 3, 4, 5, 6, 7, 8, 9, 10, 11, 12, 13, 14, 15, 16, 17, 18, 19] rfl rfl rfl (by decide) (fun u H locs hV100 => ?_)
        have hV100 : kV E A s.heap H locs [(a0, .inr (12, [w0_0, w0_1, .int s_sources, .int s_seed, w0_4, w0_5, w0_6, .ref a11, .ref a16, .ref a4, .ref a5, .ref a2, .ref a3, w0_13, w0_14, w0_15, w0_16, w0_17, w0_18, w0_19, w0_20, w0_21, w0_22, w0_23, w0_24, w0_25, w0_26, w0_27, .int s_atA, .int s_atB, .int s_atD, .int s_atF, .int s_atG, .int s_atH, .int s_atL, .int s_atM, .int s_atN, .int s_atS, .int s_atT, .int s_atU, .int s_atX, .ref a19, .ref a9, .ref a1, .ref a13, .ref a18, .ref a14, .ref a17, .int s_paperHigh, .int s_paperShape, .ref a8, .ref a15, .ref a6, .ref a10, .ref a7, .ref a12, w0_56, w0_57, w0_58, w0_59, w0_60, w0_61, w0_62, w0_63, w0_64, w0_65, w0_66])), (a1, .inl (E.2 2, 10, .inl s_byStar)), (a2, .inl (E.2 0, 2400, .inl s_code)), (a3, .inl (E.2 0, 2400, .inl s_codeArg)), (a4, .inl (E.2 0, 240, .inl s_codeFrom)), (a5, .inl (E.2 0, 240, .inl s_codeTo)), (a6, .inl (E.2 0, 1440, .inl s_first)), (a7, .inl (E.2 0, 1440, .inl s_greatest)), (a8, .inl (E.2 0, 1440, .inl s_highAt)), (a9, .inl (E.2 2, 200, .inl s_isRefused)), (a10, .inl (E.2 0, 1440, .inl s_last)), (a11, .inl (E.2 0, 20, .inl s_many)), (a12, .inl (E.2 0, 2, .inl s_marked)), (a13, .inl (E.2 0, 10, .inl s_minuteOf)), (a14, .inl (E.2 0, 10, .inl s_shape)), (a15, .inl (E.2 0, 1440, .inl s_shapeAt)), (a16, .inl (E.2 0, 240, .inl s_sumFrom)), (a17, .inl (E.2 0, 10, .inl s_weekdays)), (a18, .inl (E.2 0, 10, .inl s_wide)), (a19, .inl (E.2 0, 200, .inl s_worth))] := hV100.sub [0, 1, 2, 3, 4, 5, 6, 7, 8, 9, 10, 11, 12, 13, 14, 15, 16, 17, 18, 19] rfl rfl
        clear hV68
        refine lv_if_eq (tgt := 58) hx hb dX12_passed_26 (by decide) (fun c102 => ?_) (fun c102 => ?_)
        · have h103 := itS c102 h99
          clear h99 c102
          refine lv_iconst (v := (-1)) hx hb dX12_passed_58 (by decide) ?_
          obtain ⟨q105, q106, q107, q108, q109, q110, q111, q112, q113, q114, q115, q116, q117, q118, q119, q120, q121, q122, q123, q124, q125, q126, q127, q128⟩ := tup24_s h103
          clear h103
          exact hret _ () _ _ _ _ q105 rfl (by rw [← q106, ← q107, ← q108, ← q109, ← q110, ← q111, ← q112, ← q113, ← q114, ← q115, ← q116, ← q117, ← q118, ← q119, ← q120, ← q121, ← q122, ← q123, ← q124, ← q125, ← q126, ← q127, ← q128]; exact hV100) dX12_passed_59
        · have h104 := ieS c102 h99
          clear h99 c102
          refine lv_iload hx hb dX12_passed_29 (lv_at hl 4 rfl) ?_
          refine lv_i2l (v := Int32.toInt64 p4) hx hb dX12_passed_31 rfl ?_
          refine lv_iload_n hx hb dX12_passed_32 rfl (lv_at hl 3 rfl) ?_
          refine lv_i2l (v := Int32.toInt64 p3) hx hb dX12_passed_33 rfl ?_
          refine lv_iload_n hx hb dX12_passed_34 rfl (lv_at hl 3 rfl) ?_
          refine lv_bipush (v := 29) hx hb dX12_passed_35 (by decide) ?_
          refine lv_iadd hx hb dX12_passed_37 ?_
          refine lv_i2l (v := Int32.toInt64 (p3 + 29)) hx hb dX12_passed_38 rfl ?_
          obtain ⟨r39_129, hc130, h131⟩ := cb1_s h104
          clear h104
          refine kgoiE (krunS (rest := []) X hV100 [] (c_X12_lies l E _ (Int32.toInt64 p4) (Int32.toInt64 p3) (Int32.toInt64 (p3 + 29)) r39_129 hc130) mw_224 kb_X12_lies (by decide) rfl rfl hl.1 rfl (Nat.le_of_ble_eq_true rfl) dX12_passed_39 (by decide)) X hV100 [] [0, 1, 2, 3, 4, 5, 6, 7, 8, 9, 10, 11, 12, 13, 14, 15, 16, 17, 18, 19] rfl rfl rfl (by decide) (fun u H locs hV132 => ?_)
          have hV132 : kV E A s.heap H locs [(a0, .inr (12, [w0_0, w0_1, .int s_sources, .int s_seed, w0_4, w0_5, w0_6, .ref a11, .ref a16, .ref a4, .ref a5, .ref a2, .ref a3, w0_13, w0_14, w0_15, w0_16, w0_17, w0_18, w0_19, w0_20, w0_21, w0_22, w0_23, w0_24, w0_25, w0_26, w0_27, .int s_atA, .int s_atB, .int s_atD, .int s_atF, .int s_atG, .int s_atH, .int s_atL, .int s_atM, .int s_atN, .int s_atS, .int s_atT, .int s_atU, .int s_atX, .ref a19, .ref a9, .ref a1, .ref a13, .ref a18, .ref a14, .ref a17, .int s_paperHigh, .int s_paperShape, .ref a8, .ref a15, .ref a6, .ref a10, .ref a7, .ref a12, w0_56, w0_57, w0_58, w0_59, w0_60, w0_61, w0_62, w0_63, w0_64, w0_65, w0_66])), (a1, .inl (E.2 2, 10, .inl s_byStar)), (a2, .inl (E.2 0, 2400, .inl s_code)), (a3, .inl (E.2 0, 2400, .inl s_codeArg)), (a4, .inl (E.2 0, 240, .inl s_codeFrom)), (a5, .inl (E.2 0, 240, .inl s_codeTo)), (a6, .inl (E.2 0, 1440, .inl s_first)), (a7, .inl (E.2 0, 1440, .inl s_greatest)), (a8, .inl (E.2 0, 1440, .inl s_highAt)), (a9, .inl (E.2 2, 200, .inl s_isRefused)), (a10, .inl (E.2 0, 1440, .inl s_last)), (a11, .inl (E.2 0, 20, .inl s_many)), (a12, .inl (E.2 0, 2, .inl s_marked)), (a13, .inl (E.2 0, 10, .inl s_minuteOf)), (a14, .inl (E.2 0, 10, .inl s_shape)), (a15, .inl (E.2 0, 1440, .inl s_shapeAt)), (a16, .inl (E.2 0, 240, .inl s_sumFrom)), (a17, .inl (E.2 0, 10, .inl s_weekdays)), (a18, .inl (E.2 0, 10, .inl s_wide)), (a19, .inl (E.2 0, 200, .inl s_worth))] := hV132.sub [0, 1, 2, 3, 4, 5, 6, 7, 8, 9, 10, 11, 12, 13, 14, 15, 16, 17, 18, 19] rfl rfl
          clear hV100
          refine lv_if_eq (tgt := 58) hx hb dX12_passed_42 (by decide) (fun c134 => ?_) (fun c134 => ?_)
          · have h135 := itS c134 h131
            clear h131 c134
            refine lv_iconst (v := (-1)) hx hb dX12_passed_58 (by decide) ?_
            obtain ⟨q137, q138, q139, q140, q141, q142, q143, q144, q145, q146, q147, q148, q149, q150, q151, q152, q153, q154, q155, q156, q157, q158, q159, q160⟩ := tup24_s h135
            clear h135
            exact hret _ () _ _ _ _ q137 rfl (by rw [← q138, ← q139, ← q140, ← q141, ← q142, ← q143, ← q144, ← q145, ← q146, ← q147, ← q148, ← q149, ← q150, ← q151, ← q152, ← q153, ← q154, ← q155, ← q156, ← q157, ← q158, ← q159, ← q160]; exact hV132) dX12_passed_59
          · have h136 := ieS c134 h131
            clear h131 c134
            refine lv_iload hx hb dX12_passed_45 (lv_at hl 5 rfl) ?_
            refine lv_i2l (v := Int32.toInt64 p5) hx hb dX12_passed_47 rfl ?_
            refine lv_lconst (v := 0) hx hb dX12_passed_48 (by decide) ?_
            refine lv_ldc2 (v := 2) hx hb X.2.2.2.1 (X.2.2.2.2.1 _ mw_882) dX12_passed_49 ?_
            obtain ⟨r52_161, hc162, h163⟩ := cb1_s h136
            clear h136
            refine kgoiE (krunS (rest := []) X hV132 [] (c_X12_lies l E _ (Int32.toInt64 p5) 0 2 r52_161 hc162) mw_224 kb_X12_lies (by decide) rfl rfl hl.1 rfl (Nat.le_of_ble_eq_true rfl) dX12_passed_52 (by decide)) X hV132 [] [0, 1, 2, 3, 4, 5, 6, 7, 8, 9, 10, 11, 12, 13, 14, 15, 16, 17, 18, 19] rfl rfl rfl (by decide) (fun u H locs hV164 => ?_)
            have hV164 : kV E A s.heap H locs [(a0, .inr (12, [w0_0, w0_1, .int s_sources, .int s_seed, w0_4, w0_5, w0_6, .ref a11, .ref a16, .ref a4, .ref a5, .ref a2, .ref a3, w0_13, w0_14, w0_15, w0_16, w0_17, w0_18, w0_19, w0_20, w0_21, w0_22, w0_23, w0_24, w0_25, w0_26, w0_27, .int s_atA, .int s_atB, .int s_atD, .int s_atF, .int s_atG, .int s_atH, .int s_atL, .int s_atM, .int s_atN, .int s_atS, .int s_atT, .int s_atU, .int s_atX, .ref a19, .ref a9, .ref a1, .ref a13, .ref a18, .ref a14, .ref a17, .int s_paperHigh, .int s_paperShape, .ref a8, .ref a15, .ref a6, .ref a10, .ref a7, .ref a12, w0_56, w0_57, w0_58, w0_59, w0_60, w0_61, w0_62, w0_63, w0_64, w0_65, w0_66])), (a1, .inl (E.2 2, 10, .inl s_byStar)), (a2, .inl (E.2 0, 2400, .inl s_code)), (a3, .inl (E.2 0, 2400, .inl s_codeArg)), (a4, .inl (E.2 0, 240, .inl s_codeFrom)), (a5, .inl (E.2 0, 240, .inl s_codeTo)), (a6, .inl (E.2 0, 1440, .inl s_first)), (a7, .inl (E.2 0, 1440, .inl s_greatest)), (a8, .inl (E.2 0, 1440, .inl s_highAt)), (a9, .inl (E.2 2, 200, .inl s_isRefused)), (a10, .inl (E.2 0, 1440, .inl s_last)), (a11, .inl (E.2 0, 20, .inl s_many)), (a12, .inl (E.2 0, 2, .inl s_marked)), (a13, .inl (E.2 0, 10, .inl s_minuteOf)), (a14, .inl (E.2 0, 10, .inl s_shape)), (a15, .inl (E.2 0, 1440, .inl s_shapeAt)), (a16, .inl (E.2 0, 240, .inl s_sumFrom)), (a17, .inl (E.2 0, 10, .inl s_weekdays)), (a18, .inl (E.2 0, 10, .inl s_wide)), (a19, .inl (E.2 0, 200, .inl s_worth))] := hV164.sub [0, 1, 2, 3, 4, 5, 6, 7, 8, 9, 10, 11, 12, 13, 14, 15, 16, 17, 18, 19] rfl rfl
            clear hV132
            refine lv_if_ne (tgt := 60) hx hb dX12_passed_55 (by decide) (fun c166 => ?_) (fun c166 => ?_)
            · have h167 := ieS c166 h163
              clear h163 c166
              refine lv_iconst (v := 0) hx hb dX12_passed_60 (by decide) ?_
              refine lv_istore (lv' := [(6, .int 0), (0, .ref a0), (1, .int p1), (2, .int p2), (3, .int p3), (4, .int p4), (5, .int p5)]) hx hb dX12_passed_61 hl (by decide) rfl (fun ls hl169 => ?_)
              clear hl
              refine lv_iconst (v := (-1)) hx hb dX12_passed_63 (by decide) ?_
              refine lv_istore (lv' := [(7, .int (-1)), (6, .int 0), (0, .ref a0), (1, .int p1), (2, .int p2), (3, .int p3), (4, .int p4), (5, .int p5)]) hx hb dX12_passed_64 hl169 (by decide) rfl (fun ls hl170 => ?_)
              clear hl169
              refine lv_iconst (v := (-1)) hx hb dX12_passed_66 (by decide) ?_
              refine lv_istore (lv' := [(8, .int (-1)), (7, .int (-1)), (6, .int 0), (0, .ref a0), (1, .int p1), (2, .int p2), (3, .int p3), (4, .int p4), (5, .int p5)]) hx hb dX12_passed_67 hl170 (by decide) rfl (fun ls hl171 => ?_)
              clear hl170
              refine lv_iload_n hx hb dX12_passed_69 rfl (lv_at hl171 6 rfl) ?_
              refine lv_istore (lv' := [(9, .int p3), (8, .int (-1)), (7, .int (-1)), (6, .int 0), (0, .ref a0), (1, .int p1), (2, .int p2), (3, .int p3), (4, .int p4), (5, .int p5)]) hx hb dX12_passed_70 hl171 (by decide) rfl (fun ls hl172 => ?_)
              clear hl171
              have J164 : ∀ (x6_173 : Int32) (x7_174 : Int32) (x8_175 : Int32) (atA__176 : Int32) (atB__177 : Int32) (atD__178 : Int32) (atF__179 : Int32) (atG__180 : Int32) (atH__181 : Int32) (atL__182 : Int32) (atM__183 : Int32) (atN__184 : Int32) (atS__185 : Int32) (atT__186 : Int32) (atU__187 : Int32) (atX__188 : Int32) (paperHigh__189 : Int32) (paperShape__190 : Int32) (first__191 : Nat → Int32) (greatest__192 : Nat → Int32) (highAt__193 : Nat → Int32) (isRefused__194 : Nat → Int32) (last__195 : Nat → Int32) (marked__196 : Nat → Int32) (shapeAt__197 : Nat → Int32) (worth__198 : Nat → Int32) (H : Heap) (locs : List Loc) (ls : Array Slot), (f_X12_passed_J164 p5 ) x6_173 x7_174 x8_175 atA__176 atB__177 atD__178 atF__179 atG__180 atH__181 atL__182 atM__183 atN__184 atS__185 atT__186 atU__187 atX__188 paperHigh__189 paperShape__190 first__191 greatest__192 highAt__193 isRefused__194 last__195 marked__196 shapeAt__197 worth__198 = some (r, o_atA, o_atB, o_atD, o_atF, o_atG, o_atH, o_atL, o_atM, o_atN, o_atS, o_atT, o_atU, o_atX, o_paperHigh, o_paperShape, o_first, o_greatest, o_highAt, o_isRefused, o_last, o_marked, o_shapeAt, o_worth) → kV E A s.heap H locs [(a0, .inr (12, [w0_0, w0_1, .int s_sources, .int s_seed, w0_4, w0_5, w0_6, .ref a11, .ref a16, .ref a4, .ref a5, .ref a2, .ref a3, w0_13, w0_14, w0_15, w0_16, w0_17, w0_18, w0_19, w0_20, w0_21, w0_22, w0_23, w0_24, w0_25, w0_26, w0_27, .int atA__176, .int atB__177, .int atD__178, .int atF__179, .int atG__180, .int atH__181, .int atL__182, .int atM__183, .int atN__184, .int atS__185, .int atT__186, .int atU__187, .int atX__188, .ref a19, .ref a9, .ref a1, .ref a13, .ref a18, .ref a14, .ref a17, .int paperHigh__189, .int paperShape__190, .ref a8, .ref a15, .ref a6, .ref a10, .ref a7, .ref a12, w0_56, w0_57, w0_58, w0_59, w0_60, w0_61, w0_62, w0_63, w0_64, w0_65, w0_66])), (a1, .inl (E.2 2, 10, .inl s_byStar)), (a2, .inl (E.2 0, 2400, .inl s_code)), (a3, .inl (E.2 0, 2400, .inl s_codeArg)), (a4, .inl (E.2 0, 240, .inl s_codeFrom)), (a5, .inl (E.2 0, 240, .inl s_codeTo)), (a6, .inl (E.2 0, 1440, .inl first__191)), (a7, .inl (E.2 0, 1440, .inl greatest__192)), (a8, .inl (E.2 0, 1440, .inl highAt__193)), (a9, .inl (E.2 2, 200, .inl isRefused__194)), (a10, .inl (E.2 0, 1440, .inl last__195)), (a11, .inl (E.2 0, 20, .inl s_many)), (a12, .inl (E.2 0, 2, .inl marked__196)), (a13, .inl (E.2 0, 10, .inl s_minuteOf)), (a14, .inl (E.2 0, 10, .inl s_shape)), (a15, .inl (E.2 0, 1440, .inl shapeAt__197)), (a16, .inl (E.2 0, 240, .inl s_sumFrom)), (a17, .inl (E.2 0, 10, .inl s_weekdays)), (a18, .inl (E.2 0, 10, .inl s_wide)), (a19, .inl (E.2 0, 200, .inl worth__198))] → lv_has ls 11 [(5, .int p5), (6, .int x6_173), (7, .int x7_174), (8, .int x8_175)] → W p l e r_X12_passed s m args below meth c H locs 0 0 Q (F0 m 164 ls []) := by
                intro x6_173 x7_174 x8_175 atA__176 atB__177 atD__178 atF__179 atG__180 atH__181 atL__182 atM__183 atN__184 atS__185 atT__186 atU__187 atX__188 paperHigh__189 paperShape__190 first__191 greatest__192 highAt__193 isRefused__194 last__195 marked__196 shapeAt__197 worth__198 H locs ls hB164 hVB164 hlB164
                rw [f_X12_passed_J164] at hB164
                refine lv_iload hx hb dX12_passed_164 (lv_at hlB164 0 rfl) ?_
                refine lv_if_ne (tgt := 174) hx hb dX12_passed_166 (by decide) (fun c199 => ?_) (fun c199 => ?_)
                · have h200 := ieS c199 hB164
                  clear hB164 c199
                  refine lv_iload hx hb dX12_passed_174 (lv_at hlB164 0 rfl) ?_
                  refine lv_iconst (v := 1) hx hb dX12_passed_176 (by decide) ?_
                  refine lv_icmp_ne (tgt := 185) hx hb dX12_passed_177 (by decide) (fun c202 => ?_) (fun c202 => ?_)
                  · have h203 := ieS c202 h200
                    clear h200 c202
                    refine lv_iload hx hb dX12_passed_185 (lv_at hlB164 3 rfl) ?_
                    obtain ⟨q205, q206, q207, q208, q209, q210, q211, q212, q213, q214, q215, q216, q217, q218, q219, q220, q221, q222, q223, q224, q225, q226, q227, q228⟩ := tup24_s h203
                    clear h203
                    exact hret _ () _ _ _ _ q205 rfl (by rw [← q206, ← q207, ← q208, ← q209, ← q210, ← q211, ← q212, ← q213, ← q214, ← q215, ← q216, ← q217, ← q218, ← q219, ← q220, ← q221, ← q222, ← q223, ← q224, ← q225, ← q226, ← q227, ← q228]; exact hVB164) dX12_passed_187
                  · have h204 := itS c202 h200
                    clear h200 c202
                    refine lv_iload hx hb dX12_passed_180 (lv_at hlB164 2 rfl) ?_
                    refine lv_goto (tgt := 187) hx hb dX12_passed_182 (by decide) ?_
                    obtain ⟨q229, q230, q231, q232, q233, q234, q235, q236, q237, q238, q239, q240, q241, q242, q243, q244, q245, q246, q247, q248, q249, q250, q251, q252⟩ := tup24_s h204
                    clear h204
                    exact hret _ () _ _ _ _ q229 rfl (by rw [← q230, ← q231, ← q232, ← q233, ← q234, ← q235, ← q236, ← q237, ← q238, ← q239, ← q240, ← q241, ← q242, ← q243, ← q244, ← q245, ← q246, ← q247, ← q248, ← q249, ← q250, ← q251, ← q252]; exact hVB164) dX12_passed_187
                · have h201 := itS c199 hB164
                  clear hB164 c199
                  refine lv_iload hx hb dX12_passed_169 (lv_at hlB164 1 rfl) ?_
                  refine lv_goto (tgt := 187) hx hb dX12_passed_171 (by decide) ?_
                  obtain ⟨q253, q254, q255, q256, q257, q258, q259, q260, q261, q262, q263, q264, q265, q266, q267, q268, q269, q270, q271, q272, q273, q274, q275, q276⟩ := tup24_s h201
                  clear h201
                  exact hret _ () _ _ _ _ q253 rfl (by rw [← q254, ← q255, ← q256, ← q257, ← q258, ← q259, ← q260, ← q261, ← q262, ← q263, ← q264, ← q265, ← q266, ← q267, ← q268, ← q269, ← q270, ← q271, ← q272, ← q273, ← q274, ← q275, ← q276]; exact hVB164) dX12_passed_187
              have L72 : ∀ (n72 : Nat) (x6_277 : Int32) (x7_278 : Int32) (x8_279 : Int32) (x9_280 : Int32) (atA__281 : Int32) (atB__282 : Int32) (atD__283 : Int32) (atF__284 : Int32) (atG__285 : Int32) (atH__286 : Int32) (atL__287 : Int32) (atM__288 : Int32) (atN__289 : Int32) (atS__290 : Int32) (atT__291 : Int32) (atU__292 : Int32) (atX__293 : Int32) (paperHigh__294 : Int32) (paperShape__295 : Int32) (first__296 : Nat → Int32) (greatest__297 : Nat → Int32) (highAt__298 : Nat → Int32) (isRefused__299 : Nat → Int32) (last__300 : Nat → Int32) (marked__301 : Nat → Int32) (shapeAt__302 : Nat → Int32) (worth__303 : Nat → Int32) (H : Heap) (locs : List Loc) (ls : Array Slot), (f_X12_passed_L72 s_sources s_seed s_byStar s_code s_codeArg s_codeFrom s_codeTo s_many s_minuteOf s_shape s_sumFrom s_weekdays s_wide p1 p2 p4 (f_X12_passed_J164 p5 ) n72) x6_277 x7_278 x8_279 x9_280 atA__281 atB__282 atD__283 atF__284 atG__285 atH__286 atL__287 atM__288 atN__289 atS__290 atT__291 atU__292 atX__293 paperHigh__294 paperShape__295 first__296 greatest__297 highAt__298 isRefused__299 last__300 marked__301 shapeAt__302 worth__303 = some (r, o_atA, o_atB, o_atD, o_atF, o_atG, o_atH, o_atL, o_atM, o_atN, o_atS, o_atT, o_atU, o_atX, o_paperHigh, o_paperShape, o_first, o_greatest, o_highAt, o_isRefused, o_last, o_marked, o_shapeAt, o_worth) → kV E A s.heap H locs [(a0, .inr (12, [w0_0, w0_1, .int s_sources, .int s_seed, w0_4, w0_5, w0_6, .ref a11, .ref a16, .ref a4, .ref a5, .ref a2, .ref a3, w0_13, w0_14, w0_15, w0_16, w0_17, w0_18, w0_19, w0_20, w0_21, w0_22, w0_23, w0_24, w0_25, w0_26, w0_27, .int atA__281, .int atB__282, .int atD__283, .int atF__284, .int atG__285, .int atH__286, .int atL__287, .int atM__288, .int atN__289, .int atS__290, .int atT__291, .int atU__292, .int atX__293, .ref a19, .ref a9, .ref a1, .ref a13, .ref a18, .ref a14, .ref a17, .int paperHigh__294, .int paperShape__295, .ref a8, .ref a15, .ref a6, .ref a10, .ref a7, .ref a12, w0_56, w0_57, w0_58, w0_59, w0_60, w0_61, w0_62, w0_63, w0_64, w0_65, w0_66])), (a1, .inl (E.2 2, 10, .inl s_byStar)), (a2, .inl (E.2 0, 2400, .inl s_code)), (a3, .inl (E.2 0, 2400, .inl s_codeArg)), (a4, .inl (E.2 0, 240, .inl s_codeFrom)), (a5, .inl (E.2 0, 240, .inl s_codeTo)), (a6, .inl (E.2 0, 1440, .inl first__296)), (a7, .inl (E.2 0, 1440, .inl greatest__297)), (a8, .inl (E.2 0, 1440, .inl highAt__298)), (a9, .inl (E.2 2, 200, .inl isRefused__299)), (a10, .inl (E.2 0, 1440, .inl last__300)), (a11, .inl (E.2 0, 20, .inl s_many)), (a12, .inl (E.2 0, 2, .inl marked__301)), (a13, .inl (E.2 0, 10, .inl s_minuteOf)), (a14, .inl (E.2 0, 10, .inl s_shape)), (a15, .inl (E.2 0, 1440, .inl shapeAt__302)), (a16, .inl (E.2 0, 240, .inl s_sumFrom)), (a17, .inl (E.2 0, 10, .inl s_weekdays)), (a18, .inl (E.2 0, 10, .inl s_wide)), (a19, .inl (E.2 0, 200, .inl worth__303))] → lv_has ls 11 [(0, .ref a0), (1, .int p1), (2, .int p2), (4, .int p4), (5, .int p5), (6, .int x6_277), (7, .int x7_278), (8, .int x8_279), (9, .int x9_280)] → W p l e r_X12_passed s m args below meth c H locs 0 0 Q (F0 m 72 ls []) := by
                intro n72
                induction n72 with
                | zero =>
                  intro x6_277 x7_278 x8_279 x9_280 atA__281 atB__282 atD__283 atF__284 atG__285 atH__286 atL__287 atM__288 atN__289 atS__290 atT__291 atU__292 atX__293 paperHigh__294 paperShape__295 first__296 greatest__297 highAt__298 isRefused__299 last__300 marked__301 shapeAt__302 worth__303 H locs ls hB72 hVB72 hlB72
                  rw [f_X12_passed_L72] at hB72
                  exact nomatch hB72
                | succ n72 ih72 =>
                  intro x6_277 x7_278 x8_279 x9_280 atA__281 atB__282 atD__283 atF__284 atG__285 atH__286 atL__287 atM__288 atN__289 atS__290 atT__291 atU__292 atX__293 paperHigh__294 paperShape__295 first__296 greatest__297 highAt__298 isRefused__299 last__300 marked__301 shapeAt__302 worth__303 H locs ls hB72 hVB72 hlB72
                  rw [f_X12_passed_L72] at hB72
                  refine lv_iload hx hb dX12_passed_72 (lv_at hlB72 8 rfl) ?_
                  refine lv_iload hx hb dX12_passed_74 (lv_at hlB72 3 rfl) ?_
                  refine lv_icmp_gt (tgt := 164) hx hb dX12_passed_76 (by decide) (fun c304 => ?_) (fun c304 => ?_)
                  · have h305 := itS c304 hB72
                    clear hB72 c304
                    exact J164 x6_277 x7_278 x8_279 atA__281 atB__282 atD__283 atF__284 atG__285 atH__286 atL__287 atM__288 atN__289 atS__290 atT__291 atU__292 atX__293 paperHigh__294 paperShape__295 first__296 greatest__297 highAt__298 isRefused__299 last__300 marked__301 shapeAt__302 worth__303 _ _ _ h305 hVB72 (lv_sub hlB72 [4, 5, 6, 7] rfl)
                  · have h306 := ieS c304 hB72
                    clear hB72 c304
                    refine lv_aload_n hx hb dX12_passed_79 rfl (lv_at hlB72 0 rfl) ?_
                    refine lv_iload hx hb dX12_passed_80 (lv_at hlB72 8 rfl) ?_
                    obtain ⟨o_atA82_307, o_atB82_308, o_atD82_309, o_atF82_310, o_atG82_311, o_atH82_312, o_atL82_313, o_atM82_314, o_atN82_315, o_atS82_316, o_atT82_317, o_atU82_318, o_atX82_319, o_paperHigh82_320, o_paperShape82_321, o_highAt82_322, o_isRefused82_323, o_shapeAt82_324, o_worth82_325, hc326, h327⟩ := cb19_s h306
                    clear h306
                    refine kgov (krunV (rest := []) X hVB72 [0, 1, 2, 3, 4, 5, 8, 9, 11, 13, 14, 15, 16, 17, 18, 19] (c_X12_lays l E _ a0 a1 a2 a3 a4 a5 a8 a9 a11 a13 a14 a15 a16 a17 a18 a19 (w0_0) (w0_1) (w0_4) (w0_5) (w0_6) (w0_13) (w0_14) (w0_15) (w0_16) (w0_17) (w0_18) (w0_19) (w0_20) (w0_21) (w0_22) (w0_23) (w0_24) (w0_25) (w0_26) (w0_27) (.ref a6) (.ref a10) (.ref a7) (.ref a12) (w0_56) (w0_57) (w0_58) (w0_59) (w0_60) (w0_61) (w0_62) (w0_63) (w0_64) (w0_65) (w0_66) s_sources s_seed atA__281 atB__282 atD__283 atF__284 atG__285 atH__286 atL__287 atM__288 atN__289 atS__290 atT__291 atU__292 atX__293 paperHigh__294 paperShape__295 s_byStar s_code s_codeArg s_codeFrom s_codeTo highAt__298 isRefused__299 s_many s_minuteOf s_shape shapeAt__302 s_sumFrom s_weekdays s_wide worth__303 x9_280 o_atA82_307 o_atB82_308 o_atD82_309 o_atF82_310 o_atG82_311 o_atH82_312 o_atL82_313 o_atM82_314 o_atN82_315 o_atS82_316 o_atT82_317 o_atU82_318 o_atX82_319 o_paperHigh82_320 o_paperShape82_321 o_highAt82_322 o_isRefused82_323 o_shapeAt82_324 o_worth82_325 hc326) mw_850 kb_X12_lays (ci := 12) rfl rfl (by decide) rfl rfl hlB72.1 rfl (Nat.le_of_ble_eq_true rfl) dX12_passed_82 (by decide)) X hVB72 [0, 1, 2, 3, 4, 5, 8, 9, 11, 13, 14, 15, 16, 17, 18, 19] [6, 7, 10, 12] rfl rfl rfl (by decide) (fun u H locs hp329 hV328 => ?_)
                    have hV328 : kV E A s.heap H locs [(a0, .inr (12, [w0_0, w0_1, .int s_sources, .int s_seed, w0_4, w0_5, w0_6, .ref a11, .ref a16, .ref a4, .ref a5, .ref a2, .ref a3, w0_13, w0_14, w0_15, w0_16, w0_17, w0_18, w0_19, w0_20, w0_21, w0_22, w0_23, w0_24, w0_25, w0_26, w0_27, .int o_atA82_307, .int o_atB82_308, .int o_atD82_309, .int o_atF82_310, .int o_atG82_311, .int o_atH82_312, .int o_atL82_313, .int o_atM82_314, .int o_atN82_315, .int o_atS82_316, .int o_atT82_317, .int o_atU82_318, .int o_atX82_319, .ref a19, .ref a9, .ref a1, .ref a13, .ref a18, .ref a14, .ref a17, .int o_paperHigh82_320, .int o_paperShape82_321, .ref a8, .ref a15, .ref a6, .ref a10, .ref a7, .ref a12, w0_56, w0_57, w0_58, w0_59, w0_60, w0_61, w0_62, w0_63, w0_64, w0_65, w0_66])), (a1, .inl (E.2 2, 10, .inl s_byStar)), (a2, .inl (E.2 0, 2400, .inl s_code)), (a3, .inl (E.2 0, 2400, .inl s_codeArg)), (a4, .inl (E.2 0, 240, .inl s_codeFrom)), (a5, .inl (E.2 0, 240, .inl s_codeTo)), (a6, .inl (E.2 0, 1440, .inl first__296)), (a7, .inl (E.2 0, 1440, .inl greatest__297)), (a8, .inl (E.2 0, 1440, .inl o_highAt82_322)), (a9, .inl (E.2 2, 200, .inl o_isRefused82_323)), (a10, .inl (E.2 0, 1440, .inl last__300)), (a11, .inl (E.2 0, 20, .inl s_many)), (a12, .inl (E.2 0, 2, .inl marked__301)), (a13, .inl (E.2 0, 10, .inl s_minuteOf)), (a14, .inl (E.2 0, 10, .inl s_shape)), (a15, .inl (E.2 0, 1440, .inl o_shapeAt82_324)), (a16, .inl (E.2 0, 240, .inl s_sumFrom)), (a17, .inl (E.2 0, 10, .inl s_weekdays)), (a18, .inl (E.2 0, 10, .inl s_wide)), (a19, .inl (E.2 0, 200, .inl o_worth82_325))] := hV328.sub [4, 5, 6, 7, 8, 9, 0, 1, 10, 11, 2, 12, 3, 13, 14, 15, 16, 17, 18, 19] rfl rfl
                    clear hVB72
                    refine lv_aload_n hx hb dX12_passed_85 rfl (lv_at hlB72 0 rfl) ?_
                    refine lv_iload_n hx hb dX12_passed_86 rfl (lv_at hlB72 1 rfl) ?_
                    refine lv_iload hx hb dX12_passed_87 (lv_at hlB72 8 rfl) ?_
                    refine lv_iconst (v := 0) hx hb dX12_passed_89 (by decide) ?_
                    obtain ⟨o_atA90_330, o_atB90_331, o_atD90_332, o_atF90_333, o_atG90_334, o_atH90_335, o_atL90_336, o_atM90_337, o_atN90_338, o_atS90_339, o_atT90_340, o_atU90_341, o_atX90_342, o_first90_343, o_greatest90_344, o_isRefused90_345, o_last90_346, o_marked90_347, o_worth90_348, hc349, h350⟩ := cb19_s h327
                    clear h327
                    refine kgov (krunV (rest := []) X hV328 [0, 2, 3, 4, 5, 6, 7, 8, 9, 10, 11, 12, 15, 19] (c_X12_goesOver l E _ a0 a2 a3 a4 a5 a6 a7 a8 a9 a10 a11 a12 a15 a19 (w0_0) (w0_1) (.int s_sources) (.int s_seed) (w0_4) (w0_5) (w0_6) (.ref a16) (w0_13) (w0_14) (w0_15) (w0_16) (w0_17) (w0_18) (w0_19) (w0_20) (w0_21) (w0_22) (w0_23) (w0_24) (w0_25) (w0_26) (w0_27) (.ref a1) (.ref a13) (.ref a18) (.ref a14) (.ref a17) (.int o_paperHigh82_320) (.int o_paperShape82_321) (w0_56) (w0_57) (w0_58) (w0_59) (w0_60) (w0_61) (w0_62) (w0_63) (w0_64) (w0_65) (w0_66) o_atA82_307 o_atB82_308 o_atD82_309 o_atF82_310 o_atG82_311 o_atH82_312 o_atL82_313 o_atM82_314 o_atN82_315 o_atS82_316 o_atT82_317 o_atU82_318 o_atX82_319 s_code s_codeArg s_codeFrom s_codeTo first__296 greatest__297 o_highAt82_322 o_isRefused82_323 last__300 s_many marked__301 o_shapeAt82_324 o_worth82_325 p1 x9_280 0 o_atA90_330 o_atB90_331 o_atD90_332 o_atF90_333 o_atG90_334 o_atH90_335 o_atL90_336 o_atM90_337 o_atN90_338 o_atS90_339 o_atT90_340 o_atU90_341 o_atX90_342 o_first90_343 o_greatest90_344 o_isRefused90_345 o_last90_346 o_marked90_347 o_worth90_348 hc349) mw_854 kb_X12_goesOver (ci := 12) rfl rfl (by decide) rfl rfl hlB72.1 rfl (Nat.le_of_ble_eq_true rfl) dX12_passed_90 (by decide)) X hV328 [0, 2, 3, 4, 5, 6, 7, 8, 9, 10, 11, 12, 15, 19] [1, 13, 14, 16, 17, 18] rfl rfl rfl (by decide) (fun u H locs hp352 hV351 => ?_)
                    have hV351 : kV E A s.heap H locs [(a0, .inr (12, [w0_0, w0_1, .int s_sources, .int s_seed, w0_4, w0_5, w0_6, .ref a11, .ref a16, .ref a4, .ref a5, .ref a2, .ref a3, w0_13, w0_14, w0_15, w0_16, w0_17, w0_18, w0_19, w0_20, w0_21, w0_22, w0_23, w0_24, w0_25, w0_26, w0_27, .int o_atA90_330, .int o_atB90_331, .int o_atD90_332, .int o_atF90_333, .int o_atG90_334, .int o_atH90_335, .int o_atL90_336, .int o_atM90_337, .int o_atN90_338, .int o_atS90_339, .int o_atT90_340, .int o_atU90_341, .int o_atX90_342, .ref a19, .ref a9, .ref a1, .ref a13, .ref a18, .ref a14, .ref a17, .int o_paperHigh82_320, .int o_paperShape82_321, .ref a8, .ref a15, .ref a6, .ref a10, .ref a7, .ref a12, w0_56, w0_57, w0_58, w0_59, w0_60, w0_61, w0_62, w0_63, w0_64, w0_65, w0_66])), (a1, .inl (E.2 2, 10, .inl s_byStar)), (a2, .inl (E.2 0, 2400, .inl s_code)), (a3, .inl (E.2 0, 2400, .inl s_codeArg)), (a4, .inl (E.2 0, 240, .inl s_codeFrom)), (a5, .inl (E.2 0, 240, .inl s_codeTo)), (a6, .inl (E.2 0, 1440, .inl o_first90_343)), (a7, .inl (E.2 0, 1440, .inl o_greatest90_344)), (a8, .inl (E.2 0, 1440, .inl o_highAt82_322)), (a9, .inl (E.2 2, 200, .inl o_isRefused90_345)), (a10, .inl (E.2 0, 1440, .inl o_last90_346)), (a11, .inl (E.2 0, 20, .inl s_many)), (a12, .inl (E.2 0, 2, .inl o_marked90_347)), (a13, .inl (E.2 0, 10, .inl s_minuteOf)), (a14, .inl (E.2 0, 10, .inl s_shape)), (a15, .inl (E.2 0, 1440, .inl o_shapeAt82_324)), (a16, .inl (E.2 0, 240, .inl s_sumFrom)), (a17, .inl (E.2 0, 10, .inl s_weekdays)), (a18, .inl (E.2 0, 10, .inl s_wide)), (a19, .inl (E.2 0, 200, .inl o_worth90_348))] := hV351.sub [6, 0, 7, 8, 9, 10, 11, 12, 13, 14, 15, 16, 17, 1, 2, 18, 3, 4, 5, 19] rfl rfl
                    clear hV328
                    refine lv_aload_n hx hb dX12_passed_93 rfl (lv_at hlB72 0 rfl) ?_
                    refine lv_iload_n hx hb dX12_passed_94 rfl (lv_at hlB72 2 rfl) ?_
                    refine lv_iload hx hb dX12_passed_95 (lv_at hlB72 8 rfl) ?_
                    refine lv_iconst (v := 1) hx hb dX12_passed_97 (by decide) ?_
                    obtain ⟨o_atA98_353, o_atB98_354, o_atD98_355, o_atF98_356, o_atG98_357, o_atH98_358, o_atL98_359, o_atM98_360, o_atN98_361, o_atS98_362, o_atT98_363, o_atU98_364, o_atX98_365, o_first98_366, o_greatest98_367, o_isRefused98_368, o_last98_369, o_marked98_370, o_worth98_371, hc372, h373⟩ := cb19_s h350
                    clear h350
                    refine kgov (krunV (rest := []) X hV351 [0, 2, 3, 4, 5, 6, 7, 8, 9, 10, 11, 12, 15, 19] (c_X12_goesOver l E _ a0 a2 a3 a4 a5 a6 a7 a8 a9 a10 a11 a12 a15 a19 (w0_0) (w0_1) (.int s_sources) (.int s_seed) (w0_4) (w0_5) (w0_6) (.ref a16) (w0_13) (w0_14) (w0_15) (w0_16) (w0_17) (w0_18) (w0_19) (w0_20) (w0_21) (w0_22) (w0_23) (w0_24) (w0_25) (w0_26) (w0_27) (.ref a1) (.ref a13) (.ref a18) (.ref a14) (.ref a17) (.int o_paperHigh82_320) (.int o_paperShape82_321) (w0_56) (w0_57) (w0_58) (w0_59) (w0_60) (w0_61) (w0_62) (w0_63) (w0_64) (w0_65) (w0_66) o_atA90_330 o_atB90_331 o_atD90_332 o_atF90_333 o_atG90_334 o_atH90_335 o_atL90_336 o_atM90_337 o_atN90_338 o_atS90_339 o_atT90_340 o_atU90_341 o_atX90_342 s_code s_codeArg s_codeFrom s_codeTo o_first90_343 o_greatest90_344 o_highAt82_322 o_isRefused90_345 o_last90_346 s_many o_marked90_347 o_shapeAt82_324 o_worth90_348 p2 x9_280 1 o_atA98_353 o_atB98_354 o_atD98_355 o_atF98_356 o_atG98_357 o_atH98_358 o_atL98_359 o_atM98_360 o_atN98_361 o_atS98_362 o_atT98_363 o_atU98_364 o_atX98_365 o_first98_366 o_greatest98_367 o_isRefused98_368 o_last98_369 o_marked98_370 o_worth98_371 hc372) mw_854 kb_X12_goesOver (ci := 12) rfl rfl (by decide) rfl rfl hlB72.1 rfl (Nat.le_of_ble_eq_true rfl) dX12_passed_98 (by decide)) X hV351 [0, 2, 3, 4, 5, 6, 7, 8, 9, 10, 11, 12, 15, 19] [1, 13, 14, 16, 17, 18] rfl rfl rfl (by decide) (fun u H locs hp375 hV374 => ?_)
                    have hV374 : kV E A s.heap H locs [(a0, .inr (12, [w0_0, w0_1, .int s_sources, .int s_seed, w0_4, w0_5, w0_6, .ref a11, .ref a16, .ref a4, .ref a5, .ref a2, .ref a3, w0_13, w0_14, w0_15, w0_16, w0_17, w0_18, w0_19, w0_20, w0_21, w0_22, w0_23, w0_24, w0_25, w0_26, w0_27, .int o_atA98_353, .int o_atB98_354, .int o_atD98_355, .int o_atF98_356, .int o_atG98_357, .int o_atH98_358, .int o_atL98_359, .int o_atM98_360, .int o_atN98_361, .int o_atS98_362, .int o_atT98_363, .int o_atU98_364, .int o_atX98_365, .ref a19, .ref a9, .ref a1, .ref a13, .ref a18, .ref a14, .ref a17, .int o_paperHigh82_320, .int o_paperShape82_321, .ref a8, .ref a15, .ref a6, .ref a10, .ref a7, .ref a12, w0_56, w0_57, w0_58, w0_59, w0_60, w0_61, w0_62, w0_63, w0_64, w0_65, w0_66])), (a1, .inl (E.2 2, 10, .inl s_byStar)), (a2, .inl (E.2 0, 2400, .inl s_code)), (a3, .inl (E.2 0, 2400, .inl s_codeArg)), (a4, .inl (E.2 0, 240, .inl s_codeFrom)), (a5, .inl (E.2 0, 240, .inl s_codeTo)), (a6, .inl (E.2 0, 1440, .inl o_first98_366)), (a7, .inl (E.2 0, 1440, .inl o_greatest98_367)), (a8, .inl (E.2 0, 1440, .inl o_highAt82_322)), (a9, .inl (E.2 2, 200, .inl o_isRefused98_368)), (a10, .inl (E.2 0, 1440, .inl o_last98_369)), (a11, .inl (E.2 0, 20, .inl s_many)), (a12, .inl (E.2 0, 2, .inl o_marked98_370)), (a13, .inl (E.2 0, 10, .inl s_minuteOf)), (a14, .inl (E.2 0, 10, .inl s_shape)), (a15, .inl (E.2 0, 1440, .inl o_shapeAt82_324)), (a16, .inl (E.2 0, 240, .inl s_sumFrom)), (a17, .inl (E.2 0, 10, .inl s_weekdays)), (a18, .inl (E.2 0, 10, .inl s_wide)), (a19, .inl (E.2 0, 200, .inl o_worth98_371))] := hV374.sub [6, 0, 7, 8, 9, 10, 11, 12, 13, 14, 15, 16, 17, 1, 2, 18, 3, 4, 5, 19] rfl rfl
                    clear hV351
                    refine lv_iconst (v := 0) hx hb dX12_passed_101 (by decide) ?_
                    refine lv_istore (lv' := [(10, .int 0), (0, .ref a0), (1, .int p1), (2, .int p2), (4, .int p4), (5, .int p5), (6, .int x6_277), (7, .int x7_278), (8, .int x8_279), (9, .int x9_280)]) hx hb dX12_passed_102 hlB72 (by decide) rfl (fun ls hl376 => ?_)
                    clear hlB72
                    have L104 : ∀ (n104 : Nat) (x6_377 : Int32) (x7_378 : Int32) (x8_379 : Int32) (x10_380 : Int32) (H : Heap) (locs : List Loc) (ls : Array Slot), (f_X12_passed_L104 x9_280 o_paperHigh82_320 o_paperShape82_321 o_highAt82_322 o_shapeAt82_324 o_atA98_353 o_atB98_354 o_atD98_355 o_atF98_356 o_atG98_357 o_atH98_358 o_atL98_359 o_atM98_360 o_atN98_361 o_atS98_362 o_atT98_363 o_atU98_364 o_atX98_365 o_first98_366 o_greatest98_367 o_isRefused98_368 o_last98_369 o_marked98_370 o_worth98_371 (f_X12_passed_L72 s_sources s_seed s_byStar s_code s_codeArg s_codeFrom s_codeTo s_many s_minuteOf s_shape s_sumFrom s_weekdays s_wide p1 p2 p4 (f_X12_passed_J164 p5 ) n72) n104) x6_377 x7_378 x8_379 x10_380 = some (r, o_atA, o_atB, o_atD, o_atF, o_atG, o_atH, o_atL, o_atM, o_atN, o_atS, o_atT, o_atU, o_atX, o_paperHigh, o_paperShape, o_first, o_greatest, o_highAt, o_isRefused, o_last, o_marked, o_shapeAt, o_worth) → kV E A s.heap H locs [(a0, .inr (12, [w0_0, w0_1, .int s_sources, .int s_seed, w0_4, w0_5, w0_6, .ref a11, .ref a16, .ref a4, .ref a5, .ref a2, .ref a3, w0_13, w0_14, w0_15, w0_16, w0_17, w0_18, w0_19, w0_20, w0_21, w0_22, w0_23, w0_24, w0_25, w0_26, w0_27, .int o_atA98_353, .int o_atB98_354, .int o_atD98_355, .int o_atF98_356, .int o_atG98_357, .int o_atH98_358, .int o_atL98_359, .int o_atM98_360, .int o_atN98_361, .int o_atS98_362, .int o_atT98_363, .int o_atU98_364, .int o_atX98_365, .ref a19, .ref a9, .ref a1, .ref a13, .ref a18, .ref a14, .ref a17, .int o_paperHigh82_320, .int o_paperShape82_321, .ref a8, .ref a15, .ref a6, .ref a10, .ref a7, .ref a12, w0_56, w0_57, w0_58, w0_59, w0_60, w0_61, w0_62, w0_63, w0_64, w0_65, w0_66])), (a1, .inl (E.2 2, 10, .inl s_byStar)), (a2, .inl (E.2 0, 2400, .inl s_code)), (a3, .inl (E.2 0, 2400, .inl s_codeArg)), (a4, .inl (E.2 0, 240, .inl s_codeFrom)), (a5, .inl (E.2 0, 240, .inl s_codeTo)), (a6, .inl (E.2 0, 1440, .inl o_first98_366)), (a7, .inl (E.2 0, 1440, .inl o_greatest98_367)), (a8, .inl (E.2 0, 1440, .inl o_highAt82_322)), (a9, .inl (E.2 2, 200, .inl o_isRefused98_368)), (a10, .inl (E.2 0, 1440, .inl o_last98_369)), (a11, .inl (E.2 0, 20, .inl s_many)), (a12, .inl (E.2 0, 2, .inl o_marked98_370)), (a13, .inl (E.2 0, 10, .inl s_minuteOf)), (a14, .inl (E.2 0, 10, .inl s_shape)), (a15, .inl (E.2 0, 1440, .inl o_shapeAt82_324)), (a16, .inl (E.2 0, 240, .inl s_sumFrom)), (a17, .inl (E.2 0, 10, .inl s_weekdays)), (a18, .inl (E.2 0, 10, .inl s_wide)), (a19, .inl (E.2 0, 200, .inl o_worth98_371))] → lv_has ls 11 [(0, .ref a0), (1, .int p1), (2, .int p2), (4, .int p4), (5, .int p5), (6, .int x6_377), (7, .int x7_378), (8, .int x8_379), (9, .int x9_280), (10, .int x10_380)] → W p l e r_X12_passed s m args below meth c H locs 0 0 Q (F0 m 104 ls []) := by
                      intro n104
                      induction n104 with
                      | zero =>
                        intro x6_377 x7_378 x8_379 x10_380 H locs ls hB104 hVB104 hlB104
                        rw [f_X12_passed_L104] at hB104
                        exact nomatch hB104
                      | succ n104 ih104 =>
                        intro x6_377 x7_378 x8_379 x10_380 H locs ls hB104 hVB104 hlB104
                        rw [f_X12_passed_L104] at hB104
                        refine lv_iload hx hb dX12_passed_104 (lv_at hlB104 9 rfl) ?_
                        refine lv_aload_n hx hb dX12_passed_106 rfl (lv_at hlB104 0 rfl) ?_
                        refine kget X hVB104 (ci := 12) inlX12 rfl 0 rfl 55 (by decide) mw_167 rfl dX12_passed_107 ?_
                        refine lv_iconst (v := 1) hx hb dX12_passed_110 (by decide) ?_
                        obtain ⟨hi382, v111_381, e383, h384⟩ := rdI_s hB104
                        clear hB104
                        refine kiald X hVB104 12 rfl hi382 e383 dX12_passed_111 ?_
                        clear hi382 e383
                        refine lv_icmp_ge (tgt := 158) hx hb dX12_passed_112 (by decide) (fun c385 => ?_) (fun c385 => ?_)
                        · have h386 := itS c385 h384
                          clear h384 c385
                          obtain ⟨v158_388, e389, h390⟩ := nmI_s h386
                          clear h386
                          refine lv_iinc (v := v158_388) (lv' := [(9, .int v158_388), (0, .ref a0), (1, .int p1), (2, .int p2), (4, .int p4), (5, .int p5), (6, .int x6_377), (7, .int x7_378), (8, .int x8_379), (10, .int x10_380)]) hx hb dX12_passed_158 hlB104 (k := 8) rfl (by rw [e389]; rfl) (by decide) rfl (fun ls hl391 => ?_)
                          clear hlB104 e389
                          refine lv_goto (tgt := 72) hx hb dX12_passed_161 (by decide) ?_
                          exact ih72 x6_377 x7_378 x8_379 v158_388 o_atA98_353 o_atB98_354 o_atD98_355 o_atF98_356 o_atG98_357 o_atH98_358 o_atL98_359 o_atM98_360 o_atN98_361 o_atS98_362 o_atT98_363 o_atU98_364 o_atX98_365 o_paperHigh82_320 o_paperShape82_321 o_first98_366 o_greatest98_367 o_highAt82_322 o_isRefused98_368 o_last98_369 o_marked98_370 o_shapeAt82_324 o_worth98_371 _ _ _ h390 hVB104 (lv_sub hl391 [1, 2, 3, 4, 5, 6, 7, 8, 0] rfl)
                        · have h387 := ieS c385 h384
                          clear h384 c385
                          refine lv_aload_n hx hb dX12_passed_115 rfl (lv_at hlB104 0 rfl) ?_
                          refine lv_iload hx hb dX12_passed_116 (lv_at hlB104 9 rfl) ?_
                          obtain ⟨r118_392, hc393, h394⟩ := cb1_s h387
                          clear h387
                          refine kgoiE (krunV (rest := []) X hVB104 [0, 6, 10, 12] (c_X12_isAlone l E _ a0 a6 a10 a12 (w0_0) (w0_1) (.int s_sources) (.int s_seed) (w0_4) (w0_5) (w0_6) (.ref a11) (.ref a16) (.ref a4) (.ref a5) (.ref a2) (.ref a3) (w0_13) (w0_14) (w0_15) (w0_16) (w0_17) (w0_18) (w0_19) (w0_20) (w0_21) (w0_22) (w0_23) (w0_24) (w0_25) (w0_26) (w0_27) (.int o_atA98_353) (.int o_atB98_354) (.int o_atD98_355) (.int o_atF98_356) (.int o_atG98_357) (.int o_atH98_358) (.int o_atL98_359) (.int o_atM98_360) (.int o_atN98_361) (.int o_atS98_362) (.int o_atT98_363) (.int o_atU98_364) (.int o_atX98_365) (.ref a19) (.ref a9) (.ref a1) (.ref a13) (.ref a18) (.ref a14) (.ref a17) (.int o_paperHigh82_320) (.int o_paperShape82_321) (.ref a8) (.ref a15) (.ref a7) (w0_56) (w0_57) (w0_58) (w0_59) (w0_60) (w0_61) (w0_62) (w0_63) (w0_64) (w0_65) (w0_66) o_first98_366 o_last98_369 o_marked98_370 x10_380 r118_392 hc393) mw_883 kb_X12_isAlone (ci := 12) rfl rfl (by decide) rfl rfl hlB104.1 rfl (Nat.le_of_ble_eq_true rfl) dX12_passed_118 (by decide)) X hVB104 [0, 6, 10, 12] [1, 2, 3, 4, 5, 7, 8, 9, 11, 13, 14, 15, 16, 17, 18, 19] rfl rfl rfl (by decide) (fun u H locs hV395 => ?_)
                          have hV395 : kV E A s.heap H locs [(a0, .inr (12, [w0_0, w0_1, .int s_sources, .int s_seed, w0_4, w0_5, w0_6, .ref a11, .ref a16, .ref a4, .ref a5, .ref a2, .ref a3, w0_13, w0_14, w0_15, w0_16, w0_17, w0_18, w0_19, w0_20, w0_21, w0_22, w0_23, w0_24, w0_25, w0_26, w0_27, .int o_atA98_353, .int o_atB98_354, .int o_atD98_355, .int o_atF98_356, .int o_atG98_357, .int o_atH98_358, .int o_atL98_359, .int o_atM98_360, .int o_atN98_361, .int o_atS98_362, .int o_atT98_363, .int o_atU98_364, .int o_atX98_365, .ref a19, .ref a9, .ref a1, .ref a13, .ref a18, .ref a14, .ref a17, .int o_paperHigh82_320, .int o_paperShape82_321, .ref a8, .ref a15, .ref a6, .ref a10, .ref a7, .ref a12, w0_56, w0_57, w0_58, w0_59, w0_60, w0_61, w0_62, w0_63, w0_64, w0_65, w0_66])), (a1, .inl (E.2 2, 10, .inl s_byStar)), (a2, .inl (E.2 0, 2400, .inl s_code)), (a3, .inl (E.2 0, 2400, .inl s_codeArg)), (a4, .inl (E.2 0, 240, .inl s_codeFrom)), (a5, .inl (E.2 0, 240, .inl s_codeTo)), (a6, .inl (E.2 0, 1440, .inl o_first98_366)), (a7, .inl (E.2 0, 1440, .inl o_greatest98_367)), (a8, .inl (E.2 0, 1440, .inl o_highAt82_322)), (a9, .inl (E.2 2, 200, .inl o_isRefused98_368)), (a10, .inl (E.2 0, 1440, .inl o_last98_369)), (a11, .inl (E.2 0, 20, .inl s_many)), (a12, .inl (E.2 0, 2, .inl o_marked98_370)), (a13, .inl (E.2 0, 10, .inl s_minuteOf)), (a14, .inl (E.2 0, 10, .inl s_shape)), (a15, .inl (E.2 0, 1440, .inl o_shapeAt82_324)), (a16, .inl (E.2 0, 240, .inl s_sumFrom)), (a17, .inl (E.2 0, 10, .inl s_weekdays)), (a18, .inl (E.2 0, 10, .inl s_wide)), (a19, .inl (E.2 0, 200, .inl o_worth98_371))] := hV395.sub [16, 0, 1, 2, 3, 4, 17, 5, 6, 7, 18, 8, 19, 9, 10, 11, 12, 13, 14, 15] rfl rfl
                          clear hVB104
                          refine lv_if_ne (tgt := 127) hx hb dX12_passed_121 (by decide) (fun c397 => ?_) (fun c397 => ?_)
                          · have h398 := ieS c397 h394
                            clear h394 c397
                            refine lv_iload hx hb dX12_passed_127 (lv_at hlB104 5 rfl) ?_
                            refine lv_if_ne (tgt := 149) hx hb dX12_passed_129 (by decide) (fun c400 => ?_) (fun c400 => ?_)
                            · have h401 := ieS c400 h398
                              clear h398 c400
                              obtain ⟨v149_403, e404, h405⟩ := nmI_s h401
                              clear h401
                              refine lv_iinc (v := v149_403) (lv' := [(6, .int v149_403), (0, .ref a0), (1, .int p1), (2, .int p2), (4, .int p4), (5, .int p5), (7, .int x7_378), (8, .int x8_379), (9, .int x9_280), (10, .int x10_380)]) hx hb dX12_passed_149 hlB104 (k := 5) rfl (by rw [e404]; rfl) (by decide) rfl (fun ls hl406 => ?_)
                              clear hlB104 e404
                              obtain ⟨v152_407, e408, h409⟩ := nmI_s h405
                              clear h405
                              refine lv_iinc (v := v152_407) (lv' := [(10, .int v152_407), (6, .int v149_403), (0, .ref a0), (1, .int p1), (2, .int p2), (4, .int p4), (5, .int p5), (7, .int x7_378), (8, .int x8_379), (9, .int x9_280)]) hx hb dX12_passed_152 hl406 (k := 9) rfl (by rw [e408]; rfl) (by decide) rfl (fun ls hl410 => ?_)
                              clear hl406 e408
                              refine lv_goto (tgt := 104) hx hb dX12_passed_155 (by decide) ?_
                              exact ih104 v149_403 x7_378 x8_379 v152_407 _ _ _ h409 hV395 (lv_sub hl410 [2, 3, 4, 5, 6, 1, 7, 8, 9, 0] rfl)
                            · have h402 := itS c400 h398
                              clear h398 c400
                              refine lv_iload hx hb dX12_passed_132 (lv_at hlB104 8 rfl) ?_
                              refine lv_istore (lv' := [(7, .int x9_280), (0, .ref a0), (1, .int p1), (2, .int p2), (4, .int p4), (5, .int p5), (6, .int x6_377), (8, .int x8_379), (9, .int x9_280), (10, .int x10_380)]) hx hb dX12_passed_134 hlB104 (by decide) rfl (fun ls hl411 => ?_)
                              clear hlB104
                              refine lv_aload_n hx hb dX12_passed_136 rfl (lv_at hl411 1 rfl) ?_
                              refine kget X hV395 (ci := 12) inlX12 rfl 0 rfl 52 (by decide) mw_164 rfl dX12_passed_137 ?_
                              refine lv_sipush (v := 720) hx hb dX12_passed_140 (by decide) ?_
                              refine lv_iload hx hb dX12_passed_143 (lv_at hl411 9 rfl) ?_
                              refine lv_iadd hx hb dX12_passed_145 ?_
                              obtain ⟨hi413, v146_412, e414, h415⟩ := rdI_s h402
                              clear h402
                              refine kiald X hV395 6 rfl hi413 e414 dX12_passed_146 ?_
                              clear hi413 e414
                              refine lv_istore (lv' := [(8, .int v146_412), (7, .int x9_280), (0, .ref a0), (1, .int p1), (2, .int p2), (4, .int p4), (5, .int p5), (6, .int x6_377), (9, .int x9_280), (10, .int x10_380)]) hx hb dX12_passed_147 hl411 (by decide) rfl (fun ls hl416 => ?_)
                              clear hl411
                              obtain ⟨v149_417, e418, h419⟩ := nmI_s h415
                              clear h415
                              refine lv_iinc (v := v149_417) (lv' := [(6, .int v149_417), (8, .int v146_412), (7, .int x9_280), (0, .ref a0), (1, .int p1), (2, .int p2), (4, .int p4), (5, .int p5), (9, .int x9_280), (10, .int x10_380)]) hx hb dX12_passed_149 hl416 (k := 7) rfl (by rw [e418]; rfl) (by decide) rfl (fun ls hl420 => ?_)
                              clear hl416 e418
                              obtain ⟨v152_421, e422, h423⟩ := nmI_s h419
                              clear h419
                              refine lv_iinc (v := v152_421) (lv' := [(10, .int v152_421), (6, .int v149_417), (8, .int v146_412), (7, .int x9_280), (0, .ref a0), (1, .int p1), (2, .int p2), (4, .int p4), (5, .int p5), (9, .int x9_280)]) hx hb dX12_passed_152 hl420 (k := 9) rfl (by rw [e422]; rfl) (by decide) rfl (fun ls hl424 => ?_)
                              clear hl420 e422
                              refine lv_goto (tgt := 104) hx hb dX12_passed_155 (by decide) ?_
                              exact ih104 v149_417 x9_280 v146_412 v152_421 _ _ _ h423 hV395 (lv_sub hl424 [4, 5, 6, 7, 8, 1, 3, 2, 9, 0] rfl)
                          · have h399 := itS c397 h394
                            clear h394 c397
                            refine lv_goto (tgt := 152) hx hb dX12_passed_124 (by decide) ?_
                            obtain ⟨v152_425, e426, h427⟩ := nmI_s h399
                            clear h399
                            refine lv_iinc (v := v152_425) (lv' := [(10, .int v152_425), (0, .ref a0), (1, .int p1), (2, .int p2), (4, .int p4), (5, .int p5), (6, .int x6_377), (7, .int x7_378), (8, .int x8_379), (9, .int x9_280)]) hx hb dX12_passed_152 hlB104 (k := 9) rfl (by rw [e426]; rfl) (by decide) rfl (fun ls hl428 => ?_)
                            clear hlB104 e426
                            refine lv_goto (tgt := 104) hx hb dX12_passed_155 (by decide) ?_
                            exact ih104 x6_377 x7_378 x8_379 v152_425 _ _ _ h427 hV395 (lv_sub hl428 [1, 2, 3, 4, 5, 6, 7, 8, 9, 0] rfl)
                    exact L104 FU x6_277 x7_278 x8_279 0 _ _ _ h373 hV374 (lv_sub hl376 [1, 2, 3, 4, 5, 6, 7, 8, 9, 0] rfl)
              exact L72 FU 0 (-1) (-1) p3 s_atA s_atB s_atD s_atF s_atG s_atH s_atL s_atM s_atN s_atS s_atT s_atU s_atX s_paperHigh s_paperShape s_first s_greatest s_highAt s_isRefused s_last s_marked s_shapeAt s_worth _ _ _ h167 hV164 (lv_sub hl172 [4, 5, 6, 8, 9, 3, 2, 1, 0] rfl)
            · have h168 := itS c166 h163
              clear h163 c166
              refine lv_iconst (v := (-1)) hx hb dX12_passed_58 (by decide) ?_
              obtain ⟨q429, q430, q431, q432, q433, q434, q435, q436, q437, q438, q439, q440, q441, q442, q443, q444, q445, q446, q447, q448, q449, q450, q451, q452⟩ := tup24_s h168
              clear h168
              exact hret _ () _ _ _ _ q429 rfl (by rw [← q430, ← q431, ← q432, ← q433, ← q434, ← q435, ← q436, ← q437, ← q438, ← q439, ← q440, ← q441, ← q442, ← q443, ← q444, ← q445, ← q446, ← q447, ← q448, ← q449, ← q450, ← q451, ← q452]; exact hV164) dX12_passed_59
abbrev r_X12_note : Room := { frames := 2, cells := 0, slots := 0, locals := 45 }
set_option maxHeartbeats 4000000 in
set_option maxRecDepth 100000 in
theorem c_X12_note (l : Launch) (E : kE) (sz : Nat) (a0 a1 a2 a3 : Nat) (w0_0 w0_1 w0_2 w0_3 w0_5 w0_6 w0_7 w0_8 w0_9 w0_10 w0_11 w0_12 w0_13 w0_14 w0_15 w0_16 w0_17 w0_18 w0_19 w0_20 w0_21 w0_22 w0_23 w0_24 w0_25 w0_26 w0_27 w0_28 w0_29 w0_30 w0_31 w0_32 w0_33 w0_34 w0_35 w0_36 w0_37 w0_38 w0_39 w0_40 w0_41 w0_42 w0_43 w0_44 w0_45 w0_46 w0_47 w0_48 w0_49 w0_50 w0_51 w0_52 w0_53 w0_54 w0_55 w0_59 w0_60 w0_61 w0_62 w0_63 w0_64 w0_65 w0_66 : Value) (s_notes : Int32) (s_noteDay : Nat → Int32) (s_noteMinute : Nat → Int32) (s_noteShape : Nat → Int32) (p1 : Int32) (p2 : Int32) (p3 : Int32) (r : Int32) (o_notes : Int32) (o_noteDay : Nat → Int32) (o_noteMinute : Nat → Int32) (o_noteShape : Nat → Int32) (h : f_X12_note s_notes s_noteDay s_noteMinute s_noteShape p1 p2 p3 = some (r, o_notes, o_noteDay, o_noteMinute, o_noteShape)) : kMi l yX12_note cX12_note 4 (some .int) r_X12_note [.ref a0, .int p1, .int p2, .int p3] E [(a0, .inr (12, [w0_0, w0_1, w0_2, w0_3, .int s_notes, w0_5, w0_6, w0_7, w0_8, w0_9, w0_10, w0_11, w0_12, w0_13, w0_14, w0_15, w0_16, w0_17, w0_18, w0_19, w0_20, w0_21, w0_22, w0_23, w0_24, w0_25, w0_26, w0_27, w0_28, w0_29, w0_30, w0_31, w0_32, w0_33, w0_34, w0_35, w0_36, w0_37, w0_38, w0_39, w0_40, w0_41, w0_42, w0_43, w0_44, w0_45, w0_46, w0_47, w0_48, w0_49, w0_50, w0_51, w0_52, w0_53, w0_54, w0_55, .ref a1, .ref a2, .ref a3, w0_59, w0_60, w0_61, w0_62, w0_63, w0_64, w0_65, w0_66])), (a1, .inl (E.2 0, 40, .inl s_noteDay)), (a2, .inl (E.2 0, 40, .inl s_noteMinute)), (a3, .inl (E.2 0, 40, .inl s_noteShape))] sz 0 0 (fun x (_ : Unit) => x = r) (fun _ => [(a0, .inr (12, [w0_0, w0_1, w0_2, w0_3, .int o_notes, w0_5, w0_6, w0_7, w0_8, w0_9, w0_10, w0_11, w0_12, w0_13, w0_14, w0_15, w0_16, w0_17, w0_18, w0_19, w0_20, w0_21, w0_22, w0_23, w0_24, w0_25, w0_26, w0_27, w0_28, w0_29, w0_30, w0_31, w0_32, w0_33, w0_34, w0_35, w0_36, w0_37, w0_38, w0_39, w0_40, w0_41, w0_42, w0_43, w0_44, w0_45, w0_46, w0_47, w0_48, w0_49, w0_50, w0_51, w0_52, w0_53, w0_54, w0_55, .ref a1, .ref a2, .ref a3, w0_59, w0_60, w0_61, w0_62, w0_63, w0_64, w0_65, w0_66])), (a1, .inl (E.2 0, 40, .inl o_noteDay)), (a2, .inl (E.2 0, 40, .inl o_noteMinute)), (a3, .inl (E.2 0, 40, .inl o_noteShape))]) := by
  refine kmeti rfl (Nat.le_of_ble_eq_true rfl) ?_
  intro p e s m args below meth c ls A Q X hV hret hl
  have X : kC p s m c cX12_note 4 RX12 args E A := X
  have hx := X.1
  have hb := X.2.1
  have hl : lv_has ls 4 [(0, .ref a0), (1, .int p1), (2, .int p2), (3, .int p3)] := hl
  rw [f_X12_note] at h
  refine lv_aload_n hx hb dX12_note_0 rfl (lv_at hl 0 rfl) ?_
  refine kget X hV (ci := 12) inlX12 rfl 0 rfl 4 (by decide) mw_899 rfl dX12_note_1 ?_
  refine lv_bipush (v := 40) hx hb dX12_note_4 (by decide) ?_
  refine lv_icmp_eq (tgt := 57) hx hb dX12_note_6 (by decide) (fun c1 => ?_) (fun c1 => ?_)
  · have h2 := itS c1 h
    clear h c1
    refine lv_iconst (v := (-1)) hx hb dX12_note_57 (by decide) ?_
    obtain ⟨q4, q5, q6, q7, q8⟩ := tup5_s h2
    clear h2
    exact hret _ () _ _ _ _ q4 rfl (by rw [← q5, ← q6, ← q7, ← q8]; exact hV) dX12_note_58
  · have h3 := ieS c1 h
    clear h c1
    refine lv_iload_n hx hb dX12_note_9 rfl (lv_at hl 1 rfl) ?_
    obtain ⟨r10_9, hc10, h11⟩ := cb1_s h3
    clear h3
    refine kgoiE (krunS (rest := []) X hV [] (c_X12_isDay l E _ p1 r10_9 hc10) mw_632 kb_X12_isDay (by decide) rfl rfl hl.1 rfl (Nat.le_of_ble_eq_true rfl) dX12_note_10 (by decide)) X hV [] [0, 1, 2, 3] rfl rfl rfl (by decide) (fun u H locs hV12 => ?_)
    have hV12 : kV E A s.heap H locs [(a0, .inr (12, [w0_0, w0_1, w0_2, w0_3, .int s_notes, w0_5, w0_6, w0_7, w0_8, w0_9, w0_10, w0_11, w0_12, w0_13, w0_14, w0_15, w0_16, w0_17, w0_18, w0_19, w0_20, w0_21, w0_22, w0_23, w0_24, w0_25, w0_26, w0_27, w0_28, w0_29, w0_30, w0_31, w0_32, w0_33, w0_34, w0_35, w0_36, w0_37, w0_38, w0_39, w0_40, w0_41, w0_42, w0_43, w0_44, w0_45, w0_46, w0_47, w0_48, w0_49, w0_50, w0_51, w0_52, w0_53, w0_54, w0_55, .ref a1, .ref a2, .ref a3, w0_59, w0_60, w0_61, w0_62, w0_63, w0_64, w0_65, w0_66])), (a1, .inl (E.2 0, 40, .inl s_noteDay)), (a2, .inl (E.2 0, 40, .inl s_noteMinute)), (a3, .inl (E.2 0, 40, .inl s_noteShape))] := hV12.sub [0, 1, 2, 3] rfl rfl
    clear hV
    refine lv_if_eq (tgt := 57) hx hb dX12_note_13 (by decide) (fun c14 => ?_) (fun c14 => ?_)
    · have h15 := itS c14 h11
      clear h11 c14
      refine lv_iconst (v := (-1)) hx hb dX12_note_57 (by decide) ?_
      obtain ⟨q17, q18, q19, q20, q21⟩ := tup5_s h15
      clear h15
      exact hret _ () _ _ _ _ q17 rfl (by rw [← q18, ← q19, ← q20, ← q21]; exact hV12) dX12_note_58
    · have h16 := ieS c14 h11
      clear h11 c14
      refine lv_iload_n hx hb dX12_note_16 rfl (lv_at hl 2 rfl) ?_
      obtain ⟨r17_22, hc23, h24⟩ := cb1_s h16
      clear h16
      refine kgoiE (krunS (rest := []) X hV12 [] (c_X12_isMinute l E _ p2 r17_22 hc23) mw_220 kb_X12_isMinute (by decide) rfl rfl hl.1 rfl (Nat.le_of_ble_eq_true rfl) dX12_note_17 (by decide)) X hV12 [] [0, 1, 2, 3] rfl rfl rfl (by decide) (fun u H locs hV25 => ?_)
      have hV25 : kV E A s.heap H locs [(a0, .inr (12, [w0_0, w0_1, w0_2, w0_3, .int s_notes, w0_5, w0_6, w0_7, w0_8, w0_9, w0_10, w0_11, w0_12, w0_13, w0_14, w0_15, w0_16, w0_17, w0_18, w0_19, w0_20, w0_21, w0_22, w0_23, w0_24, w0_25, w0_26, w0_27, w0_28, w0_29, w0_30, w0_31, w0_32, w0_33, w0_34, w0_35, w0_36, w0_37, w0_38, w0_39, w0_40, w0_41, w0_42, w0_43, w0_44, w0_45, w0_46, w0_47, w0_48, w0_49, w0_50, w0_51, w0_52, w0_53, w0_54, w0_55, .ref a1, .ref a2, .ref a3, w0_59, w0_60, w0_61, w0_62, w0_63, w0_64, w0_65, w0_66])), (a1, .inl (E.2 0, 40, .inl s_noteDay)), (a2, .inl (E.2 0, 40, .inl s_noteMinute)), (a3, .inl (E.2 0, 40, .inl s_noteShape))] := hV25.sub [0, 1, 2, 3] rfl rfl
      clear hV12
      refine lv_if_eq (tgt := 57) hx hb dX12_note_20 (by decide) (fun c27 => ?_) (fun c27 => ?_)
      · have h28 := itS c27 h24
        clear h24 c27
        refine lv_iconst (v := (-1)) hx hb dX12_note_57 (by decide) ?_
        obtain ⟨q30, q31, q32, q33, q34⟩ := tup5_s h28
        clear h28
        exact hret _ () _ _ _ _ q30 rfl (by rw [← q31, ← q32, ← q33, ← q34]; exact hV25) dX12_note_58
      · have h29 := ieS c27 h24
        clear h24 c27
        refine lv_iload_n hx hb dX12_note_23 rfl (lv_at hl 3 rfl) ?_
        refine lv_i2l (v := Int32.toInt64 p3) hx hb dX12_note_24 rfl ?_
        refine lv_lconst (v := 0) hx hb dX12_note_25 (by decide) ?_
        refine lv_ldc2 (v := 3) hx hb X.2.2.2.1 (X.2.2.2.2.1 _ mw_218) dX12_note_26 ?_
        obtain ⟨r29_35, hc36, h37⟩ := cb1_s h29
        clear h29
        refine kgoiE (krunS (rest := []) X hV25 [] (c_X12_lies l E _ (Int32.toInt64 p3) 0 3 r29_35 hc36) mw_224 kb_X12_lies (by decide) rfl rfl hl.1 rfl (Nat.le_of_ble_eq_true rfl) dX12_note_29 (by decide)) X hV25 [] [0, 1, 2, 3] rfl rfl rfl (by decide) (fun u H locs hV38 => ?_)
        have hV38 : kV E A s.heap H locs [(a0, .inr (12, [w0_0, w0_1, w0_2, w0_3, .int s_notes, w0_5, w0_6, w0_7, w0_8, w0_9, w0_10, w0_11, w0_12, w0_13, w0_14, w0_15, w0_16, w0_17, w0_18, w0_19, w0_20, w0_21, w0_22, w0_23, w0_24, w0_25, w0_26, w0_27, w0_28, w0_29, w0_30, w0_31, w0_32, w0_33, w0_34, w0_35, w0_36, w0_37, w0_38, w0_39, w0_40, w0_41, w0_42, w0_43, w0_44, w0_45, w0_46, w0_47, w0_48, w0_49, w0_50, w0_51, w0_52, w0_53, w0_54, w0_55, .ref a1, .ref a2, .ref a3, w0_59, w0_60, w0_61, w0_62, w0_63, w0_64, w0_65, w0_66])), (a1, .inl (E.2 0, 40, .inl s_noteDay)), (a2, .inl (E.2 0, 40, .inl s_noteMinute)), (a3, .inl (E.2 0, 40, .inl s_noteShape))] := hV38.sub [0, 1, 2, 3] rfl rfl
        clear hV25
        refine lv_if_eq (tgt := 57) hx hb dX12_note_32 (by decide) (fun c40 => ?_) (fun c40 => ?_)
        · have h41 := itS c40 h37
          clear h37 c40
          refine lv_iconst (v := (-1)) hx hb dX12_note_57 (by decide) ?_
          obtain ⟨q43, q44, q45, q46, q47⟩ := tup5_s h41
          clear h41
          exact hret _ () _ _ _ _ q43 rfl (by rw [← q44, ← q45, ← q46, ← q47]; exact hV38) dX12_note_58
        · have h42 := ieS c40 h37
          clear h37 c40
          refine lv_aload_n hx hb dX12_note_35 rfl (lv_at hl 0 rfl) ?_
          refine kget X hV38 (ci := 12) inlX12 rfl 0 rfl 4 (by decide) mw_899 rfl dX12_note_36 ?_
          have J59 : ∀  (H : Heap) (locs : List Loc) (ls : Array Slot), (f_X12_note_J59 s_notes s_noteDay s_noteMinute s_noteShape p1 p2 p3 ) = some (r, o_notes, o_noteDay, o_noteMinute, o_noteShape) → kV E A s.heap H locs [(a0, .inr (12, [w0_0, w0_1, w0_2, w0_3, .int s_notes, w0_5, w0_6, w0_7, w0_8, w0_9, w0_10, w0_11, w0_12, w0_13, w0_14, w0_15, w0_16, w0_17, w0_18, w0_19, w0_20, w0_21, w0_22, w0_23, w0_24, w0_25, w0_26, w0_27, w0_28, w0_29, w0_30, w0_31, w0_32, w0_33, w0_34, w0_35, w0_36, w0_37, w0_38, w0_39, w0_40, w0_41, w0_42, w0_43, w0_44, w0_45, w0_46, w0_47, w0_48, w0_49, w0_50, w0_51, w0_52, w0_53, w0_54, w0_55, .ref a1, .ref a2, .ref a3, w0_59, w0_60, w0_61, w0_62, w0_63, w0_64, w0_65, w0_66])), (a1, .inl (E.2 0, 40, .inl s_noteDay)), (a2, .inl (E.2 0, 40, .inl s_noteMinute)), (a3, .inl (E.2 0, 40, .inl s_noteShape))] → lv_has ls 4 [(0, .ref a0), (1, .int p1), (2, .int p2), (3, .int p3)] → W p l e r_X12_note s m args below meth c H locs 0 0 Q (F0 m 59 ls []) := by
            intro  H locs ls hB59 hVB59 hlB59
            rw [f_X12_note_J59] at hB59
            refine lv_aload_n hx hb dX12_note_59 rfl (lv_at hlB59 0 rfl) ?_
            refine kget X hVB59 (ci := 12) inlX12 rfl 0 rfl 56 (by decide) mw_168 rfl dX12_note_60 ?_
            refine lv_aload_n hx hb dX12_note_63 rfl (lv_at hlB59 0 rfl) ?_
            refine kget X hVB59 (ci := 12) inlX12 rfl 0 rfl 4 (by decide) mw_899 rfl dX12_note_64 ?_
            refine lv_iload_n hx hb dX12_note_67 rfl (lv_at hlB59 1 rfl) ?_
            obtain ⟨hi49, g68_48, e50, h51⟩ := wrI_s hB59
            clear hB59
            refine kiast X hVB59 1 rfl hi49 e50 dX12_note_68 (fun H locs hV52 => ?_)
            have hV52 : kV E A s.heap H locs [(a0, .inr (12, [w0_0, w0_1, w0_2, w0_3, .int s_notes, w0_5, w0_6, w0_7, w0_8, w0_9, w0_10, w0_11, w0_12, w0_13, w0_14, w0_15, w0_16, w0_17, w0_18, w0_19, w0_20, w0_21, w0_22, w0_23, w0_24, w0_25, w0_26, w0_27, w0_28, w0_29, w0_30, w0_31, w0_32, w0_33, w0_34, w0_35, w0_36, w0_37, w0_38, w0_39, w0_40, w0_41, w0_42, w0_43, w0_44, w0_45, w0_46, w0_47, w0_48, w0_49, w0_50, w0_51, w0_52, w0_53, w0_54, w0_55, .ref a1, .ref a2, .ref a3, w0_59, w0_60, w0_61, w0_62, w0_63, w0_64, w0_65, w0_66])), (a1, .inl (E.2 0, 40, .inl g68_48)), (a2, .inl (E.2 0, 40, .inl s_noteMinute)), (a3, .inl (E.2 0, 40, .inl s_noteShape))] := hV52
            clear hVB59 hi49 e50
            refine lv_aload_n hx hb dX12_note_69 rfl (lv_at hlB59 0 rfl) ?_
            refine kget X hV52 (ci := 12) inlX12 rfl 0 rfl 57 (by decide) mw_169 rfl dX12_note_70 ?_
            refine lv_aload_n hx hb dX12_note_73 rfl (lv_at hlB59 0 rfl) ?_
            refine kget X hV52 (ci := 12) inlX12 rfl 0 rfl 4 (by decide) mw_899 rfl dX12_note_74 ?_
            refine lv_iload_n hx hb dX12_note_77 rfl (lv_at hlB59 2 rfl) ?_
            obtain ⟨hi54, g78_53, e55, h56⟩ := wrI_s h51
            clear h51
            refine kiast X hV52 2 rfl hi54 e55 dX12_note_78 (fun H locs hV57 => ?_)
            have hV57 : kV E A s.heap H locs [(a0, .inr (12, [w0_0, w0_1, w0_2, w0_3, .int s_notes, w0_5, w0_6, w0_7, w0_8, w0_9, w0_10, w0_11, w0_12, w0_13, w0_14, w0_15, w0_16, w0_17, w0_18, w0_19, w0_20, w0_21, w0_22, w0_23, w0_24, w0_25, w0_26, w0_27, w0_28, w0_29, w0_30, w0_31, w0_32, w0_33, w0_34, w0_35, w0_36, w0_37, w0_38, w0_39, w0_40, w0_41, w0_42, w0_43, w0_44, w0_45, w0_46, w0_47, w0_48, w0_49, w0_50, w0_51, w0_52, w0_53, w0_54, w0_55, .ref a1, .ref a2, .ref a3, w0_59, w0_60, w0_61, w0_62, w0_63, w0_64, w0_65, w0_66])), (a1, .inl (E.2 0, 40, .inl g68_48)), (a2, .inl (E.2 0, 40, .inl g78_53)), (a3, .inl (E.2 0, 40, .inl s_noteShape))] := hV57
            clear hV52 hi54 e55
            refine lv_aload_n hx hb dX12_note_79 rfl (lv_at hlB59 0 rfl) ?_
            refine kget X hV57 (ci := 12) inlX12 rfl 0 rfl 58 (by decide) mw_170 rfl dX12_note_80 ?_
            refine lv_aload_n hx hb dX12_note_83 rfl (lv_at hlB59 0 rfl) ?_
            refine kget X hV57 (ci := 12) inlX12 rfl 0 rfl 4 (by decide) mw_899 rfl dX12_note_84 ?_
            refine lv_iload_n hx hb dX12_note_87 rfl (lv_at hlB59 3 rfl) ?_
            obtain ⟨hi59, g88_58, e60, h61⟩ := wrI_s h56
            clear h56
            refine kiast X hV57 3 rfl hi59 e60 dX12_note_88 (fun H locs hV62 => ?_)
            have hV62 : kV E A s.heap H locs [(a0, .inr (12, [w0_0, w0_1, w0_2, w0_3, .int s_notes, w0_5, w0_6, w0_7, w0_8, w0_9, w0_10, w0_11, w0_12, w0_13, w0_14, w0_15, w0_16, w0_17, w0_18, w0_19, w0_20, w0_21, w0_22, w0_23, w0_24, w0_25, w0_26, w0_27, w0_28, w0_29, w0_30, w0_31, w0_32, w0_33, w0_34, w0_35, w0_36, w0_37, w0_38, w0_39, w0_40, w0_41, w0_42, w0_43, w0_44, w0_45, w0_46, w0_47, w0_48, w0_49, w0_50, w0_51, w0_52, w0_53, w0_54, w0_55, .ref a1, .ref a2, .ref a3, w0_59, w0_60, w0_61, w0_62, w0_63, w0_64, w0_65, w0_66])), (a1, .inl (E.2 0, 40, .inl g68_48)), (a2, .inl (E.2 0, 40, .inl g78_53)), (a3, .inl (E.2 0, 40, .inl g88_58))] := hV62
            clear hV57 hi59 e60
            refine lv_aload_n hx hb dX12_note_89 rfl (lv_at hlB59 0 rfl) ?_
            refine lv_dup hx hb dX12_note_90 rfl ?_
            refine kget X hV62 (ci := 12) inlX12 rfl 0 rfl 4 (by decide) mw_899 rfl dX12_note_91 ?_
            refine lv_iconst (v := 1) hx hb dX12_note_94 (by decide) ?_
            refine lv_iadd hx hb dX12_note_95 ?_
            obtain ⟨v96_63, e64, h65⟩ := nmI_s h61
            clear h61
            refine ktopi e64 ?_
            clear e64
            refine kput X hV62 (ci := 12) inlX12 rfl tyX12 tyX12_ok nmX12 0 rfl 4 (by decide) mw_899 rfl rfl rfl (Nat.le_of_ble_eq_true rfl) dX12_note_96 (fun H locs hV66 => ?_)
            have hV66 : kV E A s.heap H locs [(a0, .inr (12, [w0_0, w0_1, w0_2, w0_3, .int v96_63, w0_5, w0_6, w0_7, w0_8, w0_9, w0_10, w0_11, w0_12, w0_13, w0_14, w0_15, w0_16, w0_17, w0_18, w0_19, w0_20, w0_21, w0_22, w0_23, w0_24, w0_25, w0_26, w0_27, w0_28, w0_29, w0_30, w0_31, w0_32, w0_33, w0_34, w0_35, w0_36, w0_37, w0_38, w0_39, w0_40, w0_41, w0_42, w0_43, w0_44, w0_45, w0_46, w0_47, w0_48, w0_49, w0_50, w0_51, w0_52, w0_53, w0_54, w0_55, .ref a1, .ref a2, .ref a3, w0_59, w0_60, w0_61, w0_62, w0_63, w0_64, w0_65, w0_66])), (a1, .inl (E.2 0, 40, .inl g68_48)), (a2, .inl (E.2 0, 40, .inl g78_53)), (a3, .inl (E.2 0, 40, .inl g88_58))] := hV66
            clear hV62
            refine lv_aload_n hx hb dX12_note_99 rfl (lv_at hlB59 0 rfl) ?_
            refine kget X hV66 (ci := 12) inlX12 rfl 0 rfl 4 (by decide) mw_899 rfl dX12_note_100 ?_
            refine lv_iconst (v := 1) hx hb dX12_note_103 (by decide) ?_
            refine lv_isub hx hb dX12_note_104 ?_
            obtain ⟨q67, q68, q69, q70, q71⟩ := tup5_s h65
            clear h65
            exact hret _ () _ _ _ _ q67 rfl (by rw [← q68, ← q69, ← q70, ← q71]; exact hV66) dX12_note_105
          refine lv_if_le (tgt := 59) hx hb dX12_note_39 (by decide) (fun c72 => ?_) (fun c72 => ?_)
          · have h73 := itS c72 h42
            clear h42 c72
            exact J59  _ _ _ h73 hV38 (lv_sub hl [0, 1, 2, 3] rfl)
          · have h74 := ieS c72 h42
            clear h42 c72
            refine lv_iload_n hx hb dX12_note_42 rfl (lv_at hl 1 rfl) ?_
            refine lv_aload_n hx hb dX12_note_43 rfl (lv_at hl 0 rfl) ?_
            refine kget X hV38 (ci := 12) inlX12 rfl 0 rfl 56 (by decide) mw_168 rfl dX12_note_44 ?_
            refine lv_aload_n hx hb dX12_note_47 rfl (lv_at hl 0 rfl) ?_
            refine kget X hV38 (ci := 12) inlX12 rfl 0 rfl 4 (by decide) mw_899 rfl dX12_note_48 ?_
            refine lv_iconst (v := 1) hx hb dX12_note_51 (by decide) ?_
            refine lv_isub hx hb dX12_note_52 ?_
            obtain ⟨hi76, v53_75, e77, h78⟩ := rdI_s h74
            clear h74
            refine kiald X hV38 1 rfl hi76 e77 dX12_note_53 ?_
            clear hi76 e77
            refine lv_icmp_ge (tgt := 59) hx hb dX12_note_54 (by decide) (fun c79 => ?_) (fun c79 => ?_)
            · have h80 := itS c79 h78
              clear h78 c79
              exact J59  _ _ _ h80 hV38 (lv_sub hl [0, 1, 2, 3] rfl)
            · have h81 := ieS c79 h78
              clear h78 c79
              refine lv_iconst (v := (-1)) hx hb dX12_note_57 (by decide) ?_
              obtain ⟨q82, q83, q84, q85, q86⟩ := tup5_s h81
              clear h81
              exact hret _ () _ _ _ _ q82 rfl (by rw [← q83, ← q84, ← q85, ← q86]; exact hV38) dX12_note_58
abbrev r_X12_isWithin : Room := { frames := 1, cells := 0, slots := 0, locals := 25 }
set_option maxHeartbeats 4000000 in
set_option maxRecDepth 100000 in
theorem c_X12_isWithin (l : Launch) (E : kE) (sz : Nat) (p1 : Int32) (r : Int32) (h : f_X12_isWithin p1 = some (r)) : kMi l yX12_isWithin cX12_isWithin 1 (some .boolean) r_X12_isWithin [.int p1] E [] sz 0 0 (fun x (_ : Unit) => x = r) (fun _ => []) := by
  refine kmeti rfl (Nat.le_of_ble_eq_true rfl) ?_
  intro p e s m args below meth c ls A Q X hV hret hl
  have X : kC p s m c cX12_isWithin 1 RX12 args E A := X
  have hx := X.1
  have hb := X.2.1
  have hl : lv_has ls 1 [(0, .int p1)] := hl
  rw [f_X12_isWithin] at h
  refine lv_iload_n hx hb dX12_isWithin_0 rfl (lv_at hl 0 rfl) ?_
  refine lv_i2l (v := Int32.toInt64 p1) hx hb dX12_isWithin_1 rfl ?_
  refine lv_lconst (v := 0) hx hb dX12_isWithin_2 (by decide) ?_
  refine lv_ldc2 (v := 700) hx hb X.2.2.2.1 (X.2.2.2.2.1 _ mw_927) dX12_isWithin_3 ?_
  obtain ⟨r6_1, hc2, h3⟩ := cb1_s h
  clear h
  refine kgoiE (krunS (rest := []) X hV [] (c_X12_lies l E _ (Int32.toInt64 p1) 0 700 r6_1 hc2) mw_224 kb_X12_lies (by decide) rfl rfl hl.1 rfl (Nat.le_of_ble_eq_true rfl) dX12_isWithin_6 (by decide)) X hV [] [] rfl rfl rfl (by decide) (fun u H locs hV4 => ?_)
  have hV4 : kV E A s.heap H locs [] := hV4.sub [] rfl rfl
  clear hV
  obtain ⟨hb6, h7⟩ := bo_s h3
  clear h3
  have q8 := tup1_s h7
  clear h7
  exact hret _ () _ _ _ _ q8 hb6 hV4 dX12_isWithin_9
abbrev r_X12_isShape : Room := { frames := 1, cells := 0, slots := 0, locals := 25 }
set_option maxHeartbeats 4000000 in
set_option maxRecDepth 100000 in
theorem c_X12_isShape (l : Launch) (E : kE) (sz : Nat) (p1 : Int32) (r : Int32) (h : f_X12_isShape p1 = some (r)) : kMi l yX12_isShape cX12_isShape 1 (some .boolean) r_X12_isShape [.int p1] E [] sz 0 0 (fun x (_ : Unit) => x = r) (fun _ => []) := by
  refine kmeti rfl (Nat.le_of_ble_eq_true rfl) ?_
  intro p e s m args below meth c ls A Q X hV hret hl
  have X : kC p s m c cX12_isShape 1 RX12 args E A := X
  have hx := X.1
  have hb := X.2.1
  have hl : lv_has ls 1 [(0, .int p1)] := hl
  rw [f_X12_isShape] at h
  refine lv_iload_n hx hb dX12_isShape_0 rfl (lv_at hl 0 rfl) ?_
  refine lv_i2l (v := Int32.toInt64 p1) hx hb dX12_isShape_1 rfl ?_
  refine lv_lconst (v := 0) hx hb dX12_isShape_2 (by decide) ?_
  refine lv_ldc2 (v := 3) hx hb X.2.2.2.1 (X.2.2.2.2.1 _ mw_218) dX12_isShape_3 ?_
  obtain ⟨r6_1, hc2, h3⟩ := cb1_s h
  clear h
  refine kgoiE (krunS (rest := []) X hV [] (c_X12_lies l E _ (Int32.toInt64 p1) 0 3 r6_1 hc2) mw_224 kb_X12_lies (by decide) rfl rfl hl.1 rfl (Nat.le_of_ble_eq_true rfl) dX12_isShape_6 (by decide)) X hV [] [] rfl rfl rfl (by decide) (fun u H locs hV4 => ?_)
  have hV4 : kV E A s.heap H locs [] := hV4.sub [] rfl rfl
  clear hV
  obtain ⟨hb6, h7⟩ := bo_s h3
  clear h3
  have q8 := tup1_s h7
  clear h7
  exact hret _ () _ _ _ _ q8 hb6 hV4 dX12_isShape_9
abbrev r_X12_minuteBy : Room := { frames := 1, cells := 0, slots := 0, locals := 21 }
set_option maxHeartbeats 4000000 in
set_option maxRecDepth 100000 in
theorem c_X12_minuteBy (l : Launch) (E : kE) (sz : Nat) (a0 a1 a2 : Nat) (w0_0 w0_1 w0_2 w0_3 w0_4 w0_5 w0_6 w0_7 w0_8 w0_9 w0_10 w0_11 w0_12 w0_13 w0_14 w0_15 w0_16 w0_17 w0_18 w0_19 w0_20 w0_21 w0_22 w0_23 w0_24 w0_25 w0_26 w0_27 w0_28 w0_29 w0_30 w0_31 w0_32 w0_33 w0_34 w0_35 w0_36 w0_37 w0_38 w0_39 w0_40 w0_41 w0_42 w0_43 w0_44 w0_45 w0_46 w0_47 w0_48 w0_49 w0_50 w0_51 w0_52 w0_53 w0_54 w0_55 w0_58 w0_59 w0_60 w0_61 w0_62 w0_63 w0_64 w0_65 w0_66 : Value) (s_noteDay : Nat → Int32) (s_noteMinute : Nat → Int32) (p1 : Int32) (p2 : Int32) (r : Int32) (h : f_X12_minuteBy s_noteDay s_noteMinute p1 p2 = some (r)) : kMi l yX12_minuteBy cX12_minuteBy 3 (some .int) r_X12_minuteBy [.ref a0, .int p1, .int p2] E [(a0, .inr (12, [w0_0, w0_1, w0_2, w0_3, w0_4, w0_5, w0_6, w0_7, w0_8, w0_9, w0_10, w0_11, w0_12, w0_13, w0_14, w0_15, w0_16, w0_17, w0_18, w0_19, w0_20, w0_21, w0_22, w0_23, w0_24, w0_25, w0_26, w0_27, w0_28, w0_29, w0_30, w0_31, w0_32, w0_33, w0_34, w0_35, w0_36, w0_37, w0_38, w0_39, w0_40, w0_41, w0_42, w0_43, w0_44, w0_45, w0_46, w0_47, w0_48, w0_49, w0_50, w0_51, w0_52, w0_53, w0_54, w0_55, .ref a1, .ref a2, w0_58, w0_59, w0_60, w0_61, w0_62, w0_63, w0_64, w0_65, w0_66])), (a1, .inl (E.2 0, 40, .inl s_noteDay)), (a2, .inl (E.2 0, 40, .inl s_noteMinute))] sz 0 0 (fun x (_ : Unit) => x = r) (fun _ => [(a0, .inr (12, [w0_0, w0_1, w0_2, w0_3, w0_4, w0_5, w0_6, w0_7, w0_8, w0_9, w0_10, w0_11, w0_12, w0_13, w0_14, w0_15, w0_16, w0_17, w0_18, w0_19, w0_20, w0_21, w0_22, w0_23, w0_24, w0_25, w0_26, w0_27, w0_28, w0_29, w0_30, w0_31, w0_32, w0_33, w0_34, w0_35, w0_36, w0_37, w0_38, w0_39, w0_40, w0_41, w0_42, w0_43, w0_44, w0_45, w0_46, w0_47, w0_48, w0_49, w0_50, w0_51, w0_52, w0_53, w0_54, w0_55, .ref a1, .ref a2, w0_58, w0_59, w0_60, w0_61, w0_62, w0_63, w0_64, w0_65, w0_66])), (a1, .inl (E.2 0, 40, .inl s_noteDay)), (a2, .inl (E.2 0, 40, .inl s_noteMinute))]) := by
  refine kmeti rfl (Nat.le_of_ble_eq_true rfl) ?_
  intro p e s m args below meth c ls A Q X hV hret hl
  have X : kC p s m c cX12_minuteBy 3 RX12 args E A := X
  have hx := X.1
  have hb := X.2.1
  have hl : lv_has ls 3 [(0, .ref a0), (1, .int p1), (2, .int p2)] := hl
  rw [f_X12_minuteBy] at h
  refine lv_iload_n hx hb dX12_minuteBy_0 rfl (lv_at hl 2 rfl) ?_
  refine lv_if_eq (tgt := 22) hx hb dX12_minuteBy_1 (by decide) (fun c1 => ?_) (fun c1 => ?_)
  · have h2 := itS c1 h
    clear h c1
    refine lv_aload_n hx hb dX12_minuteBy_22 rfl (lv_at hl 0 rfl) ?_
    refine kget X hV (ci := 12) inlX12 rfl 0 rfl 57 (by decide) mw_169 rfl dX12_minuteBy_23 ?_
    refine lv_iload_n hx hb dX12_minuteBy_26 rfl (lv_at hl 1 rfl) ?_
    obtain ⟨hi5, v27_4, e6, h7⟩ := rdI_s h2
    clear h2
    refine kiald X hV 2 rfl hi5 e6 dX12_minuteBy_27 ?_
    clear hi5 e6
    have q8 := tup1_s h7
    clear h7
    exact hret _ () _ _ _ _ q8 rfl hV dX12_minuteBy_28
  · have h3 := ieS c1 h
    clear h c1
    refine lv_aload_n hx hb dX12_minuteBy_4 rfl (lv_at hl 0 rfl) ?_
    refine kget X hV (ci := 12) inlX12 rfl 0 rfl 56 (by decide) mw_168 rfl dX12_minuteBy_5 ?_
    refine lv_iload_n hx hb dX12_minuteBy_8 rfl (lv_at hl 1 rfl) ?_
    obtain ⟨hi10, v9_9, e11, h12⟩ := rdI_s h3
    clear h3
    refine kiald X hV 1 rfl hi10 e11 dX12_minuteBy_9 ?_
    clear hi10 e11
    refine lv_aload_n hx hb dX12_minuteBy_10 rfl (lv_at hl 0 rfl) ?_
    refine kget X hV (ci := 12) inlX12 rfl 0 rfl 57 (by decide) mw_169 rfl dX12_minuteBy_11 ?_
    refine lv_iload_n hx hb dX12_minuteBy_14 rfl (lv_at hl 1 rfl) ?_
    obtain ⟨hi14, v15_13, e15, h16⟩ := rdI_s h12
    clear h12
    refine kiald X hV 2 rfl hi14 e15 dX12_minuteBy_15 ?_
    clear hi14 e15
    obtain ⟨r16_17, hc18, h19⟩ := cb1_s h16
    clear h16
    refine kgoiE (krunS (rest := []) X hV [] (c_X12_starAt l E _ v9_9 v15_13 r16_17 hc18) mw_636 kb_X12_starAt (by decide) rfl rfl hl.1 rfl (Nat.le_of_ble_eq_true rfl) dX12_minuteBy_16 (by decide)) X hV [] [0, 1, 2] rfl rfl rfl (by decide) (fun u H locs hV20 => ?_)
    have hV20 : kV E A s.heap H locs [(a0, .inr (12, [w0_0, w0_1, w0_2, w0_3, w0_4, w0_5, w0_6, w0_7, w0_8, w0_9, w0_10, w0_11, w0_12, w0_13, w0_14, w0_15, w0_16, w0_17, w0_18, w0_19, w0_20, w0_21, w0_22, w0_23, w0_24, w0_25, w0_26, w0_27, w0_28, w0_29, w0_30, w0_31, w0_32, w0_33, w0_34, w0_35, w0_36, w0_37, w0_38, w0_39, w0_40, w0_41, w0_42, w0_43, w0_44, w0_45, w0_46, w0_47, w0_48, w0_49, w0_50, w0_51, w0_52, w0_53, w0_54, w0_55, .ref a1, .ref a2, w0_58, w0_59, w0_60, w0_61, w0_62, w0_63, w0_64, w0_65, w0_66])), (a1, .inl (E.2 0, 40, .inl s_noteDay)), (a2, .inl (E.2 0, 40, .inl s_noteMinute))] := hV20.sub [0, 1, 2] rfl rfl
    clear hV
    refine lv_goto (tgt := 28) hx hb dX12_minuteBy_19 (by decide) ?_
    have q22 := tup1_s h19
    clear h19
    exact hret _ () _ _ _ _ q22 rfl hV20 dX12_minuteBy_28
abbrev r_X12_onArc : Room := { frames := 2, cells := 0, slots := 0, locals := 43 }
set_option maxHeartbeats 4000000 in
set_option maxRecDepth 100000 in
theorem c_X12_onArc (l : Launch) (E : kE) (sz : Nat) (a0 a1 a2 a3 : Nat) (w0_0 w0_1 w0_2 w0_3 w0_5 w0_6 w0_7 w0_8 w0_9 w0_10 w0_11 w0_12 w0_13 w0_14 w0_15 w0_16 w0_17 w0_18 w0_19 w0_20 w0_21 w0_22 w0_23 w0_24 w0_25 w0_26 w0_27 w0_28 w0_29 w0_30 w0_31 w0_32 w0_33 w0_34 w0_35 w0_36 w0_37 w0_38 w0_39 w0_40 w0_41 w0_42 w0_43 w0_44 w0_45 w0_46 w0_47 w0_48 w0_49 w0_50 w0_51 w0_52 w0_53 w0_54 w0_55 w0_59 w0_60 w0_61 w0_62 w0_63 w0_64 w0_65 w0_66 : Value) (s_notes : Int32) (s_noteDay : Nat → Int32) (s_noteMinute : Nat → Int32) (s_noteShape : Nat → Int32) (p1 : Int32) (p2 : Int32) (p3 : Int32) (p4 : Int32) (p5 : Int32) (r : Int32) (h : f_X12_onArc s_notes s_noteDay s_noteMinute s_noteShape p1 p2 p3 p4 p5 = some (r)) : kMi l yX12_onArc cX12_onArc 8 (some .int) r_X12_onArc [.ref a0, .int p1, .int p2, .int p3, .int p4, .int p5] E [(a0, .inr (12, [w0_0, w0_1, w0_2, w0_3, .int s_notes, w0_5, w0_6, w0_7, w0_8, w0_9, w0_10, w0_11, w0_12, w0_13, w0_14, w0_15, w0_16, w0_17, w0_18, w0_19, w0_20, w0_21, w0_22, w0_23, w0_24, w0_25, w0_26, w0_27, w0_28, w0_29, w0_30, w0_31, w0_32, w0_33, w0_34, w0_35, w0_36, w0_37, w0_38, w0_39, w0_40, w0_41, w0_42, w0_43, w0_44, w0_45, w0_46, w0_47, w0_48, w0_49, w0_50, w0_51, w0_52, w0_53, w0_54, w0_55, .ref a1, .ref a2, .ref a3, w0_59, w0_60, w0_61, w0_62, w0_63, w0_64, w0_65, w0_66])), (a1, .inl (E.2 0, 40, .inl s_noteDay)), (a2, .inl (E.2 0, 40, .inl s_noteMinute)), (a3, .inl (E.2 0, 40, .inl s_noteShape))] sz 0 0 (fun x (_ : Unit) => x = r) (fun _ => [(a0, .inr (12, [w0_0, w0_1, w0_2, w0_3, .int s_notes, w0_5, w0_6, w0_7, w0_8, w0_9, w0_10, w0_11, w0_12, w0_13, w0_14, w0_15, w0_16, w0_17, w0_18, w0_19, w0_20, w0_21, w0_22, w0_23, w0_24, w0_25, w0_26, w0_27, w0_28, w0_29, w0_30, w0_31, w0_32, w0_33, w0_34, w0_35, w0_36, w0_37, w0_38, w0_39, w0_40, w0_41, w0_42, w0_43, w0_44, w0_45, w0_46, w0_47, w0_48, w0_49, w0_50, w0_51, w0_52, w0_53, w0_54, w0_55, .ref a1, .ref a2, .ref a3, w0_59, w0_60, w0_61, w0_62, w0_63, w0_64, w0_65, w0_66])), (a1, .inl (E.2 0, 40, .inl s_noteDay)), (a2, .inl (E.2 0, 40, .inl s_noteMinute)), (a3, .inl (E.2 0, 40, .inl s_noteShape))]) := by
  refine kmeti rfl (Nat.le_of_ble_eq_true rfl) ?_
  intro p e s m args below meth c ls A Q X hV hret hl
  have X : kC p s m c cX12_onArc 8 RX12 args E A := X
  have hx := X.1
  have hb := X.2.1
  have hl : lv_has ls 8 [(0, .ref a0), (1, .int p1), (2, .int p2), (3, .int p3), (4, .int p4), (5, .int p5)] := hl
  rw [f_X12_onArc] at h
  refine lv_iconst (v := 0) hx hb dX12_onArc_0 (by decide) ?_
  refine lv_istore (lv' := [(6, .int 0), (0, .ref a0), (1, .int p1), (2, .int p2), (3, .int p3), (4, .int p4), (5, .int p5)]) hx hb dX12_onArc_1 hl (by decide) rfl (fun ls hl1 => ?_)
  clear hl
  refine lv_iconst (v := 0) hx hb dX12_onArc_3 (by decide) ?_
  refine lv_istore (lv' := [(7, .int 0), (6, .int 0), (0, .ref a0), (1, .int p1), (2, .int p2), (3, .int p3), (4, .int p4), (5, .int p5)]) hx hb dX12_onArc_4 hl1 (by decide) rfl (fun ls hl2 => ?_)
  clear hl1
  have L6 : ∀ (n6 : Nat) (x6_3 : Int32) (x7_4 : Int32) (H : Heap) (locs : List Loc) (ls : Array Slot), (f_X12_onArc_L6 s_notes s_noteDay s_noteMinute s_noteShape p1 p2 p3 p4 p5  n6) x6_3 x7_4 = some (r) → kV E A s.heap H locs [(a0, .inr (12, [w0_0, w0_1, w0_2, w0_3, .int s_notes, w0_5, w0_6, w0_7, w0_8, w0_9, w0_10, w0_11, w0_12, w0_13, w0_14, w0_15, w0_16, w0_17, w0_18, w0_19, w0_20, w0_21, w0_22, w0_23, w0_24, w0_25, w0_26, w0_27, w0_28, w0_29, w0_30, w0_31, w0_32, w0_33, w0_34, w0_35, w0_36, w0_37, w0_38, w0_39, w0_40, w0_41, w0_42, w0_43, w0_44, w0_45, w0_46, w0_47, w0_48, w0_49, w0_50, w0_51, w0_52, w0_53, w0_54, w0_55, .ref a1, .ref a2, .ref a3, w0_59, w0_60, w0_61, w0_62, w0_63, w0_64, w0_65, w0_66])), (a1, .inl (E.2 0, 40, .inl s_noteDay)), (a2, .inl (E.2 0, 40, .inl s_noteMinute)), (a3, .inl (E.2 0, 40, .inl s_noteShape))] → lv_has ls 8 [(0, .ref a0), (1, .int p1), (2, .int p2), (3, .int p3), (4, .int p4), (5, .int p5), (6, .int x6_3), (7, .int x7_4)] → W p l e r_X12_onArc s m args below meth c H locs 0 0 Q (F0 m 6 ls []) := by
    intro n6
    induction n6 with
    | zero =>
      intro x6_3 x7_4 H locs ls hB6 hVB6 hlB6
      rw [f_X12_onArc_L6] at hB6
      exact nomatch hB6
    | succ n6 ih6 =>
      intro x6_3 x7_4 H locs ls hB6 hVB6 hlB6
      rw [f_X12_onArc_L6] at hB6
      refine lv_iload hx hb dX12_onArc_6 (lv_at hlB6 7 rfl) ?_
      refine lv_aload_n hx hb dX12_onArc_8 rfl (lv_at hlB6 0 rfl) ?_
      refine kget X hVB6 (ci := 12) inlX12 rfl 0 rfl 4 (by decide) mw_899 rfl dX12_onArc_9 ?_
      refine lv_icmp_ge (tgt := 76) hx hb dX12_onArc_12 (by decide) (fun c5 => ?_) (fun c5 => ?_)
      · have h6 := itS c5 hB6
        clear hB6 c5
        refine lv_iload hx hb dX12_onArc_76 (lv_at hlB6 6 rfl) ?_
        have q8 := tup1_s h6
        clear h6
        exact hret _ () _ _ _ _ q8 rfl hVB6 dX12_onArc_78
      · have h7 := ieS c5 hB6
        clear hB6 c5
        refine lv_aload_n hx hb dX12_onArc_15 rfl (lv_at hlB6 0 rfl) ?_
        refine kget X hVB6 (ci := 12) inlX12 rfl 0 rfl 58 (by decide) mw_170 rfl dX12_onArc_16 ?_
        refine lv_iload hx hb dX12_onArc_19 (lv_at hlB6 7 rfl) ?_
        obtain ⟨hi10, v21_9, e11, h12⟩ := rdI_s h7
        clear h7
        refine kiald X hVB6 3 rfl hi10 e11 dX12_onArc_21 ?_
        clear hi10 e11
        refine lv_iload_n hx hb dX12_onArc_22 rfl (lv_at hlB6 1 rfl) ?_
        refine lv_icmp_ne (tgt := 70) hx hb dX12_onArc_23 (by decide) (fun c13 => ?_) (fun c13 => ?_)
        · have h14 := ieS c13 h12
          clear h12 c13
          obtain ⟨v70_16, e17, h18⟩ := nmI_s h14
          clear h14
          refine lv_iinc (v := v70_16) (lv' := [(7, .int v70_16), (0, .ref a0), (1, .int p1), (2, .int p2), (3, .int p3), (4, .int p4), (5, .int p5), (6, .int x6_3)]) hx hb dX12_onArc_70 hlB6 (k := 7) rfl (by rw [e17]; rfl) (by decide) rfl (fun ls hl19 => ?_)
          clear hlB6 e17
          refine lv_goto (tgt := 6) hx hb dX12_onArc_73 (by decide) ?_
          exact ih6 x6_3 v70_16 _ _ _ h18 hVB6 (lv_sub hl19 [1, 2, 3, 4, 5, 6, 7, 0] rfl)
        · have h15 := itS c13 h12
          clear h12 c13
          refine lv_aload_n hx hb dX12_onArc_26 rfl (lv_at hlB6 0 rfl) ?_
          refine kget X hVB6 (ci := 12) inlX12 rfl 0 rfl 56 (by decide) mw_168 rfl dX12_onArc_27 ?_
          refine lv_iload hx hb dX12_onArc_30 (lv_at hlB6 7 rfl) ?_
          obtain ⟨hi21, v32_20, e22, h23⟩ := rdI_s h15
          clear h15
          refine kiald X hVB6 1 rfl hi21 e22 dX12_onArc_32 ?_
          clear hi21 e22
          refine lv_iload_n hx hb dX12_onArc_33 rfl (lv_at hlB6 2 rfl) ?_
          refine lv_icmp_gt (tgt := 70) hx hb dX12_onArc_34 (by decide) (fun c24 => ?_) (fun c24 => ?_)
          · have h25 := itS c24 h23
            clear h23 c24
            obtain ⟨v70_27, e28, h29⟩ := nmI_s h25
            clear h25
            refine lv_iinc (v := v70_27) (lv' := [(7, .int v70_27), (0, .ref a0), (1, .int p1), (2, .int p2), (3, .int p3), (4, .int p4), (5, .int p5), (6, .int x6_3)]) hx hb dX12_onArc_70 hlB6 (k := 7) rfl (by rw [e28]; rfl) (by decide) rfl (fun ls hl30 => ?_)
            clear hlB6 e28
            refine lv_goto (tgt := 6) hx hb dX12_onArc_73 (by decide) ?_
            exact ih6 x6_3 v70_27 _ _ _ h29 hVB6 (lv_sub hl30 [1, 2, 3, 4, 5, 6, 7, 0] rfl)
          · have h26 := ieS c24 h23
            clear h23 c24
            refine lv_iload hx hb dX12_onArc_37 (lv_at hlB6 6 rfl) ?_
            refine lv_aload_n hx hb dX12_onArc_39 rfl (lv_at hlB6 0 rfl) ?_
            refine lv_iload hx hb dX12_onArc_40 (lv_at hlB6 7 rfl) ?_
            refine lv_iload_n hx hb dX12_onArc_42 rfl (lv_at hlB6 3 rfl) ?_
            obtain ⟨r43_31, hc32, h33⟩ := cb1_s h26
            clear h26
            refine kgoiE (krunV (rest := [.int x6_3]) X hVB6 [0, 1, 2] (c_X12_minuteBy l E _ a0 a1 a2 (w0_0) (w0_1) (w0_2) (w0_3) (.int s_notes) (w0_5) (w0_6) (w0_7) (w0_8) (w0_9) (w0_10) (w0_11) (w0_12) (w0_13) (w0_14) (w0_15) (w0_16) (w0_17) (w0_18) (w0_19) (w0_20) (w0_21) (w0_22) (w0_23) (w0_24) (w0_25) (w0_26) (w0_27) (w0_28) (w0_29) (w0_30) (w0_31) (w0_32) (w0_33) (w0_34) (w0_35) (w0_36) (w0_37) (w0_38) (w0_39) (w0_40) (w0_41) (w0_42) (w0_43) (w0_44) (w0_45) (w0_46) (w0_47) (w0_48) (w0_49) (w0_50) (w0_51) (w0_52) (w0_53) (w0_54) (w0_55) (.ref a3) (w0_59) (w0_60) (w0_61) (w0_62) (w0_63) (w0_64) (w0_65) (w0_66) s_noteDay s_noteMinute x7_4 p3 r43_31 hc32) mw_940 kb_X12_minuteBy (ci := 12) rfl rfl (by decide) rfl rfl hlB6.1 rfl (Nat.le_of_ble_eq_true rfl) dX12_onArc_43 (by decide)) X hVB6 [0, 1, 2] [3] rfl rfl rfl (by decide) (fun u H locs hV34 => ?_)
            have hV34 : kV E A s.heap H locs [(a0, .inr (12, [w0_0, w0_1, w0_2, w0_3, .int s_notes, w0_5, w0_6, w0_7, w0_8, w0_9, w0_10, w0_11, w0_12, w0_13, w0_14, w0_15, w0_16, w0_17, w0_18, w0_19, w0_20, w0_21, w0_22, w0_23, w0_24, w0_25, w0_26, w0_27, w0_28, w0_29, w0_30, w0_31, w0_32, w0_33, w0_34, w0_35, w0_36, w0_37, w0_38, w0_39, w0_40, w0_41, w0_42, w0_43, w0_44, w0_45, w0_46, w0_47, w0_48, w0_49, w0_50, w0_51, w0_52, w0_53, w0_54, w0_55, .ref a1, .ref a2, .ref a3, w0_59, w0_60, w0_61, w0_62, w0_63, w0_64, w0_65, w0_66])), (a1, .inl (E.2 0, 40, .inl s_noteDay)), (a2, .inl (E.2 0, 40, .inl s_noteMinute)), (a3, .inl (E.2 0, 40, .inl s_noteShape))] := hV34.sub [1, 2, 3, 0] rfl rfl
            clear hVB6
            refine lv_iload hx hb dX12_onArc_46 (lv_at hlB6 4 rfl) ?_
            refine lv_isub hx hb dX12_onArc_48 ?_
            refine lv_sipush (v := 1440) hx hb dX12_onArc_49 (by decide) ?_
            refine lv_iadd hx hb dX12_onArc_52 ?_
            refine lv_sipush (v := 1440) hx hb dX12_onArc_53 (by decide) ?_
            refine lv_irem hx hb dX12_onArc_56 (by decide) ?_
            refine lv_iload hx hb dX12_onArc_57 (lv_at hlB6 5 rfl) ?_
            refine lv_icmp_gt (tgt := 66) hx hb dX12_onArc_59 (by decide) (fun c36 => ?_) (fun c36 => ?_)
            · have h37 := itS c36 h33
              clear h33 c36
              refine lv_iconst (v := 0) hx hb dX12_onArc_66 (by decide) ?_
              refine lv_iadd hx hb dX12_onArc_67 ?_
              obtain ⟨v68_39, e40, h41⟩ := nmI_s h37
              clear h37
              refine ktopi e40 ?_
              clear e40
              refine lv_istore (lv' := [(6, .int v68_39), (0, .ref a0), (1, .int p1), (2, .int p2), (3, .int p3), (4, .int p4), (5, .int p5), (7, .int x7_4)]) hx hb dX12_onArc_68 hlB6 (by decide) rfl (fun ls hl42 => ?_)
              clear hlB6
              obtain ⟨v70_43, e44, h45⟩ := nmI_s h41
              clear h41
              refine lv_iinc (v := v70_43) (lv' := [(7, .int v70_43), (6, .int v68_39), (0, .ref a0), (1, .int p1), (2, .int p2), (3, .int p3), (4, .int p4), (5, .int p5)]) hx hb dX12_onArc_70 hl42 (k := 7) rfl (by rw [e44]; rfl) (by decide) rfl (fun ls hl46 => ?_)
              clear hl42 e44
              refine lv_goto (tgt := 6) hx hb dX12_onArc_73 (by decide) ?_
              exact ih6 v68_39 v70_43 _ _ _ h45 hV34 (lv_sub hl46 [2, 3, 4, 5, 6, 7, 1, 0] rfl)
            · have h38 := ieS c36 h33
              clear h33 c36
              refine lv_iconst (v := 1) hx hb dX12_onArc_62 (by decide) ?_
              refine lv_goto (tgt := 67) hx hb dX12_onArc_63 (by decide) ?_
              refine lv_iadd hx hb dX12_onArc_67 ?_
              obtain ⟨v68_47, e48, h49⟩ := nmI_s h38
              clear h38
              refine ktopi e48 ?_
              clear e48
              refine lv_istore (lv' := [(6, .int v68_47), (0, .ref a0), (1, .int p1), (2, .int p2), (3, .int p3), (4, .int p4), (5, .int p5), (7, .int x7_4)]) hx hb dX12_onArc_68 hlB6 (by decide) rfl (fun ls hl50 => ?_)
              clear hlB6
              obtain ⟨v70_51, e52, h53⟩ := nmI_s h49
              clear h49
              refine lv_iinc (v := v70_51) (lv' := [(7, .int v70_51), (6, .int v68_47), (0, .ref a0), (1, .int p1), (2, .int p2), (3, .int p3), (4, .int p4), (5, .int p5)]) hx hb dX12_onArc_70 hl50 (k := 7) rfl (by rw [e52]; rfl) (by decide) rfl (fun ls hl54 => ?_)
              clear hl50 e52
              refine lv_goto (tgt := 6) hx hb dX12_onArc_73 (by decide) ?_
              exact ih6 v68_47 v70_51 _ _ _ h53 hV34 (lv_sub hl54 [2, 3, 4, 5, 6, 7, 1, 0] rfl)
  exact L6 FU 0 0 _ _ _ h hV (lv_sub hl2 [2, 3, 4, 5, 6, 7, 1, 0] rfl)
