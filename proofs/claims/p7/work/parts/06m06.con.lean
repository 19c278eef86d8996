abbrev r_X12_height : Room := { frames := 5, cells := 0, slots := 0, locals := 115 }
set_option maxHeartbeats 4000000 in
set_option maxRecDepth 100000 in
theorem c_X12_height (l : Launch) (E : kE) (sz : Nat) (a0 a1 a2 a3 a4 a5 a6 a7 a8 a9 a10 a11 a12 : Nat) (w0_0 w0_1 w0_4 w0_5 w0_6 w0_13 w0_14 w0_15 w0_16 w0_17 w0_18 w0_19 w0_20 w0_21 w0_22 w0_23 w0_24 w0_25 w0_26 w0_27 w0_46 w0_48 w0_49 w0_50 w0_51 w0_52 w0_53 w0_54 w0_55 w0_56 w0_57 w0_58 w0_59 w0_60 w0_61 w0_62 w0_63 w0_64 w0_65 w0_66 : Value) (s_sources : Int32) (s_seed : Int32) (s_atA : Int32) (s_atB : Int32) (s_atD : Int32) (s_atF : Int32) (s_atG : Int32) (s_atH : Int32) (s_atL : Int32) (s_atM : Int32) (s_atN : Int32) (s_atS : Int32) (s_atT : Int32) (s_atU : Int32) (s_atX : Int32) (s_byStar : Nat → Int32) (s_code : Nat → Int32) (s_codeArg : Nat → Int32) (s_codeFrom : Nat → Int32) (s_codeTo : Nat → Int32) (s_isRefused : Nat → Int32) (s_many : Nat → Int32) (s_minuteOf : Nat → Int32) (s_sumFrom : Nat → Int32) (s_weekdays : Nat → Int32) (s_wide : Nat → Int32) (s_worth : Nat → Int32) (p1 : Int32) (p2 : Int32) (p3 : Int32) (r : Int32) (o_atA : Int32) (o_atB : Int32) (o_atD : Int32) (o_atF : Int32) (o_atG : Int32) (o_atH : Int32) (o_atL : Int32) (o_atM : Int32) (o_atN : Int32) (o_atS : Int32) (o_atT : Int32) (o_atU : Int32) (o_atX : Int32) (o_isRefused : Nat → Int32) (o_worth : Nat → Int32) (h : f_X12_height s_sources s_seed s_atA s_atB s_atD s_atF s_atG s_atH s_atL s_atM s_atN s_atS s_atT s_atU s_atX s_byStar s_code s_codeArg s_codeFrom s_codeTo s_isRefused s_many s_minuteOf s_sumFrom s_weekdays s_wide s_worth p1 p2 p3 = some (r, o_atA, o_atB, o_atD, o_atF, o_atG, o_atH, o_atL, o_atM, o_atN, o_atS, o_atT, o_atU, o_atX, o_isRefused, o_worth)) : kMi l yX12_height cX12_height 4 (some .int) r_X12_height [.ref a0, .int p1, .int p2, .int p3] E [(a0, .inr (12, [w0_0, w0_1, .int s_sources, .int s_seed, w0_4, w0_5, w0_6, .ref a7, .ref a9, .ref a4, .ref a5, .ref a2, .ref a3, w0_13, w0_14, w0_15, w0_16, w0_17, w0_18, w0_19, w0_20, w0_21, w0_22, w0_23, w0_24, w0_25, w0_26, w0_27, .int s_atA, .int s_atB, .int s_atD, .int s_atF, .int s_atG, .int s_atH, .int s_atL, .int s_atM, .int s_atN, .int s_atS, .int s_atT, .int s_atU, .int s_atX, .ref a12, .ref a6, .ref a1, .ref a8, .ref a11, w0_46, .ref a10, w0_48, w0_49, w0_50, w0_51, w0_52, w0_53, w0_54, w0_55, w0_56, w0_57, w0_58, w0_59, w0_60, w0_61, w0_62, w0_63, w0_64, w0_65, w0_66])), (a1, .inl (E.2 2, 10, .inl s_byStar)), (a2, .inl (E.2 0, 2400, .inl s_code)), (a3, .inl (E.2 0, 2400, .inl s_codeArg)), (a4, .inl (E.2 0, 240, .inl s_codeFrom)), (a5, .inl (E.2 0, 240, .inl s_codeTo)), (a6, .inl (E.2 2, 200, .inl s_isRefused)), (a7, .inl (E.2 0, 20, .inl s_many)), (a8, .inl (E.2 0, 10, .inl s_minuteOf)), (a9, .inl (E.2 0, 240, .inl s_sumFrom)), (a10, .inl (E.2 0, 10, .inl s_weekdays)), (a11, .inl (E.2 0, 10, .inl s_wide)), (a12, .inl (E.2 0, 200, .inl s_worth))] sz 0 0 (fun x (_ : Unit) => x = r) (fun _ => [(a0, .inr (12, [w0_0, w0_1, .int s_sources, .int s_seed, w0_4, w0_5, w0_6, .ref a7, .ref a9, .ref a4, .ref a5, .ref a2, .ref a3, w0_13, w0_14, w0_15, w0_16, w0_17, w0_18, w0_19, w0_20, w0_21, w0_22, w0_23, w0_24, w0_25, w0_26, w0_27, .int o_atA, .int o_atB, .int o_atD, .int o_atF, .int o_atG, .int o_atH, .int o_atL, .int o_atM, .int o_atN, .int o_atS, .int o_atT, .int o_atU, .int o_atX, .ref a12, .ref a6, .ref a1, .ref a8, .ref a11, w0_46, .ref a10, w0_48, w0_49, w0_50, w0_51, w0_52, w0_53, w0_54, w0_55, w0_56, w0_57, w0_58, w0_59, w0_60, w0_61, w0_62, w0_63, w0_64, w0_65, w0_66])), (a1, .inl (E.2 2, 10, .inl s_byStar)), (a2, .inl (E.2 0, 2400, .inl s_code)), (a3, .inl (E.2 0, 2400, .inl s_codeArg)), (a4, .inl (E.2 0, 240, .inl s_codeFrom)), (a5, .inl (E.2 0, 240, .inl s_codeTo)), (a6, .inl (E.2 2, 200, .inl o_isRefused)), (a7, .inl (E.2 0, 20, .inl s_many)), (a8, .inl (E.2 0, 10, .inl s_minuteOf)), (a9, .inl (E.2 0, 240, .inl s_sumFrom)), (a10, .inl (E.2 0, 10, .inl s_weekdays)), (a11, .inl (E.2 0, 10, .inl s_wide)), (a12, .inl (E.2 0, 200, .inl o_worth))]) := by
  refine kmeti rfl (Nat.le_of_ble_eq_true rfl) ?_
  intro p e s m args below meth c ls A Q X hV hret hl
  have X : kC p s m c cX12_height 4 RX12 args E A := X
  have hx := X.1
  have hb := X.2.1
  have hl : lv_has ls 4 [(0, .ref a0), (1, .int p1), (2, .int p2), (3, .int p3)] := hl
  rw [f_X12_height] at h
  refine lv_aload_n hx hb dX12_height_0 rfl (lv_at hl 0 rfl) ?_
  refine lv_iload_n hx hb dX12_height_1 rfl (lv_at hl 1 rfl) ?_
  obtain ⟨r2_1, hc2, h3⟩ := cb1_s h
  clear h
  refine kgoiE (krunV (rest := []) X hV [0] (c_X12_isSource l E _ a0 (w0_0) (w0_1) (.int s_seed) (w0_4) (w0_5) (w0_6) (.ref a7) (.ref a9) (.ref a4) (.ref a5) (.ref a2) (.ref a3) (w0_13) (w0_14) (w0_15) (w0_16) (w0_17) (w0_18) (w0_19) (w0_20) (w0_21) (w0_22) (w0_23) (w0_24) (w0_25) (w0_26) (w0_27) (.int s_atA) (.int s_atB) (.int s_atD) (.int s_atF) (.int s_atG) (.int s_atH) (.int s_atL) (.int s_atM) (.int s_atN) (.int s_atS) (.int s_atT) (.int s_atU) (.int s_atX) (.ref a12) (.ref a6) (.ref a1) (.ref a8) (.ref a11) (w0_46) (.ref a10) (w0_48) (w0_49) (w0_50) (w0_51) (w0_52) (w0_53) (w0_54) (w0_55) (w0_56) (w0_57) (w0_58) (w0_59) (w0_60) (w0_61) (w0_62) (w0_63) (w0_64) (w0_65) (w0_66) s_sources p1 r2_1 hc2) mw_461 kb_X12_isSource (ci := 12) rfl rfl (by decide) rfl rfl hl.1 rfl (Nat.le_of_ble_eq_true rfl) dX12_height_2 (by decide)) X hV [0] [1, 2, 3, 4, 5, 6, 7, 8, 9, 10, 11, 12] rfl rfl rfl (by decide) (fun u H locs hV4 => ?_)
  have hV4 : kV E A s.heap H locs [(a0, .inr (12, [w0_0, w0_1, .int s_sources, .int s_seed, w0_4, w0_5, w0_6, .ref a7, .ref a9, .ref a4, .ref a5, .ref a2, .ref a3, w0_13, w0_14, w0_15, w0_16, w0_17, w0_18, w0_19, w0_20, w0_21, w0_22, w0_23, w0_24, w0_25, w0_26, w0_27, .int s_atA, .int s_atB, .int s_atD, .int s_atF, .int s_atG, .int s_atH, .int s_atL, .int s_atM, .int s_atN, .int s_atS, .int s_atT, .int s_atU, .int s_atX, .ref a12, .ref a6, .ref a1, .ref a8, .ref a11, w0_46, .ref a10, w0_48, w0_49, w0_50, w0_51, w0_52, w0_53, w0_54, w0_55, w0_56, w0_57, w0_58, w0_59, w0_60, w0_61, w0_62, w0_63, w0_64, w0_65, w0_66])), (a1, .inl (E.2 2, 10, .inl s_byStar)), (a2, .inl (E.2 0, 2400, .inl s_code)), (a3, .inl (E.2 0, 2400, .inl s_codeArg)), (a4, .inl (E.2 0, 240, .inl s_codeFrom)), (a5, .inl (E.2 0, 240, .inl s_codeTo)), (a6, .inl (E.2 2, 200, .inl s_isRefused)), (a7, .inl (E.2 0, 20, .inl s_many)), (a8, .inl (E.2 0, 10, .inl s_minuteOf)), (a9, .inl (E.2 0, 240, .inl s_sumFrom)), (a10, .inl (E.2 0, 10, .inl s_weekdays)), (a11, .inl (E.2 0, 10, .inl s_wide)), (a12, .inl (E.2 0, 200, .inl s_worth))] := hV4.sub [12, 0, 1, 2, 3, 4, 5, 6, 7, 8, 9, 10, 11] rfl rfl
  clear hV
  refine lv_if_eq (tgt := 32) hx hb dX12_height_5 (by decide) (fun c6 => ?_) (fun c6 => ?_)
  · have h7 := itS c6 h3
    clear h3 c6
    refine lv_iconst (v := (-1)) hx hb dX12_height_32 (by decide) ?_
    obtain ⟨q9, q10, q11, q12, q13, q14, q15, q16, q17, q18, q19, q20, q21, q22, q23, q24⟩ := tup16_s h7
    clear h7
    exact hret _ () _ _ _ _ q9 rfl (by rw [← q10, ← q11, ← q12, ← q13, ← q14, ← q15, ← q16, ← q17, ← q18, ← q19, ← q20, ← q21, ← q22, ← q23, ← q24]; exact hV4) dX12_height_33
  · have h8 := ieS c6 h3
    clear h3 c6
    refine lv_iload_n hx hb dX12_height_8 rfl (lv_at hl 2 rfl) ?_
    obtain ⟨r9_25, hc26, h27⟩ := cb1_s h8
    clear h8
    refine kgoiE (krunS (rest := []) X hV4 [] (c_X12_isDay l E _ p2 r9_25 hc26) mw_632 kb_X12_isDay (by decide) rfl rfl hl.1 rfl (Nat.le_of_ble_eq_true rfl) dX12_height_9 (by decide)) X hV4 [] [0, 1, 2, 3, 4, 5, 6, 7, 8, 9, 10, 11, 12] rfl rfl rfl (by decide) (fun u H locs hV28 => ?_)
    have hV28 : kV E A s.heap H locs [(a0, .inr (12, [w0_0, w0_1, .int s_sources, .int s_seed, w0_4, w0_5, w0_6, .ref a7, .ref a9, .ref a4, .ref a5, .ref a2, .ref a3, w0_13, w0_14, w0_15, w0_16, w0_17, w0_18, w0_19, w0_20, w0_21, w0_22, w0_23, w0_24, w0_25, w0_26, w0_27, .int s_atA, .int s_atB, .int s_atD, .int s_atF, .int s_atG, .int s_atH, .int s_atL, .int s_atM, .int s_atN, .int s_atS, .int s_atT, .int s_atU, .int s_atX, .ref a12, .ref a6, .ref a1, .ref a8, .ref a11, w0_46, .ref a10, w0_48, w0_49, w0_50, w0_51, w0_52, w0_53, w0_54, w0_55, w0_56, w0_57, w0_58, w0_59, w0_60, w0_61, w0_62, w0_63, w0_64, w0_65, w0_66])), (a1, .inl (E.2 2, 10, .inl s_byStar)), (a2, .inl (E.2 0, 2400, .inl s_code)), (a3, .inl (E.2 0, 2400, .inl s_codeArg)), (a4, .inl (E.2 0, 240, .inl s_codeFrom)), (a5, .inl (E.2 0, 240, .inl s_codeTo)), (a6, .inl (E.2 2, 200, .inl s_isRefused)), (a7, .inl (E.2 0, 20, .inl s_many)), (a8, .inl (E.2 0, 10, .inl s_minuteOf)), (a9, .inl (E.2 0, 240, .inl s_sumFrom)), (a10, .inl (E.2 0, 10, .inl s_weekdays)), (a11, .inl (E.2 0, 10, .inl s_wide)), (a12, .inl (E.2 0, 200, .inl s_worth))] := hV28.sub [0, 1, 2, 3, 4, 5, 6, 7, 8, 9, 10, 11, 12] rfl rfl
    clear hV4
    refine lv_if_eq (tgt := 32) hx hb dX12_height_12 (by decide) (fun c30 => ?_) (fun c30 => ?_)
    · have h31 := itS c30 h27
      clear h27 c30
      refine lv_iconst (v := (-1)) hx hb dX12_height_32 (by decide) ?_
      obtain ⟨q33, q34, q35, q36, q37, q38, q39, q40, q41, q42, q43, q44, q45, q46, q47, q48⟩ := tup16_s h31
      clear h31
      exact hret _ () _ _ _ _ q33 rfl (by rw [← q34, ← q35, ← q36, ← q37, ← q38, ← q39, ← q40, ← q41, ← q42, ← q43, ← q44, ← q45, ← q46, ← q47, ← q48]; exact hV28) dX12_height_33
    · have h32 := ieS c30 h27
      clear h27 c30
      refine lv_iload_n hx hb dX12_height_15 rfl (lv_at hl 3 rfl) ?_
      obtain ⟨r16_49, hc50, h51⟩ := cb1_s h32
      clear h32
      refine kgoiE (krunS (rest := []) X hV28 [] (c_X12_isMinute l E _ p3 r16_49 hc50) mw_220 kb_X12_isMinute (by decide) rfl rfl hl.1 rfl (Nat.le_of_ble_eq_true rfl) dX12_height_16 (by decide)) X hV28 [] [0, 1, 2, 3, 4, 5, 6, 7, 8, 9, 10, 11, 12] rfl rfl rfl (by decide) (fun u H locs hV52 => ?_)
      have hV52 : kV E A s.heap H locs [(a0, .inr (12, [w0_0, w0_1, .int s_sources, .int s_seed, w0_4, w0_5, w0_6, .ref a7, .ref a9, .ref a4, .ref a5, .ref a2, .ref a3, w0_13, w0_14, w0_15, w0_16, w0_17, w0_18, w0_19, w0_20, w0_21, w0_22, w0_23, w0_24, w0_25, w0_26, w0_27, .int s_atA, .int s_atB, .int s_atD, .int s_atF, .int s_atG, .int s_atH, .int s_atL, .int s_atM, .int s_atN, .int s_atS, .int s_atT, .int s_atU, .int s_atX, .ref a12, .ref a6, .ref a1, .ref a8, .ref a11, w0_46, .ref a10, w0_48, w0_49, w0_50, w0_51, w0_52, w0_53, w0_54, w0_55, w0_56, w0_57, w0_58, w0_59, w0_60, w0_61, w0_62, w0_63, w0_64, w0_65, w0_66])), (a1, .inl (E.2 2, 10, .inl s_byStar)), (a2, .inl (E.2 0, 2400, .inl s_code)), (a3, .inl (E.2 0, 2400, .inl s_codeArg)), (a4, .inl (E.2 0, 240, .inl s_codeFrom)), (a5, .inl (E.2 0, 240, .inl s_codeTo)), (a6, .inl (E.2 2, 200, .inl s_isRefused)), (a7, .inl (E.2 0, 20, .inl s_many)), (a8, .inl (E.2 0, 10, .inl s_minuteOf)), (a9, .inl (E.2 0, 240, .inl s_sumFrom)), (a10, .inl (E.2 0, 10, .inl s_weekdays)), (a11, .inl (E.2 0, 10, .inl s_wide)), (a12, .inl (E.2 0, 200, .inl s_worth))] := hV52.sub [0, 1, 2, 3, 4, 5, 6, 7, 8, 9, 10, 11, 12] rfl rfl
      clear hV28
      refine lv_if_eq (tgt := 32) hx hb dX12_height_19 (by decide) (fun c54 => ?_) (fun c54 => ?_)
      · have h55 := itS c54 h51
        clear h51 c54
        refine lv_iconst (v := (-1)) hx hb dX12_height_32 (by decide) ?_
        obtain ⟨q57, q58, q59, q60, q61, q62, q63, q64, q65, q66, q67, q68, q69, q70, q71, q72⟩ := tup16_s h55
        clear h55
        exact hret _ () _ _ _ _ q57 rfl (by rw [← q58, ← q59, ← q60, ← q61, ← q62, ← q63, ← q64, ← q65, ← q66, ← q67, ← q68, ← q69, ← q70, ← q71, ← q72]; exact hV52) dX12_height_33
      · have h56 := ieS c54 h51
        clear h51 c54
        refine lv_aload_n hx hb dX12_height_22 rfl (lv_at hl 0 rfl) ?_
        refine lv_iload_n hx hb dX12_height_23 rfl (lv_at hl 1 rfl) ?_
        refine lv_iload_n hx hb dX12_height_24 rfl (lv_at hl 2 rfl) ?_
        refine lv_iload_n hx hb dX12_height_25 rfl (lv_at hl 3 rfl) ?_
        obtain ⟨r26_73, o_atA26_74, o_atB26_75, o_atD26_76, o_atF26_77, o_atG26_78, o_atH26_79, o_atL26_80, o_atM26_81, o_atN26_82, o_atS26_83, o_atT26_84, o_atU26_85, o_atX26_86, o_isRefused26_87, o_worth26_88, hc89, h90⟩ := cb16_s h56
        clear h56
        refine kgoiE (krunV (rest := []) X hV52 [0, 1, 2, 3, 4, 5, 6, 7, 8, 9, 10, 11, 12] (c_X12_heightOf l E _ a0 a1 a2 a3 a4 a5 a6 a7 a8 a9 a10 a11 a12 (w0_0) (w0_1) (.int s_sources) (w0_4) (w0_5) (w0_6) (w0_13) (w0_14) (w0_15) (w0_16) (w0_17) (w0_18) (w0_19) (w0_20) (w0_21) (w0_22) (w0_23) (w0_24) (w0_25) (w0_26) (w0_27) (w0_46) (w0_48) (w0_49) (w0_50) (w0_51) (w0_52) (w0_53) (w0_54) (w0_55) (w0_56) (w0_57) (w0_58) (w0_59) (w0_60) (w0_61) (w0_62) (w0_63) (w0_64) (w0_65) (w0_66) s_seed s_atA s_atB s_atD s_atF s_atG s_atH s_atL s_atM s_atN s_atS s_atT s_atU s_atX s_byStar s_code s_codeArg s_codeFrom s_codeTo s_isRefused s_many s_minuteOf s_sumFrom s_weekdays s_wide s_worth p1 p2 p3 r26_73 o_atA26_74 o_atB26_75 o_atD26_76 o_atF26_77 o_atG26_78 o_atH26_79 o_atL26_80 o_atM26_81 o_atN26_82 o_atS26_83 o_atT26_84 o_atU26_85 o_atX26_86 o_isRefused26_87 o_worth26_88 hc89) mw_696 kb_X12_heightOf (ci := 12) rfl rfl (by decide) rfl rfl hl.1 rfl (Nat.le_of_ble_eq_true rfl) dX12_height_26 (by decide)) X hV52 [0, 1, 2, 3, 4, 5, 6, 7, 8, 9, 10, 11, 12] [] rfl rfl rfl (by decide) (fun u H locs hV91 => ?_)
        have hV91 : kV E A s.heap H locs [(a0, .inr (12, [w0_0, w0_1, .int s_sources, .int s_seed, w0_4, w0_5, w0_6, .ref a7, .ref a9, .ref a4, .ref a5, .ref a2, .ref a3, w0_13, w0_14, w0_15, w0_16, w0_17, w0_18, w0_19, w0_20, w0_21, w0_22, w0_23, w0_24, w0_25, w0_26, w0_27, .int o_atA26_74, .int o_atB26_75, .int o_atD26_76, .int o_atF26_77, .int o_atG26_78, .int o_atH26_79, .int o_atL26_80, .int o_atM26_81, .int o_atN26_82, .int o_atS26_83, .int o_atT26_84, .int o_atU26_85, .int o_atX26_86, .ref a12, .ref a6, .ref a1, .ref a8, .ref a11, w0_46, .ref a10, w0_48, w0_49, w0_50, w0_51, w0_52, w0_53, w0_54, w0_55, w0_56, w0_57, w0_58, w0_59, w0_60, w0_61, w0_62, w0_63, w0_64, w0_65, w0_66])), (a1, .inl (E.2 2, 10, .inl s_byStar)), (a2, .inl (E.2 0, 2400, .inl s_code)), (a3, .inl (E.2 0, 2400, .inl s_codeArg)), (a4, .inl (E.2 0, 240, .inl s_codeFrom)), (a5, .inl (E.2 0, 240, .inl s_codeTo)), (a6, .inl (E.2 2, 200, .inl o_isRefused26_87)), (a7, .inl (E.2 0, 20, .inl s_many)), (a8, .inl (E.2 0, 10, .inl s_minuteOf)), (a9, .inl (E.2 0, 240, .inl s_sumFrom)), (a10, .inl (E.2 0, 10, .inl s_weekdays)), (a11, .inl (E.2 0, 10, .inl s_wide)), (a12, .inl (E.2 0, 200, .inl o_worth26_88))] := hV91.sub [0, 1, 2, 3, 4, 5, 6, 7, 8, 9, 10, 11, 12] rfl rfl
        clear hV52
        refine lv_goto (tgt := 33) hx hb dX12_height_29 (by decide) ?_
        obtain ⟨q93, q94, q95, q96, q97, q98, q99, q100, q101, q102, q103, q104, q105, q106, q107, q108⟩ := tup16_s h90
        clear h90
        exact hret _ () _ _ _ _ q93 rfl (by rw [← q94, ← q95, ← q96, ← q97, ← q98, ← q99, ← q100, ← q101, ← q102, ← q103, ← q104, ← q105, ← q106, ← q107, ← q108]; exact hV91) dX12_height_33
abbrev r_X12_looks : Room := { frames := 5, cells := 0, slots := 0, locals := 115 }
set_option maxHeartbeats 4000000 in
set_option maxRecDepth 100000 in
theorem c_X12_looks (l : Launch) (E : kE) (sz : Nat) (a0 a1 a2 a3 a4 a5 a6 a7 a8 a9 a10 a11 a12 a13 : Nat) (w0_0 w0_1 w0_4 w0_5 w0_6 w0_13 w0_14 w0_15 w0_16 w0_17 w0_18 w0_19 w0_20 w0_21 w0_22 w0_23 w0_24 w0_25 w0_26 w0_27 w0_50 w0_51 w0_52 w0_53 w0_54 w0_55 w0_56 w0_57 w0_58 w0_59 w0_60 w0_61 w0_62 w0_63 w0_64 w0_65 w0_66 : Value) (s_sources : Int32) (s_seed : Int32) (s_atA : Int32) (s_atB : Int32) (s_atD : Int32) (s_atF : Int32) (s_atG : Int32) (s_atH : Int32) (s_atL : Int32) (s_atM : Int32) (s_atN : Int32) (s_atS : Int32) (s_atT : Int32) (s_atU : Int32) (s_atX : Int32) (s_paperHigh : Int32) (s_paperShape : Int32) (s_byStar : Nat → Int32) (s_code : Nat → Int32) (s_codeArg : Nat → Int32) (s_codeFrom : Nat → Int32) (s_codeTo : Nat → Int32) (s_isRefused : Nat → Int32) (s_many : Nat → Int32) (s_minuteOf : Nat → Int32) (s_shape : Nat → Int32) (s_sumFrom : Nat → Int32) (s_weekdays : Nat → Int32) (s_wide : Nat → Int32) (s_worth : Nat → Int32) (p1 : Int32) (p2 : Int32) (o_atA : Int32) (o_atB : Int32) (o_atD : Int32) (o_atF : Int32) (o_atG : Int32) (o_atH : Int32) (o_atL : Int32) (o_atM : Int32) (o_atN : Int32) (o_atS : Int32) (o_atT : Int32) (o_atU : Int32) (o_atX : Int32) (o_paperHigh : Int32) (o_paperShape : Int32) (o_isRefused : Nat → Int32) (o_worth : Nat → Int32) (h : f_X12_looks s_sources s_seed s_atA s_atB s_atD s_atF s_atG s_atH s_atL s_atM s_atN s_atS s_atT s_atU s_atX s_paperHigh s_paperShape s_byStar s_code s_codeArg s_codeFrom s_codeTo s_isRefused s_many s_minuteOf s_shape s_sumFrom s_weekdays s_wide s_worth p1 p2 = some (o_atA, o_atB, o_atD, o_atF, o_atG, o_atH, o_atL, o_atM, o_atN, o_atS, o_atT, o_atU, o_atX, o_paperHigh, o_paperShape, o_isRefused, o_worth)) : kMv l yX12_looks cX12_looks 6 r_X12_looks [.ref a0, .int p1, .int p2] E [(a0, .inr (12, [w0_0, w0_1, .int s_sources, .int s_seed, w0_4, w0_5, w0_6, .ref a7, .ref a10, .ref a4, .ref a5, .ref a2, .ref a3, w0_13, w0_14, w0_15, w0_16, w0_17, w0_18, w0_19, w0_20, w0_21, w0_22, w0_23, w0_24, w0_25, w0_26, w0_27, .int s_atA, .int s_atB, .int s_atD, .int s_atF, .int s_atG, .int s_atH, .int s_atL, .int s_atM, .int s_atN, .int s_atS, .int s_atT, .int s_atU, .int s_atX, .ref a13, .ref a6, .ref a1, .ref a8, .ref a12, .ref a9, .ref a11, .int s_paperHigh, .int s_paperShape, w0_50, w0_51, w0_52, w0_53, w0_54, w0_55, w0_56, w0_57, w0_58, w0_59, w0_60, w0_61, w0_62, w0_63, w0_64, w0_65, w0_66])), (a1, .inl (E.2 2, 10, .inl s_byStar)), (a2, .inl (E.2 0, 2400, .inl s_code)), (a3, .inl (E.2 0, 2400, .inl s_codeArg)), (a4, .inl (E.2 0, 240, .inl s_codeFrom)), (a5, .inl (E.2 0, 240, .inl s_codeTo)), (a6, .inl (E.2 2, 200, .inl s_isRefused)), (a7, .inl (E.2 0, 20, .inl s_many)), (a8, .inl (E.2 0, 10, .inl s_minuteOf)), (a9, .inl (E.2 0, 10, .inl s_shape)), (a10, .inl (E.2 0, 240, .inl s_sumFrom)), (a11, .inl (E.2 0, 10, .inl s_weekdays)), (a12, .inl (E.2 0, 10, .inl s_wide)), (a13, .inl (E.2 0, 200, .inl s_worth))] sz 0 0 (fun (_ : Unit) => True) (fun _ => [(a0, .inr (12, [w0_0, w0_1, .int s_sources, .int s_seed, w0_4, w0_5, w0_6, .ref a7, .ref a10, .ref a4, .ref a5, .ref a2, .ref a3, w0_13, w0_14, w0_15, w0_16, w0_17, w0_18, w0_19, w0_20, w0_21, w0_22, w0_23, w0_24, w0_25, w0_26, w0_27, .int o_atA, .int o_atB, .int o_atD, .int o_atF, .int o_atG, .int o_atH, .int o_atL, .int o_atM, .int o_atN, .int o_atS, .int o_atT, .int o_atU, .int o_atX, .ref a13, .ref a6, .ref a1, .ref a8, .ref a12, .ref a9, .ref a11, .int o_paperHigh, .int o_paperShape, w0_50, w0_51, w0_52, w0_53, w0_54, w0_55, w0_56, w0_57, w0_58, w0_59, w0_60, w0_61, w0_62, w0_63, w0_64, w0_65, w0_66])), (a1, .inl (E.2 2, 10, .inl s_byStar)), (a2, .inl (E.2 0, 2400, .inl s_code)), (a3, .inl (E.2 0, 2400, .inl s_codeArg)), (a4, .inl (E.2 0, 240, .inl s_codeFrom)), (a5, .inl (E.2 0, 240, .inl s_codeTo)), (a6, .inl (E.2 2, 200, .inl o_isRefused)), (a7, .inl (E.2 0, 20, .inl s_many)), (a8, .inl (E.2 0, 10, .inl s_minuteOf)), (a9, .inl (E.2 0, 10, .inl s_shape)), (a10, .inl (E.2 0, 240, .inl s_sumFrom)), (a11, .inl (E.2 0, 10, .inl s_weekdays)), (a12, .inl (E.2 0, 10, .inl s_wide)), (a13, .inl (E.2 0, 200, .inl o_worth))]) := by
  refine kmetv rfl (Nat.le_of_ble_eq_true rfl) ?_
  intro p e s m args below meth c ls A Q X hnm hV hret hl
  have X : kC p s m c cX12_looks 6 RX12 args E A := X
  have hx := X.1
  have hb := X.2.1
  have hl : lv_has ls 6 [(0, .ref a0), (1, .int p1), (2, .int p2)] := hl
  rw [f_X12_looks] at h
  refine lv_aload_n hx hb dX12_looks_0 rfl (lv_at hl 0 rfl) ?_
  refine lv_iconst (v := 0) hx hb dX12_looks_1 (by decide) ?_
  refine kput X hV (ci := 12) inlX12 rfl tyX12 tyX12_ok nmX12 0 rfl 48 (by decide) mw_797 rfl rfl rfl (Nat.le_of_ble_eq_true rfl) dX12_looks_2 (fun H locs hV1 => ?_)
  have hV1 : kV E A s.heap H locs [(a0, .inr (12, [w0_0, w0_1, .int s_sources, .int s_seed, w0_4, w0_5, w0_6, .ref a7, .ref a10, .ref a4, .ref a5, .ref a2, .ref a3, w0_13, w0_14, w0_15, w0_16, w0_17, w0_18, w0_19, w0_20, w0_21, w0_22, w0_23, w0_24, w0_25, w0_26, w0_27, .int s_atA, .int s_atB, .int s_atD, .int s_atF, .int s_atG, .int s_atH, .int s_atL, .int s_atM, .int s_atN, .int s_atS, .int s_atT, .int s_atU, .int s_atX, .ref a13, .ref a6, .ref a1, .ref a8, .ref a12, .ref a9, .ref a11, .int 0, .int s_paperShape, w0_50, w0_51, w0_52, w0_53, w0_54, w0_55, w0_56, w0_57, w0_58, w0_59, w0_60, w0_61, w0_62, w0_63, w0_64, w0_65, w0_66])), (a1, .inl (E.2 2, 10, .inl s_byStar)), (a2, .inl (E.2 0, 2400, .inl s_code)), (a3, .inl (E.2 0, 2400, .inl s_codeArg)), (a4, .inl (E.2 0, 240, .inl s_codeFrom)), (a5, .inl (E.2 0, 240, .inl s_codeTo)), (a6, .inl (E.2 2, 200, .inl s_isRefused)), (a7, .inl (E.2 0, 20, .inl s_many)), (a8, .inl (E.2 0, 10, .inl s_minuteOf)), (a9, .inl (E.2 0, 10, .inl s_shape)), (a10, .inl (E.2 0, 240, .inl s_sumFrom)), (a11, .inl (E.2 0, 10, .inl s_weekdays)), (a12, .inl (E.2 0, 10, .inl s_wide)), (a13, .inl (E.2 0, 200, .inl s_worth))] := hV1
  clear hV
  refine lv_aload_n hx hb dX12_looks_5 rfl (lv_at hl 0 rfl) ?_
  refine lv_iconst (v := 4) hx hb dX12_looks_6 (by decide) ?_
  refine kput X hV1 (ci := 12) inlX12 rfl tyX12 tyX12_ok nmX12 0 rfl 49 (by decide) mw_798 rfl rfl rfl (Nat.le_of_ble_eq_true rfl) dX12_looks_7 (fun H locs hV2 => ?_)
  have hV2 : kV E A s.heap H locs [(a0, .inr (12, [w0_0, w0_1, .int s_sources, .int s_seed, w0_4, w0_5, w0_6, .ref a7, .ref a10, .ref a4, .ref a5, .ref a2, .ref a3, w0_13, w0_14, w0_15, w0_16, w0_17, w0_18, w0_19, w0_20, w0_21, w0_22, w0_23, w0_24, w0_25, w0_26, w0_27, .int s_atA, .int s_atB, .int s_atD, .int s_atF, .int s_atG, .int s_atH, .int s_atL, .int s_atM, .int s_atN, .int s_atS, .int s_atT, .int s_atU, .int s_atX, .ref a13, .ref a6, .ref a1, .ref a8, .ref a12, .ref a9, .ref a11, .int 0, .int 4, w0_50, w0_51, w0_52, w0_53, w0_54, w0_55, w0_56, w0_57, w0_58, w0_59, w0_60, w0_61, w0_62, w0_63, w0_64, w0_65, w0_66])), (a1, .inl (E.2 2, 10, .inl s_byStar)), (a2, .inl (E.2 0, 2400, .inl s_code)), (a3, .inl (E.2 0, 2400, .inl s_codeArg)), (a4, .inl (E.2 0, 240, .inl s_codeFrom)), (a5, .inl (E.2 0, 240, .inl s_codeTo)), (a6, .inl (E.2 2, 200, .inl s_isRefused)), (a7, .inl (E.2 0, 20, .inl s_many)), (a8, .inl (E.2 0, 10, .inl s_minuteOf)), (a9, .inl (E.2 0, 10, .inl s_shape)), (a10, .inl (E.2 0, 240, .inl s_sumFrom)), (a11, .inl (E.2 0, 10, .inl s_weekdays)), (a12, .inl (E.2 0, 10, .inl s_wide)), (a13, .inl (E.2 0, 200, .inl s_worth))] := hV2
  clear hV1
  refine lv_iconst (v := 0) hx hb dX12_looks_10 (by decide) ?_
  refine lv_istore_n (lv' := [(3, .int 0), (0, .ref a0), (1, .int p1), (2, .int p2)]) hx hb dX12_looks_11 rfl hl (by decide) rfl (fun ls hl3 => ?_)
  clear hl
  refine lv_iconst (v := 0) hx hb dX12_looks_12 (by decide) ?_
  refine lv_istore (lv' := [(4, .int 0), (3, .int 0), (0, .ref a0), (1, .int p1), (2, .int p2)]) hx hb dX12_looks_13 hl3 (by decide) rfl (fun ls hl4 => ?_)
  clear hl3
  have L15 : ∀ (n15 : Nat) (x3_5 : Int32) (x4_6 : Int32) (atA__7 : Int32) (atB__8 : Int32) (atD__9 : Int32) (atF__10 : Int32) (atG__11 : Int32) (atH__12 : Int32) (atL__13 : Int32) (atM__14 : Int32) (atN__15 : Int32) (atS__16 : Int32) (atT__17 : Int32) (atU__18 : Int32) (atX__19 : Int32) (paperHigh__20 : Int32) (paperShape__21 : Int32) (isRefused__22 : Nat → Int32) (worth__23 : Nat → Int32) (H : Heap) (locs : List Loc) (ls : Array Slot), (f_X12_looks_L15 s_sources s_seed s_byStar s_code s_codeArg s_codeFrom s_codeTo s_many s_minuteOf s_shape s_sumFrom s_weekdays s_wide p1 p2  n15) x3_5 x4_6 atA__7 atB__8 atD__9 atF__10 atG__11 atH__12 atL__13 atM__14 atN__15 atS__16 atT__17 atU__18 atX__19 paperHigh__20 paperShape__21 isRefused__22 worth__23 = some (o_atA, o_atB, o_atD, o_atF, o_atG, o_atH, o_atL, o_atM, o_atN, o_atS, o_atT, o_atU, o_atX, o_paperHigh, o_paperShape, o_isRefused, o_worth) → kV E A s.heap H locs [(a0, .inr (12, [w0_0, w0_1, .int s_sources, .int s_seed, w0_4, w0_5, w0_6, .ref a7, .ref a10, .ref a4, .ref a5, .ref a2, .ref a3, w0_13, w0_14, w0_15, w0_16, w0_17, w0_18, w0_19, w0_20, w0_21, w0_22, w0_23, w0_24, w0_25, w0_26, w0_27, .int atA__7, .int atB__8, .int atD__9, .int atF__10, .int atG__11, .int atH__12, .int atL__13, .int atM__14, .int atN__15, .int atS__16, .int atT__17, .int atU__18, .int atX__19, .ref a13, .ref a6, .ref a1, .ref a8, .ref a12, .ref a9, .ref a11, .int paperHigh__20, .int paperShape__21, w0_50, w0_51, w0_52, w0_53, w0_54, w0_55, w0_56, w0_57, w0_58, w0_59, w0_60, w0_61, w0_62, w0_63, w0_64, w0_65, w0_66])), (a1, .inl (E.2 2, 10, .inl s_byStar)), (a2, .inl (E.2 0, 2400, .inl s_code)), (a3, .inl (E.2 0, 2400, .inl s_codeArg)), (a4, .inl (E.2 0, 240, .inl s_codeFrom)), (a5, .inl (E.2 0, 240, .inl s_codeTo)), (a6, .inl (E.2 2, 200, .inl isRefused__22)), (a7, .inl (E.2 0, 20, .inl s_many)), (a8, .inl (E.2 0, 10, .inl s_minuteOf)), (a9, .inl (E.2 0, 10, .inl s_shape)), (a10, .inl (E.2 0, 240, .inl s_sumFrom)), (a11, .inl (E.2 0, 10, .inl s_weekdays)), (a12, .inl (E.2 0, 10, .inl s_wide)), (a13, .inl (E.2 0, 200, .inl worth__23))] → lv_has ls 6 [(0, .ref a0), (1, .int p1), (2, .int p2), (3, .int x3_5), (4, .int x4_6)] → W p l e r_X12_looks s m args below meth c H locs 0 0 Q (F0 m 15 ls []) := by
    intro n15
    induction n15 with
    | zero =>
      intro x3_5 x4_6 atA__7 atB__8 atD__9 atF__10 atG__11 atH__12 atL__13 atM__14 atN__15 atS__16 atT__17 atU__18 atX__19 paperHigh__20 paperShape__21 isRefused__22 worth__23 H locs ls hB15 hVB15 hlB15
      rw [f_X12_looks_L15] at hB15
      exact nomatch hB15
    | succ n15 ih15 =>
      intro x3_5 x4_6 atA__7 atB__8 atD__9 atF__10 atG__11 atH__12 atL__13 atM__14 atN__15 atS__16 atT__17 atU__18 atX__19 paperHigh__20 paperShape__21 isRefused__22 worth__23 H locs ls hB15 hVB15 hlB15
      rw [f_X12_looks_L15] at hB15
      refine lv_iload hx hb dX12_looks_15 (lv_at hlB15 4 rfl) ?_
      refine lv_aload_n hx hb dX12_looks_17 rfl (lv_at hlB15 0 rfl) ?_
      refine kget X hVB15 (ci := 12) inlX12 rfl 0 rfl 2 (by decide) mw_216 rfl dX12_looks_18 ?_
      refine lv_icmp_ge (tgt := 74) hx hb dX12_looks_21 (by decide) (fun c24 => ?_) (fun c24 => ?_)
      · have h25 := itS c24 hB15
        clear hB15 c24
        obtain ⟨q27, q28, q29, q30, q31, q32, q33, q34, q35, q36, q37, q38, q39, q40, q41, q42, q43⟩ := tup17_s h25
        clear h25
        exact hret () _ _ _ _ trivial (by rw [← q27, ← q28, ← q29, ← q30, ← q31, ← q32, ← q33, ← q34, ← q35, ← q36, ← q37, ← q38, ← q39, ← q40, ← q41, ← q42, ← q43]; exact hVB15) dX12_looks_74
      · have h26 := ieS c24 hB15
        clear hB15 c24
        refine lv_aload_n hx hb dX12_looks_24 rfl (lv_at hlB15 0 rfl) ?_
        refine lv_iload hx hb dX12_looks_25 (lv_at hlB15 4 rfl) ?_
        refine lv_iload_n hx hb dX12_looks_27 rfl (lv_at hlB15 1 rfl) ?_
        refine lv_iload_n hx hb dX12_looks_28 rfl (lv_at hlB15 2 rfl) ?_
        obtain ⟨r29_44, o_atA29_45, o_atB29_46, o_atD29_47, o_atF29_48, o_atG29_49, o_atH29_50, o_atL29_51, o_atM29_52, o_atN29_53, o_atS29_54, o_atT29_55, o_atU29_56, o_atX29_57, o_isRefused29_58, o_worth29_59, hc60, h61⟩ := cb16_s h26
        clear h26
        refine kgoiE (krunV (rest := []) X hVB15 [0, 1, 2, 3, 4, 5, 6, 7, 8, 10, 11, 12, 13] (c_X12_heightOf l E _ a0 a1 a2 a3 a4 a5 a6 a7 a8 a10 a11 a12 a13 (w0_0) (w0_1) (.int s_sources) (w0_4) (w0_5) (w0_6) (w0_13) (w0_14) (w0_15) (w0_16) (w0_17) (w0_18) (w0_19) (w0_20) (w0_21) (w0_22) (w0_23) (w0_24) (w0_25) (w0_26) (w0_27) (.ref a9) (.int paperHigh__20) (.int paperShape__21) (w0_50) (w0_51) (w0_52) (w0_53) (w0_54) (w0_55) (w0_56) (w0_57) (w0_58) (w0_59) (w0_60) (w0_61) (w0_62) (w0_63) (w0_64) (w0_65) (w0_66) s_seed atA__7 atB__8 atD__9 atF__10 atG__11 atH__12 atL__13 atM__14 atN__15 atS__16 atT__17 atU__18 atX__19 s_byStar s_code s_codeArg s_codeFrom s_codeTo isRefused__22 s_many s_minuteOf s_sumFrom s_weekdays s_wide worth__23 x4_6 p1 p2 r29_44 o_atA29_45 o_atB29_46 o_atD29_47 o_atF29_48 o_atG29_49 o_atH29_50 o_atL29_51 o_atM29_52 o_atN29_53 o_atS29_54 o_atT29_55 o_atU29_56 o_atX29_57 o_isRefused29_58 o_worth29_59 hc60) mw_696 kb_X12_heightOf (ci := 12) rfl rfl (by decide) rfl rfl hlB15.1 rfl (Nat.le_of_ble_eq_true rfl) dX12_looks_29 (by decide)) X hVB15 [0, 1, 2, 3, 4, 5, 6, 7, 8, 10, 11, 12, 13] [9] rfl rfl rfl (by decide) (fun u H locs hV62 => ?_)
        have hV62 : kV E A s.heap H locs [(a0, .inr (12, [w0_0, w0_1, .int s_sources, .int s_seed, w0_4, w0_5, w0_6, .ref a7, .ref a10, .ref a4, .ref a5, .ref a2, .ref a3, w0_13, w0_14, w0_15, w0_16, w0_17, w0_18, w0_19, w0_20, w0_21, w0_22, w0_23, w0_24, w0_25, w0_26, w0_27, .int o_atA29_45, .int o_atB29_46, .int o_atD29_47, .int o_atF29_48, .int o_atG29_49, .int o_atH29_50, .int o_atL29_51, .int o_atM29_52, .int o_atN29_53, .int o_atS29_54, .int o_atT29_55, .int o_atU29_56, .int o_atX29_57, .ref a13, .ref a6, .ref a1, .ref a8, .ref a12, .ref a9, .ref a11, .int paperHigh__20, .int paperShape__21, w0_50, w0_51, w0_52, w0_53, w0_54, w0_55, w0_56, w0_57, w0_58, w0_59, w0_60, w0_61, w0_62, w0_63, w0_64, w0_65, w0_66])), (a1, .inl (E.2 2, 10, .inl s_byStar)), (a2, .inl (E.2 0, 2400, .inl s_code)), (a3, .inl (E.2 0, 2400, .inl s_codeArg)), (a4, .inl (E.2 0, 240, .inl s_codeFrom)), (a5, .inl (E.2 0, 240, .inl s_codeTo)), (a6, .inl (E.2 2, 200, .inl o_isRefused29_58)), (a7, .inl (E.2 0, 20, .inl s_many)), (a8, .inl (E.2 0, 10, .inl s_minuteOf)), (a9, .inl (E.2 0, 10, .inl s_shape)), (a10, .inl (E.2 0, 240, .inl s_sumFrom)), (a11, .inl (E.2 0, 10, .inl s_weekdays)), (a12, .inl (E.2 0, 10, .inl s_wide)), (a13, .inl (E.2 0, 200, .inl o_worth29_59))] := hV62.sub [1, 2, 3, 4, 5, 6, 7, 8, 9, 0, 10, 11, 12, 13] rfl rfl
        clear hVB15
        refine lv_istore (lv' := [(5, .int r29_44), (0, .ref a0), (1, .int p1), (2, .int p2), (3, .int x3_5), (4, .int x4_6)]) hx hb dX12_looks_32 hlB15 (by decide) rfl (fun ls hl64 => ?_)
        clear hlB15
        refine lv_aload_n hx hb dX12_looks_34 rfl (lv_at hl64 1 rfl) ?_
        refine lv_dup hx hb dX12_looks_35 rfl ?_
        refine kget X hV62 (ci := 12) inlX12 rfl 0 rfl 48 (by decide) mw_797 rfl dX12_looks_36 ?_
        refine lv_iload hx hb dX12_looks_39 (lv_at hl64 0 rfl) ?_
        refine lv_iadd hx hb dX12_looks_41 ?_
        obtain ⟨v42_65, e66, h67⟩ := nmI_s h61
        clear h61
        refine ktopi e66 ?_
        clear e66
        refine kput X hV62 (ci := 12) inlX12 rfl tyX12 tyX12_ok nmX12 0 rfl 48 (by decide) mw_797 rfl rfl rfl (Nat.le_of_ble_eq_true rfl) dX12_looks_42 (fun H locs hV68 => ?_)
        have hV68 : kV E A s.heap H locs [(a0, .inr (12, [w0_0, w0_1, .int s_sources, .int s_seed, w0_4, w0_5, w0_6, .ref a7, .ref a10, .ref a4, .ref a5, .ref a2, .ref a3, w0_13, w0_14, w0_15, w0_16, w0_17, w0_18, w0_19, w0_20, w0_21, w0_22, w0_23, w0_24, w0_25, w0_26, w0_27, .int o_atA29_45, .int o_atB29_46, .int o_atD29_47, .int o_atF29_48, .int o_atG29_49, .int o_atH29_50, .int o_atL29_51, .int o_atM29_52, .int o_atN29_53, .int o_atS29_54, .int o_atT29_55, .int o_atU29_56, .int o_atX29_57, .ref a13, .ref a6, .ref a1, .ref a8, .ref a12, .ref a9, .ref a11, .int v42_65, .int paperShape__21, w0_50, w0_51, w0_52, w0_53, w0_54, w0_55, w0_56, w0_57, w0_58, w0_59, w0_60, w0_61, w0_62, w0_63, w0_64, w0_65, w0_66])), (a1, .inl (E.2 2, 10, .inl s_byStar)), (a2, .inl (E.2 0, 2400, .inl s_code)), (a3, .inl (E.2 0, 2400, .inl s_codeArg)), (a4, .inl (E.2 0, 240, .inl s_codeFrom)), (a5, .inl (E.2 0, 240, .inl s_codeTo)), (a6, .inl (E.2 2, 200, .inl o_isRefused29_58)), (a7, .inl (E.2 0, 20, .inl s_many)), (a8, .inl (E.2 0, 10, .inl s_minuteOf)), (a9, .inl (E.2 0, 10, .inl s_shape)), (a10, .inl (E.2 0, 240, .inl s_sumFrom)), (a11, .inl (E.2 0, 10, .inl s_weekdays)), (a12, .inl (E.2 0, 10, .inl s_wide)), (a13, .inl (E.2 0, 200, .inl o_worth29_59))] := hV68
        clear hV62
        refine lv_iload hx hb dX12_looks_45 (lv_at hl64 0 rfl) ?_
        refine lv_iload_n hx hb dX12_looks_47 rfl (lv_at hl64 4 rfl) ?_
        refine lv_icmp_gt (tgt := 54) hx hb dX12_looks_48 (by decide) (fun c69 => ?_) (fun c69 => ?_)
        · have h70 := itS c69 h67
          clear h67 c69
          refine lv_iload hx hb dX12_looks_54 (lv_at hl64 0 rfl) ?_
          refine lv_istore_n (lv' := [(3, .int r29_44), (5, .int r29_44), (0, .ref a0), (1, .int p1), (2, .int p2), (4, .int x4_6)]) hx hb dX12_looks_56 rfl hl64 (by decide) rfl (fun ls hl72 => ?_)
          clear hl64
          refine lv_aload_n hx hb dX12_looks_57 rfl (lv_at hl72 2 rfl) ?_
          refine lv_aload_n hx hb dX12_looks_58 rfl (lv_at hl72 2 rfl) ?_
          refine kget X hV68 (ci := 12) inlX12 rfl 0 rfl 46 (by decide) mw_160 rfl dX12_looks_59 ?_
          refine lv_iload hx hb dX12_looks_62 (lv_at hl72 5 rfl) ?_
          obtain ⟨hi74, v64_73, e75, h76⟩ := rdI_s h70
          clear h70
          refine kiald X hV68 9 rfl hi74 e75 dX12_looks_64 ?_
          clear hi74 e75
          refine kput X hV68 (ci := 12) inlX12 rfl tyX12 tyX12_ok nmX12 0 rfl 49 (by decide) mw_798 rfl rfl rfl (Nat.le_of_ble_eq_true rfl) dX12_looks_65 (fun H locs hV77 => ?_)
          have hV77 : kV E A s.heap H locs [(a0, .inr (12, [w0_0, w0_1, .int s_sources, .int s_seed, w0_4, w0_5, w0_6, .ref a7, .ref a10, .ref a4, .ref a5, .ref a2, .ref a3, w0_13, w0_14, w0_15, w0_16, w0_17, w0_18, w0_19, w0_20, w0_21, w0_22, w0_23, w0_24, w0_25, w0_26, w0_27, .int o_atA29_45, .int o_atB29_46, .int o_atD29_47, .int o_atF29_48, .int o_atG29_49, .int o_atH29_50, .int o_atL29_51, .int o_atM29_52, .int o_atN29_53, .int o_atS29_54, .int o_atT29_55, .int o_atU29_56, .int o_atX29_57, .ref a13, .ref a6, .ref a1, .ref a8, .ref a12, .ref a9, .ref a11, .int v42_65, .int v64_73, w0_50, w0_51, w0_52, w0_53, w0_54, w0_55, w0_56, w0_57, w0_58, w0_59, w0_60, w0_61, w0_62, w0_63, w0_64, w0_65, w0_66])), (a1, .inl (E.2 2, 10, .inl s_byStar)), (a2, .inl (E.2 0, 2400, .inl s_code)), (a3, .inl (E.2 0, 2400, .inl s_codeArg)), (a4, .inl (E.2 0, 240, .inl s_codeFrom)), (a5, .inl (E.2 0, 240, .inl s_codeTo)), (a6, .inl (E.2 2, 200, .inl o_isRefused29_58)), (a7, .inl (E.2 0, 20, .inl s_many)), (a8, .inl (E.2 0, 10, .inl s_minuteOf)), (a9, .inl (E.2 0, 10, .inl s_shape)), (a10, .inl (E.2 0, 240, .inl s_sumFrom)), (a11, .inl (E.2 0, 10, .inl s_weekdays)), (a12, .inl (E.2 0, 10, .inl s_wide)), (a13, .inl (E.2 0, 200, .inl o_worth29_59))] := hV77
          clear hV68
          obtain ⟨v68_78, e79, h80⟩ := nmI_s h76
          clear h76
          refine lv_iinc (v := v68_78) (lv' := [(4, .int v68_78), (3, .int r29_44), (5, .int r29_44), (0, .ref a0), (1, .int p1), (2, .int p2)]) hx hb dX12_looks_68 hl72 (k := 5) rfl (by rw [e79]; rfl) (by decide) rfl (fun ls hl81 => ?_)
          clear hl72 e79
          refine lv_goto (tgt := 15) hx hb dX12_looks_71 (by decide) ?_
          exact ih15 r29_44 v68_78 o_atA29_45 o_atB29_46 o_atD29_47 o_atF29_48 o_atG29_49 o_atH29_50 o_atL29_51 o_atM29_52 o_atN29_53 o_atS29_54 o_atT29_55 o_atU29_56 o_atX29_57 v42_65 v64_73 o_isRefused29_58 o_worth29_59 _ _ _ h80 hV77 (lv_sub hl81 [3, 4, 5, 1, 0] rfl)
        · have h71 := ieS c69 h67
          clear h67 c69
          refine lv_goto (tgt := 68) hx hb dX12_looks_51 (by decide) ?_
          obtain ⟨v68_82, e83, h84⟩ := nmI_s h71
          clear h71
          refine lv_iinc (v := v68_82) (lv' := [(4, .int v68_82), (5, .int r29_44), (0, .ref a0), (1, .int p1), (2, .int p2), (3, .int x3_5)]) hx hb dX12_looks_68 hl64 (k := 5) rfl (by rw [e83]; rfl) (by decide) rfl (fun ls hl85 => ?_)
          clear hl64 e83
          refine lv_goto (tgt := 15) hx hb dX12_looks_71 (by decide) ?_
          exact ih15 x3_5 v68_82 o_atA29_45 o_atB29_46 o_atD29_47 o_atF29_48 o_atG29_49 o_atH29_50 o_atL29_51 o_atM29_52 o_atN29_53 o_atS29_54 o_atT29_55 o_atU29_56 o_atX29_57 v42_65 paperShape__21 o_isRefused29_58 o_worth29_59 _ _ _ h84 hV68 (lv_sub hl85 [2, 3, 4, 5, 0] rfl)
  exact L15 FU 0 0 s_atA s_atB s_atD s_atF s_atG s_atH s_atL s_atM s_atN s_atS s_atT s_atU s_atX 0 4 s_isRefused s_worth _ _ _ h hV2 (lv_sub hl4 [2, 3, 4, 1, 0] rfl)
abbrev r_X12_paper : Room := { frames := 6, cells := 0, slots := 0, locals := 140 }
set_option maxHeartbeats 4000000 in
set_option maxRecDepth 100000 in
theorem c_X12_paper (l : Launch) (E : kE) (sz : Nat) (a0 a1 a2 a3 a4 a5 a6 a7 a8 a9 a10 a11 a12 a13 : Nat) (w0_0 w0_1 w0_4 w0_5 w0_6 w0_13 w0_14 w0_15 w0_16 w0_17 w0_18 w0_19 w0_20 w0_21 w0_22 w0_23 w0_24 w0_25 w0_26 w0_27 w0_50 w0_51 w0_52 w0_53 w0_54 w0_55 w0_56 w0_57 w0_58 w0_59 w0_60 w0_61 w0_62 w0_63 w0_64 w0_65 w0_66 : Value) (s_sources : Int32) (s_seed : Int32) (s_atA : Int32) (s_atB : Int32) (s_atD : Int32) (s_atF : Int32) (s_atG : Int32) (s_atH : Int32) (s_atL : Int32) (s_atM : Int32) (s_atN : Int32) (s_atS : Int32) (s_atT : Int32) (s_atU : Int32) (s_atX : Int32) (s_paperHigh : Int32) (s_paperShape : Int32) (s_byStar : Nat → Int32) (s_code : Nat → Int32) (s_codeArg : Nat → Int32) (s_codeFrom : Nat → Int32) (s_codeTo : Nat → Int32) (s_isRefused : Nat → Int32) (s_many : Nat → Int32) (s_minuteOf : Nat → Int32) (s_shape : Nat → Int32) (s_sumFrom : Nat → Int32) (s_weekdays : Nat → Int32) (s_wide : Nat → Int32) (s_worth : Nat → Int32) (p1 : Int32) (p2 : Int32) (p3 : Int32) (r : Int32) (o_atA : Int32) (o_atB : Int32) (o_atD : Int32) (o_atF : Int32) (o_atG : Int32) (o_atH : Int32) (o_atL : Int32) (o_atM : Int32) (o_atN : Int32) (o_atS : Int32) (o_atT : Int32) (o_atU : Int32) (o_atX : Int32) (o_paperHigh : Int32) (o_paperShape : Int32) (o_isRefused : Nat → Int32) (o_worth : Nat → Int32) (h : f_X12_paper s_sources s_seed s_atA s_atB s_atD s_atF s_atG s_atH s_atL s_atM s_atN s_atS s_atT s_atU s_atX s_paperHigh s_paperShape s_byStar s_code s_codeArg s_codeFrom s_codeTo s_isRefused s_many s_minuteOf s_shape s_sumFrom s_weekdays s_wide s_worth p1 p2 p3 = some (r, o_atA, o_atB, o_atD, o_atF, o_atG, o_atH, o_atL, o_atM, o_atN, o_atS, o_atT, o_atU, o_atX, o_paperHigh, o_paperShape, o_isRefused, o_worth)) : kMi l yX12_paper cX12_paper 4 (some .int) r_X12_paper [.ref a0, .int p1, .int p2, .int p3] E [(a0, .inr (12, [w0_0, w0_1, .int s_sources, .int s_seed, w0_4, w0_5, w0_6, .ref a7, .ref a10, .ref a4, .ref a5, .ref a2, .ref a3, w0_13, w0_14, w0_15, w0_16, w0_17, w0_18, w0_19, w0_20, w0_21, w0_22, w0_23, w0_24, w0_25, w0_26, w0_27, .int s_atA, .int s_atB, .int s_atD, .int s_atF, .int s_atG, .int s_atH, .int s_atL, .int s_atM, .int s_atN, .int s_atS, .int s_atT, .int s_atU, .int s_atX, .ref a13, .ref a6, .ref a1, .ref a8, .ref a12, .ref a9, .ref a11, .int s_paperHigh, .int s_paperShape, w0_50, w0_51, w0_52, w0_53, w0_54, w0_55, w0_56, w0_57, w0_58, w0_59, w0_60, w0_61, w0_62, w0_63, w0_64, w0_65, w0_66])), (a1, .inl (E.2 2, 10, .inl s_byStar)), (a2, .inl (E.2 0, 2400, .inl s_code)), (a3, .inl (E.2 0, 2400, .inl s_codeArg)), (a4, .inl (E.2 0, 240, .inl s_codeFrom)), (a5, .inl (E.2 0, 240, .inl s_codeTo)), (a6, .inl (E.2 2, 200, .inl s_isRefused)), (a7, .inl (E.2 0, 20, .inl s_many)), (a8, .inl (E.2 0, 10, .inl s_minuteOf)), (a9, .inl (E.2 0, 10, .inl s_shape)), (a10, .inl (E.2 0, 240, .inl s_sumFrom)), (a11, .inl (E.2 0, 10, .inl s_weekdays)), (a12, .inl (E.2 0, 10, .inl s_wide)), (a13, .inl (E.2 0, 200, .inl s_worth))] sz 0 0 (fun x (_ : Unit) => x = r) (fun _ => [(a0, .inr (12, [w0_0, w0_1, .int s_sources, .int s_seed, w0_4, w0_5, w0_6, .ref a7, .ref a10, .ref a4, .ref a5, .ref a2, .ref a3, w0_13, w0_14, w0_15, w0_16, w0_17, w0_18, w0_19, w0_20, w0_21, w0_22, w0_23, w0_24, w0_25, w0_26, w0_27, .int o_atA, .int o_atB, .int o_atD, .int o_atF, .int o_atG, .int o_atH, .int o_atL, .int o_atM, .int o_atN, .int o_atS, .int o_atT, .int o_atU, .int o_atX, .ref a13, .ref a6, .ref a1, .ref a8, .ref a12, .ref a9, .ref a11, .int o_paperHigh, .int o_paperShape, w0_50, w0_51, w0_52, w0_53, w0_54, w0_55, w0_56, w0_57, w0_58, w0_59, w0_60, w0_61, w0_62, w0_63, w0_64, w0_65, w0_66])), (a1, .inl (E.2 2, 10, .inl s_byStar)), (a2, .inl (E.2 0, 2400, .inl s_code)), (a3, .inl (E.2 0, 2400, .inl s_codeArg)), (a4, .inl (E.2 0, 240, .inl s_codeFrom)), (a5, .inl (E.2 0, 240, .inl s_codeTo)), (a6, .inl (E.2 2, 200, .inl o_isRefused)), (a7, .inl (E.2 0, 20, .inl s_many)), (a8, .inl (E.2 0, 10, .inl s_minuteOf)), (a9, .inl (E.2 0, 10, .inl s_shape)), (a10, .inl (E.2 0, 240, .inl s_sumFrom)), (a11, .inl (E.2 0, 10, .inl s_weekdays)), (a12, .inl (E.2 0, 10, .inl s_wide)), (a13, .inl (E.2 0, 200, .inl o_worth))]) := by
  refine kmeti rfl (Nat.le_of_ble_eq_true rfl) ?_
  intro p e s m args below meth c ls A Q X hV hret hl
  have X : kC p s m c cX12_paper 4 RX12 args E A := X
  have hx := X.1
  have hb := X.2.1
  have hl : lv_has ls 4 [(0, .ref a0), (1, .int p1), (2, .int p2), (3, .int p3)] := hl
  rw [f_X12_paper] at h
  refine lv_iload_n hx hb dX12_paper_0 rfl (lv_at hl 1 rfl) ?_
  obtain ⟨r1_1, hc2, h3⟩ := cb1_s h
  clear h
  refine kgoiE (krunS (rest := []) X hV [] (c_X12_isDay l E _ p1 r1_1 hc2) mw_632 kb_X12_isDay (by decide) rfl rfl hl.1 rfl (Nat.le_of_ble_eq_true rfl) dX12_paper_1 (by decide)) X hV [] [0, 1, 2, 3, 4, 5, 6, 7, 8, 9, 10, 11, 12, 13] rfl rfl rfl (by decide) (fun u H locs hV4 => ?_)
  have hV4 : kV E A s.heap H locs [(a0, .inr (12, [w0_0, w0_1, .int s_sources, .int s_seed, w0_4, w0_5, w0_6, .ref a7, .ref a10, .ref a4, .ref a5, .ref a2, .ref a3, w0_13, w0_14, w0_15, w0_16, w0_17, w0_18, w0_19, w0_20, w0_21, w0_22, w0_23, w0_24, w0_25, w0_26, w0_27, .int s_atA, .int s_atB, .int s_atD, .int s_atF, .int s_atG, .int s_atH, .int s_atL, .int s_atM, .int s_atN, .int s_atS, .int s_atT, .int s_atU, .int s_atX, .ref a13, .ref a6, .ref a1, .ref a8, .ref a12, .ref a9, .ref a11, .int s_paperHigh, .int s_paperShape, w0_50, w0_51, w0_52, w0_53, w0_54, w0_55, w0_56, w0_57, w0_58, w0_59, w0_60, w0_61, w0_62, w0_63, w0_64, w0_65, w0_66])), (a1, .inl (E.2 2, 10, .inl s_byStar)), (a2, .inl (E.2 0, 2400, .inl s_code)), (a3, .inl (E.2 0, 2400, .inl s_codeArg)), (a4, .inl (E.2 0, 240, .inl s_codeFrom)), (a5, .inl (E.2 0, 240, .inl s_codeTo)), (a6, .inl (E.2 2, 200, .inl s_isRefused)), (a7, .inl (E.2 0, 20, .inl s_many)), (a8, .inl (E.2 0, 10, .inl s_minuteOf)), (a9, .inl (E.2 0, 10, .inl s_shape)), (a10, .inl (E.2 0, 240, .inl s_sumFrom)), (a11, .inl (E.2 0, 10, .inl s_weekdays)), (a12, .inl (E.2 0, 10, .inl s_wide)), (a13, .inl (E.2 0, 200, .inl s_worth))] := hV4.sub [0, 1, 2, 3, 4, 5, 6, 7, 8, 9, 10, 11, 12, 13] rfl rfl
  clear hV
  refine lv_if_eq (tgt := 24) hx hb dX12_paper_4 (by decide) (fun c6 => ?_) (fun c6 => ?_)
  · have h7 := itS c6 h3
    clear h3 c6
    refine lv_iconst (v := (-1)) hx hb dX12_paper_24 (by decide) ?_
    obtain ⟨q9, q10, q11, q12, q13, q14, q15, q16, q17, q18, q19, q20, q21, q22, q23, q24, q25, q26⟩ := tup18_s h7
    clear h7
    exact hret _ () _ _ _ _ q9 rfl (by rw [← q10, ← q11, ← q12, ← q13, ← q14, ← q15, ← q16, ← q17, ← q18, ← q19, ← q20, ← q21, ← q22, ← q23, ← q24, ← q25, ← q26]; exact hV4) dX12_paper_25
  · have h8 := ieS c6 h3
    clear h3 c6
    refine lv_iload_n hx hb dX12_paper_7 rfl (lv_at hl 2 rfl) ?_
    obtain ⟨r8_27, hc28, h29⟩ := cb1_s h8
    clear h8
    refine kgoiE (krunS (rest := []) X hV4 [] (c_X12_isMinute l E _ p2 r8_27 hc28) mw_220 kb_X12_isMinute (by decide) rfl rfl hl.1 rfl (Nat.le_of_ble_eq_true rfl) dX12_paper_8 (by decide)) X hV4 [] [0, 1, 2, 3, 4, 5, 6, 7, 8, 9, 10, 11, 12, 13] rfl rfl rfl (by decide) (fun u H locs hV30 => ?_)
    have hV30 : kV E A s.heap H locs [(a0, .inr (12, [w0_0, w0_1, .int s_sources, .int s_seed, w0_4, w0_5, w0_6, .ref a7, .ref a10, .ref a4, .ref a5, .ref a2, .ref a3, w0_13, w0_14, w0_15, w0_16, w0_17, w0_18, w0_19, w0_20, w0_21, w0_22, w0_23, w0_24, w0_25, w0_26, w0_27, .int s_atA, .int s_atB, .int s_atD, .int s_atF, .int s_atG, .int s_atH, .int s_atL, .int s_atM, .int s_atN, .int s_atS, .int s_atT, .int s_atU, .int s_atX, .ref a13, .ref a6, .ref a1, .ref a8, .ref a12, .ref a9, .ref a11, .int s_paperHigh, .int s_paperShape, w0_50, w0_51, w0_52, w0_53, w0_54, w0_55, w0_56, w0_57, w0_58, w0_59, w0_60, w0_61, w0_62, w0_63, w0_64, w0_65, w0_66])), (a1, .inl (E.2 2, 10, .inl s_byStar)), (a2, .inl (E.2 0, 2400, .inl s_code)), (a3, .inl (E.2 0, 2400, .inl s_codeArg)), (a4, .inl (E.2 0, 240, .inl s_codeFrom)), (a5, .inl (E.2 0, 240, .inl s_codeTo)), (a6, .inl (E.2 2, 200, .inl s_isRefused)), (a7, .inl (E.2 0, 20, .inl s_many)), (a8, .inl (E.2 0, 10, .inl s_minuteOf)), (a9, .inl (E.2 0, 10, .inl s_shape)), (a10, .inl (E.2 0, 240, .inl s_sumFrom)), (a11, .inl (E.2 0, 10, .inl s_weekdays)), (a12, .inl (E.2 0, 10, .inl s_wide)), (a13, .inl (E.2 0, 200, .inl s_worth))] := hV30.sub [0, 1, 2, 3, 4, 5, 6, 7, 8, 9, 10, 11, 12, 13] rfl rfl
    clear hV4
    refine lv_if_eq (tgt := 24) hx hb dX12_paper_11 (by decide) (fun c32 => ?_) (fun c32 => ?_)
    · have h33 := itS c32 h29
      clear h29 c32
      refine lv_iconst (v := (-1)) hx hb dX12_paper_24 (by decide) ?_
      obtain ⟨q35, q36, q37, q38, q39, q40, q41, q42, q43, q44, q45, q46, q47, q48, q49, q50, q51, q52⟩ := tup18_s h33
      clear h33
      exact hret _ () _ _ _ _ q35 rfl (by rw [← q36, ← q37, ← q38, ← q39, ← q40, ← q41, ← q42, ← q43, ← q44, ← q45, ← q46, ← q47, ← q48, ← q49, ← q50, ← q51, ← q52]; exact hV30) dX12_paper_25
    · have h34 := ieS c32 h29
      clear h29 c32
      refine lv_iload_n hx hb dX12_paper_14 rfl (lv_at hl 3 rfl) ?_
      refine lv_i2l (v := Int32.toInt64 p3) hx hb dX12_paper_15 rfl ?_
      refine lv_lconst (v := 0) hx hb dX12_paper_16 (by decide) ?_
      refine lv_lconst (v := 1) hx hb dX12_paper_17 (by decide) ?_
      obtain ⟨r18_53, hc54, h55⟩ := cb1_s h34
      clear h34
      refine kgoiE (krunS (rest := []) X hV30 [] (c_X12_lies l E _ (Int32.toInt64 p3) 0 1 r18_53 hc54) mw_224 kb_X12_lies (by decide) rfl rfl hl.1 rfl (Nat.le_of_ble_eq_true rfl) dX12_paper_18 (by decide)) X hV30 [] [0, 1, 2, 3, 4, 5, 6, 7, 8, 9, 10, 11, 12, 13] rfl rfl rfl (by decide) (fun u H locs hV56 => ?_)
      have hV56 : kV E A s.heap H locs [(a0, .inr (12, [w0_0, w0_1, .int s_sources, .int s_seed, w0_4, w0_5, w0_6, .ref a7, .ref a10, .ref a4, .ref a5, .ref a2, .ref a3, w0_13, w0_14, w0_15, w0_16, w0_17, w0_18, w0_19, w0_20, w0_21, w0_22, w0_23, w0_24, w0_25, w0_26, w0_27, .int s_atA, .int s_atB, .int s_atD, .int s_atF, .int s_atG, .int s_atH, .int s_atL, .int s_atM, .int s_atN, .int s_atS, .int s_atT, .int s_atU, .int s_atX, .ref a13, .ref a6, .ref a1, .ref a8, .ref a12, .ref a9, .ref a11, .int s_paperHigh, .int s_paperShape, w0_50, w0_51, w0_52, w0_53, w0_54, w0_55, w0_56, w0_57, w0_58, w0_59, w0_60, w0_61, w0_62, w0_63, w0_64, w0_65, w0_66])), (a1, .inl (E.2 2, 10, .inl s_byStar)), (a2, .inl (E.2 0, 2400, .inl s_code)), (a3, .inl (E.2 0, 2400, .inl s_codeArg)), (a4, .inl (E.2 0, 240, .inl s_codeFrom)), (a5, .inl (E.2 0, 240, .inl s_codeTo)), (a6, .inl (E.2 2, 200, .inl s_isRefused)), (a7, .inl (E.2 0, 20, .inl s_many)), (a8, .inl (E.2 0, 10, .inl s_minuteOf)), (a9, .inl (E.2 0, 10, .inl s_shape)), (a10, .inl (E.2 0, 240, .inl s_sumFrom)), (a11, .inl (E.2 0, 10, .inl s_weekdays)), (a12, .inl (E.2 0, 10, .inl s_wide)), (a13, .inl (E.2 0, 200, .inl s_worth))] := hV56.sub [0, 1, 2, 3, 4, 5, 6, 7, 8, 9, 10, 11, 12, 13] rfl rfl
      clear hV30
      refine lv_if_ne (tgt := 26) hx hb dX12_paper_21 (by decide) (fun c58 => ?_) (fun c58 => ?_)
      · have h59 := ieS c58 h55
        clear h55 c58
        refine lv_aload_n hx hb dX12_paper_26 rfl (lv_at hl 0 rfl) ?_
        refine lv_iload_n hx hb dX12_paper_27 rfl (lv_at hl 1 rfl) ?_
        refine lv_iload_n hx hb dX12_paper_28 rfl (lv_at hl 2 rfl) ?_
        obtain ⟨o_atA29_61, o_atB29_62, o_atD29_63, o_atF29_64, o_atG29_65, o_atH29_66, o_atL29_67, o_atM29_68, o_atN29_69, o_atS29_70, o_atT29_71, o_atU29_72, o_atX29_73, o_paperHigh29_74, o_paperShape29_75, o_isRefused29_76, o_worth29_77, hc78, h79⟩ := cb17_s h59
        clear h59
        refine kgov (krunV (rest := []) X hV56 [0, 1, 2, 3, 4, 5, 6, 7, 8, 9, 10, 11, 12, 13] (c_X12_looks l E _ a0 a1 a2 a3 a4 a5 a6 a7 a8 a9 a10 a11 a12 a13 (w0_0) (w0_1) (w0_4) (w0_5) (w0_6) (w0_13) (w0_14) (w0_15) (w0_16) (w0_17) (w0_18) (w0_19) (w0_20) (w0_21) (w0_22) (w0_23) (w0_24) (w0_25) (w0_26) (w0_27) (w0_50) (w0_51) (w0_52) (w0_53) (w0_54) (w0_55) (w0_56) (w0_57) (w0_58) (w0_59) (w0_60) (w0_61) (w0_62) (w0_63) (w0_64) (w0_65) (w0_66) s_sources s_seed s_atA s_atB s_atD s_atF s_atG s_atH s_atL s_atM s_atN s_atS s_atT s_atU s_atX s_paperHigh s_paperShape s_byStar s_code s_codeArg s_codeFrom s_codeTo s_isRefused s_many s_minuteOf s_shape s_sumFrom s_weekdays s_wide s_worth p1 p2 o_atA29_61 o_atB29_62 o_atD29_63 o_atF29_64 o_atG29_65 o_atH29_66 o_atL29_67 o_atM29_68 o_atN29_69 o_atS29_70 o_atT29_71 o_atU29_72 o_atX29_73 o_paperHigh29_74 o_paperShape29_75 o_isRefused29_76 o_worth29_77 hc78) mw_799 kb_X12_looks (ci := 12) rfl rfl (by decide) rfl rfl hl.1 rfl (Nat.le_of_ble_eq_true rfl) dX12_paper_29 (by decide)) X hV56 [0, 1, 2, 3, 4, 5, 6, 7, 8, 9, 10, 11, 12, 13] [] rfl rfl rfl (by decide) (fun u H locs hp81 hV80 => ?_)
        have hV80 : kV E A s.heap H locs [(a0, .inr (12, [w0_0, w0_1, .int s_sources, .int s_seed, w0_4, w0_5, w0_6, .ref a7, .ref a10, .ref a4, .ref a5, .ref a2, .ref a3, w0_13, w0_14, w0_15, w0_16, w0_17, w0_18, w0_19, w0_20, w0_21, w0_22, w0_23, w0_24, w0_25, w0_26, w0_27, .int o_atA29_61, .int o_atB29_62, .int o_atD29_63, .int o_atF29_64, .int o_atG29_65, .int o_atH29_66, .int o_atL29_67, .int o_atM29_68, .int o_atN29_69, .int o_atS29_70, .int o_atT29_71, .int o_atU29_72, .int o_atX29_73, .ref a13, .ref a6, .ref a1, .ref a8, .ref a12, .ref a9, .ref a11, .int o_paperHigh29_74, .int o_paperShape29_75, w0_50, w0_51, w0_52, w0_53, w0_54, w0_55, w0_56, w0_57, w0_58, w0_59, w0_60, w0_61, w0_62, w0_63, w0_64, w0_65, w0_66])), (a1, .inl (E.2 2, 10, .inl s_byStar)), (a2, .inl (E.2 0, 2400, .inl s_code)), (a3, .inl (E.2 0, 2400, .inl s_codeArg)), (a4, .inl (E.2 0, 240, .inl s_codeFrom)), (a5, .inl (E.2 0, 240, .inl s_codeTo)), (a6, .inl (E.2 2, 200, .inl o_isRefused29_76)), (a7, .inl (E.2 0, 20, .inl s_many)), (a8, .inl (E.2 0, 10, .inl s_minuteOf)), (a9, .inl (E.2 0, 10, .inl s_shape)), (a10, .inl (E.2 0, 240, .inl s_sumFrom)), (a11, .inl (E.2 0, 10, .inl s_weekdays)), (a12, .inl (E.2 0, 10, .inl s_wide)), (a13, .inl (E.2 0, 200, .inl o_worth29_77))] := hV80.sub [0, 1, 2, 3, 4, 5, 6, 7, 8, 9, 10, 11, 12, 13] rfl rfl
        clear hV56
        refine lv_iload_n hx hb dX12_paper_32 rfl (lv_at hl 3 rfl) ?_
        refine lv_if_ne (tgt := 43) hx hb dX12_paper_33 (by decide) (fun c82 => ?_) (fun c82 => ?_)
        · have h83 := ieS c82 h79
          clear h79 c82
          refine lv_aload_n hx hb dX12_paper_43 rfl (lv_at hl 0 rfl) ?_
          refine kget X hV80 (ci := 12) inlX12 rfl 0 rfl 49 (by decide) mw_798 rfl dX12_paper_44 ?_
          obtain ⟨q85, q86, q87, q88, q89, q90, q91, q92, q93, q94, q95, q96, q97, q98, q99, q100, q101, q102⟩ := tup18_s h83
          clear h83
          exact hret _ () _ _ _ _ q85 rfl (by rw [← q86, ← q87, ← q88, ← q89, ← q90, ← q91, ← q92, ← q93, ← q94, ← q95, ← q96, ← q97, ← q98, ← q99, ← q100, ← q101, ← q102]; exact hV80) dX12_paper_47
        · have h84 := itS c82 h79
          clear h79 c82
          refine lv_aload_n hx hb dX12_paper_36 rfl (lv_at hl 0 rfl) ?_
          refine kget X hV80 (ci := 12) inlX12 rfl 0 rfl 48 (by decide) mw_797 rfl dX12_paper_37 ?_
          refine lv_goto (tgt := 47) hx hb dX12_paper_40 (by decide) ?_
          obtain ⟨q103, q104, q105, q106, q107, q108, q109, q110, q111, q112, q113, q114, q115, q116, q117, q118, q119, q120⟩ := tup18_s h84
          clear h84
          exact hret _ () _ _ _ _ q103 rfl (by rw [← q104, ← q105, ← q106, ← q107, ← q108, ← q109, ← q110, ← q111, ← q112, ← q113, ← q114, ← q115, ← q116, ← q117, ← q118, ← q119, ← q120]; exact hV80) dX12_paper_47
      · have h60 := itS c58 h55
        clear h55 c58
        refine lv_iconst (v := (-1)) hx hb dX12_paper_24 (by decide) ?_
        obtain ⟨q121, q122, q123, q124, q125, q126, q127, q128, q129, q130, q131, q132, q133, q134, q135, q136, q137, q138⟩ := tup18_s h60
        clear h60
        exact hret _ () _ _ _ _ q121 rfl (by rw [← q122, ← q123, ← q124, ← q125, ← q126, ← q127, ← q128, ← q129, ← q130, ← q131, ← q132, ← q133, ← q134, ← q135, ← q136, ← q137, ← q138]; exact hV56) dX12_paper_25
abbrev r_X12_lays : Room := { frames := 6, cells := 0, slots := 0, locals := 140 }
set_option maxHeartbeats 4000000 in
set_option maxRecDepth 100000 in
theorem c_X12_lays (l : Launch) (E : kE) (sz : Nat) (a0 a1 a2 a3 a4 a5 a6 a7 a8 a9 a10 a11 a12 a13 a14 a15 : Nat) (w0_0 w0_1 w0_4 w0_5 w0_6 w0_13 w0_14 w0_15 w0_16 w0_17 w0_18 w0_19 w0_20 w0_21 w0_22 w0_23 w0_24 w0_25 w0_26 w0_27 w0_52 w0_53 w0_54 w0_55 w0_56 w0_57 w0_58 w0_59 w0_60 w0_61 w0_62 w0_63 w0_64 w0_65 w0_66 : Value) (s_sources : Int32) (s_seed : Int32) (s_atA : Int32) (s_atB : Int32) (s_atD : Int32) (s_atF : Int32) (s_atG : Int32) (s_atH : Int32) (s_atL : Int32) (s_atM : Int32) (s_atN : Int32) (s_atS : Int32) (s_atT : Int32) (s_atU : Int32) (s_atX : Int32) (s_paperHigh : Int32) (s_paperShape : Int32) (s_byStar : Nat → Int32) (s_code : Nat → Int32) (s_codeArg : Nat → Int32) (s_codeFrom : Nat → Int32) (s_codeTo : Nat → Int32) (s_highAt : Nat → Int32) (s_isRefused : Nat → Int32) (s_many : Nat → Int32) (s_minuteOf : Nat → Int32) (s_shape : Nat → Int32) (s_shapeAt : Nat → Int32) (s_sumFrom : Nat → Int32) (s_weekdays : Nat → Int32) (s_wide : Nat → Int32) (s_worth : Nat → Int32) (p1 : Int32) (o_atA : Int32) (o_atB : Int32) (o_atD : Int32) (o_atF : Int32) (o_atG : Int32) (o_atH : Int32) (o_atL : Int32) (o_atM : Int32) (o_atN : Int32) (o_atS : Int32) (o_atT : Int32) (o_atU : Int32) (o_atX : Int32) (o_paperHigh : Int32) (o_paperShape : Int32) (o_highAt : Nat → Int32) (o_isRefused : Nat → Int32) (o_shapeAt : Nat → Int32) (o_worth : Nat → Int32) (h : f_X12_lays s_sources s_seed s_atA s_atB s_atD s_atF s_atG s_atH s_atL s_atM s_atN s_atS s_atT s_atU s_atX s_paperHigh s_paperShape s_byStar s_code s_codeArg s_codeFrom s_codeTo s_highAt s_isRefused s_many s_minuteOf s_shape s_shapeAt s_sumFrom s_weekdays s_wide s_worth p1 = some (o_atA, o_atB, o_atD, o_atF, o_atG, o_atH, o_atL, o_atM, o_atN, o_atS, o_atT, o_atU, o_atX, o_paperHigh, o_paperShape, o_highAt, o_isRefused, o_shapeAt, o_worth)) : kMv l yX12_lays cX12_lays 3 r_X12_lays [.ref a0, .int p1] E [(a0, .inr (12, [w0_0, w0_1, .int s_sources, .int s_seed, w0_4, w0_5, w0_6, .ref a8, .ref a12, .ref a4, .ref a5, .ref a2, .ref a3, w0_13, w0_14, w0_15, w0_16, w0_17, w0_18, w0_19, w0_20, w0_21, w0_22, w0_23, w0_24, w0_25, w0_26, w0_27, .int s_atA, .int s_atB, .int s_atD, .int s_atF, .int s_atG, .int s_atH, .int s_atL, .int s_atM, .int s_atN, .int s_atS, .int s_atT, .int s_atU, .int s_atX, .ref a15, .ref a7, .ref a1, .ref a9, .ref a14, .ref a10, .ref a13, .int s_paperHigh, .int s_paperShape, .ref a6, .ref a11, w0_52, w0_53, w0_54, w0_55, w0_56, w0_57, w0_58, w0_59, w0_60, w0_61, w0_62, w0_63, w0_64, w0_65, w0_66])), (a1, .inl (E.2 2, 10, .inl s_byStar)), (a2, .inl (E.2 0, 2400, .inl s_code)), (a3, .inl (E.2 0, 2400, .inl s_codeArg)), (a4, .inl (E.2 0, 240, .inl s_codeFrom)), (a5, .inl (E.2 0, 240, .inl s_codeTo)), (a6, .inl (E.2 0, 1440, .inl s_highAt)), (a7, .inl (E.2 2, 200, .inl s_isRefused)), (a8, .inl (E.2 0, 20, .inl s_many)), (a9, .inl (E.2 0, 10, .inl s_minuteOf)), (a10, .inl (E.2 0, 10, .inl s_shape)), (a11, .inl (E.2 0, 1440, .inl s_shapeAt)), (a12, .inl (E.2 0, 240, .inl s_sumFrom)), (a13, .inl (E.2 0, 10, .inl s_weekdays)), (a14, .inl (E.2 0, 10, .inl s_wide)), (a15, .inl (E.2 0, 200, .inl s_worth))] sz 0 0 (fun (_ : Unit) => True) (fun _ => [(a0, .inr (12, [w0_0, w0_1, .int s_sources, .int s_seed, w0_4, w0_5, w0_6, .ref a8, .ref a12, .ref a4, .ref a5, .ref a2, .ref a3, w0_13, w0_14, w0_15, w0_16, w0_17, w0_18, w0_19, w0_20, w0_21, w0_22, w0_23, w0_24, w0_25, w0_26, w0_27, .int o_atA, .int o_atB, .int o_atD, .int o_atF, .int o_atG, .int o_atH, .int o_atL, .int o_atM, .int o_atN, .int o_atS, .int o_atT, .int o_atU, .int o_atX, .ref a15, .ref a7, .ref a1, .ref a9, .ref a14, .ref a10, .ref a13, .int o_paperHigh, .int o_paperShape, .ref a6, .ref a11, w0_52, w0_53, w0_54, w0_55, w0_56, w0_57, w0_58, w0_59, w0_60, w0_61, w0_62, w0_63, w0_64, w0_65, w0_66])), (a1, .inl (E.2 2, 10, .inl s_byStar)), (a2, .inl (E.2 0, 2400, .inl s_code)), (a3, .inl (E.2 0, 2400, .inl s_codeArg)), (a4, .inl (E.2 0, 240, .inl s_codeFrom)), (a5, .inl (E.2 0, 240, .inl s_codeTo)), (a6, .inl (E.2 0, 1440, .inl o_highAt)), (a7, .inl (E.2 2, 200, .inl o_isRefused)), (a8, .inl (E.2 0, 20, .inl s_many)), (a9, .inl (E.2 0, 10, .inl s_minuteOf)), (a10, .inl (E.2 0, 10, .inl s_shape)), (a11, .inl (E.2 0, 1440, .inl o_shapeAt)), (a12, .inl (E.2 0, 240, .inl s_sumFrom)), (a13, .inl (E.2 0, 10, .inl s_weekdays)), (a14, .inl (E.2 0, 10, .inl s_wide)), (a15, .inl (E.2 0, 200, .inl o_worth))]) := by
  refine kmetv rfl (Nat.le_of_ble_eq_true rfl) ?_
  intro p e s m args below meth c ls A Q X hnm hV hret hl
  have X : kC p s m c cX12_lays 3 RX12 args E A := X
  have hx := X.1
  have hb := X.2.1
  have hl : lv_has ls 3 [(0, .ref a0), (1, .int p1)] := hl
  rw [f_X12_lays] at h
  refine lv_iconst (v := 0) hx hb dX12_lays_0 (by decide) ?_
  refine lv_istore_n (lv' := [(2, .int 0), (0, .ref a0), (1, .int p1)]) hx hb dX12_lays_1 rfl hl (by decide) rfl (fun ls hl1 => ?_)
  clear hl
  have L2 : ∀ (n2 : Nat) (x2_2 : Int32) (atA__3 : Int32) (atB__4 : Int32) (atD__5 : Int32) (atF__6 : Int32) (atG__7 : Int32) (atH__8 : Int32) (atL__9 : Int32) (atM__10 : Int32) (atN__11 : Int32) (atS__12 : Int32) (atT__13 : Int32) (atU__14 : Int32) (atX__15 : Int32) (paperHigh__16 : Int32) (paperShape__17 : Int32) (highAt__18 : Nat → Int32) (isRefused__19 : Nat → Int32) (shapeAt__20 : Nat → Int32) (worth__21 : Nat → Int32) (H : Heap) (locs : List Loc) (ls : Array Slot), (f_X12_lays_L2 s_sources s_seed s_byStar s_code s_codeArg s_codeFrom s_codeTo s_many s_minuteOf s_shape s_sumFrom s_weekdays s_wide p1  n2) x2_2 atA__3 atB__4 atD__5 atF__6 atG__7 atH__8 atL__9 atM__10 atN__11 atS__12 atT__13 atU__14 atX__15 paperHigh__16 paperShape__17 highAt__18 isRefused__19 shapeAt__20 worth__21 = some (o_atA, o_atB, o_atD, o_atF, o_atG, o_atH, o_atL, o_atM, o_atN, o_atS, o_atT, o_atU, o_atX, o_paperHigh, o_paperShape, o_highAt, o_isRefused, o_shapeAt, o_worth) → kV E A s.heap H locs [(a0, .inr (12, [w0_0, w0_1, .int s_sources, .int s_seed, w0_4, w0_5, w0_6, .ref a8, .ref a12, .ref a4, .ref a5, .ref a2, .ref a3, w0_13, w0_14, w0_15, w0_16, w0_17, w0_18, w0_19, w0_20, w0_21, w0_22, w0_23, w0_24, w0_25, w0_26, w0_27, .int atA__3, .int atB__4, .int atD__5, .int atF__6, .int atG__7, .int atH__8, .int atL__9, .int atM__10, .int atN__11, .int atS__12, .int atT__13, .int atU__14, .int atX__15, .ref a15, .ref a7, .ref a1, .ref a9, .ref a14, .ref a10, .ref a13, .int paperHigh__16, .int paperShape__17, .ref a6, .ref a11, w0_52, w0_53, w0_54, w0_55, w0_56, w0_57, w0_58, w0_59, w0_60, w0_61, w0_62, w0_63, w0_64, w0_65, w0_66])), (a1, .inl (E.2 2, 10, .inl s_byStar)), (a2, .inl (E.2 0, 2400, .inl s_code)), (a3, .inl (E.2 0, 2400, .inl s_codeArg)), (a4, .inl (E.2 0, 240, .inl s_codeFrom)), (a5, .inl (E.2 0, 240, .inl s_codeTo)), (a6, .inl (E.2 0, 1440, .inl highAt__18)), (a7, .inl (E.2 2, 200, .inl isRefused__19)), (a8, .inl (E.2 0, 20, .inl s_many)), (a9, .inl (E.2 0, 10, .inl s_minuteOf)), (a10, .inl (E.2 0, 10, .inl s_shape)), (a11, .inl (E.2 0, 1440, .inl shapeAt__20)), (a12, .inl (E.2 0, 240, .inl s_sumFrom)), (a13, .inl (E.2 0, 10, .inl s_weekdays)), (a14, .inl (E.2 0, 10, .inl s_wide)), (a15, .inl (E.2 0, 200, .inl worth__21))] → lv_has ls 3 [(0, .ref a0), (1, .int p1), (2, .int x2_2)] → W p l e r_X12_lays s m args below meth c H locs 0 0 Q (F0 m 2 ls []) := by
    intro n2
    induction n2 with
    | zero =>
      intro x2_2 atA__3 atB__4 atD__5 atF__6 atG__7 atH__8 atL__9 atM__10 atN__11 atS__12 atT__13 atU__14 atX__15 paperHigh__16 paperShape__17 highAt__18 isRefused__19 shapeAt__20 worth__21 H locs ls hB2 hVB2 hlB2
      rw [f_X12_lays_L2] at hB2
      exact nomatch hB2
    | succ n2 ih2 =>
      intro x2_2 atA__3 atB__4 atD__5 atF__6 atG__7 atH__8 atL__9 atM__10 atN__11 atS__12 atT__13 atU__14 atX__15 paperHigh__16 paperShape__17 highAt__18 isRefused__19 shapeAt__20 worth__21 H locs ls hB2 hVB2 hlB2
      rw [f_X12_lays_L2] at hB2
      refine lv_iload_n hx hb dX12_lays_2 rfl (lv_at hlB2 2 rfl) ?_
      refine lv_sipush (v := 1440) hx hb dX12_lays_3 (by decide) ?_
      refine lv_icmp_ge (tgt := 41) hx hb dX12_lays_6 (by decide) (fun c22 => ?_) (fun c22 => ?_)
      · have h23 := itS c22 hB2
        clear hB2 c22
        obtain ⟨q25, q26, q27, q28, q29, q30, q31, q32, q33, q34, q35, q36, q37, q38, q39, q40, q41, q42, q43⟩ := tup19_s h23
        clear h23
        exact hret () _ _ _ _ trivial (by rw [← q25, ← q26, ← q27, ← q28, ← q29, ← q30, ← q31, ← q32, ← q33, ← q34, ← q35, ← q36, ← q37, ← q38, ← q39, ← q40, ← q41, ← q42, ← q43]; exact hVB2) dX12_lays_41
      · have h24 := ieS c22 hB2
        clear hB2 c22
        refine lv_aload_n hx hb dX12_lays_9 rfl (lv_at hlB2 0 rfl) ?_
        refine lv_iload_n hx hb dX12_lays_10 rfl (lv_at hlB2 1 rfl) ?_
        refine lv_iload_n hx hb dX12_lays_11 rfl (lv_at hlB2 2 rfl) ?_
        obtain ⟨o_atA12_44, o_atB12_45, o_atD12_46, o_atF12_47, o_atG12_48, o_atH12_49, o_atL12_50, o_atM12_51, o_atN12_52, o_atS12_53, o_atT12_54, o_atU12_55, o_atX12_56, o_paperHigh12_57, o_paperShape12_58, o_isRefused12_59, o_worth12_60, hc61, h62⟩ := cb17_s h24
        clear h24
        refine kgov (krunV (rest := []) X hVB2 [0, 1, 2, 3, 4, 5, 7, 8, 9, 10, 12, 13, 14, 15] (c_X12_looks l E _ a0 a1 a2 a3 a4 a5 a7 a8 a9 a10 a12 a13 a14 a15 (w0_0) (w0_1) (w0_4) (w0_5) (w0_6) (w0_13) (w0_14) (w0_15) (w0_16) (w0_17) (w0_18) (w0_19) (w0_20) (w0_21) (w0_22) (w0_23) (w0_24) (w0_25) (w0_26) (w0_27) (.ref a6) (.ref a11) (w0_52) (w0_53) (w0_54) (w0_55) (w0_56) (w0_57) (w0_58) (w0_59) (w0_60) (w0_61) (w0_62) (w0_63) (w0_64) (w0_65) (w0_66) s_sources s_seed atA__3 atB__4 atD__5 atF__6 atG__7 atH__8 atL__9 atM__10 atN__11 atS__12 atT__13 atU__14 atX__15 paperHigh__16 paperShape__17 s_byStar s_code s_codeArg s_codeFrom s_codeTo isRefused__19 s_many s_minuteOf s_shape s_sumFrom s_weekdays s_wide worth__21 p1 x2_2 o_atA12_44 o_atB12_45 o_atD12_46 o_atF12_47 o_atG12_48 o_atH12_49 o_atL12_50 o_atM12_51 o_atN12_52 o_atS12_53 o_atT12_54 o_atU12_55 o_atX12_56 o_paperHigh12_57 o_paperShape12_58 o_isRefused12_59 o_worth12_60 hc61) mw_799 kb_X12_looks (ci := 12) rfl rfl (by decide) rfl rfl hlB2.1 rfl (Nat.le_of_ble_eq_true rfl) dX12_lays_12 (by decide)) X hVB2 [0, 1, 2, 3, 4, 5, 7, 8, 9, 10, 12, 13, 14, 15] [6, 11] rfl rfl rfl (by decide) (fun u H locs hp64 hV63 => ?_)
        have hV63 : kV E A s.heap H locs [(a0, .inr (12, [w0_0, w0_1, .int s_sources, .int s_seed, w0_4, w0_5, w0_6, .ref a8, .ref a12, .ref a4, .ref a5, .ref a2, .ref a3, w0_13, w0_14, w0_15, w0_16, w0_17, w0_18, w0_19, w0_20, w0_21, w0_22, w0_23, w0_24, w0_25, w0_26, w0_27, .int o_atA12_44, .int o_atB12_45, .int o_atD12_46, .int o_atF12_47, .int o_atG12_48, .int o_atH12_49, .int o_atL12_50, .int o_atM12_51, .int o_atN12_52, .int o_atS12_53, .int o_atT12_54, .int o_atU12_55, .int o_atX12_56, .ref a15, .ref a7, .ref a1, .ref a9, .ref a14, .ref a10, .ref a13, .int o_paperHigh12_57, .int o_paperShape12_58, .ref a6, .ref a11, w0_52, w0_53, w0_54, w0_55, w0_56, w0_57, w0_58, w0_59, w0_60, w0_61, w0_62, w0_63, w0_64, w0_65, w0_66])), (a1, .inl (E.2 2, 10, .inl s_byStar)), (a2, .inl (E.2 0, 2400, .inl s_code)), (a3, .inl (E.2 0, 2400, .inl s_codeArg)), (a4, .inl (E.2 0, 240, .inl s_codeFrom)), (a5, .inl (E.2 0, 240, .inl s_codeTo)), (a6, .inl (E.2 0, 1440, .inl highAt__18)), (a7, .inl (E.2 2, 200, .inl o_isRefused12_59)), (a8, .inl (E.2 0, 20, .inl s_many)), (a9, .inl (E.2 0, 10, .inl s_minuteOf)), (a10, .inl (E.2 0, 10, .inl s_shape)), (a11, .inl (E.2 0, 1440, .inl shapeAt__20)), (a12, .inl (E.2 0, 240, .inl s_sumFrom)), (a13, .inl (E.2 0, 10, .inl s_weekdays)), (a14, .inl (E.2 0, 10, .inl s_wide)), (a15, .inl (E.2 0, 200, .inl o_worth12_60))] := hV63.sub [2, 3, 4, 5, 6, 7, 0, 8, 9, 10, 11, 1, 12, 13, 14, 15] rfl rfl
        clear hVB2
        refine lv_aload_n hx hb dX12_lays_15 rfl (lv_at hlB2 0 rfl) ?_
        refine kget X hV63 (ci := 12) inlX12 rfl 0 rfl 50 (by decide) mw_162 rfl dX12_lays_16 ?_
        refine lv_iload_n hx hb dX12_lays_19 rfl (lv_at hlB2 2 rfl) ?_
        refine lv_aload_n hx hb dX12_lays_20 rfl (lv_at hlB2 0 rfl) ?_
        refine kget X hV63 (ci := 12) inlX12 rfl 0 rfl 48 (by decide) mw_797 rfl dX12_lays_21 ?_
        obtain ⟨hi66, g24_65, e67, h68⟩ := wrI_s h62
        clear h62
        refine kiast X hV63 6 rfl hi66 e67 dX12_lays_24 (fun H locs hV69 => ?_)
        have hV69 : kV E A s.heap H locs [(a0, .inr (12, [w0_0, w0_1, .int s_sources, .int s_seed, w0_4, w0_5, w0_6, .ref a8, .ref a12, .ref a4, .ref a5, .ref a2, .ref a3, w0_13, w0_14, w0_15, w0_16, w0_17, w0_18, w0_19, w0_20, w0_21, w0_22, w0_23, w0_24, w0_25, w0_26, w0_27, .int o_atA12_44, .int o_atB12_45, .int o_atD12_46, .int o_atF12_47, .int o_atG12_48, .int o_atH12_49, .int o_atL12_50, .int o_atM12_51, .int o_atN12_52, .int o_atS12_53, .int o_atT12_54, .int o_atU12_55, .int o_atX12_56, .ref a15, .ref a7, .ref a1, .ref a9, .ref a14, .ref a10, .ref a13, .int o_paperHigh12_57, .int o_paperShape12_58, .ref a6, .ref a11, w0_52, w0_53, w0_54, w0_55, w0_56, w0_57, w0_58, w0_59, w0_60, w0_61, w0_62, w0_63, w0_64, w0_65, w0_66])), (a1, .inl (E.2 2, 10, .inl s_byStar)), (a2, .inl (E.2 0, 2400, .inl s_code)), (a3, .inl (E.2 0, 2400, .inl s_codeArg)), (a4, .inl (E.2 0, 240, .inl s_codeFrom)), (a5, .inl (E.2 0, 240, .inl s_codeTo)), (a6, .inl (E.2 0, 1440, .inl g24_65)), (a7, .inl (E.2 2, 200, .inl o_isRefused12_59)), (a8, .inl (E.2 0, 20, .inl s_many)), (a9, .inl (E.2 0, 10, .inl s_minuteOf)), (a10, .inl (E.2 0, 10, .inl s_shape)), (a11, .inl (E.2 0, 1440, .inl shapeAt__20)), (a12, .inl (E.2 0, 240, .inl s_sumFrom)), (a13, .inl (E.2 0, 10, .inl s_weekdays)), (a14, .inl (E.2 0, 10, .inl s_wide)), (a15, .inl (E.2 0, 200, .inl o_worth12_60))] := hV69
        clear hV63 hi66 e67
        refine lv_aload_n hx hb dX12_lays_25 rfl (lv_at hlB2 0 rfl) ?_
        refine kget X hV69 (ci := 12) inlX12 rfl 0 rfl 51 (by decide) mw_163 rfl dX12_lays_26 ?_
        refine lv_iload_n hx hb dX12_lays_29 rfl (lv_at hlB2 2 rfl) ?_
        refine lv_aload_n hx hb dX12_lays_30 rfl (lv_at hlB2 0 rfl) ?_
        refine kget X hV69 (ci := 12) inlX12 rfl 0 rfl 49 (by decide) mw_798 rfl dX12_lays_31 ?_
        obtain ⟨hi71, g34_70, e72, h73⟩ := wrI_s h68
        clear h68
        refine kiast X hV69 11 rfl hi71 e72 dX12_lays_34 (fun H locs hV74 => ?_)
        have hV74 : kV E A s.heap H locs [(a0, .inr (12, [w0_0, w0_1, .int s_sources, .int s_seed, w0_4, w0_5, w0_6, .ref a8, .ref a12, .ref a4, .ref a5, .ref a2, .ref a3, w0_13, w0_14, w0_15, w0_16, w0_17, w0_18, w0_19, w0_20, w0_21, w0_22, w0_23, w0_24, w0_25, w0_26, w0_27, .int o_atA12_44, .int o_atB12_45, .int o_atD12_46, .int o_atF12_47, .int o_atG12_48, .int o_atH12_49, .int o_atL12_50, .int o_atM12_51, .int o_atN12_52, .int o_atS12_53, .int o_atT12_54, .int o_atU12_55, .int o_atX12_56, .ref a15, .ref a7, .ref a1, .ref a9, .ref a14, .ref a10, .ref a13, .int o_paperHigh12_57, .int o_paperShape12_58, .ref a6, .ref a11, w0_52, w0_53, w0_54, w0_55, w0_56, w0_57, w0_58, w0_59, w0_60, w0_61, w0_62, w0_63, w0_64, w0_65, w0_66])), (a1, .inl (E.2 2, 10, .inl s_byStar)), (a2, .inl (E.2 0, 2400, .inl s_code)), (a3, .inl (E.2 0, 2400, .inl s_codeArg)), (a4, .inl (E.2 0, 240, .inl s_codeFrom)), (a5, .inl (E.2 0, 240, .inl s_codeTo)), (a6, .inl (E.2 0, 1440, .inl g24_65)), (a7, .inl (E.2 2, 200, .inl o_isRefused12_59)), (a8, .inl (E.2 0, 20, .inl s_many)), (a9, .inl (E.2 0, 10, .inl s_minuteOf)), (a10, .inl (E.2 0, 10, .inl s_shape)), (a11, .inl (E.2 0, 1440, .inl g34_70)), (a12, .inl (E.2 0, 240, .inl s_sumFrom)), (a13, .inl (E.2 0, 10, .inl s_weekdays)), (a14, .inl (E.2 0, 10, .inl s_wide)), (a15, .inl (E.2 0, 200, .inl o_worth12_60))] := hV74
        clear hV69 hi71 e72
        obtain ⟨v35_75, e76, h77⟩ := nmI_s h73
        clear h73
        refine lv_iinc (v := v35_75) (lv' := [(2, .int v35_75), (0, .ref a0), (1, .int p1)]) hx hb dX12_lays_35 hlB2 (k := 2) rfl (by rw [e76]; rfl) (by decide) rfl (fun ls hl78 => ?_)
        clear hlB2 e76
        refine lv_goto (tgt := 2) hx hb dX12_lays_38 (by decide) ?_
        exact ih2 v35_75 o_atA12_44 o_atB12_45 o_atD12_46 o_atF12_47 o_atG12_48 o_atH12_49 o_atL12_50 o_atM12_51 o_atN12_52 o_atS12_53 o_atT12_54 o_atU12_55 o_atX12_56 o_paperHigh12_57 o_paperShape12_58 g24_65 o_isRefused12_59 g34_70 o_worth12_60 _ _ _ h77 hV74 (lv_sub hl78 [1, 2, 0] rfl)
  exact L2 FU 0 s_atA s_atB s_atD s_atF s_atG s_atH s_atL s_atM s_atN s_atS s_atT s_atU s_atX s_paperHigh s_paperShape s_highAt s_isRefused s_shapeAt s_worth _ _ _ h hV (lv_sub hl1 [1, 2, 0] rfl)
abbrev r_X12_isMarked : Room := { frames := 4, cells := 0, slots := 0, locals := 90 }
set_option maxHeartbeats 4000000 in
set_option maxRecDepth 100000 in
theorem c_X12_isMarked (l : Launch) (E : kE) (sz : Nat) (a0 a1 a2 a3 a4 a5 a6 a7 a8 a9 : Nat) (w0_0 w0_1 w0_2 w0_3 w0_4 w0_5 w0_6 w0_8 w0_13 w0_14 w0_15 w0_16 w0_17 w0_18 w0_19 w0_20 w0_21 w0_22 w0_23 w0_24 w0_25 w0_26 w0_27 w0_43 w0_44 w0_45 w0_46 w0_47 w0_48 w0_49 w0_52 w0_53 w0_54 w0_55 w0_56 w0_57 w0_58 w0_59 w0_60 w0_61 w0_62 w0_63 w0_64 w0_65 w0_66 : Value) (s_atA : Int32) (s_atB : Int32) (s_atD : Int32) (s_atF : Int32) (s_atG : Int32) (s_atH : Int32) (s_atL : Int32) (s_atM : Int32) (s_atN : Int32) (s_atS : Int32) (s_atT : Int32) (s_atU : Int32) (s_atX : Int32) (s_code : Nat → Int32) (s_codeArg : Nat → Int32) (s_codeFrom : Nat → Int32) (s_codeTo : Nat → Int32) (s_highAt : Nat → Int32) (s_isRefused : Nat → Int32) (s_many : Nat → Int32) (s_shapeAt : Nat → Int32) (s_worth : Nat → Int32) (p1 : Int32) (p2 : Int32) (p3 : Int32) (p4 : Int32) (r : Int32) (o_atA : Int32) (o_atB : Int32) (o_atD : Int32) (o_atF : Int32) (o_atG : Int32) (o_atH : Int32) (o_atL : Int32) (o_atM : Int32) (o_atN : Int32) (o_atS : Int32) (o_atT : Int32) (o_atU : Int32) (o_atX : Int32) (o_isRefused : Nat → Int32) (o_worth : Nat → Int32) (h : f_X12_isMarked s_atA s_atB s_atD s_atF s_atG s_atH s_atL s_atM s_atN s_atS s_atT s_atU s_atX s_code s_codeArg s_codeFrom s_codeTo s_highAt s_isRefused s_many s_shapeAt s_worth p1 p2 p3 p4 = some (r, o_atA, o_atB, o_atD, o_atF, o_atG, o_atH, o_atL, o_atM, o_atN, o_atS, o_atT, o_atU, o_atX, o_isRefused, o_worth)) : kMi l yX12_isMarked cX12_isMarked 6 (some .boolean) r_X12_isMarked [.ref a0, .int p1, .int p2, .int p3, .int p4] E [(a0, .inr (12, [w0_0, w0_1, w0_2, w0_3, w0_4, w0_5, w0_6, .ref a7, w0_8, .ref a3, .ref a4, .ref a1, .ref a2, w0_13, w0_14, w0_15, w0_16, w0_17, w0_18, w0_19, w0_20, w0_21, w0_22, w0_23, w0_24, w0_25, w0_26, w0_27, .int s_atA, .int s_atB, .int s_atD, .int s_atF, .int s_atG, .int s_atH, .int s_atL, .int s_atM, .int s_atN, .int s_atS, .int s_atT, .int s_atU, .int s_atX, .ref a9, .ref a6, w0_43, w0_44, w0_45, w0_46, w0_47, w0_48, w0_49, .ref a5, .ref a8, w0_52, w0_53, w0_54, w0_55, w0_56, w0_57, w0_58, w0_59, w0_60, w0_61, w0_62, w0_63, w0_64, w0_65, w0_66])), (a1, .inl (E.2 0, 2400, .inl s_code)), (a2, .inl (E.2 0, 2400, .inl s_codeArg)), (a3, .inl (E.2 0, 240, .inl s_codeFrom)), (a4, .inl (E.2 0, 240, .inl s_codeTo)), (a5, .inl (E.2 0, 1440, .inl s_highAt)), (a6, .inl (E.2 2, 200, .inl s_isRefused)), (a7, .inl (E.2 0, 20, .inl s_many)), (a8, .inl (E.2 0, 1440, .inl s_shapeAt)), (a9, .inl (E.2 0, 200, .inl s_worth))] sz 0 0 (fun x (_ : Unit) => x = r) (fun _ => [(a0, .inr (12, [w0_0, w0_1, w0_2, w0_3, w0_4, w0_5, w0_6, .ref a7, w0_8, .ref a3, .ref a4, .ref a1, .ref a2, w0_13, w0_14, w0_15, w0_16, w0_17, w0_18, w0_19, w0_20, w0_21, w0_22, w0_23, w0_24, w0_25, w0_26, w0_27, .int o_atA, .int o_atB, .int o_atD, .int o_atF, .int o_atG, .int o_atH, .int o_atL, .int o_atM, .int o_atN, .int o_atS, .int o_atT, .int o_atU, .int o_atX, .ref a9, .ref a6, w0_43, w0_44, w0_45, w0_46, w0_47, w0_48, w0_49, .ref a5, .ref a8, w0_52, w0_53, w0_54, w0_55, w0_56, w0_57, w0_58, w0_59, w0_60, w0_61, w0_62, w0_63, w0_64, w0_65, w0_66])), (a1, .inl (E.2 0, 2400, .inl s_code)), (a2, .inl (E.2 0, 2400, .inl s_codeArg)), (a3, .inl (E.2 0, 240, .inl s_codeFrom)), (a4, .inl (E.2 0, 240, .inl s_codeTo)), (a5, .inl (E.2 0, 1440, .inl s_highAt)), (a6, .inl (E.2 2, 200, .inl o_isRefused)), (a7, .inl (E.2 0, 20, .inl s_many)), (a8, .inl (E.2 0, 1440, .inl s_shapeAt)), (a9, .inl (E.2 0, 200, .inl o_worth))]) := by
  refine kmeti rfl (Nat.le_of_ble_eq_true rfl) ?_
  intro p e s m args below meth c ls A Q X hV hret hl
  have X : kC p s m c cX12_isMarked 6 RX12 args E A := X
  have hx := X.1
  have hb := X.2.1
  have hl : lv_has ls 6 [(0, .ref a0), (1, .int p1), (2, .int p2), (3, .int p3), (4, .int p4)] := hl
  rw [f_X12_isMarked] at h
  refine lv_aload_n hx hb dX12_isMarked_0 rfl (lv_at hl 0 rfl) ?_
  obtain ⟨o_atA1_1, o_atB1_2, o_atD1_3, o_atF1_4, o_atG1_5, o_atH1_6, o_atL1_7, o_atM1_8, o_atN1_9, o_atS1_10, o_atT1_11, o_atU1_12, o_atX1_13, hc14, h15⟩ := cb13_s h
  clear h
  refine kgov (krunV (rest := []) X hV [0] (c_X12_clears l E _ a0 (w0_0) (w0_1) (w0_2) (w0_3) (w0_4) (w0_5) (w0_6) (.ref a7) (w0_8) (.ref a3) (.ref a4) (.ref a1) (.ref a2) (w0_13) (w0_14) (w0_15) (w0_16) (w0_17) (w0_18) (w0_19) (w0_20) (w0_21) (w0_22) (w0_23) (w0_24) (w0_25) (w0_26) (w0_27) (.ref a9) (.ref a6) (w0_43) (w0_44) (w0_45) (w0_46) (w0_47) (w0_48) (w0_49) (.ref a5) (.ref a8) (w0_52) (w0_53) (w0_54) (w0_55) (w0_56) (w0_57) (w0_58) (w0_59) (w0_60) (w0_61) (w0_62) (w0_63) (w0_64) (w0_65) (w0_66) s_atA s_atB s_atD s_atF s_atG s_atH s_atL s_atM s_atN s_atS s_atT s_atU s_atX o_atA1_1 o_atB1_2 o_atD1_3 o_atF1_4 o_atG1_5 o_atH1_6 o_atL1_7 o_atM1_8 o_atN1_9 o_atS1_10 o_atT1_11 o_atU1_12 o_atX1_13 hc14) mw_721 kb_X12_clears (ci := 12) rfl rfl (by decide) rfl rfl hl.1 rfl (Nat.le_of_ble_eq_true rfl) dX12_isMarked_1 (by decide)) X hV [0] [1, 2, 3, 4, 5, 6, 7, 8, 9] rfl rfl rfl (by decide) (fun u H locs hp17 hV16 => ?_)
  have hV16 : kV E A s.heap H locs [(a0, .inr (12, [w0_0, w0_1, w0_2, w0_3, w0_4, w0_5, w0_6, .ref a7, w0_8, .ref a3, .ref a4, .ref a1, .ref a2, w0_13, w0_14, w0_15, w0_16, w0_17, w0_18, w0_19, w0_20, w0_21, w0_22, w0_23, w0_24, w0_25, w0_26, w0_27, .int o_atA1_1, .int o_atB1_2, .int o_atD1_3, .int o_atF1_4, .int o_atG1_5, .int o_atH1_6, .int o_atL1_7, .int o_atM1_8, .int o_atN1_9, .int o_atS1_10, .int o_atT1_11, .int o_atU1_12, .int o_atX1_13, .ref a9, .ref a6, w0_43, w0_44, w0_45, w0_46, w0_47, w0_48, w0_49, .ref a5, .ref a8, w0_52, w0_53, w0_54, w0_55, w0_56, w0_57, w0_58, w0_59, w0_60, w0_61, w0_62, w0_63, w0_64, w0_65, w0_66])), (a1, .inl (E.2 0, 2400, .inl s_code)), (a2, .inl (E.2 0, 2400, .inl s_codeArg)), (a3, .inl (E.2 0, 240, .inl s_codeFrom)), (a4, .inl (E.2 0, 240, .inl s_codeTo)), (a5, .inl (E.2 0, 1440, .inl s_highAt)), (a6, .inl (E.2 2, 200, .inl s_isRefused)), (a7, .inl (E.2 0, 20, .inl s_many)), (a8, .inl (E.2 0, 1440, .inl s_shapeAt)), (a9, .inl (E.2 0, 200, .inl s_worth))] := hV16.sub [9, 0, 1, 2, 3, 4, 5, 6, 7, 8] rfl rfl
  clear hV
  refine lv_aload_n hx hb dX12_isMarked_4 rfl (lv_at hl 0 rfl) ?_
  refine lv_aload_n hx hb dX12_isMarked_5 rfl (lv_at hl 0 rfl) ?_
  refine kget X hV16 (ci := 12) inlX12 rfl 0 rfl 50 (by decide) mw_162 rfl dX12_isMarked_6 ?_
  refine lv_iload_n hx hb dX12_isMarked_9 rfl (lv_at hl 3 rfl) ?_
  obtain ⟨hi19, v10_18, e20, h21⟩ := rdI_s h15
  clear h15
  refine kiald X hV16 5 rfl hi19 e20 dX12_isMarked_10 ?_
  clear hi19 e20
  refine kput X hV16 (ci := 12) inlX12 rfl tyX12 tyX12_ok nmX12 0 rfl 33 (by decide) mw_727 rfl rfl rfl (Nat.le_of_ble_eq_true rfl) dX12_isMarked_11 (fun H locs hV22 => ?_)
  have hV22 : kV E A s.heap H locs [(a0, .inr (12, [w0_0, w0_1, w0_2, w0_3, w0_4, w0_5, w0_6, .ref a7, w0_8, .ref a3, .ref a4, .ref a1, .ref a2, w0_13, w0_14, w0_15, w0_16, w0_17, w0_18, w0_19, w0_20, w0_21, w0_22, w0_23, w0_24, w0_25, w0_26, w0_27, .int o_atA1_1, .int o_atB1_2, .int o_atD1_3, .int o_atF1_4, .int o_atG1_5, .int v10_18, .int o_atL1_7, .int o_atM1_8, .int o_atN1_9, .int o_atS1_10, .int o_atT1_11, .int o_atU1_12, .int o_atX1_13, .ref a9, .ref a6, w0_43, w0_44, w0_45, w0_46, w0_47, w0_48, w0_49, .ref a5, .ref a8, w0_52, w0_53, w0_54, w0_55, w0_56, w0_57, w0_58, w0_59, w0_60, w0_61, w0_62, w0_63, w0_64, w0_65, w0_66])), (a1, .inl (E.2 0, 2400, .inl s_code)), (a2, .inl (E.2 0, 2400, .inl s_codeArg)), (a3, .inl (E.2 0, 240, .inl s_codeFrom)), (a4, .inl (E.2 0, 240, .inl s_codeTo)), (a5, .inl (E.2 0, 1440, .inl s_highAt)), (a6, .inl (E.2 2, 200, .inl s_isRefused)), (a7, .inl (E.2 0, 20, .inl s_many)), (a8, .inl (E.2 0, 1440, .inl s_shapeAt)), (a9, .inl (E.2 0, 200, .inl s_worth))] := hV22
  clear hV16
  refine lv_aload_n hx hb dX12_isMarked_14 rfl (lv_at hl 0 rfl) ?_
  refine lv_iload_n hx hb dX12_isMarked_15 rfl (lv_at hl 3 rfl) ?_
  have J31 : ∀ (t1_23 : Int32) (H : Heap) (locs : List Loc) (ls : Array Slot), (f_X12_isMarked_J31 s_code s_codeArg s_codeFrom s_codeTo s_highAt s_isRefused s_many s_shapeAt s_worth p1 p2 p3 p4 o_atA1_1 o_atG1_5 o_atN1_9 o_atU1_12 o_atX1_13 v10_18 ) t1_23 = some (r, o_atA, o_atB, o_atD, o_atF, o_atG, o_atH, o_atL, o_atM, o_atN, o_atS, o_atT, o_atU, o_atX, o_isRefused, o_worth) → kV E A s.heap H locs [(a0, .inr (12, [w0_0, w0_1, w0_2, w0_3, w0_4, w0_5, w0_6, .ref a7, w0_8, .ref a3, .ref a4, .ref a1, .ref a2, w0_13, w0_14, w0_15, w0_16, w0_17, w0_18, w0_19, w0_20, w0_21, w0_22, w0_23, w0_24, w0_25, w0_26, w0_27, .int o_atA1_1, .int o_atB1_2, .int o_atD1_3, .int o_atF1_4, .int o_atG1_5, .int v10_18, .int o_atL1_7, .int o_atM1_8, .int o_atN1_9, .int o_atS1_10, .int o_atT1_11, .int o_atU1_12, .int o_atX1_13, .ref a9, .ref a6, w0_43, w0_44, w0_45, w0_46, w0_47, w0_48, w0_49, .ref a5, .ref a8, w0_52, w0_53, w0_54, w0_55, w0_56, w0_57, w0_58, w0_59, w0_60, w0_61, w0_62, w0_63, w0_64, w0_65, w0_66])), (a1, .inl (E.2 0, 2400, .inl s_code)), (a2, .inl (E.2 0, 2400, .inl s_codeArg)), (a3, .inl (E.2 0, 240, .inl s_codeFrom)), (a4, .inl (E.2 0, 240, .inl s_codeTo)), (a5, .inl (E.2 0, 1440, .inl s_highAt)), (a6, .inl (E.2 2, 200, .inl s_isRefused)), (a7, .inl (E.2 0, 20, .inl s_many)), (a8, .inl (E.2 0, 1440, .inl s_shapeAt)), (a9, .inl (E.2 0, 200, .inl s_worth))] → lv_has ls 6 [(0, .ref a0), (1, .int p1), (2, .int p2), (3, .int p3), (4, .int p4)] → W p l e r_X12_isMarked s m args below meth c H locs 0 0 Q (F0 m 31 ls [.int t1_23, .ref a0]) := by
    intro t1_23 H locs ls hB31 hVB31 hlB31
    rw [f_X12_isMarked_J31] at hB31
    refine kput X hVB31 (ci := 12) inlX12 rfl tyX12 tyX12_ok nmX12 0 rfl 29 (by decide) mw_725 rfl rfl rfl (Nat.le_of_ble_eq_true rfl) dX12_isMarked_31 (fun H locs hV24 => ?_)
    have hV24 : kV E A s.heap H locs [(a0, .inr (12, [w0_0, w0_1, w0_2, w0_3, w0_4, w0_5, w0_6, .ref a7, w0_8, .ref a3, .ref a4, .ref a1, .ref a2, w0_13, w0_14, w0_15, w0_16, w0_17, w0_18, w0_19, w0_20, w0_21, w0_22, w0_23, w0_24, w0_25, w0_26, w0_27, .int o_atA1_1, .int t1_23, .int o_atD1_3, .int o_atF1_4, .int o_atG1_5, .int v10_18, .int o_atL1_7, .int o_atM1_8, .int o_atN1_9, .int o_atS1_10, .int o_atT1_11, .int o_atU1_12, .int o_atX1_13, .ref a9, .ref a6, w0_43, w0_44, w0_45, w0_46, w0_47, w0_48, w0_49, .ref a5, .ref a8, w0_52, w0_53, w0_54, w0_55, w0_56, w0_57, w0_58, w0_59, w0_60, w0_61, w0_62, w0_63, w0_64, w0_65, w0_66])), (a1, .inl (E.2 0, 2400, .inl s_code)), (a2, .inl (E.2 0, 2400, .inl s_codeArg)), (a3, .inl (E.2 0, 240, .inl s_codeFrom)), (a4, .inl (E.2 0, 240, .inl s_codeTo)), (a5, .inl (E.2 0, 1440, .inl s_highAt)), (a6, .inl (E.2 2, 200, .inl s_isRefused)), (a7, .inl (E.2 0, 20, .inl s_many)), (a8, .inl (E.2 0, 1440, .inl s_shapeAt)), (a9, .inl (E.2 0, 200, .inl s_worth))] := hV24
    clear hVB31
    refine lv_iload_n hx hb dX12_isMarked_34 rfl (lv_at hlB31 3 rfl) ?_
    refine lv_bipush (v := 10) hx hb dX12_isMarked_35 (by decide) ?_
    have J48 : ∀ (t0_25 : Int32) (H : Heap) (locs : List Loc) (ls : Array Slot), (f_X12_isMarked_J48 s_code s_codeArg s_codeFrom s_codeTo s_highAt s_isRefused s_many s_shapeAt s_worth p1 p2 p3 p4 o_atA1_1 o_atG1_5 o_atN1_9 o_atU1_12 o_atX1_13 v10_18 t1_23 ) t0_25 = some (r, o_atA, o_atB, o_atD, o_atF, o_atG, o_atH, o_atL, o_atM, o_atN, o_atS, o_atT, o_atU, o_atX, o_isRefused, o_worth) → kV E A s.heap H locs [(a0, .inr (12, [w0_0, w0_1, w0_2, w0_3, w0_4, w0_5, w0_6, .ref a7, w0_8, .ref a3, .ref a4, .ref a1, .ref a2, w0_13, w0_14, w0_15, w0_16, w0_17, w0_18, w0_19, w0_20, w0_21, w0_22, w0_23, w0_24, w0_25, w0_26, w0_27, .int o_atA1_1, .int t1_23, .int o_atD1_3, .int o_atF1_4, .int o_atG1_5, .int v10_18, .int o_atL1_7, .int o_atM1_8, .int o_atN1_9, .int o_atS1_10, .int o_atT1_11, .int o_atU1_12, .int o_atX1_13, .ref a9, .ref a6, w0_43, w0_44, w0_45, w0_46, w0_47, w0_48, w0_49, .ref a5, .ref a8, w0_52, w0_53, w0_54, w0_55, w0_56, w0_57, w0_58, w0_59, w0_60, w0_61, w0_62, w0_63, w0_64, w0_65, w0_66])), (a1, .inl (E.2 0, 2400, .inl s_code)), (a2, .inl (E.2 0, 2400, .inl s_codeArg)), (a3, .inl (E.2 0, 240, .inl s_codeFrom)), (a4, .inl (E.2 0, 240, .inl s_codeTo)), (a5, .inl (E.2 0, 1440, .inl s_highAt)), (a6, .inl (E.2 2, 200, .inl s_isRefused)), (a7, .inl (E.2 0, 20, .inl s_many)), (a8, .inl (E.2 0, 1440, .inl s_shapeAt)), (a9, .inl (E.2 0, 200, .inl s_worth))] → lv_has ls 6 [(0, .ref a0), (1, .int p1), (2, .int p2), (3, .int p3), (4, .int p4)] → W p l e r_X12_isMarked s m args below meth c H locs 0 0 Q (F0 m 48 ls [.int t0_25]) := by
      intro t0_25 H locs ls hB48 hVB48 hlB48
      rw [f_X12_isMarked_J48] at hB48
      refine lv_istore (lv' := [(5, .int t0_25), (0, .ref a0), (1, .int p1), (2, .int p2), (3, .int p3), (4, .int p4)]) hx hb dX12_isMarked_48 hlB48 (by decide) rfl (fun ls hl26 => ?_)
      clear hlB48
      have J94 : ∀ (atG__27 : Int32) (H : Heap) (locs : List Loc) (ls : Array Slot), (f_X12_isMarked_J94 s_code s_codeArg s_codeFrom s_codeTo s_isRefused s_many s_shapeAt s_worth p1 p2 p3 p4 o_atA1_1 o_atN1_9 o_atU1_12 o_atX1_13 v10_18 t1_23 ) atG__27 = some (r, o_atA, o_atB, o_atD, o_atF, o_atG, o_atH, o_atL, o_atM, o_atN, o_atS, o_atT, o_atU, o_atX, o_isRefused, o_worth) → kV E A s.heap H locs [(a0, .inr (12, [w0_0, w0_1, w0_2, w0_3, w0_4, w0_5, w0_6, .ref a7, w0_8, .ref a3, .ref a4, .ref a1, .ref a2, w0_13, w0_14, w0_15, w0_16, w0_17, w0_18, w0_19, w0_20, w0_21, w0_22, w0_23, w0_24, w0_25, w0_26, w0_27, .int o_atA1_1, .int t1_23, .int o_atD1_3, .int o_atF1_4, .int atG__27, .int v10_18, .int o_atL1_7, .int o_atM1_8, .int o_atN1_9, .int o_atS1_10, .int o_atT1_11, .int o_atU1_12, .int o_atX1_13, .ref a9, .ref a6, w0_43, w0_44, w0_45, w0_46, w0_47, w0_48, w0_49, .ref a5, .ref a8, w0_52, w0_53, w0_54, w0_55, w0_56, w0_57, w0_58, w0_59, w0_60, w0_61, w0_62, w0_63, w0_64, w0_65, w0_66])), (a1, .inl (E.2 0, 2400, .inl s_code)), (a2, .inl (E.2 0, 2400, .inl s_codeArg)), (a3, .inl (E.2 0, 240, .inl s_codeFrom)), (a4, .inl (E.2 0, 240, .inl s_codeTo)), (a5, .inl (E.2 0, 1440, .inl s_highAt)), (a6, .inl (E.2 2, 200, .inl s_isRefused)), (a7, .inl (E.2 0, 20, .inl s_many)), (a8, .inl (E.2 0, 1440, .inl s_shapeAt)), (a9, .inl (E.2 0, 200, .inl s_worth))] → lv_has ls 6 [(0, .ref a0), (1, .int p1), (2, .int p2), (3, .int p3), (4, .int p4)] → W p l e r_X12_isMarked s m args below meth c H locs 0 0 Q (F0 m 94 ls []) := by
        intro atG__27 H locs ls hB94 hVB94 hlB94
        rw [f_X12_isMarked_J94] at hB94
        refine lv_aload_n hx hb dX12_isMarked_94 rfl (lv_at hlB94 0 rfl) ?_
        refine lv_aload_n hx hb dX12_isMarked_95 rfl (lv_at hlB94 0 rfl) ?_
        refine kget X hVB94 (ci := 12) inlX12 rfl 0 rfl 51 (by decide) mw_163 rfl dX12_isMarked_96 ?_
        refine lv_iload_n hx hb dX12_isMarked_99 rfl (lv_at hlB94 3 rfl) ?_
        obtain ⟨hi29, v100_28, e30, h31⟩ := rdI_s hB94
        clear hB94
        refine kiald X hVB94 8 rfl hi29 e30 dX12_isMarked_100 ?_
        clear hi29 e30
        refine kput X hVB94 (ci := 12) inlX12 rfl tyX12 tyX12_ok nmX12 0 rfl 34 (by decide) mw_728 rfl rfl rfl (Nat.le_of_ble_eq_true rfl) dX12_isMarked_101 (fun H locs hV32 => ?_)
        have hV32 : kV E A s.heap H locs [(a0, .inr (12, [w0_0, w0_1, w0_2, w0_3, w0_4, w0_5, w0_6, .ref a7, w0_8, .ref a3, .ref a4, .ref a1, .ref a2, w0_13, w0_14, w0_15, w0_16, w0_17, w0_18, w0_19, w0_20, w0_21, w0_22, w0_23, w0_24, w0_25, w0_26, w0_27, .int o_atA1_1, .int t1_23, .int o_atD1_3, .int o_atF1_4, .int atG__27, .int v10_18, .int v100_28, .int o_atM1_8, .int o_atN1_9, .int o_atS1_10, .int o_atT1_11, .int o_atU1_12, .int o_atX1_13, .ref a9, .ref a6, w0_43, w0_44, w0_45, w0_46, w0_47, w0_48, w0_49, .ref a5, .ref a8, w0_52, w0_53, w0_54, w0_55, w0_56, w0_57, w0_58, w0_59, w0_60, w0_61, w0_62, w0_63, w0_64, w0_65, w0_66])), (a1, .inl (E.2 0, 2400, .inl s_code)), (a2, .inl (E.2 0, 2400, .inl s_codeArg)), (a3, .inl (E.2 0, 240, .inl s_codeFrom)), (a4, .inl (E.2 0, 240, .inl s_codeTo)), (a5, .inl (E.2 0, 1440, .inl s_highAt)), (a6, .inl (E.2 2, 200, .inl s_isRefused)), (a7, .inl (E.2 0, 20, .inl s_many)), (a8, .inl (E.2 0, 1440, .inl s_shapeAt)), (a9, .inl (E.2 0, 200, .inl s_worth))] := hV32
        clear hVB94
        refine lv_aload_n hx hb dX12_isMarked_104 rfl (lv_at hlB94 0 rfl) ?_
        refine lv_iload_n hx hb dX12_isMarked_105 rfl (lv_at hlB94 3 rfl) ?_
        refine kput X hV32 (ci := 12) inlX12 rfl tyX12 tyX12_ok nmX12 0 rfl 35 (by decide) mw_703 rfl rfl rfl (Nat.le_of_ble_eq_true rfl) dX12_isMarked_106 (fun H locs hV33 => ?_)
        have hV33 : kV E A s.heap H locs [(a0, .inr (12, [w0_0, w0_1, w0_2, w0_3, w0_4, w0_5, w0_6, .ref a7, w0_8, .ref a3, .ref a4, .ref a1, .ref a2, w0_13, w0_14, w0_15, w0_16, w0_17, w0_18, w0_19, w0_20, w0_21, w0_22, w0_23, w0_24, w0_25, w0_26, w0_27, .int o_atA1_1, .int t1_23, .int o_atD1_3, .int o_atF1_4, .int atG__27, .int v10_18, .int v100_28, .int p3, .int o_atN1_9, .int o_atS1_10, .int o_atT1_11, .int o_atU1_12, .int o_atX1_13, .ref a9, .ref a6, w0_43, w0_44, w0_45, w0_46, w0_47, w0_48, w0_49, .ref a5, .ref a8, w0_52, w0_53, w0_54, w0_55, w0_56, w0_57, w0_58, w0_59, w0_60, w0_61, w0_62, w0_63, w0_64, w0_65, w0_66])), (a1, .inl (E.2 0, 2400, .inl s_code)), (a2, .inl (E.2 0, 2400, .inl s_codeArg)), (a3, .inl (E.2 0, 240, .inl s_codeFrom)), (a4, .inl (E.2 0, 240, .inl s_codeTo)), (a5, .inl (E.2 0, 1440, .inl s_highAt)), (a6, .inl (E.2 2, 200, .inl s_isRefused)), (a7, .inl (E.2 0, 20, .inl s_many)), (a8, .inl (E.2 0, 1440, .inl s_shapeAt)), (a9, .inl (E.2 0, 200, .inl s_worth))] := hV33
        clear hV32
        refine lv_aload_n hx hb dX12_isMarked_109 rfl (lv_at hlB94 0 rfl) ?_
        refine lv_iload_n hx hb dX12_isMarked_110 rfl (lv_at hlB94 2 rfl) ?_
        refine lv_iload_n hx hb dX12_isMarked_111 rfl (lv_at hlB94 3 rfl) ?_
        obtain ⟨r112_34, hc35, h36⟩ := cb1_s h31
        clear h31
        refine kgoiE (krunS (rest := [.ref a0]) X hV33 [] (c_X12_starAt l E _ p2 p3 r112_34 hc35) mw_636 kb_X12_starAt (by decide) rfl rfl hlB94.1 rfl (Nat.le_of_ble_eq_true rfl) dX12_isMarked_112 (by decide)) X hV33 [] [0, 1, 2, 3, 4, 5, 6, 7, 8, 9] rfl rfl rfl (by decide) (fun u H locs hV37 => ?_)
        have hV37 : kV E A s.heap H locs [(a0, .inr (12, [w0_0, w0_1, w0_2, w0_3, w0_4, w0_5, w0_6, .ref a7, w0_8, .ref a3, .ref a4, .ref a1, .ref a2, w0_13, w0_14, w0_15, w0_16, w0_17, w0_18, w0_19, w0_20, w0_21, w0_22, w0_23, w0_24, w0_25, w0_26, w0_27, .int o_atA1_1, .int t1_23, .int o_atD1_3, .int o_atF1_4, .int atG__27, .int v10_18, .int v100_28, .int p3, .int o_atN1_9, .int o_atS1_10, .int o_atT1_11, .int o_atU1_12, .int o_atX1_13, .ref a9, .ref a6, w0_43, w0_44, w0_45, w0_46, w0_47, w0_48, w0_49, .ref a5, .ref a8, w0_52, w0_53, w0_54, w0_55, w0_56, w0_57, w0_58, w0_59, w0_60, w0_61, w0_62, w0_63, w0_64, w0_65, w0_66])), (a1, .inl (E.2 0, 2400, .inl s_code)), (a2, .inl (E.2 0, 2400, .inl s_codeArg)), (a3, .inl (E.2 0, 240, .inl s_codeFrom)), (a4, .inl (E.2 0, 240, .inl s_codeTo)), (a5, .inl (E.2 0, 1440, .inl s_highAt)), (a6, .inl (E.2 2, 200, .inl s_isRefused)), (a7, .inl (E.2 0, 20, .inl s_many)), (a8, .inl (E.2 0, 1440, .inl s_shapeAt)), (a9, .inl (E.2 0, 200, .inl s_worth))] := hV37.sub [0, 1, 2, 3, 4, 5, 6, 7, 8, 9] rfl rfl
        clear hV33
        refine kput X hV37 (ci := 12) inlX12 rfl tyX12 tyX12_ok nmX12 0 rfl 37 (by decide) mw_704 rfl rfl rfl (Nat.le_of_ble_eq_true rfl) dX12_isMarked_115 (fun H locs hV39 => ?_)
        have hV39 : kV E A s.heap H locs [(a0, .inr (12, [w0_0, w0_1, w0_2, w0_3, w0_4, w0_5, w0_6, .ref a7, w0_8, .ref a3, .ref a4, .ref a1, .ref a2, w0_13, w0_14, w0_15, w0_16, w0_17, w0_18, w0_19, w0_20, w0_21, w0_22, w0_23, w0_24, w0_25, w0_26, w0_27, .int o_atA1_1, .int t1_23, .int o_atD1_3, .int o_atF1_4, .int atG__27, .int v10_18, .int v100_28, .int p3, .int o_atN1_9, .int r112_34, .int o_atT1_11, .int o_atU1_12, .int o_atX1_13, .ref a9, .ref a6, w0_43, w0_44, w0_45, w0_46, w0_47, w0_48, w0_49, .ref a5, .ref a8, w0_52, w0_53, w0_54, w0_55, w0_56, w0_57, w0_58, w0_59, w0_60, w0_61, w0_62, w0_63, w0_64, w0_65, w0_66])), (a1, .inl (E.2 0, 2400, .inl s_code)), (a2, .inl (E.2 0, 2400, .inl s_codeArg)), (a3, .inl (E.2 0, 240, .inl s_codeFrom)), (a4, .inl (E.2 0, 240, .inl s_codeTo)), (a5, .inl (E.2 0, 1440, .inl s_highAt)), (a6, .inl (E.2 2, 200, .inl s_isRefused)), (a7, .inl (E.2 0, 20, .inl s_many)), (a8, .inl (E.2 0, 1440, .inl s_shapeAt)), (a9, .inl (E.2 0, 200, .inl s_worth))] := hV39
        clear hV37
        refine lv_aload_n hx hb dX12_isMarked_118 rfl (lv_at hlB94 0 rfl) ?_
        refine lv_iload_n hx hb dX12_isMarked_119 rfl (lv_at hlB94 2 rfl) ?_
        refine kput X hV39 (ci := 12) inlX12 rfl tyX12 tyX12_ok nmX12 0 rfl 30 (by decide) mw_701 rfl rfl rfl (Nat.le_of_ble_eq_true rfl) dX12_isMarked_120 (fun H locs hV40 => ?_)
        have hV40 : kV E A s.heap H locs [(a0, .inr (12, [w0_0, w0_1, w0_2, w0_3, w0_4, w0_5, w0_6, .ref a7, w0_8, .ref a3, .ref a4, .ref a1, .ref a2, w0_13, w0_14, w0_15, w0_16, w0_17, w0_18, w0_19, w0_20, w0_21, w0_22, w0_23, w0_24, w0_25, w0_26, w0_27, .int o_atA1_1, .int t1_23, .int p2, .int o_atF1_4, .int atG__27, .int v10_18, .int v100_28, .int p3, .int o_atN1_9, .int r112_34, .int o_atT1_11, .int o_atU1_12, .int o_atX1_13, .ref a9, .ref a6, w0_43, w0_44, w0_45, w0_46, w0_47, w0_48, w0_49, .ref a5, .ref a8, w0_52, w0_53, w0_54, w0_55, w0_56, w0_57, w0_58, w0_59, w0_60, w0_61, w0_62, w0_63, w0_64, w0_65, w0_66])), (a1, .inl (E.2 0, 2400, .inl s_code)), (a2, .inl (E.2 0, 2400, .inl s_codeArg)), (a3, .inl (E.2 0, 240, .inl s_codeFrom)), (a4, .inl (E.2 0, 240, .inl s_codeTo)), (a5, .inl (E.2 0, 1440, .inl s_highAt)), (a6, .inl (E.2 2, 200, .inl s_isRefused)), (a7, .inl (E.2 0, 20, .inl s_many)), (a8, .inl (E.2 0, 1440, .inl s_shapeAt)), (a9, .inl (E.2 0, 200, .inl s_worth))] := hV40
        clear hV39
        refine lv_aload_n hx hb dX12_isMarked_123 rfl (lv_at hlB94 0 rfl) ?_
        refine lv_iload_n hx hb dX12_isMarked_124 rfl (lv_at hlB94 2 rfl) ?_
        refine lv_bipush (v := 7) hx hb dX12_isMarked_125 (by decide) ?_
        refine lv_irem hx hb dX12_isMarked_127 (by decide) ?_
        obtain ⟨v128_41, e42, h43⟩ := nmI_s h36
        clear h36
        refine ktopi e42 ?_
        clear e42
        refine kput X hV40 (ci := 12) inlX12 rfl tyX12 tyX12_ok nmX12 0 rfl 31 (by decide) mw_702 rfl rfl rfl (Nat.le_of_ble_eq_true rfl) dX12_isMarked_128 (fun H locs hV44 => ?_)
        have hV44 : kV E A s.heap H locs [(a0, .inr (12, [w0_0, w0_1, w0_2, w0_3, w0_4, w0_5, w0_6, .ref a7, w0_8, .ref a3, .ref a4, .ref a1, .ref a2, w0_13, w0_14, w0_15, w0_16, w0_17, w0_18, w0_19, w0_20, w0_21, w0_22, w0_23, w0_24, w0_25, w0_26, w0_27, .int o_atA1_1, .int t1_23, .int p2, .int v128_41, .int atG__27, .int v10_18, .int v100_28, .int p3, .int o_atN1_9, .int r112_34, .int o_atT1_11, .int o_atU1_12, .int o_atX1_13, .ref a9, .ref a6, w0_43, w0_44, w0_45, w0_46, w0_47, w0_48, w0_49, .ref a5, .ref a8, w0_52, w0_53, w0_54, w0_55, w0_56, w0_57, w0_58, w0_59, w0_60, w0_61, w0_62, w0_63, w0_64, w0_65, w0_66])), (a1, .inl (E.2 0, 2400, .inl s_code)), (a2, .inl (E.2 0, 2400, .inl s_codeArg)), (a3, .inl (E.2 0, 240, .inl s_codeFrom)), (a4, .inl (E.2 0, 240, .inl s_codeTo)), (a5, .inl (E.2 0, 1440, .inl s_highAt)), (a6, .inl (E.2 2, 200, .inl s_isRefused)), (a7, .inl (E.2 0, 20, .inl s_many)), (a8, .inl (E.2 0, 1440, .inl s_shapeAt)), (a9, .inl (E.2 0, 200, .inl s_worth))] := hV44
        clear hV40
        refine lv_aload_n hx hb dX12_isMarked_131 rfl (lv_at hlB94 0 rfl) ?_
        refine lv_iload hx hb dX12_isMarked_132 (lv_at hlB94 4 rfl) ?_
        refine kput X hV44 (ci := 12) inlX12 rfl tyX12 tyX12_ok nmX12 0 rfl 38 (by decide) mw_730 rfl rfl rfl (Nat.le_of_ble_eq_true rfl) dX12_isMarked_134 (fun H locs hV45 => ?_)
        have hV45 : kV E A s.heap H locs [(a0, .inr (12, [w0_0, w0_1, w0_2, w0_3, w0_4, w0_5, w0_6, .ref a7, w0_8, .ref a3, .ref a4, .ref a1, .ref a2, w0_13, w0_14, w0_15, w0_16, w0_17, w0_18, w0_19, w0_20, w0_21, w0_22, w0_23, w0_24, w0_25, w0_26, w0_27, .int o_atA1_1, .int t1_23, .int p2, .int v128_41, .int atG__27, .int v10_18, .int v100_28, .int p3, .int o_atN1_9, .int r112_34, .int p4, .int o_atU1_12, .int o_atX1_13, .ref a9, .ref a6, w0_43, w0_44, w0_45, w0_46, w0_47, w0_48, w0_49, .ref a5, .ref a8, w0_52, w0_53, w0_54, w0_55, w0_56, w0_57, w0_58, w0_59, w0_60, w0_61, w0_62, w0_63, w0_64, w0_65, w0_66])), (a1, .inl (E.2 0, 2400, .inl s_code)), (a2, .inl (E.2 0, 2400, .inl s_codeArg)), (a3, .inl (E.2 0, 240, .inl s_codeFrom)), (a4, .inl (E.2 0, 240, .inl s_codeTo)), (a5, .inl (E.2 0, 1440, .inl s_highAt)), (a6, .inl (E.2 2, 200, .inl s_isRefused)), (a7, .inl (E.2 0, 20, .inl s_many)), (a8, .inl (E.2 0, 1440, .inl s_shapeAt)), (a9, .inl (E.2 0, 200, .inl s_worth))] := hV45
        clear hV44
        refine lv_bipush (v := 12) hx hb dX12_isMarked_137 (by decide) ?_
        refine lv_bipush (v := 10) hx hb dX12_isMarked_139 (by decide) ?_
        refine lv_iload_n hx hb dX12_isMarked_141 rfl (lv_at hlB94 1 rfl) ?_
        refine lv_iadd hx hb dX12_isMarked_142 ?_
        refine lv_imul hx hb dX12_isMarked_143 ?_
        obtain ⟨v144_46, e47, h48⟩ := nmI_s h43
        clear h43
        refine ktopi e47 ?_
        clear e47
        refine lv_istore (lv' := [(5, .int v144_46), (0, .ref a0), (1, .int p1), (2, .int p2), (3, .int p3), (4, .int p4)]) hx hb dX12_isMarked_144 hlB94 (by decide) rfl (fun ls hl49 => ?_)
        clear hlB94
        have L146 : ∀ (n146 : Nat) (x5_50 : Int32) (isRefused__51 : Nat → Int32) (worth__52 : Nat → Int32) (H : Heap) (locs : List Loc) (ls : Array Slot), (f_X12_isMarked_L146 s_code s_codeArg s_codeFrom s_codeTo s_many p1 p2 p3 p4 o_atA1_1 o_atN1_9 o_atU1_12 o_atX1_13 v10_18 t1_23 atG__27 v100_28 r112_34 v128_41  n146) x5_50 isRefused__51 worth__52 = some (r, o_atA, o_atB, o_atD, o_atF, o_atG, o_atH, o_atL, o_atM, o_atN, o_atS, o_atT, o_atU, o_atX, o_isRefused, o_worth) → kV E A s.heap H locs [(a0, .inr (12, [w0_0, w0_1, w0_2, w0_3, w0_4, w0_5, w0_6, .ref a7, w0_8, .ref a3, .ref a4, .ref a1, .ref a2, w0_13, w0_14, w0_15, w0_16, w0_17, w0_18, w0_19, w0_20, w0_21, w0_22, w0_23, w0_24, w0_25, w0_26, w0_27, .int o_atA1_1, .int t1_23, .int p2, .int v128_41, .int atG__27, .int v10_18, .int v100_28, .int p3, .int o_atN1_9, .int r112_34, .int p4, .int o_atU1_12, .int o_atX1_13, .ref a9, .ref a6, w0_43, w0_44, w0_45, w0_46, w0_47, w0_48, w0_49, .ref a5, .ref a8, w0_52, w0_53, w0_54, w0_55, w0_56, w0_57, w0_58, w0_59, w0_60, w0_61, w0_62, w0_63, w0_64, w0_65, w0_66])), (a1, .inl (E.2 0, 2400, .inl s_code)), (a2, .inl (E.2 0, 2400, .inl s_codeArg)), (a3, .inl (E.2 0, 240, .inl s_codeFrom)), (a4, .inl (E.2 0, 240, .inl s_codeTo)), (a5, .inl (E.2 0, 1440, .inl s_highAt)), (a6, .inl (E.2 2, 200, .inl isRefused__51)), (a7, .inl (E.2 0, 20, .inl s_many)), (a8, .inl (E.2 0, 1440, .inl s_shapeAt)), (a9, .inl (E.2 0, 200, .inl worth__52))] → lv_has ls 6 [(0, .ref a0), (1, .int p1), (5, .int x5_50)] → W p l e r_X12_isMarked s m args below meth c H locs 0 0 Q (F0 m 146 ls []) := by
          intro n146
          induction n146 with
          | zero =>
            intro x5_50 isRefused__51 worth__52 H locs ls hB146 hVB146 hlB146
            rw [f_X12_isMarked_L146] at hB146
            exact nomatch hB146
          | succ n146 ih146 =>
            intro x5_50 isRefused__51 worth__52 H locs ls hB146 hVB146 hlB146
            rw [f_X12_isMarked_L146] at hB146
            refine lv_iload hx hb dX12_isMarked_146 (lv_at hlB146 2 rfl) ?_
            refine lv_bipush (v := 12) hx hb dX12_isMarked_148 (by decide) ?_
            refine lv_bipush (v := 10) hx hb dX12_isMarked_150 (by decide) ?_
            refine lv_iload_n hx hb dX12_isMarked_152 rfl (lv_at hlB146 1 rfl) ?_
            refine lv_iadd hx hb dX12_isMarked_153 ?_
            refine lv_imul hx hb dX12_isMarked_154 ?_
            refine lv_aload_n hx hb dX12_isMarked_155 rfl (lv_at hlB146 0 rfl) ?_
            refine kget X hVB146 (ci := 12) inlX12 rfl 0 rfl 7 (by decide) mw_142 rfl dX12_isMarked_156 ?_
            refine lv_bipush (v := 10) hx hb dX12_isMarked_159 (by decide) ?_
            refine lv_iload_n hx hb dX12_isMarked_161 rfl (lv_at hlB146 1 rfl) ?_
            refine lv_iadd hx hb dX12_isMarked_162 ?_
            obtain ⟨hi54, v163_53, e55, h56⟩ := rdI_s hB146
            clear hB146
            refine kiald X hVB146 7 rfl hi54 e55 dX12_isMarked_163 ?_
            clear hi54 e55
            refine lv_iadd hx hb dX12_isMarked_164 ?_
            refine lv_icmp_ge (tgt := 185) hx hb dX12_isMarked_165 (by decide) (fun c57 => ?_) (fun c57 => ?_)
            · have h58 := itS c57 h56
              clear h56 c57
              refine lv_iconst (v := 0) hx hb dX12_isMarked_185 (by decide) ?_
              obtain ⟨q60, q61, q62, q63, q64, q65, q66, q67, q68, q69, q70, q71, q72, q73, q74, q75⟩ := tup16_s h58
              clear h58
              exact hret _ () _ _ _ _ q60 rfl (by rw [← q61, ← q62, ← q63, ← q64, ← q65, ← q66, ← q67, ← q68, ← q69, ← q70, ← q71, ← q72, ← q73, ← q74, ← q75]; exact hVB146) dX12_isMarked_186
            · have h59 := ieS c57 h56
              clear h56 c57
              refine lv_aload_n hx hb dX12_isMarked_168 rfl (lv_at hlB146 0 rfl) ?_
              refine lv_iload hx hb dX12_isMarked_169 (lv_at hlB146 2 rfl) ?_
              obtain ⟨r171_76, o_isRefused171_77, o_worth171_78, hc79, h80⟩ := cb3_s h59
              clear h59
              refine kgoiE (krunV (rest := []) X hVB146 [0, 1, 2, 3, 4, 6, 9] (c_X12_holds l E _ a0 a1 a2 a3 a4 a6 a9 (w0_0) (w0_1) (w0_2) (w0_3) (w0_4) (w0_5) (w0_6) (.ref a7) (w0_8) (w0_13) (w0_14) (w0_15) (w0_16) (w0_17) (w0_18) (w0_19) (w0_20) (w0_21) (w0_22) (w0_23) (w0_24) (w0_25) (w0_26) (w0_27) (w0_43) (w0_44) (w0_45) (w0_46) (w0_47) (w0_48) (w0_49) (.ref a5) (.ref a8) (w0_52) (w0_53) (w0_54) (w0_55) (w0_56) (w0_57) (w0_58) (w0_59) (w0_60) (w0_61) (w0_62) (w0_63) (w0_64) (w0_65) (w0_66) o_atA1_1 t1_23 p2 v128_41 atG__27 v10_18 v100_28 p3 o_atN1_9 r112_34 p4 o_atU1_12 o_atX1_13 s_code s_codeArg s_codeFrom s_codeTo isRefused__51 worth__52 x5_50 r171_76 o_isRefused171_77 o_worth171_78 hc79) mw_738 kb_X12_holds (ci := 12) rfl rfl (by decide) rfl rfl hlB146.1 rfl (Nat.le_of_ble_eq_true rfl) dX12_isMarked_171 (by decide)) X hVB146 [0, 1, 2, 3, 4, 6, 9] [5, 7, 8] rfl rfl rfl (by decide) (fun u H locs hV81 => ?_)
              have hV81 : kV E A s.heap H locs [(a0, .inr (12, [w0_0, w0_1, w0_2, w0_3, w0_4, w0_5, w0_6, .ref a7, w0_8, .ref a3, .ref a4, .ref a1, .ref a2, w0_13, w0_14, w0_15, w0_16, w0_17, w0_18, w0_19, w0_20, w0_21, w0_22, w0_23, w0_24, w0_25, w0_26, w0_27, .int o_atA1_1, .int t1_23, .int p2, .int v128_41, .int atG__27, .int v10_18, .int v100_28, .int p3, .int o_atN1_9, .int r112_34, .int p4, .int o_atU1_12, .int o_atX1_13, .ref a9, .ref a6, w0_43, w0_44, w0_45, w0_46, w0_47, w0_48, w0_49, .ref a5, .ref a8, w0_52, w0_53, w0_54, w0_55, w0_56, w0_57, w0_58, w0_59, w0_60, w0_61, w0_62, w0_63, w0_64, w0_65, w0_66])), (a1, .inl (E.2 0, 2400, .inl s_code)), (a2, .inl (E.2 0, 2400, .inl s_codeArg)), (a3, .inl (E.2 0, 240, .inl s_codeFrom)), (a4, .inl (E.2 0, 240, .inl s_codeTo)), (a5, .inl (E.2 0, 1440, .inl s_highAt)), (a6, .inl (E.2 2, 200, .inl o_isRefused171_77)), (a7, .inl (E.2 0, 20, .inl s_many)), (a8, .inl (E.2 0, 1440, .inl s_shapeAt)), (a9, .inl (E.2 0, 200, .inl o_worth171_78))] := hV81.sub [3, 4, 5, 6, 7, 0, 8, 1, 2, 9] rfl rfl
              clear hVB146
              refine lv_if_eq (tgt := 179) hx hb dX12_isMarked_174 (by decide) (fun c83 => ?_) (fun c83 => ?_)
              · have h84 := itS c83 h80
                clear h80 c83
                obtain ⟨v179_86, e87, h88⟩ := nmI_s h84
                clear h84
                refine lv_iinc (v := v179_86) (lv' := [(5, .int v179_86), (0, .ref a0), (1, .int p1)]) hx hb dX12_isMarked_179 hlB146 (k := 2) rfl (by rw [e87]; rfl) (by decide) rfl (fun ls hl89 => ?_)
                clear hlB146 e87
                refine lv_goto (tgt := 146) hx hb dX12_isMarked_182 (by decide) ?_
                exact ih146 v179_86 o_isRefused171_77 o_worth171_78 _ _ _ h88 hV81 (lv_sub hl89 [1, 2, 0] rfl)
              · have h85 := ieS c83 h80
                clear h80 c83
                refine lv_iconst (v := 1) hx hb dX12_isMarked_177 (by decide) ?_
                obtain ⟨q90, q91, q92, q93, q94, q95, q96, q97, q98, q99, q100, q101, q102, q103, q104, q105⟩ := tup16_s h85
                clear h85
                exact hret _ () _ _ _ _ q90 rfl (by rw [← q91, ← q92, ← q93, ← q94, ← q95, ← q96, ← q97, ← q98, ← q99, ← q100, ← q101, ← q102, ← q103, ← q104, ← q105]; exact hV81) dX12_isMarked_178
        exact L146 FU v144_46 s_isRefused s_worth _ _ _ h48 hV45 (lv_sub hl49 [1, 2, 0] rfl)
      have L50 : ∀ (n50 : Nat) (x5_106 : Int32) (atG__107 : Int32) (H : Heap) (locs : List Loc) (ls : Array Slot), (f_X12_isMarked_L50 s_highAt p3 (f_X12_isMarked_J94 s_code s_codeArg s_codeFrom s_codeTo s_isRefused s_many s_shapeAt s_worth p1 p2 p3 p4 o_atA1_1 o_atN1_9 o_atU1_12 o_atX1_13 v10_18 t1_23 ) n50) x5_106 atG__107 = some (r, o_atA, o_atB, o_atD, o_atF, o_atG, o_atH, o_atL, o_atM, o_atN, o_atS, o_atT, o_atU, o_atX, o_isRefused, o_worth) → kV E A s.heap H locs [(a0, .inr (12, [w0_0, w0_1, w0_2, w0_3, w0_4, w0_5, w0_6, .ref a7, w0_8, .ref a3, .ref a4, .ref a1, .ref a2, w0_13, w0_14, w0_15, w0_16, w0_17, w0_18, w0_19, w0_20, w0_21, w0_22, w0_23, w0_24, w0_25, w0_26, w0_27, .int o_atA1_1, .int t1_23, .int o_atD1_3, .int o_atF1_4, .int atG__107, .int v10_18, .int o_atL1_7, .int o_atM1_8, .int o_atN1_9, .int o_atS1_10, .int o_atT1_11, .int o_atU1_12, .int o_atX1_13, .ref a9, .ref a6, w0_43, w0_44, w0_45, w0_46, w0_47, w0_48, w0_49, .ref a5, .ref a8, w0_52, w0_53, w0_54, w0_55, w0_56, w0_57, w0_58, w0_59, w0_60, w0_61, w0_62, w0_63, w0_64, w0_65, w0_66])), (a1, .inl (E.2 0, 2400, .inl s_code)), (a2, .inl (E.2 0, 2400, .inl s_codeArg)), (a3, .inl (E.2 0, 240, .inl s_codeFrom)), (a4, .inl (E.2 0, 240, .inl s_codeTo)), (a5, .inl (E.2 0, 1440, .inl s_highAt)), (a6, .inl (E.2 2, 200, .inl s_isRefused)), (a7, .inl (E.2 0, 20, .inl s_many)), (a8, .inl (E.2 0, 1440, .inl s_shapeAt)), (a9, .inl (E.2 0, 200, .inl s_worth))] → lv_has ls 6 [(0, .ref a0), (1, .int p1), (2, .int p2), (3, .int p3), (4, .int p4), (5, .int x5_106)] → W p l e r_X12_isMarked s m args below meth c H locs 0 0 Q (F0 m 50 ls []) := by
        intro n50
        induction n50 with
        | zero =>
          intro x5_106 atG__107 H locs ls hB50 hVB50 hlB50
          rw [f_X12_isMarked_L50] at hB50
          exact nomatch hB50
        | succ n50 ih50 =>
          intro x5_106 atG__107 H locs ls hB50 hVB50 hlB50
          rw [f_X12_isMarked_L50] at hB50
          refine lv_iload hx hb dX12_isMarked_50 (lv_at hlB50 5 rfl) ?_
          refine lv_iload_n hx hb dX12_isMarked_52 rfl (lv_at hlB50 3 rfl) ?_
          refine lv_icmp_ge (tgt := 94) hx hb dX12_isMarked_53 (by decide) (fun c108 => ?_) (fun c108 => ?_)
          · have h109 := itS c108 hB50
            clear hB50 c108
            exact J94 atG__107 _ _ _ h109 hVB50 (lv_sub hlB50 [0, 1, 2, 3, 4] rfl)
          · have h110 := ieS c108 hB50
            clear hB50 c108
            refine lv_aload_n hx hb dX12_isMarked_56 rfl (lv_at hlB50 0 rfl) ?_
            refine lv_aload_n hx hb dX12_isMarked_57 rfl (lv_at hlB50 0 rfl) ?_
            refine kget X hVB50 (ci := 12) inlX12 rfl 0 rfl 50 (by decide) mw_162 rfl dX12_isMarked_58 ?_
            refine lv_iload hx hb dX12_isMarked_61 (lv_at hlB50 5 rfl) ?_
            obtain ⟨hi112, v63_111, e113, h114⟩ := rdI_s h110
            clear h110
            refine kiald X hVB50 5 rfl hi112 e113 dX12_isMarked_63 ?_
            clear hi112 e113
            refine lv_aload_n hx hb dX12_isMarked_64 rfl (lv_at hlB50 0 rfl) ?_
            refine kget X hVB50 (ci := 12) inlX12 rfl 0 rfl 32 (by decide) mw_726 rfl dX12_isMarked_65 ?_
            refine lv_icmp_le (tgt := 81) hx hb dX12_isMarked_68 (by decide) (fun c115 => ?_) (fun c115 => ?_)
            · have h116 := itS c115 h114
              clear h114 c115
              refine lv_aload_n hx hb dX12_isMarked_81 rfl (lv_at hlB50 0 rfl) ?_
              refine kget X hVB50 (ci := 12) inlX12 rfl 0 rfl 32 (by decide) mw_726 rfl dX12_isMarked_82 ?_
              refine kput X hVB50 (ci := 12) inlX12 rfl tyX12 tyX12_ok nmX12 0 rfl 32 (by decide) mw_726 rfl rfl rfl (Nat.le_of_ble_eq_true rfl) dX12_isMarked_85 (fun H locs hV118 => ?_)
              have hV118 : kV E A s.heap H locs [(a0, .inr (12, [w0_0, w0_1, w0_2, w0_3, w0_4, w0_5, w0_6, .ref a7, w0_8, .ref a3, .ref a4, .ref a1, .ref a2, w0_13, w0_14, w0_15, w0_16, w0_17, w0_18, w0_19, w0_20, w0_21, w0_22, w0_23, w0_24, w0_25, w0_26, w0_27, .int o_atA1_1, .int t1_23, .int o_atD1_3, .int o_atF1_4, .int atG__107, .int v10_18, .int o_atL1_7, .int o_atM1_8, .int o_atN1_9, .int o_atS1_10, .int o_atT1_11, .int o_atU1_12, .int o_atX1_13, .ref a9, .ref a6, w0_43, w0_44, w0_45, w0_46, w0_47, w0_48, w0_49, .ref a5, .ref a8, w0_52, w0_53, w0_54, w0_55, w0_56, w0_57, w0_58, w0_59, w0_60, w0_61, w0_62, w0_63, w0_64, w0_65, w0_66])), (a1, .inl (E.2 0, 2400, .inl s_code)), (a2, .inl (E.2 0, 2400, .inl s_codeArg)), (a3, .inl (E.2 0, 240, .inl s_codeFrom)), (a4, .inl (E.2 0, 240, .inl s_codeTo)), (a5, .inl (E.2 0, 1440, .inl s_highAt)), (a6, .inl (E.2 2, 200, .inl s_isRefused)), (a7, .inl (E.2 0, 20, .inl s_many)), (a8, .inl (E.2 0, 1440, .inl s_shapeAt)), (a9, .inl (E.2 0, 200, .inl s_worth))] := hV118
              clear hVB50
              obtain ⟨v88_119, e120, h121⟩ := nmI_s h116
              clear h116
              refine lv_iinc (v := v88_119) (lv' := [(5, .int v88_119), (0, .ref a0), (1, .int p1), (2, .int p2), (3, .int p3), (4, .int p4)]) hx hb dX12_isMarked_88 hlB50 (k := 5) rfl (by rw [e120]; rfl) (by decide) rfl (fun ls hl122 => ?_)
              clear hlB50 e120
              refine lv_goto (tgt := 50) hx hb dX12_isMarked_91 (by decide) ?_
              exact ih50 v88_119 atG__107 _ _ _ h121 hV118 (lv_sub hl122 [1, 2, 3, 4, 5, 0] rfl)
            · have h117 := ieS c115 h114
              clear h114 c115
              refine lv_aload_n hx hb dX12_isMarked_71 rfl (lv_at hlB50 0 rfl) ?_
              refine kget X hVB50 (ci := 12) inlX12 rfl 0 rfl 50 (by decide) mw_162 rfl dX12_isMarked_72 ?_
              refine lv_iload hx hb dX12_isMarked_75 (lv_at hlB50 5 rfl) ?_
              obtain ⟨hi124, v77_123, e125, h126⟩ := rdI_s h117
              clear h117
              refine kiald X hVB50 5 rfl hi124 e125 dX12_isMarked_77 ?_
              clear hi124 e125
              refine lv_goto (tgt := 85) hx hb dX12_isMarked_78 (by decide) ?_
              refine kput X hVB50 (ci := 12) inlX12 rfl tyX12 tyX12_ok nmX12 0 rfl 32 (by decide) mw_726 rfl rfl rfl (Nat.le_of_ble_eq_true rfl) dX12_isMarked_85 (fun H locs hV127 => ?_)
              have hV127 : kV E A s.heap H locs [(a0, .inr (12, [w0_0, w0_1, w0_2, w0_3, w0_4, w0_5, w0_6, .ref a7, w0_8, .ref a3, .ref a4, .ref a1, .ref a2, w0_13, w0_14, w0_15, w0_16, w0_17, w0_18, w0_19, w0_20, w0_21, w0_22, w0_23, w0_24, w0_25, w0_26, w0_27, .int o_atA1_1, .int t1_23, .int o_atD1_3, .int o_atF1_4, .int v77_123, .int v10_18, .int o_atL1_7, .int o_atM1_8, .int o_atN1_9, .int o_atS1_10, .int o_atT1_11, .int o_atU1_12, .int o_atX1_13, .ref a9, .ref a6, w0_43, w0_44, w0_45, w0_46, w0_47, w0_48, w0_49, .ref a5, .ref a8, w0_52, w0_53, w0_54, w0_55, w0_56, w0_57, w0_58, w0_59, w0_60, w0_61, w0_62, w0_63, w0_64, w0_65, w0_66])), (a1, .inl (E.2 0, 2400, .inl s_code)), (a2, .inl (E.2 0, 2400, .inl s_codeArg)), (a3, .inl (E.2 0, 240, .inl s_codeFrom)), (a4, .inl (E.2 0, 240, .inl s_codeTo)), (a5, .inl (E.2 0, 1440, .inl s_highAt)), (a6, .inl (E.2 2, 200, .inl s_isRefused)), (a7, .inl (E.2 0, 20, .inl s_many)), (a8, .inl (E.2 0, 1440, .inl s_shapeAt)), (a9, .inl (E.2 0, 200, .inl s_worth))] := hV127
              clear hVB50
              obtain ⟨v88_128, e129, h130⟩ := nmI_s h126
              clear h126
              refine lv_iinc (v := v88_128) (lv' := [(5, .int v88_128), (0, .ref a0), (1, .int p1), (2, .int p2), (3, .int p3), (4, .int p4)]) hx hb dX12_isMarked_88 hlB50 (k := 5) rfl (by rw [e129]; rfl) (by decide) rfl (fun ls hl131 => ?_)
              clear hlB50 e129
              refine lv_goto (tgt := 50) hx hb dX12_isMarked_91 (by decide) ?_
              exact ih50 v88_128 v77_123 _ _ _ h130 hV127 (lv_sub hl131 [1, 2, 3, 4, 5, 0] rfl)
      exact L50 FU t0_25 o_atG1_5 _ _ _ hB48 hVB48 (lv_sub hl26 [1, 2, 3, 4, 5, 0] rfl)
    refine lv_icmp_ge (tgt := 44) hx hb dX12_isMarked_37 (by decide) (fun c132 => ?_) (fun c132 => ?_)
    · have h133 := itS c132 hB31
      clear hB31 c132
      refine lv_iload_n hx hb dX12_isMarked_44 rfl (lv_at hlB31 3 rfl) ?_
      refine lv_bipush (v := 10) hx hb dX12_isMarked_45 (by decide) ?_
      refine lv_isub hx hb dX12_isMarked_47 ?_
      exact J48 (p3 - 10) _ _ _ h133 hV24 (lv_sub hlB31 [0, 1, 2, 3, 4] rfl)
    · have h134 := ieS c132 hB31
      clear hB31 c132
      refine lv_iconst (v := 0) hx hb dX12_isMarked_40 (by decide) ?_
      refine lv_goto (tgt := 48) hx hb dX12_isMarked_41 (by decide) ?_
      exact J48 0 _ _ _ h134 hV24 (lv_sub hlB31 [0, 1, 2, 3, 4] rfl)
  refine lv_if_ne (tgt := 23) hx hb dX12_isMarked_16 (by decide) (fun c135 => ?_) (fun c135 => ?_)
  · have h136 := ieS c135 h21
    clear h21 c135
    refine lv_aload_n hx hb dX12_isMarked_23 rfl (lv_at hl 0 rfl) ?_
    refine kget X hV22 (ci := 12) inlX12 rfl 0 rfl 50 (by decide) mw_162 rfl dX12_isMarked_24 ?_
    refine lv_iload_n hx hb dX12_isMarked_27 rfl (lv_at hl 3 rfl) ?_
    refine lv_iconst (v := 1) hx hb dX12_isMarked_28 (by decide) ?_
    refine lv_isub hx hb dX12_isMarked_29 ?_
    obtain ⟨hi139, v30_138, e140, h141⟩ := rdI_s h136
    clear h136
    refine kiald X hV22 5 rfl hi139 e140 dX12_isMarked_30 ?_
    clear hi139 e140
    exact J31 v30_138 _ _ _ h141 hV22 (lv_sub hl [0, 1, 2, 3, 4] rfl)
  · have h137 := itS c135 h21
    clear h21 c135
    refine lv_iconst (v := 0) hx hb dX12_isMarked_19 (by decide) ?_
    refine lv_goto (tgt := 31) hx hb dX12_isMarked_20 (by decide) ?_
    exact J31 0 _ _ _ h137 hV22 (lv_sub hl [0, 1, 2, 3, 4] rfl)
abbrev r_X12_goesOver : Room := { frames := 5, cells := 0, slots := 0, locals := 115 }
set_option maxHeartbeats 4000000 in
set_option maxRecDepth 100000 in
theorem c_X12_goesOver (l : Launch) (E : kE) (sz : Nat) (a0 a1 a2 a3 a4 a5 a6 a7 a8 a9 a10 a11 a12 a13 : Nat) (w0_0 w0_1 w0_2 w0_3 w0_4 w0_5 w0_6 w0_8 w0_13 w0_14 w0_15 w0_16 w0_17 w0_18 w0_19 w0_20 w0_21 w0_22 w0_23 w0_24 w0_25 w0_26 w0_27 w0_43 w0_44 w0_45 w0_46 w0_47 w0_48 w0_49 w0_56 w0_57 w0_58 w0_59 w0_60 w0_61 w0_62 w0_63 w0_64 w0_65 w0_66 : Value) (s_atA : Int32) (s_atB : Int32) (s_atD : Int32) (s_atF : Int32) (s_atG : Int32) (s_atH : Int32) (s_atL : Int32) (s_atM : Int32) (s_atN : Int32) (s_atS : Int32) (s_atT : Int32) (s_atU : Int32) (s_atX : Int32) (s_code : Nat → Int32) (s_codeArg : Nat → Int32) (s_codeFrom : Nat → Int32) (s_codeTo : Nat → Int32) (s_first : Nat → Int32) (s_greatest : Nat → Int32) (s_highAt : Nat → Int32) (s_isRefused : Nat → Int32) (s_last : Nat → Int32) (s_many : Nat → Int32) (s_marked : Nat → Int32) (s_shapeAt : Nat → Int32) (s_worth : Nat → Int32) (p1 : Int32) (p2 : Int32) (p3 : Int32) (o_atA : Int32) (o_atB : Int32) (o_atD : Int32) (o_atF : Int32) (o_atG : Int32) (o_atH : Int32) (o_atL : Int32) (o_atM : Int32) (o_atN : Int32) (o_atS : Int32) (o_atT : Int32) (o_atU : Int32) (o_atX : Int32) (o_first : Nat → Int32) (o_greatest : Nat → Int32) (o_isRefused : Nat → Int32) (o_last : Nat → Int32) (o_marked : Nat → Int32) (o_worth : Nat → Int32) (h : f_X12_goesOver s_atA s_atB s_atD s_atF s_atG s_atH s_atL s_atM s_atN s_atS s_atT s_atU s_atX s_code s_codeArg s_codeFrom s_codeTo s_first s_greatest s_highAt s_isRefused s_last s_many s_marked s_shapeAt s_worth p1 p2 p3 = some (o_atA, o_atB, o_atD, o_atF, o_atG, o_atH, o_atL, o_atM, o_atN, o_atS, o_atT, o_atU, o_atX, o_first, o_greatest, o_isRefused, o_last, o_marked, o_worth)) : kMv l yX12_goesOver cX12_goesOver 9 r_X12_goesOver [.ref a0, .int p1, .int p2, .int p3] E [(a0, .inr (12, [w0_0, w0_1, w0_2, w0_3, w0_4, w0_5, w0_6, .ref a10, w0_8, .ref a3, .ref a4, .ref a1, .ref a2, w0_13, w0_14, w0_15, w0_16, w0_17, w0_18, w0_19, w0_20, w0_21, w0_22, w0_23, w0_24, w0_25, w0_26, w0_27, .int s_atA, .int s_atB, .int s_atD, .int s_atF, .int s_atG, .int s_atH, .int s_atL, .int s_atM, .int s_atN, .int s_atS, .int s_atT, .int s_atU, .int s_atX, .ref a13, .ref a8, w0_43, w0_44, w0_45, w0_46, w0_47, w0_48, w0_49, .ref a7, .ref a12, .ref a5, .ref a9, .ref a6, .ref a11, w0_56, w0_57, w0_58, w0_59, w0_60, w0_61, w0_62, w0_63, w0_64, w0_65, w0_66])), (a1, .inl (E.2 0, 2400, .inl s_code)), (a2, .inl (E.2 0, 2400, .inl s_codeArg)), (a3, .inl (E.2 0, 240, .inl s_codeFrom)), (a4, .inl (E.2 0, 240, .inl s_codeTo)), (a5, .inl (E.2 0, 1440, .inl s_first)), (a6, .inl (E.2 0, 1440, .inl s_greatest)), (a7, .inl (E.2 0, 1440, .inl s_highAt)), (a8, .inl (E.2 2, 200, .inl s_isRefused)), (a9, .inl (E.2 0, 1440, .inl s_last)), (a10, .inl (E.2 0, 20, .inl s_many)), (a11, .inl (E.2 0, 2, .inl s_marked)), (a12, .inl (E.2 0, 1440, .inl s_shapeAt)), (a13, .inl (E.2 0, 200, .inl s_worth))] sz 0 0 (fun (_ : Unit) => True) (fun _ => [(a0, .inr (12, [w0_0, w0_1, w0_2, w0_3, w0_4, w0_5, w0_6, .ref a10, w0_8, .ref a3, .ref a4, .ref a1, .ref a2, w0_13, w0_14, w0_15, w0_16, w0_17, w0_18, w0_19, w0_20, w0_21, w0_22, w0_23, w0_24, w0_25, w0_26, w0_27, .int o_atA, .int o_atB, .int o_atD, .int o_atF, .int o_atG, .int o_atH, .int o_atL, .int o_atM, .int o_atN, .int o_atS, .int o_atT, .int o_atU, .int o_atX, .ref a13, .ref a8, w0_43, w0_44, w0_45, w0_46, w0_47, w0_48, w0_49, .ref a7, .ref a12, .ref a5, .ref a9, .ref a6, .ref a11, w0_56, w0_57, w0_58, w0_59, w0_60, w0_61, w0_62, w0_63, w0_64, w0_65, w0_66])), (a1, .inl (E.2 0, 2400, .inl s_code)), (a2, .inl (E.2 0, 2400, .inl s_codeArg)), (a3, .inl (E.2 0, 240, .inl s_codeFrom)), (a4, .inl (E.2 0, 240, .inl s_codeTo)), (a5, .inl (E.2 0, 1440, .inl o_first)), (a6, .inl (E.2 0, 1440, .inl o_greatest)), (a7, .inl (E.2 0, 1440, .inl s_highAt)), (a8, .inl (E.2 2, 200, .inl o_isRefused)), (a9, .inl (E.2 0, 1440, .inl o_last)), (a10, .inl (E.2 0, 20, .inl s_many)), (a11, .inl (E.2 0, 2, .inl o_marked)), (a12, .inl (E.2 0, 1440, .inl s_shapeAt)), (a13, .inl (E.2 0, 200, .inl o_worth))]) := by
  refine kmetv rfl (Nat.le_of_ble_eq_true rfl) ?_
  intro p e s m args below meth c ls A Q X hnm hV hret hl
  have X : kC p s m c cX12_goesOver 9 RX12 args E A := X
  have hx := X.1
  have hb := X.2.1
  have hl : lv_has ls 9 [(0, .ref a0), (1, .int p1), (2, .int p2), (3, .int p3)] := hl
  rw [f_X12_goesOver] at h
  refine lv_iconst (v := 0) hx hb dX12_goesOver_0 (by decide) ?_
  refine lv_istore (lv' := [(4, .int 0), (0, .ref a0), (1, .int p1), (2, .int p2), (3, .int p3)]) hx hb dX12_goesOver_1 hl (by decide) rfl (fun ls hl1 => ?_)
  clear hl
  refine lv_iconst (v := 0) hx hb dX12_goesOver_3 (by decide) ?_
  refine lv_istore (lv' := [(5, .int 0), (4, .int 0), (0, .ref a0), (1, .int p1), (2, .int p2), (3, .int p3)]) hx hb dX12_goesOver_4 hl1 (by decide) rfl (fun ls hl2 => ?_)
  clear hl1
  refine lv_iconst (v := 0) hx hb dX12_goesOver_6 (by decide) ?_
  refine lv_istore (lv' := [(6, .int 0), (5, .int 0), (4, .int 0), (0, .ref a0), (1, .int p1), (2, .int p2), (3, .int p3)]) hx hb dX12_goesOver_7 hl2 (by decide) rfl (fun ls hl3 => ?_)
  clear hl2
  have J160 : ∀ (x4_4 : Int32) (atA__5 : Int32) (atB__6 : Int32) (atD__7 : Int32) (atF__8 : Int32) (atG__9 : Int32) (atH__10 : Int32) (atL__11 : Int32) (atM__12 : Int32) (atN__13 : Int32) (atS__14 : Int32) (atT__15 : Int32) (atU__16 : Int32) (atX__17 : Int32) (first__18 : Nat → Int32) (greatest__19 : Nat → Int32) (isRefused__20 : Nat → Int32) (last__21 : Nat → Int32) (worth__22 : Nat → Int32) (H : Heap) (locs : List Loc) (ls : Array Slot), (f_X12_goesOver_J160 s_marked p3 ) x4_4 atA__5 atB__6 atD__7 atF__8 atG__9 atH__10 atL__11 atM__12 atN__13 atS__14 atT__15 atU__16 atX__17 first__18 greatest__19 isRefused__20 last__21 worth__22 = some (o_atA, o_atB, o_atD, o_atF, o_atG, o_atH, o_atL, o_atM, o_atN, o_atS, o_atT, o_atU, o_atX, o_first, o_greatest, o_isRefused, o_last, o_marked, o_worth) → kV E A s.heap H locs [(a0, .inr (12, [w0_0, w0_1, w0_2, w0_3, w0_4, w0_5, w0_6, .ref a10, w0_8, .ref a3, .ref a4, .ref a1, .ref a2, w0_13, w0_14, w0_15, w0_16, w0_17, w0_18, w0_19, w0_20, w0_21, w0_22, w0_23, w0_24, w0_25, w0_26, w0_27, .int atA__5, .int atB__6, .int atD__7, .int atF__8, .int atG__9, .int atH__10, .int atL__11, .int atM__12, .int atN__13, .int atS__14, .int atT__15, .int atU__16, .int atX__17, .ref a13, .ref a8, w0_43, w0_44, w0_45, w0_46, w0_47, w0_48, w0_49, .ref a7, .ref a12, .ref a5, .ref a9, .ref a6, .ref a11, w0_56, w0_57, w0_58, w0_59, w0_60, w0_61, w0_62, w0_63, w0_64, w0_65, w0_66])), (a1, .inl (E.2 0, 2400, .inl s_code)), (a2, .inl (E.2 0, 2400, .inl s_codeArg)), (a3, .inl (E.2 0, 240, .inl s_codeFrom)), (a4, .inl (E.2 0, 240, .inl s_codeTo)), (a5, .inl (E.2 0, 1440, .inl first__18)), (a6, .inl (E.2 0, 1440, .inl greatest__19)), (a7, .inl (E.2 0, 1440, .inl s_highAt)), (a8, .inl (E.2 2, 200, .inl isRefused__20)), (a9, .inl (E.2 0, 1440, .inl last__21)), (a10, .inl (E.2 0, 20, .inl s_many)), (a11, .inl (E.2 0, 2, .inl s_marked)), (a12, .inl (E.2 0, 1440, .inl s_shapeAt)), (a13, .inl (E.2 0, 200, .inl worth__22))] → lv_has ls 9 [(0, .ref a0), (3, .int p3), (4, .int x4_4)] → W p l e r_X12_goesOver s m args below meth c H locs 0 0 Q (F0 m 160 ls []) := by
    intro x4_4 atA__5 atB__6 atD__7 atF__8 atG__9 atH__10 atL__11 atM__12 atN__13 atS__14 atT__15 atU__16 atX__17 first__18 greatest__19 isRefused__20 last__21 worth__22 H locs ls hB160 hVB160 hlB160
    rw [f_X12_goesOver_J160] at hB160
    refine lv_aload_n hx hb dX12_goesOver_160 rfl (lv_at hlB160 0 rfl) ?_
    refine kget X hVB160 (ci := 12) inlX12 rfl 0 rfl 55 (by decide) mw_167 rfl dX12_goesOver_161 ?_
    refine lv_iload_n hx hb dX12_goesOver_164 rfl (lv_at hlB160 1 rfl) ?_
    refine lv_iload hx hb dX12_goesOver_165 (lv_at hlB160 2 rfl) ?_
    obtain ⟨hi24, g167_23, e25, h26⟩ := wrI_s hB160
    clear hB160
    refine kiast X hVB160 11 rfl hi24 e25 dX12_goesOver_167 (fun H locs hV27 => ?_)
    have hV27 : kV E A s.heap H locs [(a0, .inr (12, [w0_0, w0_1, w0_2, w0_3, w0_4, w0_5, w0_6, .ref a10, w0_8, .ref a3, .ref a4, .ref a1, .ref a2, w0_13, w0_14, w0_15, w0_16, w0_17, w0_18, w0_19, w0_20, w0_21, w0_22, w0_23, w0_24, w0_25, w0_26, w0_27, .int atA__5, .int atB__6, .int atD__7, .int atF__8, .int atG__9, .int atH__10, .int atL__11, .int atM__12, .int atN__13, .int atS__14, .int atT__15, .int atU__16, .int atX__17, .ref a13, .ref a8, w0_43, w0_44, w0_45, w0_46, w0_47, w0_48, w0_49, .ref a7, .ref a12, .ref a5, .ref a9, .ref a6, .ref a11, w0_56, w0_57, w0_58, w0_59, w0_60, w0_61, w0_62, w0_63, w0_64, w0_65, w0_66])), (a1, .inl (E.2 0, 2400, .inl s_code)), (a2, .inl (E.2 0, 2400, .inl s_codeArg)), (a3, .inl (E.2 0, 240, .inl s_codeFrom)), (a4, .inl (E.2 0, 240, .inl s_codeTo)), (a5, .inl (E.2 0, 1440, .inl first__18)), (a6, .inl (E.2 0, 1440, .inl greatest__19)), (a7, .inl (E.2 0, 1440, .inl s_highAt)), (a8, .inl (E.2 2, 200, .inl isRefused__20)), (a9, .inl (E.2 0, 1440, .inl last__21)), (a10, .inl (E.2 0, 20, .inl s_many)), (a11, .inl (E.2 0, 2, .inl g167_23)), (a12, .inl (E.2 0, 1440, .inl s_shapeAt)), (a13, .inl (E.2 0, 200, .inl worth__22))] := hV27
    clear hVB160 hi24 e25
    obtain ⟨q28, q29, q30, q31, q32, q33, q34, q35, q36, q37, q38, q39, q40, q41, q42, q43, q44, q45, q46⟩ := tup19_s h26
    clear h26
    exact hret () _ _ _ _ trivial (by rw [← q28, ← q29, ← q30, ← q31, ← q32, ← q33, ← q34, ← q35, ← q36, ← q37, ← q38, ← q39, ← q40, ← q41, ← q42, ← q43, ← q44, ← q45, ← q46]; exact hV27) dX12_goesOver_168
  have L9 : ∀ (n9 : Nat) (x4_47 : Int32) (x5_48 : Int32) (x6_49 : Int32) (atA__50 : Int32) (atB__51 : Int32) (atD__52 : Int32) (atF__53 : Int32) (atG__54 : Int32) (atH__55 : Int32) (atL__56 : Int32) (atM__57 : Int32) (atN__58 : Int32) (atS__59 : Int32) (atT__60 : Int32) (atU__61 : Int32) (atX__62 : Int32) (first__63 : Nat → Int32) (greatest__64 : Nat → Int32) (isRefused__65 : Nat → Int32) (last__66 : Nat → Int32) (worth__67 : Nat → Int32) (H : Heap) (locs : List Loc) (ls : Array Slot), (f_X12_goesOver_L9 s_code s_codeArg s_codeFrom s_codeTo s_highAt s_many s_shapeAt p1 p2 p3 (f_X12_goesOver_J160 s_marked p3 ) n9) x4_47 x5_48 x6_49 atA__50 atB__51 atD__52 atF__53 atG__54 atH__55 atL__56 atM__57 atN__58 atS__59 atT__60 atU__61 atX__62 first__63 greatest__64 isRefused__65 last__66 worth__67 = some (o_atA, o_atB, o_atD, o_atF, o_atG, o_atH, o_atL, o_atM, o_atN, o_atS, o_atT, o_atU, o_atX, o_first, o_greatest, o_isRefused, o_last, o_marked, o_worth) → kV E A s.heap H locs [(a0, .inr (12, [w0_0, w0_1, w0_2, w0_3, w0_4, w0_5, w0_6, .ref a10, w0_8, .ref a3, .ref a4, .ref a1, .ref a2, w0_13, w0_14, w0_15, w0_16, w0_17, w0_18, w0_19, w0_20, w0_21, w0_22, w0_23, w0_24, w0_25, w0_26, w0_27, .int atA__50, .int atB__51, .int atD__52, .int atF__53, .int atG__54, .int atH__55, .int atL__56, .int atM__57, .int atN__58, .int atS__59, .int atT__60, .int atU__61, .int atX__62, .ref a13, .ref a8, w0_43, w0_44, w0_45, w0_46, w0_47, w0_48, w0_49, .ref a7, .ref a12, .ref a5, .ref a9, .ref a6, .ref a11, w0_56, w0_57, w0_58, w0_59, w0_60, w0_61, w0_62, w0_63, w0_64, w0_65, w0_66])), (a1, .inl (E.2 0, 2400, .inl s_code)), (a2, .inl (E.2 0, 2400, .inl s_codeArg)), (a3, .inl (E.2 0, 240, .inl s_codeFrom)), (a4, .inl (E.2 0, 240, .inl s_codeTo)), (a5, .inl (E.2 0, 1440, .inl first__63)), (a6, .inl (E.2 0, 1440, .inl greatest__64)), (a7, .inl (E.2 0, 1440, .inl s_highAt)), (a8, .inl (E.2 2, 200, .inl isRefused__65)), (a9, .inl (E.2 0, 1440, .inl last__66)), (a10, .inl (E.2 0, 20, .inl s_many)), (a11, .inl (E.2 0, 2, .inl s_marked)), (a12, .inl (E.2 0, 1440, .inl s_shapeAt)), (a13, .inl (E.2 0, 200, .inl worth__67))] → lv_has ls 9 [(0, .ref a0), (1, .int p1), (2, .int p2), (3, .int p3), (4, .int x4_47), (5, .int x5_48), (6, .int x6_49)] → W p l e r_X12_goesOver s m args below meth c H locs 0 0 Q (F0 m 9 ls []) := by
    intro n9
    induction n9 with
    | zero =>
      intro x4_47 x5_48 x6_49 atA__50 atB__51 atD__52 atF__53 atG__54 atH__55 atL__56 atM__57 atN__58 atS__59 atT__60 atU__61 atX__62 first__63 greatest__64 isRefused__65 last__66 worth__67 H locs ls hB9 hVB9 hlB9
      rw [f_X12_goesOver_L9] at hB9
      exact nomatch hB9
    | succ n9 ih9 =>
      intro x4_47 x5_48 x6_49 atA__50 atB__51 atD__52 atF__53 atG__54 atH__55 atL__56 atM__57 atN__58 atS__59 atT__60 atU__61 atX__62 first__63 greatest__64 isRefused__65 last__66 worth__67 H locs ls hB9 hVB9 hlB9
      rw [f_X12_goesOver_L9] at hB9
      refine lv_iload hx hb dX12_goesOver_9 (lv_at hlB9 6 rfl) ?_
      refine lv_sipush (v := 1440) hx hb dX12_goesOver_11 (by decide) ?_
      refine lv_icmp_ge (tgt := 160) hx hb dX12_goesOver_14 (by decide) (fun c68 => ?_) (fun c68 => ?_)
      · have h69 := itS c68 hB9
        clear hB9 c68
        exact J160 x4_47 atA__50 atB__51 atD__52 atF__53 atG__54 atH__55 atL__56 atM__57 atN__58 atS__59 atT__60 atU__61 atX__62 first__63 greatest__64 isRefused__65 last__66 worth__67 _ _ _ h69 hVB9 (lv_sub hlB9 [0, 3, 4] rfl)
      · have h70 := ieS c68 hB9
        clear hB9 c68
        refine lv_aload_n hx hb dX12_goesOver_17 rfl (lv_at hlB9 0 rfl) ?_
        refine lv_iload_n hx hb dX12_goesOver_18 rfl (lv_at hlB9 1 rfl) ?_
        refine lv_iload_n hx hb dX12_goesOver_19 rfl (lv_at hlB9 2 rfl) ?_
        refine lv_iload hx hb dX12_goesOver_20 (lv_at hlB9 6 rfl) ?_
        refine lv_iload hx hb dX12_goesOver_22 (lv_at hlB9 5 rfl) ?_
        have J36 : ∀ (t4_71 : Int32) (H : Heap) (locs : List Loc) (ls : Array Slot), (f_X12_goesOver_J36 s_code s_codeArg s_codeFrom s_codeTo s_highAt s_many s_shapeAt p1 p2 p3 x4_47 x5_48 x6_49 atA__50 atB__51 atD__52 atF__53 atG__54 atH__55 atL__56 atM__57 atN__58 atS__59 atT__60 atU__61 atX__62 first__63 greatest__64 isRefused__65 last__66 worth__67 (f_X12_goesOver_L9 s_code s_codeArg s_codeFrom s_codeTo s_highAt s_many s_shapeAt p1 p2 p3 (f_X12_goesOver_J160 s_marked p3 ) n9)) t4_71 = some (o_atA, o_atB, o_atD, o_atF, o_atG, o_atH, o_atL, o_atM, o_atN, o_atS, o_atT, o_atU, o_atX, o_first, o_greatest, o_isRefused, o_last, o_marked, o_worth) → kV E A s.heap H locs [(a0, .inr (12, [w0_0, w0_1, w0_2, w0_3, w0_4, w0_5, w0_6, .ref a10, w0_8, .ref a3, .ref a4, .ref a1, .ref a2, w0_13, w0_14, w0_15, w0_16, w0_17, w0_18, w0_19, w0_20, w0_21, w0_22, w0_23, w0_24, w0_25, w0_26, w0_27, .int atA__50, .int atB__51, .int atD__52, .int atF__53, .int atG__54, .int atH__55, .int atL__56, .int atM__57, .int atN__58, .int atS__59, .int atT__60, .int atU__61, .int atX__62, .ref a13, .ref a8, w0_43, w0_44, w0_45, w0_46, w0_47, w0_48, w0_49, .ref a7, .ref a12, .ref a5, .ref a9, .ref a6, .ref a11, w0_56, w0_57, w0_58, w0_59, w0_60, w0_61, w0_62, w0_63, w0_64, w0_65, w0_66])), (a1, .inl (E.2 0, 2400, .inl s_code)), (a2, .inl (E.2 0, 2400, .inl s_codeArg)), (a3, .inl (E.2 0, 240, .inl s_codeFrom)), (a4, .inl (E.2 0, 240, .inl s_codeTo)), (a5, .inl (E.2 0, 1440, .inl first__63)), (a6, .inl (E.2 0, 1440, .inl greatest__64)), (a7, .inl (E.2 0, 1440, .inl s_highAt)), (a8, .inl (E.2 2, 200, .inl isRefused__65)), (a9, .inl (E.2 0, 1440, .inl last__66)), (a10, .inl (E.2 0, 20, .inl s_many)), (a11, .inl (E.2 0, 2, .inl s_marked)), (a12, .inl (E.2 0, 1440, .inl s_shapeAt)), (a13, .inl (E.2 0, 200, .inl worth__67))] → lv_has ls 9 [(0, .ref a0), (1, .int p1), (2, .int p2), (3, .int p3), (4, .int x4_47), (5, .int x5_48), (6, .int x6_49)] → W p l e r_X12_goesOver s m args below meth c H locs 0 0 Q (F0 m 36 ls [.int t4_71, .int x6_49, .int p2, .int p1, .ref a0]) := by
          intro t4_71 H locs ls hB36 hVB36 hlB36
          rw [f_X12_goesOver_J36] at hB36
          obtain ⟨r36_72, o_atA36_73, o_atB36_74, o_atD36_75, o_atF36_76, o_atG36_77, o_atH36_78, o_atL36_79, o_atM36_80, o_atN36_81, o_atS36_82, o_atT36_83, o_atU36_84, o_atX36_85, o_isRefused36_86, o_worth36_87, hc88, h89⟩ := cb16_s hB36
          clear hB36
          refine kgoiE (krunV (rest := []) X hVB36 [0, 1, 2, 3, 4, 7, 8, 10, 12, 13] (c_X12_isMarked l E _ a0 a1 a2 a3 a4 a7 a8 a10 a12 a13 (w0_0) (w0_1) (w0_2) (w0_3) (w0_4) (w0_5) (w0_6) (w0_8) (w0_13) (w0_14) (w0_15) (w0_16) (w0_17) (w0_18) (w0_19) (w0_20) (w0_21) (w0_22) (w0_23) (w0_24) (w0_25) (w0_26) (w0_27) (w0_43) (w0_44) (w0_45) (w0_46) (w0_47) (w0_48) (w0_49) (.ref a5) (.ref a9) (.ref a6) (.ref a11) (w0_56) (w0_57) (w0_58) (w0_59) (w0_60) (w0_61) (w0_62) (w0_63) (w0_64) (w0_65) (w0_66) atA__50 atB__51 atD__52 atF__53 atG__54 atH__55 atL__56 atM__57 atN__58 atS__59 atT__60 atU__61 atX__62 s_code s_codeArg s_codeFrom s_codeTo s_highAt isRefused__65 s_many s_shapeAt worth__67 p1 p2 x6_49 t4_71 r36_72 o_atA36_73 o_atB36_74 o_atD36_75 o_atF36_76 o_atG36_77 o_atH36_78 o_atL36_79 o_atM36_80 o_atN36_81 o_atS36_82 o_atT36_83 o_atU36_84 o_atX36_85 o_isRefused36_86 o_worth36_87 hc88) mw_858 kb_X12_isMarked (ci := 12) rfl rfl (by decide) rfl rfl hlB36.1 rfl (Nat.le_of_ble_eq_true rfl) dX12_goesOver_36 (by decide)) X hVB36 [0, 1, 2, 3, 4, 7, 8, 10, 12, 13] [5, 6, 9, 11] rfl rfl rfl (by decide) (fun u H locs hV90 => ?_)
          have hV90 : kV E A s.heap H locs [(a0, .inr (12, [w0_0, w0_1, w0_2, w0_3, w0_4, w0_5, w0_6, .ref a10, w0_8, .ref a3, .ref a4, .ref a1, .ref a2, w0_13, w0_14, w0_15, w0_16, w0_17, w0_18, w0_19, w0_20, w0_21, w0_22, w0_23, w0_24, w0_25, w0_26, w0_27, .int o_atA36_73, .int o_atB36_74, .int o_atD36_75, .int o_atF36_76, .int o_atG36_77, .int o_atH36_78, .int o_atL36_79, .int o_atM36_80, .int o_atN36_81, .int o_atS36_82, .int o_atT36_83, .int o_atU36_84, .int o_atX36_85, .ref a13, .ref a8, w0_43, w0_44, w0_45, w0_46, w0_47, w0_48, w0_49, .ref a7, .ref a12, .ref a5, .ref a9, .ref a6, .ref a11, w0_56, w0_57, w0_58, w0_59, w0_60, w0_61, w0_62, w0_63, w0_64, w0_65, w0_66])), (a1, .inl (E.2 0, 2400, .inl s_code)), (a2, .inl (E.2 0, 2400, .inl s_codeArg)), (a3, .inl (E.2 0, 240, .inl s_codeFrom)), (a4, .inl (E.2 0, 240, .inl s_codeTo)), (a5, .inl (E.2 0, 1440, .inl first__63)), (a6, .inl (E.2 0, 1440, .inl greatest__64)), (a7, .inl (E.2 0, 1440, .inl s_highAt)), (a8, .inl (E.2 2, 200, .inl o_isRefused36_86)), (a9, .inl (E.2 0, 1440, .inl last__66)), (a10, .inl (E.2 0, 20, .inl s_many)), (a11, .inl (E.2 0, 2, .inl s_marked)), (a12, .inl (E.2 0, 1440, .inl s_shapeAt)), (a13, .inl (E.2 0, 200, .inl o_worth36_87))] := hV90.sub [4, 5, 6, 7, 8, 0, 1, 9, 10, 2, 11, 3, 12, 13] rfl rfl
          clear hVB36
          refine lv_istore (lv' := [(7, .int r36_72), (0, .ref a0), (1, .int p1), (2, .int p2), (3, .int p3), (4, .int x4_47), (5, .int x5_48), (6, .int x6_49)]) hx hb dX12_goesOver_39 hlB36 (by decide) rfl (fun ls hl92 => ?_)
          clear hlB36
          refine lv_iload hx hb dX12_goesOver_41 (lv_at hl92 0 rfl) ?_
          have J83 : ∀ (x4_93 : Int32) (first__94 : Nat → Int32) (greatest__95 : Nat → Int32) (H : Heap) (locs : List Loc) (ls : Array Slot), (f_X12_goesOver_J83 s_highAt p3 x6_49 last__66 r36_72 o_atA36_73 o_atB36_74 o_atD36_75 o_atF36_76 o_atG36_77 o_atH36_78 o_atL36_79 o_atM36_80 o_atN36_81 o_atS36_82 o_atT36_83 o_atU36_84 o_atX36_85 o_isRefused36_86 o_worth36_87 (f_X12_goesOver_L9 s_code s_codeArg s_codeFrom s_codeTo s_highAt s_many s_shapeAt p1 p2 p3 (f_X12_goesOver_J160 s_marked p3 ) n9)) x4_93 first__94 greatest__95 = some (o_atA, o_atB, o_atD, o_atF, o_atG, o_atH, o_atL, o_atM, o_atN, o_atS, o_atT, o_atU, o_atX, o_first, o_greatest, o_isRefused, o_last, o_marked, o_worth) → kV E A s.heap H locs [(a0, .inr (12, [w0_0, w0_1, w0_2, w0_3, w0_4, w0_5, w0_6, .ref a10, w0_8, .ref a3, .ref a4, .ref a1, .ref a2, w0_13, w0_14, w0_15, w0_16, w0_17, w0_18, w0_19, w0_20, w0_21, w0_22, w0_23, w0_24, w0_25, w0_26, w0_27, .int o_atA36_73, .int o_atB36_74, .int o_atD36_75, .int o_atF36_76, .int o_atG36_77, .int o_atH36_78, .int o_atL36_79, .int o_atM36_80, .int o_atN36_81, .int o_atS36_82, .int o_atT36_83, .int o_atU36_84, .int o_atX36_85, .ref a13, .ref a8, w0_43, w0_44, w0_45, w0_46, w0_47, w0_48, w0_49, .ref a7, .ref a12, .ref a5, .ref a9, .ref a6, .ref a11, w0_56, w0_57, w0_58, w0_59, w0_60, w0_61, w0_62, w0_63, w0_64, w0_65, w0_66])), (a1, .inl (E.2 0, 2400, .inl s_code)), (a2, .inl (E.2 0, 2400, .inl s_codeArg)), (a3, .inl (E.2 0, 240, .inl s_codeFrom)), (a4, .inl (E.2 0, 240, .inl s_codeTo)), (a5, .inl (E.2 0, 1440, .inl first__94)), (a6, .inl (E.2 0, 1440, .inl greatest__95)), (a7, .inl (E.2 0, 1440, .inl s_highAt)), (a8, .inl (E.2 2, 200, .inl o_isRefused36_86)), (a9, .inl (E.2 0, 1440, .inl last__66)), (a10, .inl (E.2 0, 20, .inl s_many)), (a11, .inl (E.2 0, 2, .inl s_marked)), (a12, .inl (E.2 0, 1440, .inl s_shapeAt)), (a13, .inl (E.2 0, 200, .inl o_worth36_87))] → lv_has ls 9 [(0, .ref a0), (1, .int p1), (2, .int p2), (3, .int p3), (4, .int x4_93), (6, .int x6_49), (7, .int r36_72)] → W p l e r_X12_goesOver s m args below meth c H locs 0 0 Q (F0 m 83 ls []) := by
            intro x4_93 first__94 greatest__95 H locs ls hB83 hVB83 hlB83
            rw [f_X12_goesOver_J83] at hB83
            refine lv_iload hx hb dX12_goesOver_83 (lv_at hlB83 6 rfl) ?_
            refine lv_if_eq (tgt := 150) hx hb dX12_goesOver_85 (by decide) (fun c96 => ?_) (fun c96 => ?_)
            · have h97 := itS c96 hB83
              clear hB83 c96
              refine lv_iload hx hb dX12_goesOver_150 (lv_at hlB83 6 rfl) ?_
              refine lv_istore (lv' := [(5, .int r36_72), (0, .ref a0), (1, .int p1), (2, .int p2), (3, .int p3), (4, .int x4_93), (6, .int x6_49), (7, .int r36_72)]) hx hb dX12_goesOver_152 hlB83 (by decide) rfl (fun ls hl99 => ?_)
              clear hlB83
              obtain ⟨v154_100, e101, h102⟩ := nmI_s h97
              clear h97
              refine lv_iinc (v := v154_100) (lv' := [(6, .int v154_100), (5, .int r36_72), (0, .ref a0), (1, .int p1), (2, .int p2), (3, .int p3), (4, .int x4_93), (7, .int r36_72)]) hx hb dX12_goesOver_154 hl99 (k := 6) rfl (by rw [e101]; rfl) (by decide) rfl (fun ls hl103 => ?_)
              clear hl99 e101
              refine lv_goto (tgt := 9) hx hb dX12_goesOver_157 (by decide) ?_
              exact ih9 x4_93 r36_72 v154_100 o_atA36_73 o_atB36_74 o_atD36_75 o_atF36_76 o_atG36_77 o_atH36_78 o_atL36_79 o_atM36_80 o_atN36_81 o_atS36_82 o_atT36_83 o_atU36_84 o_atX36_85 first__94 greatest__95 o_isRefused36_86 last__66 o_worth36_87 _ _ _ h102 hVB83 (lv_sub hl103 [2, 3, 4, 5, 6, 1, 0] rfl)
            · have h98 := ieS c96 hB83
              clear hB83 c96
              refine lv_sipush (v := 720) hx hb dX12_goesOver_88 (by decide) ?_
              refine lv_iload_n hx hb dX12_goesOver_91 rfl (lv_at hlB83 3 rfl) ?_
              refine lv_imul hx hb dX12_goesOver_92 ?_
              refine lv_iload hx hb dX12_goesOver_93 (lv_at hlB83 4 rfl) ?_
              refine lv_iadd hx hb dX12_goesOver_95 ?_
              refine lv_iconst (v := 1) hx hb dX12_goesOver_96 (by decide) ?_
              refine lv_isub hx hb dX12_goesOver_97 ?_
              obtain ⟨v98_104, e105, h106⟩ := nmI_s h98
              clear h98
              refine ktopi e105 ?_
              clear e105
              refine lv_istore (lv' := [(8, .int v98_104), (0, .ref a0), (1, .int p1), (2, .int p2), (3, .int p3), (4, .int x4_93), (6, .int x6_49), (7, .int r36_72)]) hx hb dX12_goesOver_98 hlB83 (by decide) rfl (fun ls hl107 => ?_)
              clear hlB83
              refine lv_aload_n hx hb dX12_goesOver_100 rfl (lv_at hl107 1 rfl) ?_
              refine kget X hVB83 (ci := 12) inlX12 rfl 0 rfl 53 (by decide) mw_165 rfl dX12_goesOver_101 ?_
              refine lv_iload hx hb dX12_goesOver_104 (lv_at hl107 0 rfl) ?_
              refine lv_iload hx hb dX12_goesOver_106 (lv_at hl107 6 rfl) ?_
              obtain ⟨hi109, g108_108, e110, h111⟩ := wrI_s h106
              clear h106
              refine kiast X hVB83 9 rfl hi109 e110 dX12_goesOver_108 (fun H locs hV112 => ?_)
              have hV112 : kV E A s.heap H locs [(a0, .inr (12, [w0_0, w0_1, w0_2, w0_3, w0_4, w0_5, w0_6, .ref a10, w0_8, .ref a3, .ref a4, .ref a1, .ref a2, w0_13, w0_14, w0_15, w0_16, w0_17, w0_18, w0_19, w0_20, w0_21, w0_22, w0_23, w0_24, w0_25, w0_26, w0_27, .int o_atA36_73, .int o_atB36_74, .int o_atD36_75, .int o_atF36_76, .int o_atG36_77, .int o_atH36_78, .int o_atL36_79, .int o_atM36_80, .int o_atN36_81, .int o_atS36_82, .int o_atT36_83, .int o_atU36_84, .int o_atX36_85, .ref a13, .ref a8, w0_43, w0_44, w0_45, w0_46, w0_47, w0_48, w0_49, .ref a7, .ref a12, .ref a5, .ref a9, .ref a6, .ref a11, w0_56, w0_57, w0_58, w0_59, w0_60, w0_61, w0_62, w0_63, w0_64, w0_65, w0_66])), (a1, .inl (E.2 0, 2400, .inl s_code)), (a2, .inl (E.2 0, 2400, .inl s_codeArg)), (a3, .inl (E.2 0, 240, .inl s_codeFrom)), (a4, .inl (E.2 0, 240, .inl s_codeTo)), (a5, .inl (E.2 0, 1440, .inl first__94)), (a6, .inl (E.2 0, 1440, .inl greatest__95)), (a7, .inl (E.2 0, 1440, .inl s_highAt)), (a8, .inl (E.2 2, 200, .inl o_isRefused36_86)), (a9, .inl (E.2 0, 1440, .inl g108_108)), (a10, .inl (E.2 0, 20, .inl s_many)), (a11, .inl (E.2 0, 2, .inl s_marked)), (a12, .inl (E.2 0, 1440, .inl s_shapeAt)), (a13, .inl (E.2 0, 200, .inl o_worth36_87))] := hV112
              clear hVB83 hi109 e110
              refine lv_aload_n hx hb dX12_goesOver_109 rfl (lv_at hl107 1 rfl) ?_
              refine kget X hV112 (ci := 12) inlX12 rfl 0 rfl 54 (by decide) mw_166 rfl dX12_goesOver_110 ?_
              refine lv_iload hx hb dX12_goesOver_113 (lv_at hl107 0 rfl) ?_
              refine lv_aload_n hx hb dX12_goesOver_115 rfl (lv_at hl107 1 rfl) ?_
              refine kget X hV112 (ci := 12) inlX12 rfl 0 rfl 50 (by decide) mw_162 rfl dX12_goesOver_116 ?_
              refine lv_iload hx hb dX12_goesOver_119 (lv_at hl107 6 rfl) ?_
              obtain ⟨hi114, v121_113, e115, h116⟩ := rdI_s h111
              clear h111
              refine kiald X hV112 7 rfl hi114 e115 dX12_goesOver_121 ?_
              clear hi114 e115
              refine lv_aload_n hx hb dX12_goesOver_122 rfl (lv_at hl107 1 rfl) ?_
              refine kget X hV112 (ci := 12) inlX12 rfl 0 rfl 54 (by decide) mw_166 rfl dX12_goesOver_123 ?_
              refine lv_iload hx hb dX12_goesOver_126 (lv_at hl107 0 rfl) ?_
              obtain ⟨hi118, v128_117, e119, h120⟩ := rdI_s h116
              clear h116
              refine kiald X hV112 6 rfl hi118 e119 dX12_goesOver_128 ?_
              clear hi118 e119
              have J149 : ∀ (t2_121 : Int32) (H : Heap) (locs : List Loc) (ls : Array Slot), (f_X12_goesOver_J149 x6_49 r36_72 o_atA36_73 o_atB36_74 o_atD36_75 o_atF36_76 o_atG36_77 o_atH36_78 o_atL36_79 o_atM36_80 o_atN36_81 o_atS36_82 o_atT36_83 o_atU36_84 o_atX36_85 o_isRefused36_86 o_worth36_87 x4_93 first__94 greatest__95 v98_104 g108_108 (f_X12_goesOver_L9 s_code s_codeArg s_codeFrom s_codeTo s_highAt s_many s_shapeAt p1 p2 p3 (f_X12_goesOver_J160 s_marked p3 ) n9)) t2_121 = some (o_atA, o_atB, o_atD, o_atF, o_atG, o_atH, o_atL, o_atM, o_atN, o_atS, o_atT, o_atU, o_atX, o_first, o_greatest, o_isRefused, o_last, o_marked, o_worth) → kV E A s.heap H locs [(a0, .inr (12, [w0_0, w0_1, w0_2, w0_3, w0_4, w0_5, w0_6, .ref a10, w0_8, .ref a3, .ref a4, .ref a1, .ref a2, w0_13, w0_14, w0_15, w0_16, w0_17, w0_18, w0_19, w0_20, w0_21, w0_22, w0_23, w0_24, w0_25, w0_26, w0_27, .int o_atA36_73, .int o_atB36_74, .int o_atD36_75, .int o_atF36_76, .int o_atG36_77, .int o_atH36_78, .int o_atL36_79, .int o_atM36_80, .int o_atN36_81, .int o_atS36_82, .int o_atT36_83, .int o_atU36_84, .int o_atX36_85, .ref a13, .ref a8, w0_43, w0_44, w0_45, w0_46, w0_47, w0_48, w0_49, .ref a7, .ref a12, .ref a5, .ref a9, .ref a6, .ref a11, w0_56, w0_57, w0_58, w0_59, w0_60, w0_61, w0_62, w0_63, w0_64, w0_65, w0_66])), (a1, .inl (E.2 0, 2400, .inl s_code)), (a2, .inl (E.2 0, 2400, .inl s_codeArg)), (a3, .inl (E.2 0, 240, .inl s_codeFrom)), (a4, .inl (E.2 0, 240, .inl s_codeTo)), (a5, .inl (E.2 0, 1440, .inl first__94)), (a6, .inl (E.2 0, 1440, .inl greatest__95)), (a7, .inl (E.2 0, 1440, .inl s_highAt)), (a8, .inl (E.2 2, 200, .inl o_isRefused36_86)), (a9, .inl (E.2 0, 1440, .inl g108_108)), (a10, .inl (E.2 0, 20, .inl s_many)), (a11, .inl (E.2 0, 2, .inl s_marked)), (a12, .inl (E.2 0, 1440, .inl s_shapeAt)), (a13, .inl (E.2 0, 200, .inl o_worth36_87))] → lv_has ls 9 [(0, .ref a0), (1, .int p1), (2, .int p2), (3, .int p3), (4, .int x4_93), (6, .int x6_49), (7, .int r36_72)] → W p l e r_X12_goesOver s m args below meth c H locs 0 0 Q (F0 m 149 ls [.int t2_121, .int v98_104, .ref a6]) := by
                intro t2_121 H locs ls hB149 hVB149 hlB149
                rw [f_X12_goesOver_J149] at hB149
                obtain ⟨hi123, g149_122, e124, h125⟩ := wrI_s hB149
                clear hB149
                refine kiast X hVB149 6 rfl hi123 e124 dX12_goesOver_149 (fun H locs hV126 => ?_)
                have hV126 : kV E A s.heap H locs [(a0, .inr (12, [w0_0, w0_1, w0_2, w0_3, w0_4, w0_5, w0_6, .ref a10, w0_8, .ref a3, .ref a4, .ref a1, .ref a2, w0_13, w0_14, w0_15, w0_16, w0_17, w0_18, w0_19, w0_20, w0_21, w0_22, w0_23, w0_24, w0_25, w0_26, w0_27, .int o_atA36_73, .int o_atB36_74, .int o_atD36_75, .int o_atF36_76, .int o_atG36_77, .int o_atH36_78, .int o_atL36_79, .int o_atM36_80, .int o_atN36_81, .int o_atS36_82, .int o_atT36_83, .int o_atU36_84, .int o_atX36_85, .ref a13, .ref a8, w0_43, w0_44, w0_45, w0_46, w0_47, w0_48, w0_49, .ref a7, .ref a12, .ref a5, .ref a9, .ref a6, .ref a11, w0_56, w0_57, w0_58, w0_59, w0_60, w0_61, w0_62, w0_63, w0_64, w0_65, w0_66])), (a1, .inl (E.2 0, 2400, .inl s_code)), (a2, .inl (E.2 0, 2400, .inl s_codeArg)), (a3, .inl (E.2 0, 240, .inl s_codeFrom)), (a4, .inl (E.2 0, 240, .inl s_codeTo)), (a5, .inl (E.2 0, 1440, .inl first__94)), (a6, .inl (E.2 0, 1440, .inl g149_122)), (a7, .inl (E.2 0, 1440, .inl s_highAt)), (a8, .inl (E.2 2, 200, .inl o_isRefused36_86)), (a9, .inl (E.2 0, 1440, .inl g108_108)), (a10, .inl (E.2 0, 20, .inl s_many)), (a11, .inl (E.2 0, 2, .inl s_marked)), (a12, .inl (E.2 0, 1440, .inl s_shapeAt)), (a13, .inl (E.2 0, 200, .inl o_worth36_87))] := hV126
                clear hVB149 hi123 e124
                refine lv_iload hx hb dX12_goesOver_150 (lv_at hlB149 6 rfl) ?_
                refine lv_istore (lv' := [(5, .int r36_72), (0, .ref a0), (1, .int p1), (2, .int p2), (3, .int p3), (4, .int x4_93), (6, .int x6_49), (7, .int r36_72)]) hx hb dX12_goesOver_152 hlB149 (by decide) rfl (fun ls hl127 => ?_)
                clear hlB149
                obtain ⟨v154_128, e129, h130⟩ := nmI_s h125
                clear h125
                refine lv_iinc (v := v154_128) (lv' := [(6, .int v154_128), (5, .int r36_72), (0, .ref a0), (1, .int p1), (2, .int p2), (3, .int p3), (4, .int x4_93), (7, .int r36_72)]) hx hb dX12_goesOver_154 hl127 (k := 6) rfl (by rw [e129]; rfl) (by decide) rfl (fun ls hl131 => ?_)
                clear hl127 e129
                refine lv_goto (tgt := 9) hx hb dX12_goesOver_157 (by decide) ?_
                exact ih9 x4_93 r36_72 v154_128 o_atA36_73 o_atB36_74 o_atD36_75 o_atF36_76 o_atG36_77 o_atH36_78 o_atL36_79 o_atM36_80 o_atN36_81 o_atS36_82 o_atT36_83 o_atU36_84 o_atX36_85 first__94 g149_122 o_isRefused36_86 g108_108 o_worth36_87 _ _ _ h130 hV126 (lv_sub hl131 [2, 3, 4, 5, 6, 1, 0] rfl)
              refine lv_icmp_le (tgt := 142) hx hb dX12_goesOver_129 (by decide) (fun c132 => ?_) (fun c132 => ?_)
              · have h133 := itS c132 h120
                clear h120 c132
                refine lv_aload_n hx hb dX12_goesOver_142 rfl (lv_at hl107 1 rfl) ?_
                refine kget X hV112 (ci := 12) inlX12 rfl 0 rfl 54 (by decide) mw_166 rfl dX12_goesOver_143 ?_
                refine lv_iload hx hb dX12_goesOver_146 (lv_at hl107 0 rfl) ?_
                obtain ⟨hi136, v148_135, e137, h138⟩ := rdI_s h133
                clear h133
                refine kiald X hV112 6 rfl hi136 e137 dX12_goesOver_148 ?_
                clear hi136 e137
                exact J149 v148_135 _ _ _ h138 hV112 (lv_sub hl107 [1, 2, 3, 4, 5, 6, 7] rfl)
              · have h134 := ieS c132 h120
                clear h120 c132
                refine lv_aload_n hx hb dX12_goesOver_132 rfl (lv_at hl107 1 rfl) ?_
                refine kget X hV112 (ci := 12) inlX12 rfl 0 rfl 50 (by decide) mw_162 rfl dX12_goesOver_133 ?_
                refine lv_iload hx hb dX12_goesOver_136 (lv_at hl107 6 rfl) ?_
                obtain ⟨hi140, v138_139, e141, h142⟩ := rdI_s h134
                clear h134
                refine kiald X hV112 7 rfl hi140 e141 dX12_goesOver_138 ?_
                clear hi140 e141
                refine lv_goto (tgt := 149) hx hb dX12_goesOver_139 (by decide) ?_
                exact J149 v138_139 _ _ _ h142 hV112 (lv_sub hl107 [1, 2, 3, 4, 5, 6, 7] rfl)
          refine lv_if_eq (tgt := 83) hx hb dX12_goesOver_43 (by decide) (fun c143 => ?_) (fun c143 => ?_)
          · have h144 := itS c143 h89
            clear h89 c143
            exact J83 x4_47 first__63 greatest__64 _ _ _ h144 hV90 (lv_sub hl92 [1, 2, 3, 4, 5, 7, 0] rfl)
          · have h145 := ieS c143 h89
            clear h89 c143
            refine lv_iload hx hb dX12_goesOver_46 (lv_at hl92 6 rfl) ?_
            refine lv_if_ne (tgt := 83) hx hb dX12_goesOver_48 (by decide) (fun c146 => ?_) (fun c146 => ?_)
            · have h147 := ieS c146 h145
              clear h145 c146
              exact J83 x4_47 first__63 greatest__64 _ _ _ h147 hV90 (lv_sub hl92 [1, 2, 3, 4, 5, 7, 0] rfl)
            · have h148 := itS c146 h145
              clear h145 c146
              refine lv_aload_n hx hb dX12_goesOver_51 rfl (lv_at hl92 1 rfl) ?_
              refine kget X hV90 (ci := 12) inlX12 rfl 0 rfl 52 (by decide) mw_164 rfl dX12_goesOver_52 ?_
              refine lv_sipush (v := 720) hx hb dX12_goesOver_55 (by decide) ?_
              refine lv_iload_n hx hb dX12_goesOver_58 rfl (lv_at hl92 4 rfl) ?_
              refine lv_imul hx hb dX12_goesOver_59 ?_
              refine lv_iload hx hb dX12_goesOver_60 (lv_at hl92 5 rfl) ?_
              refine lv_iadd hx hb dX12_goesOver_62 ?_
              refine lv_iload hx hb dX12_goesOver_63 (lv_at hl92 7 rfl) ?_
              obtain ⟨hi150, g65_149, e151, h152⟩ := wrI_s h148
              clear h148
              refine kiast X hV90 5 rfl hi150 e151 dX12_goesOver_65 (fun H locs hV153 => ?_)
              have hV153 : kV E A s.heap H locs [(a0, .inr (12, [w0_0, w0_1, w0_2, w0_3, w0_4, w0_5, w0_6, .ref a10, w0_8, .ref a3, .ref a4, .ref a1, .ref a2, w0_13, w0_14, w0_15, w0_16, w0_17, w0_18, w0_19, w0_20, w0_21, w0_22, w0_23, w0_24, w0_25, w0_26, w0_27, .int o_atA36_73, .int o_atB36_74, .int o_atD36_75, .int o_atF36_76, .int o_atG36_77, .int o_atH36_78, .int o_atL36_79, .int o_atM36_80, .int o_atN36_81, .int o_atS36_82, .int o_atT36_83, .int o_atU36_84, .int o_atX36_85, .ref a13, .ref a8, w0_43, w0_44, w0_45, w0_46, w0_47, w0_48, w0_49, .ref a7, .ref a12, .ref a5, .ref a9, .ref a6, .ref a11, w0_56, w0_57, w0_58, w0_59, w0_60, w0_61, w0_62, w0_63, w0_64, w0_65, w0_66])), (a1, .inl (E.2 0, 2400, .inl s_code)), (a2, .inl (E.2 0, 2400, .inl s_codeArg)), (a3, .inl (E.2 0, 240, .inl s_codeFrom)), (a4, .inl (E.2 0, 240, .inl s_codeTo)), (a5, .inl (E.2 0, 1440, .inl g65_149)), (a6, .inl (E.2 0, 1440, .inl greatest__64)), (a7, .inl (E.2 0, 1440, .inl s_highAt)), (a8, .inl (E.2 2, 200, .inl o_isRefused36_86)), (a9, .inl (E.2 0, 1440, .inl last__66)), (a10, .inl (E.2 0, 20, .inl s_many)), (a11, .inl (E.2 0, 2, .inl s_marked)), (a12, .inl (E.2 0, 1440, .inl s_shapeAt)), (a13, .inl (E.2 0, 200, .inl o_worth36_87))] := hV153
              clear hV90 hi150 e151
              refine lv_aload_n hx hb dX12_goesOver_66 rfl (lv_at hl92 1 rfl) ?_
              refine kget X hV153 (ci := 12) inlX12 rfl 0 rfl 54 (by decide) mw_166 rfl dX12_goesOver_67 ?_
              refine lv_sipush (v := 720) hx hb dX12_goesOver_70 (by decide) ?_
              refine lv_iload_n hx hb dX12_goesOver_73 rfl (lv_at hl92 4 rfl) ?_
              refine lv_imul hx hb dX12_goesOver_74 ?_
              refine lv_iload hx hb dX12_goesOver_75 (lv_at hl92 5 rfl) ?_
              refine lv_iadd hx hb dX12_goesOver_77 ?_
              refine lv_iconst (v := 0) hx hb dX12_goesOver_78 (by decide) ?_
              obtain ⟨hi155, g79_154, e156, h157⟩ := wrI_s h152
              clear h152
              refine kiast X hV153 6 rfl hi155 e156 dX12_goesOver_79 (fun H locs hV158 => ?_)
              have hV158 : kV E A s.heap H locs [(a0, .inr (12, [w0_0, w0_1, w0_2, w0_3, w0_4, w0_5, w0_6, .ref a10, w0_8, .ref a3, .ref a4, .ref a1, .ref a2, w0_13, w0_14, w0_15, w0_16, w0_17, w0_18, w0_19, w0_20, w0_21, w0_22, w0_23, w0_24, w0_25, w0_26, w0_27, .int o_atA36_73, .int o_atB36_74, .int o_atD36_75, .int o_atF36_76, .int o_atG36_77, .int o_atH36_78, .int o_atL36_79, .int o_atM36_80, .int o_atN36_81, .int o_atS36_82, .int o_atT36_83, .int o_atU36_84, .int o_atX36_85, .ref a13, .ref a8, w0_43, w0_44, w0_45, w0_46, w0_47, w0_48, w0_49, .ref a7, .ref a12, .ref a5, .ref a9, .ref a6, .ref a11, w0_56, w0_57, w0_58, w0_59, w0_60, w0_61, w0_62, w0_63, w0_64, w0_65, w0_66])), (a1, .inl (E.2 0, 2400, .inl s_code)), (a2, .inl (E.2 0, 2400, .inl s_codeArg)), (a3, .inl (E.2 0, 240, .inl s_codeFrom)), (a4, .inl (E.2 0, 240, .inl s_codeTo)), (a5, .inl (E.2 0, 1440, .inl g65_149)), (a6, .inl (E.2 0, 1440, .inl g79_154)), (a7, .inl (E.2 0, 1440, .inl s_highAt)), (a8, .inl (E.2 2, 200, .inl o_isRefused36_86)), (a9, .inl (E.2 0, 1440, .inl last__66)), (a10, .inl (E.2 0, 20, .inl s_many)), (a11, .inl (E.2 0, 2, .inl s_marked)), (a12, .inl (E.2 0, 1440, .inl s_shapeAt)), (a13, .inl (E.2 0, 200, .inl o_worth36_87))] := hV158
              clear hV153 hi155 e156
              obtain ⟨v80_159, e160, h161⟩ := nmI_s h157
              clear h157
              refine lv_iinc (v := v80_159) (lv' := [(4, .int v80_159), (7, .int r36_72), (0, .ref a0), (1, .int p1), (2, .int p2), (3, .int p3), (5, .int x5_48), (6, .int x6_49)]) hx hb dX12_goesOver_80 hl92 (k := 5) rfl (by rw [e160]; rfl) (by decide) rfl (fun ls hl162 => ?_)
              clear hl92 e160
              exact J83 v80_159 g65_149 g79_154 _ _ _ h161 hV158 (lv_sub hl162 [2, 3, 4, 5, 0, 7, 1] rfl)
        refine lv_if_eq (tgt := 34) hx hb dX12_goesOver_24 (by decide) (fun c163 => ?_) (fun c163 => ?_)
        · have h164 := itS c163 h70
          clear h70 c163
          refine lv_iload hx hb dX12_goesOver_34 (lv_at hlB9 4 rfl) ?_
          exact J36 x4_47 _ _ _ h164 hVB9 (lv_sub hlB9 [0, 1, 2, 3, 4, 5, 6] rfl)
        · have h165 := ieS c163 h70
          clear h70 c163
          refine lv_iload hx hb dX12_goesOver_27 (lv_at hlB9 4 rfl) ?_
          refine lv_iconst (v := 1) hx hb dX12_goesOver_29 (by decide) ?_
          refine lv_isub hx hb dX12_goesOver_30 ?_
          refine lv_goto (tgt := 36) hx hb dX12_goesOver_31 (by decide) ?_
          exact J36 (x4_47 - 1) _ _ _ h165 hVB9 (lv_sub hlB9 [0, 1, 2, 3, 4, 5, 6] rfl)
  exact L9 FU 0 0 0 s_atA s_atB s_atD s_atF s_atG s_atH s_atL s_atM s_atN s_atS s_atT s_atU s_atX s_first s_greatest s_isRefused s_last s_worth _ _ _ h hV (lv_sub hl3 [3, 4, 5, 6, 2, 1, 0] rfl)
