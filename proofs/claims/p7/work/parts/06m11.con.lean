abbrev r_X12_check : Room := { frames := 7, cells := 0, slots := 0, locals := 162 }
set_option maxHeartbeats 4000000 in
set_option maxRecDepth 100000 in
theorem c_X12_check (l : Launch) (E : kE) (sz : Nat) (a0 a1 a2 a3 a4 a5 a6 a7 a8 a9 a10 a11 a12 a13 a14 a15 a16 a17 a18 a19 a20 : Nat) (w0_4 w0_5 w0_6 w0_13 w0_14 w0_15 w0_16 w0_17 w0_18 w0_19 w0_20 w0_21 w0_22 w0_23 w0_24 w0_25 w0_26 w0_27 w0_56 w0_57 w0_58 w0_59 w0_60 w0_61 w0_62 w0_63 w0_64 w0_65 w0_66 : Value) (s_taped : Int32) (s_sources : Int32) (s_seed : Int32) (s_atA : Int32) (s_atB : Int32) (s_atD : Int32) (s_atF : Int32) (s_atG : Int32) (s_atH : Int32) (s_atL : Int32) (s_atM : Int32) (s_atN : Int32) (s_atS : Int32) (s_atT : Int32) (s_atU : Int32) (s_atX : Int32) (s_paperHigh : Int32) (s_paperShape : Int32) (s_byStar : Nat → Int32) (s_code : Nat → Int32) (s_codeArg : Nat → Int32) (s_codeFrom : Nat → Int32) (s_codeTo : Nat → Int32) (s_first : Nat → Int32) (s_greatest : Nat → Int32) (s_highAt : Nat → Int32) (s_isRefused : Nat → Int32) (s_last : Nat → Int32) (s_many : Nat → Int32) (s_marked : Nat → Int32) (s_minuteOf : Nat → Int32) (s_shape : Nat → Int32) (s_shapeAt : Nat → Int32) (s_sumFrom : Nat → Int32) (s_tape : Nat → Int32) (s_weekdays : Nat → Int32) (s_wide : Nat → Int32) (s_worth : Nat → Int32) (p1 : Int32) (p2 : Int32) (p3 : Int32) (r : Int32) (o_taped : Int32) (o_atA : Int32) (o_atB : Int32) (o_atD : Int32) (o_atF : Int32) (o_atG : Int32) (o_atH : Int32) (o_atL : Int32) (o_atM : Int32) (o_atN : Int32) (o_atS : Int32) (o_atT : Int32) (o_atU : Int32) (o_atX : Int32) (o_paperHigh : Int32) (o_paperShape : Int32) (o_first : Nat → Int32) (o_greatest : Nat → Int32) (o_highAt : Nat → Int32) (o_isRefused : Nat → Int32) (o_last : Nat → Int32) (o_marked : Nat → Int32) (o_shapeAt : Nat → Int32) (o_worth : Nat → Int32) (h : f_X12_check s_taped s_sources s_seed s_atA s_atB s_atD s_atF s_atG s_atH s_atL s_atM s_atN s_atS s_atT s_atU s_atX s_paperHigh s_paperShape s_byStar s_code s_codeArg s_codeFrom s_codeTo s_first s_greatest s_highAt s_isRefused s_last s_many s_marked s_minuteOf s_shape s_shapeAt s_sumFrom s_tape s_weekdays s_wide s_worth p1 p2 p3 = some (r, o_taped, o_atA, o_atB, o_atD, o_atF, o_atG, o_atH, o_atL, o_atM, o_atN, o_atS, o_atT, o_atU, o_atX, o_paperHigh, o_paperShape, o_first, o_greatest, o_highAt, o_isRefused, o_last, o_marked, o_shapeAt, o_worth)) : kMi l yX12_check cX12_check 5 (some .int) r_X12_check [.ref a0, .int p1, .int p2, .int p3] E [(a0, .inr (12, [.ref a17, .int s_taped, .int s_sources, .int s_seed, w0_4, w0_5, w0_6, .ref a11, .ref a16, .ref a4, .ref a5, .ref a2, .ref a3, w0_13, w0_14, w0_15, w0_16, w0_17, w0_18, w0_19, w0_20, w0_21, w0_22, w0_23, w0_24, w0_25, w0_26, w0_27, .int s_atA, .int s_atB, .int s_atD, .int s_atF, .int s_atG, .int s_atH, .int s_atL, .int s_atM, .int s_atN, .int s_atS, .int s_atT, .int s_atU, .int s_atX, .ref a20, .ref a9, .ref a1, .ref a13, .ref a19, .ref a14, .ref a18, .int s_paperHigh, .int s_paperShape, .ref a8, .ref a15, .ref a6, .ref a10, .ref a7, .ref a12, w0_56, w0_57, w0_58, w0_59, w0_60, w0_61, w0_62, w0_63, w0_64, w0_65, w0_66])), (a1, .inl (E.2 2, 10, .inl s_byStar)), (a2, .inl (E.2 0, 2400, .inl s_code)), (a3, .inl (E.2 0, 2400, .inl s_codeArg)), (a4, .inl (E.2 0, 240, .inl s_codeFrom)), (a5, .inl (E.2 0, 240, .inl s_codeTo)), (a6, .inl (E.2 0, 1440, .inl s_first)), (a7, .inl (E.2 0, 1440, .inl s_greatest)), (a8, .inl (E.2 0, 1440, .inl s_highAt)), (a9, .inl (E.2 2, 200, .inl s_isRefused)), (a10, .inl (E.2 0, 1440, .inl s_last)), (a11, .inl (E.2 0, 20, .inl s_many)), (a12, .inl (E.2 0, 2, .inl s_marked)), (a13, .inl (E.2 0, 10, .inl s_minuteOf)), (a14, .inl (E.2 0, 10, .inl s_shape)), (a15, .inl (E.2 0, 1440, .inl s_shapeAt)), (a16, .inl (E.2 0, 240, .inl s_sumFrom)), (a17, .inl (E.2 1, 200, .inl s_tape)), (a18, .inl (E.2 0, 10, .inl s_weekdays)), (a19, .inl (E.2 0, 10, .inl s_wide)), (a20, .inl (E.2 0, 200, .inl s_worth))] sz 0 0 (fun x (_ : Unit) => x = r) (fun _ => [(a0, .inr (12, [.ref a17, .int o_taped, .int s_sources, .int s_seed, w0_4, w0_5, w0_6, .ref a11, .ref a16, .ref a4, .ref a5, .ref a2, .ref a3, w0_13, w0_14, w0_15, w0_16, w0_17, w0_18, w0_19, w0_20, w0_21, w0_22, w0_23, w0_24, w0_25, w0_26, w0_27, .int o_atA, .int o_atB, .int o_atD, .int o_atF, .int o_atG, .int o_atH, .int o_atL, .int o_atM, .int o_atN, .int o_atS, .int o_atT, .int o_atU, .int o_atX, .ref a20, .ref a9, .ref a1, .ref a13, .ref a19, .ref a14, .ref a18, .int o_paperHigh, .int o_paperShape, .ref a8, .ref a15, .ref a6, .ref a10, .ref a7, .ref a12, w0_56, w0_57, w0_58, w0_59, w0_60, w0_61, w0_62, w0_63, w0_64, w0_65, w0_66])), (a1, .inl (E.2 2, 10, .inl s_byStar)), (a2, .inl (E.2 0, 2400, .inl s_code)), (a3, .inl (E.2 0, 2400, .inl s_codeArg)), (a4, .inl (E.2 0, 240, .inl s_codeFrom)), (a5, .inl (E.2 0, 240, .inl s_codeTo)), (a6, .inl (E.2 0, 1440, .inl o_first)), (a7, .inl (E.2 0, 1440, .inl o_greatest)), (a8, .inl (E.2 0, 1440, .inl o_highAt)), (a9, .inl (E.2 2, 200, .inl o_isRefused)), (a10, .inl (E.2 0, 1440, .inl o_last)), (a11, .inl (E.2 0, 20, .inl s_many)), (a12, .inl (E.2 0, 2, .inl o_marked)), (a13, .inl (E.2 0, 10, .inl s_minuteOf)), (a14, .inl (E.2 0, 10, .inl s_shape)), (a15, .inl (E.2 0, 1440, .inl o_shapeAt)), (a16, .inl (E.2 0, 240, .inl s_sumFrom)), (a17, .inl (E.2 1, 200, .inl s_tape)), (a18, .inl (E.2 0, 10, .inl s_weekdays)), (a19, .inl (E.2 0, 10, .inl s_wide)), (a20, .inl (E.2 0, 200, .inl o_worth))]) := by
  refine kmeti rfl (Nat.le_of_ble_eq_true rfl) ?_
  intro p e s m args below meth c ls A Q X hV hret hl
  have X : kC p s m c cX12_check 5 RX12 args E A := X
  have hx := X.1
  have hb := X.2.1
  have hl : lv_has ls 5 [(0, .ref a0), (1, .int p1), (2, .int p2), (3, .int p3)] := hl
  rw [f_X12_check] at h
  refine lv_iload_n hx hb dX12_check_0 rfl (lv_at hl 1 rfl) ?_
  obtain ⟨r1_1, hc2, h3⟩ := cb1_s h
  clear h
  refine kgoiE (krunS (rest := []) X hV [] (c_X12_isReader l E _ p1 r1_1 hc2) mw_595 kb_X12_isReader (by decide) rfl rfl hl.1 rfl (Nat.le_of_ble_eq_true rfl) dX12_check_1 (by decide)) X hV [] [0, 1, 2, 3, 4, 5, 6, 7, 8, 9, 10, 11, 12, 13, 14, 15, 16, 17, 18, 19, 20] rfl rfl rfl (by decide) (fun u H locs hV4 => ?_)
  have hV4 : kV E A s.heap H locs [(a0, .inr (12, [.ref a17, .int s_taped, .int s_sources, .int s_seed, w0_4, w0_5, w0_6, .ref a11, .ref a16, .ref a4, .ref a5, .ref a2, .ref a3, w0_13, w0_14, w0_15, w0_16, w0_17, w0_18, w0_19, w0_20, w0_21, w0_22, w0_23, w0_24, w0_25, w0_26, w0_27, .int s_atA, .int s_atB, .int s_atD, .int s_atF, .int s_atG, .int s_atH, .int s_atL, .int s_atM, .int s_atN, .int s_atS, .int s_atT, .int s_atU, .int s_atX, .ref a20, .ref a9, .ref a1, .ref a13, .ref a19, .ref a14, .ref a18, .int s_paperHigh, .int s_paperShape, .ref a8, .ref a15, .ref a6, .ref a10, .ref a7, .ref a12, w0_56, w0_57, w0_58, w0_59, w0_60, w0_61, w0_62, w0_63, w0_64, w0_65, w0_66])), (a1, .inl (E.2 2, 10, .inl s_byStar)), (a2, .inl (E.2 0, 2400, .inl s_code)), (a3, .inl (E.2 0, 2400, .inl s_codeArg)), (a4, .inl (E.2 0, 240, .inl s_codeFrom)), (a5, .inl (E.2 0, 240, .inl s_codeTo)), (a6, .inl (E.2 0, 1440, .inl s_first)), (a7, .inl (E.2 0, 1440, .inl s_greatest)), (a8, .inl (E.2 0, 1440, .inl s_highAt)), (a9, .inl (E.2 2, 200, .inl s_isRefused)), (a10, .inl (E.2 0, 1440, .inl s_last)), (a11, .inl (E.2 0, 20, .inl s_many)), (a12, .inl (E.2 0, 2, .inl s_marked)), (a13, .inl (E.2 0, 10, .inl s_minuteOf)), (a14, .inl (E.2 0, 10, .inl s_shape)), (a15, .inl (E.2 0, 1440, .inl s_shapeAt)), (a16, .inl (E.2 0, 240, .inl s_sumFrom)), (a17, .inl (E.2 1, 200, .inl s_tape)), (a18, .inl (E.2 0, 10, .inl s_weekdays)), (a19, .inl (E.2 0, 10, .inl s_wide)), (a20, .inl (E.2 0, 200, .inl s_worth))] := hV4.sub [0, 1, 2, 3, 4, 5, 6, 7, 8, 9, 10, 11, 12, 13, 14, 15, 16, 17, 18, 19, 20] rfl rfl
  clear hV
  refine lv_if_eq (tgt := 29) hx hb dX12_check_4 (by decide) (fun c6 => ?_) (fun c6 => ?_)
  · have h7 := itS c6 h3
    clear h3 c6
    refine lv_bipush (v := (-2)) hx hb dX12_check_29 (by decide) ?_
    obtain ⟨q9, q10, q11, q12, q13, q14, q15, q16, q17, q18, q19, q20, q21, q22, q23, q24, q25, q26, q27, q28, q29, q30, q31, q32, q33⟩ := tup25_s h7
    clear h7
    exact hret _ () _ _ _ _ q9 rfl (by rw [← q10, ← q11, ← q12, ← q13, ← q14, ← q15, ← q16, ← q17, ← q18, ← q19, ← q20, ← q21, ← q22, ← q23, ← q24, ← q25, ← q26, ← q27, ← q28, ← q29, ← q30, ← q31, ← q32, ← q33]; exact hV4) dX12_check_31
  · have h8 := ieS c6 h3
    clear h3 c6
    refine lv_iload_n hx hb dX12_check_7 rfl (lv_at hl 2 rfl) ?_
    obtain ⟨r8_34, hc35, h36⟩ := cb1_s h8
    clear h8
    refine kgoiE (krunS (rest := []) X hV4 [] (c_X12_isDay l E _ p2 r8_34 hc35) mw_632 kb_X12_isDay (by decide) rfl rfl hl.1 rfl (Nat.le_of_ble_eq_true rfl) dX12_check_8 (by decide)) X hV4 [] [0, 1, 2, 3, 4, 5, 6, 7, 8, 9, 10, 11, 12, 13, 14, 15, 16, 17, 18, 19, 20] rfl rfl rfl (by decide) (fun u H locs hV37 => ?_)
    have hV37 : kV E A s.heap H locs [(a0, .inr (12, [.ref a17, .int s_taped, .int s_sources, .int s_seed, w0_4, w0_5, w0_6, .ref a11, .ref a16, .ref a4, .ref a5, .ref a2, .ref a3, w0_13, w0_14, w0_15, w0_16, w0_17, w0_18, w0_19, w0_20, w0_21, w0_22, w0_23, w0_24, w0_25, w0_26, w0_27, .int s_atA, .int s_atB, .int s_atD, .int s_atF, .int s_atG, .int s_atH, .int s_atL, .int s_atM, .int s_atN, .int s_atS, .int s_atT, .int s_atU, .int s_atX, .ref a20, .ref a9, .ref a1, .ref a13, .ref a19, .ref a14, .ref a18, .int s_paperHigh, .int s_paperShape, .ref a8, .ref a15, .ref a6, .ref a10, .ref a7, .ref a12, w0_56, w0_57, w0_58, w0_59, w0_60, w0_61, w0_62, w0_63, w0_64, w0_65, w0_66])), (a1, .inl (E.2 2, 10, .inl s_byStar)), (a2, .inl (E.2 0, 2400, .inl s_code)), (a3, .inl (E.2 0, 2400, .inl s_codeArg)), (a4, .inl (E.2 0, 240, .inl s_codeFrom)), (a5, .inl (E.2 0, 240, .inl s_codeTo)), (a6, .inl (E.2 0, 1440, .inl s_first)), (a7, .inl (E.2 0, 1440, .inl s_greatest)), (a8, .inl (E.2 0, 1440, .inl s_highAt)), (a9, .inl (E.2 2, 200, .inl s_isRefused)), (a10, .inl (E.2 0, 1440, .inl s_last)), (a11, .inl (E.2 0, 20, .inl s_many)), (a12, .inl (E.2 0, 2, .inl s_marked)), (a13, .inl (E.2 0, 10, .inl s_minuteOf)), (a14, .inl (E.2 0, 10, .inl s_shape)), (a15, .inl (E.2 0, 1440, .inl s_shapeAt)), (a16, .inl (E.2 0, 240, .inl s_sumFrom)), (a17, .inl (E.2 1, 200, .inl s_tape)), (a18, .inl (E.2 0, 10, .inl s_weekdays)), (a19, .inl (E.2 0, 10, .inl s_wide)), (a20, .inl (E.2 0, 200, .inl s_worth))] := hV37.sub [0, 1, 2, 3, 4, 5, 6, 7, 8, 9, 10, 11, 12, 13, 14, 15, 16, 17, 18, 19, 20] rfl rfl
    clear hV4
    refine lv_if_eq (tgt := 29) hx hb dX12_check_11 (by decide) (fun c39 => ?_) (fun c39 => ?_)
    · have h40 := itS c39 h36
      clear h36 c39
      refine lv_bipush (v := (-2)) hx hb dX12_check_29 (by decide) ?_
      obtain ⟨q42, q43, q44, q45, q46, q47, q48, q49, q50, q51, q52, q53, q54, q55, q56, q57, q58, q59, q60, q61, q62, q63, q64, q65, q66⟩ := tup25_s h40
      clear h40
      exact hret _ () _ _ _ _ q42 rfl (by rw [← q43, ← q44, ← q45, ← q46, ← q47, ← q48, ← q49, ← q50, ← q51, ← q52, ← q53, ← q54, ← q55, ← q56, ← q57, ← q58, ← q59, ← q60, ← q61, ← q62, ← q63, ← q64, ← q65, ← q66]; exact hV37) dX12_check_31
    · have h41 := ieS c39 h36
      clear h36 c39
      refine lv_iload_n hx hb dX12_check_14 rfl (lv_at hl 3 rfl) ?_
      refine lv_if_lt (tgt := 29) hx hb dX12_check_15 (by decide) (fun c67 => ?_) (fun c67 => ?_)
      · have h68 := itS c67 h41
        clear h41 c67
        refine lv_bipush (v := (-2)) hx hb dX12_check_29 (by decide) ?_
        obtain ⟨q70, q71, q72, q73, q74, q75, q76, q77, q78, q79, q80, q81, q82, q83, q84, q85, q86, q87, q88, q89, q90, q91, q92, q93, q94⟩ := tup25_s h68
        clear h68
        exact hret _ () _ _ _ _ q70 rfl (by rw [← q71, ← q72, ← q73, ← q74, ← q75, ← q76, ← q77, ← q78, ← q79, ← q80, ← q81, ← q82, ← q83, ← q84, ← q85, ← q86, ← q87, ← q88, ← q89, ← q90, ← q91, ← q92, ← q93, ← q94]; exact hV37) dX12_check_31
      · have h69 := ieS c67 h41
        clear h41 c67
        refine lv_iload_n hx hb dX12_check_18 rfl (lv_at hl 3 rfl) ?_
        refine lv_aload_n hx hb dX12_check_19 rfl (lv_at hl 0 rfl) ?_
        refine kget X hV37 (ci := 12) inlX12 rfl 0 rfl 1 (by decide) mw_251 rfl dX12_check_20 ?_
        refine lv_bipush (v := 12) hx hb dX12_check_23 (by decide) ?_
        refine lv_idiv hx hb dX12_check_25 (by decide) ?_
        refine lv_icmp_le (tgt := 32) hx hb dX12_check_26 (by decide) (fun c95 => ?_) (fun c95 => ?_)
        · have h96 := itS c95 h69
          clear h69 c95
          refine lv_aload_n hx hb dX12_check_32 rfl (lv_at hl 0 rfl) ?_
          refine lv_iconst (v := 0) hx hb dX12_check_33 (by decide) ?_
          refine kput X hV37 (ci := 12) inlX12 rfl tyX12 tyX12_ok nmX12 0 rfl 1 (by decide) mw_251 rfl rfl rfl (Nat.le_of_ble_eq_true rfl) dX12_check_34 (fun H locs hV98 => ?_)
          have hV98 : kV E A s.heap H locs [(a0, .inr (12, [.ref a17, .int 0, .int s_sources, .int s_seed, w0_4, w0_5, w0_6, .ref a11, .ref a16, .ref a4, .ref a5, .ref a2, .ref a3, w0_13, w0_14, w0_15, w0_16, w0_17, w0_18, w0_19, w0_20, w0_21, w0_22, w0_23, w0_24, w0_25, w0_26, w0_27, .int s_atA, .int s_atB, .int s_atD, .int s_atF, .int s_atG, .int s_atH, .int s_atL, .int s_atM, .int s_atN, .int s_atS, .int s_atT, .int s_atU, .int s_atX, .ref a20, .ref a9, .ref a1, .ref a13, .ref a19, .ref a14, .ref a18, .int s_paperHigh, .int s_paperShape, .ref a8, .ref a15, .ref a6, .ref a10, .ref a7, .ref a12, w0_56, w0_57, w0_58, w0_59, w0_60, w0_61, w0_62, w0_63, w0_64, w0_65, w0_66])), (a1, .inl (E.2 2, 10, .inl s_byStar)), (a2, .inl (E.2 0, 2400, .inl s_code)), (a3, .inl (E.2 0, 2400, .inl s_codeArg)), (a4, .inl (E.2 0, 240, .inl s_codeFrom)), (a5, .inl (E.2 0, 240, .inl s_codeTo)), (a6, .inl (E.2 0, 1440, .inl s_first)), (a7, .inl (E.2 0, 1440, .inl s_greatest)), (a8, .inl (E.2 0, 1440, .inl s_highAt)), (a9, .inl (E.2 2, 200, .inl s_isRefused)), (a10, .inl (E.2 0, 1440, .inl s_last)), (a11, .inl (E.2 0, 20, .inl s_many)), (a12, .inl (E.2 0, 2, .inl s_marked)), (a13, .inl (E.2 0, 10, .inl s_minuteOf)), (a14, .inl (E.2 0, 10, .inl s_shape)), (a15, .inl (E.2 0, 1440, .inl s_shapeAt)), (a16, .inl (E.2 0, 240, .inl s_sumFrom)), (a17, .inl (E.2 1, 200, .inl s_tape)), (a18, .inl (E.2 0, 10, .inl s_weekdays)), (a19, .inl (E.2 0, 10, .inl s_wide)), (a20, .inl (E.2 0, 200, .inl s_worth))] := hV98
          clear hV37
          refine lv_aload_n hx hb dX12_check_37 rfl (lv_at hl 0 rfl) ?_
          refine lv_iload_n hx hb dX12_check_38 rfl (lv_at hl 2 rfl) ?_
          obtain ⟨o_atA39_99, o_atB39_100, o_atD39_101, o_atF39_102, o_atG39_103, o_atH39_104, o_atL39_105, o_atM39_106, o_atN39_107, o_atS39_108, o_atT39_109, o_atU39_110, o_atX39_111, o_paperHigh39_112, o_paperShape39_113, o_highAt39_114, o_isRefused39_115, o_shapeAt39_116, o_worth39_117, hc118, h119⟩ := cb19_s h96
          clear h96
          refine kgov (krunV (rest := []) X hV98 [0, 1, 2, 3, 4, 5, 8, 9, 11, 13, 14, 15, 16, 18, 19, 20] (c_X12_lays l E _ a0 a1 a2 a3 a4 a5 a8 a9 a11 a13 a14 a15 a16 a18 a19 a20 (.ref a17) (.int 0) (w0_4) (w0_5) (w0_6) (w0_13) (w0_14) (w0_15) (w0_16) (w0_17) (w0_18) (w0_19) (w0_20) (w0_21) (w0_22) (w0_23) (w0_24) (w0_25) (w0_26) (w0_27) (.ref a6) (.ref a10) (.ref a7) (.ref a12) (w0_56) (w0_57) (w0_58) (w0_59) (w0_60) (w0_61) (w0_62) (w0_63) (w0_64) (w0_65) (w0_66) s_sources s_seed s_atA s_atB s_atD s_atF s_atG s_atH s_atL s_atM s_atN s_atS s_atT s_atU s_atX s_paperHigh s_paperShape s_byStar s_code s_codeArg s_codeFrom s_codeTo s_highAt s_isRefused s_many s_minuteOf s_shape s_shapeAt s_sumFrom s_weekdays s_wide s_worth p2 o_atA39_99 o_atB39_100 o_atD39_101 o_atF39_102 o_atG39_103 o_atH39_104 o_atL39_105 o_atM39_106 o_atN39_107 o_atS39_108 o_atT39_109 o_atU39_110 o_atX39_111 o_paperHigh39_112 o_paperShape39_113 o_highAt39_114 o_isRefused39_115 o_shapeAt39_116 o_worth39_117 hc118) mw_850 kb_X12_lays (ci := 12) rfl rfl (by decide) rfl rfl hl.1 rfl (Nat.le_of_ble_eq_true rfl) dX12_check_39 (by decide)) X hV98 [0, 1, 2, 3, 4, 5, 8, 9, 11, 13, 14, 15, 16, 18, 19, 20] [6, 7, 10, 12, 17] rfl rfl rfl (by decide) (fun u H locs hp121 hV120 => ?_)
          have hV120 : kV E A s.heap H locs [(a0, .inr (12, [.ref a17, .int 0, .int s_sources, .int s_seed, w0_4, w0_5, w0_6, .ref a11, .ref a16, .ref a4, .ref a5, .ref a2, .ref a3, w0_13, w0_14, w0_15, w0_16, w0_17, w0_18, w0_19, w0_20, w0_21, w0_22, w0_23, w0_24, w0_25, w0_26, w0_27, .int o_atA39_99, .int o_atB39_100, .int o_atD39_101, .int o_atF39_102, .int o_atG39_103, .int o_atH39_104, .int o_atL39_105, .int o_atM39_106, .int o_atN39_107, .int o_atS39_108, .int o_atT39_109, .int o_atU39_110, .int o_atX39_111, .ref a20, .ref a9, .ref a1, .ref a13, .ref a19, .ref a14, .ref a18, .int o_paperHigh39_112, .int o_paperShape39_113, .ref a8, .ref a15, .ref a6, .ref a10, .ref a7, .ref a12, w0_56, w0_57, w0_58, w0_59, w0_60, w0_61, w0_62, w0_63, w0_64, w0_65, w0_66])), (a1, .inl (E.2 2, 10, .inl s_byStar)), (a2, .inl (E.2 0, 2400, .inl s_code)), (a3, .inl (E.2 0, 2400, .inl s_codeArg)), (a4, .inl (E.2 0, 240, .inl s_codeFrom)), (a5, .inl (E.2 0, 240, .inl s_codeTo)), (a6, .inl (E.2 0, 1440, .inl s_first)), (a7, .inl (E.2 0, 1440, .inl s_greatest)), (a8, .inl (E.2 0, 1440, .inl o_highAt39_114)), (a9, .inl (E.2 2, 200, .inl o_isRefused39_115)), (a10, .inl (E.2 0, 1440, .inl s_last)), (a11, .inl (E.2 0, 20, .inl s_many)), (a12, .inl (E.2 0, 2, .inl s_marked)), (a13, .inl (E.2 0, 10, .inl s_minuteOf)), (a14, .inl (E.2 0, 10, .inl s_shape)), (a15, .inl (E.2 0, 1440, .inl o_shapeAt39_116)), (a16, .inl (E.2 0, 240, .inl s_sumFrom)), (a17, .inl (E.2 1, 200, .inl s_tape)), (a18, .inl (E.2 0, 10, .inl s_weekdays)), (a19, .inl (E.2 0, 10, .inl s_wide)), (a20, .inl (E.2 0, 200, .inl o_worth39_117))] := hV120.sub [5, 6, 7, 8, 9, 10, 0, 1, 11, 12, 2, 13, 3, 14, 15, 16, 17, 4, 18, 19, 20] rfl rfl
          clear hV98
          refine lv_aload_n hx hb dX12_check_42 rfl (lv_at hl 0 rfl) ?_
          refine lv_iload_n hx hb dX12_check_43 rfl (lv_at hl 1 rfl) ?_
          refine lv_iload_n hx hb dX12_check_44 rfl (lv_at hl 2 rfl) ?_
          refine lv_iconst (v := 0) hx hb dX12_check_45 (by decide) ?_
          obtain ⟨o_atA46_122, o_atB46_123, o_atD46_124, o_atF46_125, o_atG46_126, o_atH46_127, o_atL46_128, o_atM46_129, o_atN46_130, o_atS46_131, o_atT46_132, o_atU46_133, o_atX46_134, o_first46_135, o_greatest46_136, o_isRefused46_137, o_last46_138, o_marked46_139, o_worth46_140, hc141, h142⟩ := cb19_s h119
          clear h119
          refine kgov (krunV (rest := []) X hV120 [0, 2, 3, 4, 5, 6, 7, 8, 9, 10, 11, 12, 15, 20] (c_X12_goesOver l E _ a0 a2 a3 a4 a5 a6 a7 a8 a9 a10 a11 a12 a15 a20 (.ref a17) (.int 0) (.int s_sources) (.int s_seed) (w0_4) (w0_5) (w0_6) (.ref a16) (w0_13) (w0_14) (w0_15) (w0_16) (w0_17) (w0_18) (w0_19) (w0_20) (w0_21) (w0_22) (w0_23) (w0_24) (w0_25) (w0_26) (w0_27) (.ref a1) (.ref a13) (.ref a19) (.ref a14) (.ref a18) (.int o_paperHigh39_112) (.int o_paperShape39_113) (w0_56) (w0_57) (w0_58) (w0_59) (w0_60) (w0_61) (w0_62) (w0_63) (w0_64) (w0_65) (w0_66) o_atA39_99 o_atB39_100 o_atD39_101 o_atF39_102 o_atG39_103 o_atH39_104 o_atL39_105 o_atM39_106 o_atN39_107 o_atS39_108 o_atT39_109 o_atU39_110 o_atX39_111 s_code s_codeArg s_codeFrom s_codeTo s_first s_greatest o_highAt39_114 o_isRefused39_115 s_last s_many s_marked o_shapeAt39_116 o_worth39_117 p1 p2 0 o_atA46_122 o_atB46_123 o_atD46_124 o_atF46_125 o_atG46_126 o_atH46_127 o_atL46_128 o_atM46_129 o_atN46_130 o_atS46_131 o_atT46_132 o_atU46_133 o_atX46_134 o_first46_135 o_greatest46_136 o_isRefused46_137 o_last46_138 o_marked46_139 o_worth46_140 hc141) mw_854 kb_X12_goesOver (ci := 12) rfl rfl (by decide) rfl rfl hl.1 rfl (Nat.le_of_ble_eq_true rfl) dX12_check_46 (by decide)) X hV120 [0, 2, 3, 4, 5, 6, 7, 8, 9, 10, 11, 12, 15, 20] [1, 13, 14, 16, 17, 18, 19] rfl rfl rfl (by decide) (fun u H locs hp144 hV143 => ?_)
          have hV143 : kV E A s.heap H locs [(a0, .inr (12, [.ref a17, .int 0, .int s_sources, .int s_seed, w0_4, w0_5, w0_6, .ref a11, .ref a16, .ref a4, .ref a5, .ref a2, .ref a3, w0_13, w0_14, w0_15, w0_16, w0_17, w0_18, w0_19, w0_20, w0_21, w0_22, w0_23, w0_24, w0_25, w0_26, w0_27, .int o_atA46_122, .int o_atB46_123, .int o_atD46_124, .int o_atF46_125, .int o_atG46_126, .int o_atH46_127, .int o_atL46_128, .int o_atM46_129, .int o_atN46_130, .int o_atS46_131, .int o_atT46_132, .int o_atU46_133, .int o_atX46_134, .ref a20, .ref a9, .ref a1, .ref a13, .ref a19, .ref a14, .ref a18, .int o_paperHigh39_112, .int o_paperShape39_113, .ref a8, .ref a15, .ref a6, .ref a10, .ref a7, .ref a12, w0_56, w0_57, w0_58, w0_59, w0_60, w0_61, w0_62, w0_63, w0_64, w0_65, w0_66])), (a1, .inl (E.2 2, 10, .inl s_byStar)), (a2, .inl (E.2 0, 2400, .inl s_code)), (a3, .inl (E.2 0, 2400, .inl s_codeArg)), (a4, .inl (E.2 0, 240, .inl s_codeFrom)), (a5, .inl (E.2 0, 240, .inl s_codeTo)), (a6, .inl (E.2 0, 1440, .inl o_first46_135)), (a7, .inl (E.2 0, 1440, .inl o_greatest46_136)), (a8, .inl (E.2 0, 1440, .inl o_highAt39_114)), (a9, .inl (E.2 2, 200, .inl o_isRefused46_137)), (a10, .inl (E.2 0, 1440, .inl o_last46_138)), (a11, .inl (E.2 0, 20, .inl s_many)), (a12, .inl (E.2 0, 2, .inl o_marked46_139)), (a13, .inl (E.2 0, 10, .inl s_minuteOf)), (a14, .inl (E.2 0, 10, .inl s_shape)), (a15, .inl (E.2 0, 1440, .inl o_shapeAt39_116)), (a16, .inl (E.2 0, 240, .inl s_sumFrom)), (a17, .inl (E.2 1, 200, .inl s_tape)), (a18, .inl (E.2 0, 10, .inl s_weekdays)), (a19, .inl (E.2 0, 10, .inl s_wide)), (a20, .inl (E.2 0, 200, .inl o_worth46_140))] := hV143.sub [7, 0, 8, 9, 10, 11, 12, 13, 14, 15, 16, 17, 18, 1, 2, 19, 3, 4, 5, 6, 20] rfl rfl
          clear hV120
          refine lv_iconst (v := 0) hx hb dX12_check_49 (by decide) ?_
          refine lv_istore (lv' := [(4, .int 0), (0, .ref a0), (1, .int p1), (2, .int p2), (3, .int p3)]) hx hb dX12_check_50 hl (by decide) rfl (fun ls hl145 => ?_)
          clear hl
          have J116 : ∀ (x4_146 : Int32) (H : Heap) (locs : List Loc) (ls : Array Slot), (f_X12_check_J116 o_paperHigh39_112 o_paperShape39_113 o_highAt39_114 o_shapeAt39_116 o_atA46_122 o_atB46_123 o_atD46_124 o_atF46_125 o_atG46_126 o_atH46_127 o_atL46_128 o_atM46_129 o_atN46_130 o_atS46_131 o_atT46_132 o_atU46_133 o_atX46_134 o_first46_135 o_greatest46_136 o_isRefused46_137 o_last46_138 o_marked46_139 o_worth46_140 ) x4_146 = some (r, o_taped, o_atA, o_atB, o_atD, o_atF, o_atG, o_atH, o_atL, o_atM, o_atN, o_atS, o_atT, o_atU, o_atX, o_paperHigh, o_paperShape, o_first, o_greatest, o_highAt, o_isRefused, o_last, o_marked, o_shapeAt, o_worth) → kV E A s.heap H locs [(a0, .inr (12, [.ref a17, .int 0, .int s_sources, .int s_seed, w0_4, w0_5, w0_6, .ref a11, .ref a16, .ref a4, .ref a5, .ref a2, .ref a3, w0_13, w0_14, w0_15, w0_16, w0_17, w0_18, w0_19, w0_20, w0_21, w0_22, w0_23, w0_24, w0_25, w0_26, w0_27, .int o_atA46_122, .int o_atB46_123, .int o_atD46_124, .int o_atF46_125, .int o_atG46_126, .int o_atH46_127, .int o_atL46_128, .int o_atM46_129, .int o_atN46_130, .int o_atS46_131, .int o_atT46_132, .int o_atU46_133, .int o_atX46_134, .ref a20, .ref a9, .ref a1, .ref a13, .ref a19, .ref a14, .ref a18, .int o_paperHigh39_112, .int o_paperShape39_113, .ref a8, .ref a15, .ref a6, .ref a10, .ref a7, .ref a12, w0_56, w0_57, w0_58, w0_59, w0_60, w0_61, w0_62, w0_63, w0_64, w0_65, w0_66])), (a1, .inl (E.2 2, 10, .inl s_byStar)), (a2, .inl (E.2 0, 2400, .inl s_code)), (a3, .inl (E.2 0, 2400, .inl s_codeArg)), (a4, .inl (E.2 0, 240, .inl s_codeFrom)), (a5, .inl (E.2 0, 240, .inl s_codeTo)), (a6, .inl (E.2 0, 1440, .inl o_first46_135)), (a7, .inl (E.2 0, 1440, .inl o_greatest46_136)), (a8, .inl (E.2 0, 1440, .inl o_highAt39_114)), (a9, .inl (E.2 2, 200, .inl o_isRefused46_137)), (a10, .inl (E.2 0, 1440, .inl o_last46_138)), (a11, .inl (E.2 0, 20, .inl s_many)), (a12, .inl (E.2 0, 2, .inl o_marked46_139)), (a13, .inl (E.2 0, 10, .inl s_minuteOf)), (a14, .inl (E.2 0, 10, .inl s_shape)), (a15, .inl (E.2 0, 1440, .inl o_shapeAt39_116)), (a16, .inl (E.2 0, 240, .inl s_sumFrom)), (a17, .inl (E.2 1, 200, .inl s_tape)), (a18, .inl (E.2 0, 10, .inl s_weekdays)), (a19, .inl (E.2 0, 10, .inl s_wide)), (a20, .inl (E.2 0, 200, .inl o_worth46_140))] → lv_has ls 5 [(4, .int x4_146)] → W p l e r_X12_check s m args below meth c H locs 0 0 Q (F0 m 116 ls []) := by
            intro x4_146 H locs ls hB116 hVB116 hlB116
            rw [f_X12_check_J116] at hB116
            refine lv_iconst (v := 3) hx hb dX12_check_116 (by decide) ?_
            refine lv_iload hx hb dX12_check_117 (lv_at hlB116 0 rfl) ?_
            refine lv_imul hx hb dX12_check_119 ?_
            refine lv_iconst (v := 1) hx hb dX12_check_120 (by decide) ?_
            refine lv_iadd hx hb dX12_check_121 ?_
            obtain ⟨q147, q148, q149, q150, q151, q152, q153, q154, q155, q156, q157, q158, q159, q160, q161, q162, q163, q164, q165, q166, q167, q168, q169, q170, q171⟩ := tup25_s hB116
            clear hB116
            exact hret _ () _ _ _ _ q147 rfl (by rw [← q148, ← q149, ← q150, ← q151, ← q152, ← q153, ← q154, ← q155, ← q156, ← q157, ← q158, ← q159, ← q160, ← q161, ← q162, ← q163, ← q164, ← q165, ← q166, ← q167, ← q168, ← q169, ← q170, ← q171]; exact hVB116) dX12_check_122
          have J143 : ∀ (x4_172 : Int32) (H : Heap) (locs : List Loc) (ls : Array Slot), (f_X12_check_J143 o_paperHigh39_112 o_paperShape39_113 o_highAt39_114 o_shapeAt39_116 o_atA46_122 o_atB46_123 o_atD46_124 o_atF46_125 o_atG46_126 o_atH46_127 o_atL46_128 o_atM46_129 o_atN46_130 o_atS46_131 o_atT46_132 o_atU46_133 o_atX46_134 o_first46_135 o_greatest46_136 o_isRefused46_137 o_last46_138 o_marked46_139 o_worth46_140 ) x4_172 = some (r, o_taped, o_atA, o_atB, o_atD, o_atF, o_atG, o_atH, o_atL, o_atM, o_atN, o_atS, o_atT, o_atU, o_atX, o_paperHigh, o_paperShape, o_first, o_greatest, o_highAt, o_isRefused, o_last, o_marked, o_shapeAt, o_worth) → kV E A s.heap H locs [(a0, .inr (12, [.ref a17, .int 0, .int s_sources, .int s_seed, w0_4, w0_5, w0_6, .ref a11, .ref a16, .ref a4, .ref a5, .ref a2, .ref a3, w0_13, w0_14, w0_15, w0_16, w0_17, w0_18, w0_19, w0_20, w0_21, w0_22, w0_23, w0_24, w0_25, w0_26, w0_27, .int o_atA46_122, .int o_atB46_123, .int o_atD46_124, .int o_atF46_125, .int o_atG46_126, .int o_atH46_127, .int o_atL46_128, .int o_atM46_129, .int o_atN46_130, .int o_atS46_131, .int o_atT46_132, .int o_atU46_133, .int o_atX46_134, .ref a20, .ref a9, .ref a1, .ref a13, .ref a19, .ref a14, .ref a18, .int o_paperHigh39_112, .int o_paperShape39_113, .ref a8, .ref a15, .ref a6, .ref a10, .ref a7, .ref a12, w0_56, w0_57, w0_58, w0_59, w0_60, w0_61, w0_62, w0_63, w0_64, w0_65, w0_66])), (a1, .inl (E.2 2, 10, .inl s_byStar)), (a2, .inl (E.2 0, 2400, .inl s_code)), (a3, .inl (E.2 0, 2400, .inl s_codeArg)), (a4, .inl (E.2 0, 240, .inl s_codeFrom)), (a5, .inl (E.2 0, 240, .inl s_codeTo)), (a6, .inl (E.2 0, 1440, .inl o_first46_135)), (a7, .inl (E.2 0, 1440, .inl o_greatest46_136)), (a8, .inl (E.2 0, 1440, .inl o_highAt39_114)), (a9, .inl (E.2 2, 200, .inl o_isRefused46_137)), (a10, .inl (E.2 0, 1440, .inl o_last46_138)), (a11, .inl (E.2 0, 20, .inl s_many)), (a12, .inl (E.2 0, 2, .inl o_marked46_139)), (a13, .inl (E.2 0, 10, .inl s_minuteOf)), (a14, .inl (E.2 0, 10, .inl s_shape)), (a15, .inl (E.2 0, 1440, .inl o_shapeAt39_116)), (a16, .inl (E.2 0, 240, .inl s_sumFrom)), (a17, .inl (E.2 1, 200, .inl s_tape)), (a18, .inl (E.2 0, 10, .inl s_weekdays)), (a19, .inl (E.2 0, 10, .inl s_wide)), (a20, .inl (E.2 0, 200, .inl o_worth46_140))] → lv_has ls 5 [(4, .int x4_172)] → W p l e r_X12_check s m args below meth c H locs 0 0 Q (F0 m 143 ls []) := by
            intro x4_172 H locs ls hB143 hVB143 hlB143
            rw [f_X12_check_J143] at hB143
            refine lv_iconst (v := 3) hx hb dX12_check_143 (by decide) ?_
            refine lv_iload hx hb dX12_check_144 (lv_at hlB143 0 rfl) ?_
            refine lv_imul hx hb dX12_check_146 ?_
            refine lv_iconst (v := 2) hx hb dX12_check_147 (by decide) ?_
            refine lv_iadd hx hb dX12_check_148 ?_
            obtain ⟨q173, q174, q175, q176, q177, q178, q179, q180, q181, q182, q183, q184, q185, q186, q187, q188, q189, q190, q191, q192, q193, q194, q195, q196, q197⟩ := tup25_s hB143
            clear hB143
            exact hret _ () _ _ _ _ q173 rfl (by rw [← q174, ← q175, ← q176, ← q177, ← q178, ← q179, ← q180, ← q181, ← q182, ← q183, ← q184, ← q185, ← q186, ← q187, ← q188, ← q189, ← q190, ← q191, ← q192, ← q193, ← q194, ← q195, ← q196, ← q197]; exact hVB143) dX12_check_149
          have J156 : ∀  (H : Heap) (locs : List Loc) (ls : Array Slot), (f_X12_check_J156 p3 o_paperHigh39_112 o_paperShape39_113 o_highAt39_114 o_shapeAt39_116 o_atA46_122 o_atB46_123 o_atD46_124 o_atF46_125 o_atG46_126 o_atH46_127 o_atL46_128 o_atM46_129 o_atN46_130 o_atS46_131 o_atT46_132 o_atU46_133 o_atX46_134 o_first46_135 o_greatest46_136 o_isRefused46_137 o_last46_138 o_marked46_139 o_worth46_140 ) = some (r, o_taped, o_atA, o_atB, o_atD, o_atF, o_atG, o_atH, o_atL, o_atM, o_atN, o_atS, o_atT, o_atU, o_atX, o_paperHigh, o_paperShape, o_first, o_greatest, o_highAt, o_isRefused, o_last, o_marked, o_shapeAt, o_worth) → kV E A s.heap H locs [(a0, .inr (12, [.ref a17, .int 0, .int s_sources, .int s_seed, w0_4, w0_5, w0_6, .ref a11, .ref a16, .ref a4, .ref a5, .ref a2, .ref a3, w0_13, w0_14, w0_15, w0_16, w0_17, w0_18, w0_19, w0_20, w0_21, w0_22, w0_23, w0_24, w0_25, w0_26, w0_27, .int o_atA46_122, .int o_atB46_123, .int o_atD46_124, .int o_atF46_125, .int o_atG46_126, .int o_atH46_127, .int o_atL46_128, .int o_atM46_129, .int o_atN46_130, .int o_atS46_131, .int o_atT46_132, .int o_atU46_133, .int o_atX46_134, .ref a20, .ref a9, .ref a1, .ref a13, .ref a19, .ref a14, .ref a18, .int o_paperHigh39_112, .int o_paperShape39_113, .ref a8, .ref a15, .ref a6, .ref a10, .ref a7, .ref a12, w0_56, w0_57, w0_58, w0_59, w0_60, w0_61, w0_62, w0_63, w0_64, w0_65, w0_66])), (a1, .inl (E.2 2, 10, .inl s_byStar)), (a2, .inl (E.2 0, 2400, .inl s_code)), (a3, .inl (E.2 0, 2400, .inl s_codeArg)), (a4, .inl (E.2 0, 240, .inl s_codeFrom)), (a5, .inl (E.2 0, 240, .inl s_codeTo)), (a6, .inl (E.2 0, 1440, .inl o_first46_135)), (a7, .inl (E.2 0, 1440, .inl o_greatest46_136)), (a8, .inl (E.2 0, 1440, .inl o_highAt39_114)), (a9, .inl (E.2 2, 200, .inl o_isRefused46_137)), (a10, .inl (E.2 0, 1440, .inl o_last46_138)), (a11, .inl (E.2 0, 20, .inl s_many)), (a12, .inl (E.2 0, 2, .inl o_marked46_139)), (a13, .inl (E.2 0, 10, .inl s_minuteOf)), (a14, .inl (E.2 0, 10, .inl s_shape)), (a15, .inl (E.2 0, 1440, .inl o_shapeAt39_116)), (a16, .inl (E.2 0, 240, .inl s_sumFrom)), (a17, .inl (E.2 1, 200, .inl s_tape)), (a18, .inl (E.2 0, 10, .inl s_weekdays)), (a19, .inl (E.2 0, 10, .inl s_wide)), (a20, .inl (E.2 0, 200, .inl o_worth46_140))] → lv_has ls 5 [(0, .ref a0), (3, .int p3)] → W p l e r_X12_check s m args below meth c H locs 0 0 Q (F0 m 156 ls []) := by
            intro  H locs ls hB156 hVB156 hlB156
            rw [f_X12_check_J156] at hB156
            refine lv_iload_n hx hb dX12_check_156 rfl (lv_at hlB156 1 rfl) ?_
            refine lv_aload_n hx hb dX12_check_157 rfl (lv_at hlB156 0 rfl) ?_
            refine kget X hVB156 (ci := 12) inlX12 rfl 0 rfl 55 (by decide) mw_167 rfl dX12_check_158 ?_
            refine lv_iconst (v := 0) hx hb dX12_check_161 (by decide) ?_
            obtain ⟨hi199, v162_198, e200, h201⟩ := rdI_s hB156
            clear hB156
            refine kiald X hVB156 12 rfl hi199 e200 dX12_check_162 ?_
            clear hi199 e200
            refine lv_icmp_ne (tgt := 170) hx hb dX12_check_163 (by decide) (fun c202 => ?_) (fun c202 => ?_)
            · have h203 := ieS c202 h201
              clear h201 c202
              refine lv_iconst (v := 3) hx hb dX12_check_170 (by decide) ?_
              refine lv_aload_n hx hb dX12_check_171 rfl (lv_at hlB156 0 rfl) ?_
              refine kget X hVB156 (ci := 12) inlX12 rfl 0 rfl 55 (by decide) mw_167 rfl dX12_check_172 ?_
              refine lv_iconst (v := 0) hx hb dX12_check_175 (by decide) ?_
              obtain ⟨hi206, v176_205, e207, h208⟩ := rdI_s h203
              clear h203
              refine kiald X hVB156 12 rfl hi206 e207 dX12_check_176 ?_
              clear hi206 e207
              refine lv_imul hx hb dX12_check_177 ?_
              obtain ⟨q209, q210, q211, q212, q213, q214, q215, q216, q217, q218, q219, q220, q221, q222, q223, q224, q225, q226, q227, q228, q229, q230, q231, q232, q233⟩ := tup25_s h208
              clear h208
              exact hret _ () _ _ _ _ q209 rfl (by rw [← q210, ← q211, ← q212, ← q213, ← q214, ← q215, ← q216, ← q217, ← q218, ← q219, ← q220, ← q221, ← q222, ← q223, ← q224, ← q225, ← q226, ← q227, ← q228, ← q229, ← q230, ← q231, ← q232, ← q233]; exact hVB156) dX12_check_178
            · have h204 := itS c202 h201
              clear h201 c202
              refine lv_iconst (v := (-1)) hx hb dX12_check_166 (by decide) ?_
              refine lv_goto (tgt := 178) hx hb dX12_check_167 (by decide) ?_
              obtain ⟨q234, q235, q236, q237, q238, q239, q240, q241, q242, q243, q244, q245, q246, q247, q248, q249, q250, q251, q252, q253, q254, q255, q256, q257, q258⟩ := tup25_s h204
              clear h204
              exact hret _ () _ _ _ _ q234 rfl (by rw [← q235, ← q236, ← q237, ← q238, ← q239, ← q240, ← q241, ← q242, ← q243, ← q244, ← q245, ← q246, ← q247, ← q248, ← q249, ← q250, ← q251, ← q252, ← q253, ← q254, ← q255, ← q256, ← q257, ← q258]; exact hVB156) dX12_check_178
          have L52 : ∀ (n52 : Nat) (x4_259 : Int32) (H : Heap) (locs : List Loc) (ls : Array Slot), (f_X12_check_L52 s_tape p3 o_paperHigh39_112 o_paperShape39_113 o_highAt39_114 o_shapeAt39_116 o_atA46_122 o_atB46_123 o_atD46_124 o_atF46_125 o_atG46_126 o_atH46_127 o_atL46_128 o_atM46_129 o_atN46_130 o_atS46_131 o_atT46_132 o_atU46_133 o_atX46_134 o_first46_135 o_greatest46_136 o_isRefused46_137 o_last46_138 o_marked46_139 o_worth46_140 (f_X12_check_J116 o_paperHigh39_112 o_paperShape39_113 o_highAt39_114 o_shapeAt39_116 o_atA46_122 o_atB46_123 o_atD46_124 o_atF46_125 o_atG46_126 o_atH46_127 o_atL46_128 o_atM46_129 o_atN46_130 o_atS46_131 o_atT46_132 o_atU46_133 o_atX46_134 o_first46_135 o_greatest46_136 o_isRefused46_137 o_last46_138 o_marked46_139 o_worth46_140 ) (f_X12_check_J143 o_paperHigh39_112 o_paperShape39_113 o_highAt39_114 o_shapeAt39_116 o_atA46_122 o_atB46_123 o_atD46_124 o_atF46_125 o_atG46_126 o_atH46_127 o_atL46_128 o_atM46_129 o_atN46_130 o_atS46_131 o_atT46_132 o_atU46_133 o_atX46_134 o_first46_135 o_greatest46_136 o_isRefused46_137 o_last46_138 o_marked46_139 o_worth46_140 ) (f_X12_check_J156 p3 o_paperHigh39_112 o_paperShape39_113 o_highAt39_114 o_shapeAt39_116 o_atA46_122 o_atB46_123 o_atD46_124 o_atF46_125 o_atG46_126 o_atH46_127 o_atL46_128 o_atM46_129 o_atN46_130 o_atS46_131 o_atT46_132 o_atU46_133 o_atX46_134 o_first46_135 o_greatest46_136 o_isRefused46_137 o_last46_138 o_marked46_139 o_worth46_140 ) n52) x4_259 = some (r, o_taped, o_atA, o_atB, o_atD, o_atF, o_atG, o_atH, o_atL, o_atM, o_atN, o_atS, o_atT, o_atU, o_atX, o_paperHigh, o_paperShape, o_first, o_greatest, o_highAt, o_isRefused, o_last, o_marked, o_shapeAt, o_worth) → kV E A s.heap H locs [(a0, .inr (12, [.ref a17, .int 0, .int s_sources, .int s_seed, w0_4, w0_5, w0_6, .ref a11, .ref a16, .ref a4, .ref a5, .ref a2, .ref a3, w0_13, w0_14, w0_15, w0_16, w0_17, w0_18, w0_19, w0_20, w0_21, w0_22, w0_23, w0_24, w0_25, w0_26, w0_27, .int o_atA46_122, .int o_atB46_123, .int o_atD46_124, .int o_atF46_125, .int o_atG46_126, .int o_atH46_127, .int o_atL46_128, .int o_atM46_129, .int o_atN46_130, .int o_atS46_131, .int o_atT46_132, .int o_atU46_133, .int o_atX46_134, .ref a20, .ref a9, .ref a1, .ref a13, .ref a19, .ref a14, .ref a18, .int o_paperHigh39_112, .int o_paperShape39_113, .ref a8, .ref a15, .ref a6, .ref a10, .ref a7, .ref a12, w0_56, w0_57, w0_58, w0_59, w0_60, w0_61, w0_62, w0_63, w0_64, w0_65, w0_66])), (a1, .inl (E.2 2, 10, .inl s_byStar)), (a2, .inl (E.2 0, 2400, .inl s_code)), (a3, .inl (E.2 0, 2400, .inl s_codeArg)), (a4, .inl (E.2 0, 240, .inl s_codeFrom)), (a5, .inl (E.2 0, 240, .inl s_codeTo)), (a6, .inl (E.2 0, 1440, .inl o_first46_135)), (a7, .inl (E.2 0, 1440, .inl o_greatest46_136)), (a8, .inl (E.2 0, 1440, .inl o_highAt39_114)), (a9, .inl (E.2 2, 200, .inl o_isRefused46_137)), (a10, .inl (E.2 0, 1440, .inl o_last46_138)), (a11, .inl (E.2 0, 20, .inl s_many)), (a12, .inl (E.2 0, 2, .inl o_marked46_139)), (a13, .inl (E.2 0, 10, .inl s_minuteOf)), (a14, .inl (E.2 0, 10, .inl s_shape)), (a15, .inl (E.2 0, 1440, .inl o_shapeAt39_116)), (a16, .inl (E.2 0, 240, .inl s_sumFrom)), (a17, .inl (E.2 1, 200, .inl s_tape)), (a18, .inl (E.2 0, 10, .inl s_weekdays)), (a19, .inl (E.2 0, 10, .inl s_wide)), (a20, .inl (E.2 0, 200, .inl o_worth46_140))] → lv_has ls 5 [(0, .ref a0), (3, .int p3), (4, .int x4_259)] → W p l e r_X12_check s m args below meth c H locs 0 0 Q (F0 m 52 ls []) := by
            intro n52
            induction n52 with
            | zero =>
              intro x4_259 H locs ls hB52 hVB52 hlB52
              rw [f_X12_check_L52] at hB52
              exact nomatch hB52
            | succ n52 ih52 =>
              intro x4_259 H locs ls hB52 hVB52 hlB52
              rw [f_X12_check_L52] at hB52
              refine lv_iload hx hb dX12_check_52 (lv_at hlB52 2 rfl) ?_
              refine lv_aload_n hx hb dX12_check_54 rfl (lv_at hlB52 0 rfl) ?_
              refine kget X hVB52 (ci := 12) inlX12 rfl 0 rfl 55 (by decide) mw_167 rfl dX12_check_55 ?_
              refine lv_iconst (v := 0) hx hb dX12_check_58 (by decide) ?_
              obtain ⟨hi261, v59_260, e262, h263⟩ := rdI_s hB52
              clear hB52
              refine kiald X hVB52 12 rfl hi261 e262 dX12_check_59 ?_
              clear hi261 e262
              refine lv_icmp_ge (tgt := 156) hx hb dX12_check_60 (by decide) (fun c264 => ?_) (fun c264 => ?_)
              · have h265 := itS c264 h263
                clear h263 c264
                exact J156  _ _ _ h265 hVB52 (lv_sub hlB52 [0, 1] rfl)
              · have h266 := ieS c264 h263
                clear h263 c264
                refine lv_iload hx hb dX12_check_63 (lv_at hlB52 2 rfl) ?_
                refine lv_iload_n hx hb dX12_check_65 rfl (lv_at hlB52 1 rfl) ?_
                refine lv_icmp_ne (tgt := 73) hx hb dX12_check_66 (by decide) (fun c267 => ?_) (fun c267 => ?_)
                · have h268 := ieS c267 h266
                  clear h266 c267
                  refine lv_aload_n hx hb dX12_check_73 rfl (lv_at hlB52 0 rfl) ?_
                  refine lv_iconst (v := 3) hx hb dX12_check_74 (by decide) ?_
                  refine lv_iload hx hb dX12_check_75 (lv_at hlB52 2 rfl) ?_
                  refine lv_imul hx hb dX12_check_77 ?_
                  obtain ⟨r78_270, hc271, h272⟩ := cb1_s h268
                  clear h268
                  refine kgoiE (krunV (rest := []) X hVB52 [0, 17] (c_X12_numberAt l E _ a0 a17 (.int 0) (.int s_sources) (.int s_seed) (w0_4) (w0_5) (w0_6) (.ref a11) (.ref a16) (.ref a4) (.ref a5) (.ref a2) (.ref a3) (w0_13) (w0_14) (w0_15) (w0_16) (w0_17) (w0_18) (w0_19) (w0_20) (w0_21) (w0_22) (w0_23) (w0_24) (w0_25) (w0_26) (w0_27) (.int o_atA46_122) (.int o_atB46_123) (.int o_atD46_124) (.int o_atF46_125) (.int o_atG46_126) (.int o_atH46_127) (.int o_atL46_128) (.int o_atM46_129) (.int o_atN46_130) (.int o_atS46_131) (.int o_atT46_132) (.int o_atU46_133) (.int o_atX46_134) (.ref a20) (.ref a9) (.ref a1) (.ref a13) (.ref a19) (.ref a14) (.ref a18) (.int o_paperHigh39_112) (.int o_paperShape39_113) (.ref a8) (.ref a15) (.ref a6) (.ref a10) (.ref a7) (.ref a12) (w0_56) (w0_57) (w0_58) (w0_59) (w0_60) (w0_61) (w0_62) (w0_63) (w0_64) (w0_65) (w0_66) s_tape (3 * x4_259) r78_270 hc271) mw_1320 kb_X12_numberAt (ci := 12) rfl rfl (by decide) rfl rfl hlB52.1 rfl (Nat.le_of_ble_eq_true rfl) dX12_check_78 (by decide)) X hVB52 [0, 17] [1, 2, 3, 4, 5, 6, 7, 8, 9, 10, 11, 12, 13, 14, 15, 16, 18, 19, 20] rfl rfl rfl (by decide) (fun u H locs hV273 => ?_)
                  have hV273 : kV E A s.heap H locs [(a0, .inr (12, [.ref a17, .int 0, .int s_sources, .int s_seed, w0_4, w0_5, w0_6, .ref a11, .ref a16, .ref a4, .ref a5, .ref a2, .ref a3, w0_13, w0_14, w0_15, w0_16, w0_17, w0_18, w0_19, w0_20, w0_21, w0_22, w0_23, w0_24, w0_25, w0_26, w0_27, .int o_atA46_122, .int o_atB46_123, .int o_atD46_124, .int o_atF46_125, .int o_atG46_126, .int o_atH46_127, .int o_atL46_128, .int o_atM46_129, .int o_atN46_130, .int o_atS46_131, .int o_atT46_132, .int o_atU46_133, .int o_atX46_134, .ref a20, .ref a9, .ref a1, .ref a13, .ref a19, .ref a14, .ref a18, .int o_paperHigh39_112, .int o_paperShape39_113, .ref a8, .ref a15, .ref a6, .ref a10, .ref a7, .ref a12, w0_56, w0_57, w0_58, w0_59, w0_60, w0_61, w0_62, w0_63, w0_64, w0_65, w0_66])), (a1, .inl (E.2 2, 10, .inl s_byStar)), (a2, .inl (E.2 0, 2400, .inl s_code)), (a3, .inl (E.2 0, 2400, .inl s_codeArg)), (a4, .inl (E.2 0, 240, .inl s_codeFrom)), (a5, .inl (E.2 0, 240, .inl s_codeTo)), (a6, .inl (E.2 0, 1440, .inl o_first46_135)), (a7, .inl (E.2 0, 1440, .inl o_greatest46_136)), (a8, .inl (E.2 0, 1440, .inl o_highAt39_114)), (a9, .inl (E.2 2, 200, .inl o_isRefused46_137)), (a10, .inl (E.2 0, 1440, .inl o_last46_138)), (a11, .inl (E.2 0, 20, .inl s_many)), (a12, .inl (E.2 0, 2, .inl o_marked46_139)), (a13, .inl (E.2 0, 10, .inl s_minuteOf)), (a14, .inl (E.2 0, 10, .inl s_shape)), (a15, .inl (E.2 0, 1440, .inl o_shapeAt39_116)), (a16, .inl (E.2 0, 240, .inl s_sumFrom)), (a17, .inl (E.2 1, 200, .inl s_tape)), (a18, .inl (E.2 0, 10, .inl s_weekdays)), (a19, .inl (E.2 0, 10, .inl s_wide)), (a20, .inl (E.2 0, 200, .inl o_worth46_140))] := hV273.sub [19, 0, 1, 2, 3, 4, 5, 6, 7, 8, 9, 10, 11, 12, 13, 14, 15, 20, 16, 17, 18] rfl rfl
                  clear hVB52
                  refine lv_aload_n hx hb dX12_check_81 rfl (lv_at hlB52 0 rfl) ?_
                  refine kget X hV273 (ci := 12) inlX12 rfl 0 rfl 52 (by decide) mw_164 rfl dX12_check_82 ?_
                  refine lv_iload hx hb dX12_check_85 (lv_at hlB52 2 rfl) ?_
                  obtain ⟨hi276, v87_275, e277, h278⟩ := rdI_s h272
                  clear h272
                  refine kiald X hV273 6 rfl hi276 e277 dX12_check_87 ?_
                  clear hi276 e277
                  refine lv_icmp_eq (tgt := 96) hx hb dX12_check_88 (by decide) (fun c279 => ?_) (fun c279 => ?_)
                  · have h280 := itS c279 h278
                    clear h278 c279
                    refine lv_aload_n hx hb dX12_check_96 rfl (lv_at hlB52 0 rfl) ?_
                    refine lv_iconst (v := 3) hx hb dX12_check_97 (by decide) ?_
                    refine lv_iload hx hb dX12_check_98 (lv_at hlB52 2 rfl) ?_
                    refine lv_imul hx hb dX12_check_100 ?_
                    refine lv_iconst (v := 1) hx hb dX12_check_101 (by decide) ?_
                    refine lv_iadd hx hb dX12_check_102 ?_
                    obtain ⟨r103_282, hc283, h284⟩ := cb1_s h280
                    clear h280
                    refine kgoiE (krunV (rest := []) X hV273 [0, 17] (c_X12_numberAt l E _ a0 a17 (.int 0) (.int s_sources) (.int s_seed) (w0_4) (w0_5) (w0_6) (.ref a11) (.ref a16) (.ref a4) (.ref a5) (.ref a2) (.ref a3) (w0_13) (w0_14) (w0_15) (w0_16) (w0_17) (w0_18) (w0_19) (w0_20) (w0_21) (w0_22) (w0_23) (w0_24) (w0_25) (w0_26) (w0_27) (.int o_atA46_122) (.int o_atB46_123) (.int o_atD46_124) (.int o_atF46_125) (.int o_atG46_126) (.int o_atH46_127) (.int o_atL46_128) (.int o_atM46_129) (.int o_atN46_130) (.int o_atS46_131) (.int o_atT46_132) (.int o_atU46_133) (.int o_atX46_134) (.ref a20) (.ref a9) (.ref a1) (.ref a13) (.ref a19) (.ref a14) (.ref a18) (.int o_paperHigh39_112) (.int o_paperShape39_113) (.ref a8) (.ref a15) (.ref a6) (.ref a10) (.ref a7) (.ref a12) (w0_56) (w0_57) (w0_58) (w0_59) (w0_60) (w0_61) (w0_62) (w0_63) (w0_64) (w0_65) (w0_66) s_tape ((3 * x4_259) + 1) r103_282 hc283) mw_1320 kb_X12_numberAt (ci := 12) rfl rfl (by decide) rfl rfl hlB52.1 rfl (Nat.le_of_ble_eq_true rfl) dX12_check_103 (by decide)) X hV273 [0, 17] [1, 2, 3, 4, 5, 6, 7, 8, 9, 10, 11, 12, 13, 14, 15, 16, 18, 19, 20] rfl rfl rfl (by decide) (fun u H locs hV285 => ?_)
                    have hV285 : kV E A s.heap H locs [(a0, .inr (12, [.ref a17, .int 0, .int s_sources, .int s_seed, w0_4, w0_5, w0_6, .ref a11, .ref a16, .ref a4, .ref a5, .ref a2, .ref a3, w0_13, w0_14, w0_15, w0_16, w0_17, w0_18, w0_19, w0_20, w0_21, w0_22, w0_23, w0_24, w0_25, w0_26, w0_27, .int o_atA46_122, .int o_atB46_123, .int o_atD46_124, .int o_atF46_125, .int o_atG46_126, .int o_atH46_127, .int o_atL46_128, .int o_atM46_129, .int o_atN46_130, .int o_atS46_131, .int o_atT46_132, .int o_atU46_133, .int o_atX46_134, .ref a20, .ref a9, .ref a1, .ref a13, .ref a19, .ref a14, .ref a18, .int o_paperHigh39_112, .int o_paperShape39_113, .ref a8, .ref a15, .ref a6, .ref a10, .ref a7, .ref a12, w0_56, w0_57, w0_58, w0_59, w0_60, w0_61, w0_62, w0_63, w0_64, w0_65, w0_66])), (a1, .inl (E.2 2, 10, .inl s_byStar)), (a2, .inl (E.2 0, 2400, .inl s_code)), (a3, .inl (E.2 0, 2400, .inl s_codeArg)), (a4, .inl (E.2 0, 240, .inl s_codeFrom)), (a5, .inl (E.2 0, 240, .inl s_codeTo)), (a6, .inl (E.2 0, 1440, .inl o_first46_135)), (a7, .inl (E.2 0, 1440, .inl o_greatest46_136)), (a8, .inl (E.2 0, 1440, .inl o_highAt39_114)), (a9, .inl (E.2 2, 200, .inl o_isRefused46_137)), (a10, .inl (E.2 0, 1440, .inl o_last46_138)), (a11, .inl (E.2 0, 20, .inl s_many)), (a12, .inl (E.2 0, 2, .inl o_marked46_139)), (a13, .inl (E.2 0, 10, .inl s_minuteOf)), (a14, .inl (E.2 0, 10, .inl s_shape)), (a15, .inl (E.2 0, 1440, .inl o_shapeAt39_116)), (a16, .inl (E.2 0, 240, .inl s_sumFrom)), (a17, .inl (E.2 1, 200, .inl s_tape)), (a18, .inl (E.2 0, 10, .inl s_weekdays)), (a19, .inl (E.2 0, 10, .inl s_wide)), (a20, .inl (E.2 0, 200, .inl o_worth46_140))] := hV285.sub [19, 0, 1, 2, 3, 4, 5, 6, 7, 8, 9, 10, 11, 12, 13, 14, 15, 20, 16, 17, 18] rfl rfl
                    clear hV273
                    refine lv_aload_n hx hb dX12_check_106 rfl (lv_at hlB52 0 rfl) ?_
                    refine kget X hV285 (ci := 12) inlX12 rfl 0 rfl 53 (by decide) mw_165 rfl dX12_check_107 ?_
                    refine lv_iload hx hb dX12_check_110 (lv_at hlB52 2 rfl) ?_
                    obtain ⟨hi288, v112_287, e289, h290⟩ := rdI_s h284
                    clear h284
                    refine kiald X hV285 10 rfl hi288 e289 dX12_check_112 ?_
                    clear hi288 e289
                    refine lv_icmp_eq (tgt := 123) hx hb dX12_check_113 (by decide) (fun c291 => ?_) (fun c291 => ?_)
                    · have h292 := itS c291 h290
                      clear h290 c291
                      refine lv_aload_n hx hb dX12_check_123 rfl (lv_at hlB52 0 rfl) ?_
                      refine lv_iconst (v := 3) hx hb dX12_check_124 (by decide) ?_
                      refine lv_iload hx hb dX12_check_125 (lv_at hlB52 2 rfl) ?_
                      refine lv_imul hx hb dX12_check_127 ?_
                      refine lv_iconst (v := 2) hx hb dX12_check_128 (by decide) ?_
                      refine lv_iadd hx hb dX12_check_129 ?_
                      obtain ⟨r130_294, hc295, h296⟩ := cb1_s h292
                      clear h292
                      refine kgoiE (krunV (rest := []) X hV285 [0, 17] (c_X12_numberAt l E _ a0 a17 (.int 0) (.int s_sources) (.int s_seed) (w0_4) (w0_5) (w0_6) (.ref a11) (.ref a16) (.ref a4) (.ref a5) (.ref a2) (.ref a3) (w0_13) (w0_14) (w0_15) (w0_16) (w0_17) (w0_18) (w0_19) (w0_20) (w0_21) (w0_22) (w0_23) (w0_24) (w0_25) (w0_26) (w0_27) (.int o_atA46_122) (.int o_atB46_123) (.int o_atD46_124) (.int o_atF46_125) (.int o_atG46_126) (.int o_atH46_127) (.int o_atL46_128) (.int o_atM46_129) (.int o_atN46_130) (.int o_atS46_131) (.int o_atT46_132) (.int o_atU46_133) (.int o_atX46_134) (.ref a20) (.ref a9) (.ref a1) (.ref a13) (.ref a19) (.ref a14) (.ref a18) (.int o_paperHigh39_112) (.int o_paperShape39_113) (.ref a8) (.ref a15) (.ref a6) (.ref a10) (.ref a7) (.ref a12) (w0_56) (w0_57) (w0_58) (w0_59) (w0_60) (w0_61) (w0_62) (w0_63) (w0_64) (w0_65) (w0_66) s_tape ((3 * x4_259) + 2) r130_294 hc295) mw_1320 kb_X12_numberAt (ci := 12) rfl rfl (by decide) rfl rfl hlB52.1 rfl (Nat.le_of_ble_eq_true rfl) dX12_check_130 (by decide)) X hV285 [0, 17] [1, 2, 3, 4, 5, 6, 7, 8, 9, 10, 11, 12, 13, 14, 15, 16, 18, 19, 20] rfl rfl rfl (by decide) (fun u H locs hV297 => ?_)
                      have hV297 : kV E A s.heap H locs [(a0, .inr (12, [.ref a17, .int 0, .int s_sources, .int s_seed, w0_4, w0_5, w0_6, .ref a11, .ref a16, .ref a4, .ref a5, .ref a2, .ref a3, w0_13, w0_14, w0_15, w0_16, w0_17, w0_18, w0_19, w0_20, w0_21, w0_22, w0_23, w0_24, w0_25, w0_26, w0_27, .int o_atA46_122, .int o_atB46_123, .int o_atD46_124, .int o_atF46_125, .int o_atG46_126, .int o_atH46_127, .int o_atL46_128, .int o_atM46_129, .int o_atN46_130, .int o_atS46_131, .int o_atT46_132, .int o_atU46_133, .int o_atX46_134, .ref a20, .ref a9, .ref a1, .ref a13, .ref a19, .ref a14, .ref a18, .int o_paperHigh39_112, .int o_paperShape39_113, .ref a8, .ref a15, .ref a6, .ref a10, .ref a7, .ref a12, w0_56, w0_57, w0_58, w0_59, w0_60, w0_61, w0_62, w0_63, w0_64, w0_65, w0_66])), (a1, .inl (E.2 2, 10, .inl s_byStar)), (a2, .inl (E.2 0, 2400, .inl s_code)), (a3, .inl (E.2 0, 2400, .inl s_codeArg)), (a4, .inl (E.2 0, 240, .inl s_codeFrom)), (a5, .inl (E.2 0, 240, .inl s_codeTo)), (a6, .inl (E.2 0, 1440, .inl o_first46_135)), (a7, .inl (E.2 0, 1440, .inl o_greatest46_136)), (a8, .inl (E.2 0, 1440, .inl o_highAt39_114)), (a9, .inl (E.2 2, 200, .inl o_isRefused46_137)), (a10, .inl (E.2 0, 1440, .inl o_last46_138)), (a11, .inl (E.2 0, 20, .inl s_many)), (a12, .inl (E.2 0, 2, .inl o_marked46_139)), (a13, .inl (E.2 0, 10, .inl s_minuteOf)), (a14, .inl (E.2 0, 10, .inl s_shape)), (a15, .inl (E.2 0, 1440, .inl o_shapeAt39_116)), (a16, .inl (E.2 0, 240, .inl s_sumFrom)), (a17, .inl (E.2 1, 200, .inl s_tape)), (a18, .inl (E.2 0, 10, .inl s_weekdays)), (a19, .inl (E.2 0, 10, .inl s_wide)), (a20, .inl (E.2 0, 200, .inl o_worth46_140))] := hV297.sub [19, 0, 1, 2, 3, 4, 5, 6, 7, 8, 9, 10, 11, 12, 13, 14, 15, 20, 16, 17, 18] rfl rfl
                      clear hV285
                      refine lv_aload_n hx hb dX12_check_133 rfl (lv_at hlB52 0 rfl) ?_
                      refine kget X hV297 (ci := 12) inlX12 rfl 0 rfl 54 (by decide) mw_166 rfl dX12_check_134 ?_
                      refine lv_iload hx hb dX12_check_137 (lv_at hlB52 2 rfl) ?_
                      obtain ⟨hi300, v139_299, e301, h302⟩ := rdI_s h296
                      clear h296
                      refine kiald X hV297 7 rfl hi300 e301 dX12_check_139 ?_
                      clear hi300 e301
                      refine lv_icmp_eq (tgt := 150) hx hb dX12_check_140 (by decide) (fun c303 => ?_) (fun c303 => ?_)
                      · have h304 := itS c303 h302
                        clear h302 c303
                        obtain ⟨v150_306, e307, h308⟩ := nmI_s h304
                        clear h304
                        refine lv_iinc (v := v150_306) (lv' := [(4, .int v150_306), (0, .ref a0), (3, .int p3)]) hx hb dX12_check_150 hlB52 (k := 2) rfl (by rw [e307]; rfl) (by decide) rfl (fun ls hl309 => ?_)
                        clear hlB52 e307
                        refine lv_goto (tgt := 52) hx hb dX12_check_153 (by decide) ?_
                        exact ih52 v150_306 _ _ _ h308 hV297 (lv_sub hl309 [1, 2, 0] rfl)
                      · have h305 := ieS c303 h302
                        clear h302 c303
                        exact J143 x4_259 _ _ _ h305 hV297 (lv_sub hlB52 [2] rfl)
                    · have h293 := ieS c291 h290
                      clear h290 c291
                      exact J116 x4_259 _ _ _ h293 hV285 (lv_sub hlB52 [2] rfl)
                  · have h281 := ieS c279 h278
                    clear h278 c279
                    refine lv_iconst (v := 3) hx hb dX12_check_91 (by decide) ?_
                    refine lv_iload hx hb dX12_check_92 (lv_at hlB52 2 rfl) ?_
                    refine lv_imul hx hb dX12_check_94 ?_
                    obtain ⟨q310, q311, q312, q313, q314, q315, q316, q317, q318, q319, q320, q321, q322, q323, q324, q325, q326, q327, q328, q329, q330, q331, q332, q333, q334⟩ := tup25_s h281
                    clear h281
                    exact hret _ () _ _ _ _ q310 rfl (by rw [← q311, ← q312, ← q313, ← q314, ← q315, ← q316, ← q317, ← q318, ← q319, ← q320, ← q321, ← q322, ← q323, ← q324, ← q325, ← q326, ← q327, ← q328, ← q329, ← q330, ← q331, ← q332, ← q333, ← q334]; exact hV273) dX12_check_95
                · have h269 := itS c267 h266
                  clear h266 c267
                  refine lv_iconst (v := 3) hx hb dX12_check_69 (by decide) ?_
                  refine lv_iload_n hx hb dX12_check_70 rfl (lv_at hlB52 1 rfl) ?_
                  refine lv_imul hx hb dX12_check_71 ?_
                  obtain ⟨q335, q336, q337, q338, q339, q340, q341, q342, q343, q344, q345, q346, q347, q348, q349, q350, q351, q352, q353, q354, q355, q356, q357, q358, q359⟩ := tup25_s h269
                  clear h269
                  exact hret _ () _ _ _ _ q335 rfl (by rw [← q336, ← q337, ← q338, ← q339, ← q340, ← q341, ← q342, ← q343, ← q344, ← q345, ← q346, ← q347, ← q348, ← q349, ← q350, ← q351, ← q352, ← q353, ← q354, ← q355, ← q356, ← q357, ← q358, ← q359]; exact hVB52) dX12_check_72
          exact L52 FU 0 _ _ _ h142 hV143 (lv_sub hl145 [1, 4, 0] rfl)
        · have h97 := ieS c95 h69
          clear h69 c95
          refine lv_bipush (v := (-2)) hx hb dX12_check_29 (by decide) ?_
          obtain ⟨q360, q361, q362, q363, q364, q365, q366, q367, q368, q369, q370, q371, q372, q373, q374, q375, q376, q377, q378, q379, q380, q381, q382, q383, q384⟩ := tup25_s h97
          clear h97
          exact hret _ () _ _ _ _ q360 rfl (by rw [← q361, ← q362, ← q363, ← q364, ← q365, ← q366, ← q367, ← q368, ← q369, ← q370, ← q371, ← q372, ← q373, ← q374, ← q375, ← q376, ← q377, ← q378, ← q379, ← q380, ← q381, ← q382, ← q383, ← q384]; exact hV37) dX12_check_31
abbrev r_X12_count : Room := { frames := 2, cells := 0, slots := 0, locals := 46 }
set_option maxHeartbeats 4000000 in
set_option maxRecDepth 100000 in
theorem c_X12_count (l : Launch) (E : kE) (sz : Nat) (a0 a1 : Nat) (w0_0 w0_8 w0_9 w0_10 w0_11 w0_12 w0_13 w0_14 w0_15 w0_16 w0_17 w0_18 w0_19 w0_20 w0_21 w0_22 w0_23 w0_24 w0_25 w0_26 w0_27 w0_28 w0_29 w0_30 w0_31 w0_32 w0_33 w0_34 w0_35 w0_36 w0_37 w0_38 w0_39 w0_40 w0_41 w0_42 w0_43 w0_44 w0_45 w0_46 w0_47 w0_48 w0_49 w0_50 w0_51 w0_52 w0_53 w0_54 w0_55 w0_56 w0_57 w0_58 w0_59 w0_60 w0_61 w0_62 w0_63 w0_64 w0_65 w0_66 : Value) (s_taped : Int32) (s_sources : Int32) (s_seed : Int32) (s_notes : Int32) (s_blips : Int32) (s_nights : Int32) (s_many : Nat → Int32) (p1 : Int32) (r : Int32) (h : f_X12_count s_taped s_sources s_seed s_notes s_blips s_nights s_many p1 = some (r)) : kMi l yX12_count cX12_count 2 (some .int) r_X12_count [.ref a0, .int p1] E [(a0, .inr (12, [w0_0, .int s_taped, .int s_sources, .int s_seed, .int s_notes, .int s_blips, .int s_nights, .ref a1, w0_8, w0_9, w0_10, w0_11, w0_12, w0_13, w0_14, w0_15, w0_16, w0_17, w0_18, w0_19, w0_20, w0_21, w0_22, w0_23, w0_24, w0_25, w0_26, w0_27, w0_28, w0_29, w0_30, w0_31, w0_32, w0_33, w0_34, w0_35, w0_36, w0_37, w0_38, w0_39, w0_40, w0_41, w0_42, w0_43, w0_44, w0_45, w0_46, w0_47, w0_48, w0_49, w0_50, w0_51, w0_52, w0_53, w0_54, w0_55, w0_56, w0_57, w0_58, w0_59, w0_60, w0_61, w0_62, w0_63, w0_64, w0_65, w0_66])), (a1, .inl (E.2 0, 20, .inl s_many))] sz 0 0 (fun x (_ : Unit) => x = r) (fun _ => [(a0, .inr (12, [w0_0, .int s_taped, .int s_sources, .int s_seed, .int s_notes, .int s_blips, .int s_nights, .ref a1, w0_8, w0_9, w0_10, w0_11, w0_12, w0_13, w0_14, w0_15, w0_16, w0_17, w0_18, w0_19, w0_20, w0_21, w0_22, w0_23, w0_24, w0_25, w0_26, w0_27, w0_28, w0_29, w0_30, w0_31, w0_32, w0_33, w0_34, w0_35, w0_36, w0_37, w0_38, w0_39, w0_40, w0_41, w0_42, w0_43, w0_44, w0_45, w0_46, w0_47, w0_48, w0_49, w0_50, w0_51, w0_52, w0_53, w0_54, w0_55, w0_56, w0_57, w0_58, w0_59, w0_60, w0_61, w0_62, w0_63, w0_64, w0_65, w0_66])), (a1, .inl (E.2 0, 20, .inl s_many))]) := by
  refine kmeti rfl (Nat.le_of_ble_eq_true rfl) ?_
  intro p e s m args below meth c ls A Q X hV hret hl
  have X : kC p s m c cX12_count 2 RX12 args E A := X
  have hx := X.1
  have hb := X.2.1
  have hl : lv_has ls 2 [(0, .ref a0), (1, .int p1)] := hl
  rw [f_X12_count] at h
  refine lv_aload_n hx hb dX12_count_0 rfl (lv_at hl 0 rfl) ?_
  refine lv_iload_n hx hb dX12_count_1 rfl (lv_at hl 1 rfl) ?_
  refine lv_bipush (v := 10) hx hb dX12_count_2 (by decide) ?_
  refine lv_isub hx hb dX12_count_4 ?_
  obtain ⟨r5_1, hc2, h3⟩ := cb1_s h
  clear h
  refine kgoiE (krunV (rest := []) X hV [0] (c_X12_isSource l E _ a0 (w0_0) (.int s_taped) (.int s_seed) (.int s_notes) (.int s_blips) (.int s_nights) (.ref a1) (w0_8) (w0_9) (w0_10) (w0_11) (w0_12) (w0_13) (w0_14) (w0_15) (w0_16) (w0_17) (w0_18) (w0_19) (w0_20) (w0_21) (w0_22) (w0_23) (w0_24) (w0_25) (w0_26) (w0_27) (w0_28) (w0_29) (w0_30) (w0_31) (w0_32) (w0_33) (w0_34) (w0_35) (w0_36) (w0_37) (w0_38) (w0_39) (w0_40) (w0_41) (w0_42) (w0_43) (w0_44) (w0_45) (w0_46) (w0_47) (w0_48) (w0_49) (w0_50) (w0_51) (w0_52) (w0_53) (w0_54) (w0_55) (w0_56) (w0_57) (w0_58) (w0_59) (w0_60) (w0_61) (w0_62) (w0_63) (w0_64) (w0_65) (w0_66) s_sources (p1 - 10) r5_1 hc2) mw_461 kb_X12_isSource (ci := 12) rfl rfl (by decide) rfl rfl hl.1 rfl (Nat.le_of_ble_eq_true rfl) dX12_count_5 (by decide)) X hV [0] [1] rfl rfl rfl (by decide) (fun u H locs hV4 => ?_)
  have hV4 : kV E A s.heap H locs [(a0, .inr (12, [w0_0, .int s_taped, .int s_sources, .int s_seed, .int s_notes, .int s_blips, .int s_nights, .ref a1, w0_8, w0_9, w0_10, w0_11, w0_12, w0_13, w0_14, w0_15, w0_16, w0_17, w0_18, w0_19, w0_20, w0_21, w0_22, w0_23, w0_24, w0_25, w0_26, w0_27, w0_28, w0_29, w0_30, w0_31, w0_32, w0_33, w0_34, w0_35, w0_36, w0_37, w0_38, w0_39, w0_40, w0_41, w0_42, w0_43, w0_44, w0_45, w0_46, w0_47, w0_48, w0_49, w0_50, w0_51, w0_52, w0_53, w0_54, w0_55, w0_56, w0_57, w0_58, w0_59, w0_60, w0_61, w0_62, w0_63, w0_64, w0_65, w0_66])), (a1, .inl (E.2 0, 20, .inl s_many))] := hV4.sub [1, 0] rfl rfl
  clear hV
  refine lv_if_eq (tgt := 23) hx hb dX12_count_8 (by decide) (fun c6 => ?_) (fun c6 => ?_)
  · have h7 := itS c6 h3
    clear h3 c6
    refine lv_iload_n hx hb dX12_count_23 rfl (lv_at hl 1 rfl) ?_
    refine lv_bipush (v := 20) hx hb dX12_count_24 (by decide) ?_
    refine lv_isub hx hb dX12_count_26 ?_
    obtain ⟨r27_9, hc10, h11⟩ := cb1_s h7
    clear h7
    refine kgoiE (krunS (rest := []) X hV4 [] (c_X12_isReader l E _ (p1 - 20) r27_9 hc10) mw_595 kb_X12_isReader (by decide) rfl rfl hl.1 rfl (Nat.le_of_ble_eq_true rfl) dX12_count_27 (by decide)) X hV4 [] [0, 1] rfl rfl rfl (by decide) (fun u H locs hV12 => ?_)
    have hV12 : kV E A s.heap H locs [(a0, .inr (12, [w0_0, .int s_taped, .int s_sources, .int s_seed, .int s_notes, .int s_blips, .int s_nights, .ref a1, w0_8, w0_9, w0_10, w0_11, w0_12, w0_13, w0_14, w0_15, w0_16, w0_17, w0_18, w0_19, w0_20, w0_21, w0_22, w0_23, w0_24, w0_25, w0_26, w0_27, w0_28, w0_29, w0_30, w0_31, w0_32, w0_33, w0_34, w0_35, w0_36, w0_37, w0_38, w0_39, w0_40, w0_41, w0_42, w0_43, w0_44, w0_45, w0_46, w0_47, w0_48, w0_49, w0_50, w0_51, w0_52, w0_53, w0_54, w0_55, w0_56, w0_57, w0_58, w0_59, w0_60, w0_61, w0_62, w0_63, w0_64, w0_65, w0_66])), (a1, .inl (E.2 0, 20, .inl s_many))] := hV12.sub [0, 1] rfl rfl
    clear hV4
    refine lv_if_eq (tgt := 46) hx hb dX12_count_30 (by decide) (fun c14 => ?_) (fun c14 => ?_)
    · have h15 := itS c14 h11
      clear h11 c14
      refine lv_iload_n hx hb dX12_count_46 rfl (lv_at hl 1 rfl) ?_
      refine lv_bipush (v := 30) hx hb dX12_count_47 (by decide) ?_
      refine lv_isub hx hb dX12_count_49 ?_
      obtain ⟨r50_17, hc18, h19⟩ := cb1_s h15
      clear h15
      refine kgoiE (krunS (rest := []) X hV12 [] (c_X12_isTale l E _ (p1 - 30) r50_17 hc18) mw_614 kb_X12_isTale (by decide) rfl rfl hl.1 rfl (Nat.le_of_ble_eq_true rfl) dX12_count_50 (by decide)) X hV12 [] [0, 1] rfl rfl rfl (by decide) (fun u H locs hV20 => ?_)
      have hV20 : kV E A s.heap H locs [(a0, .inr (12, [w0_0, .int s_taped, .int s_sources, .int s_seed, .int s_notes, .int s_blips, .int s_nights, .ref a1, w0_8, w0_9, w0_10, w0_11, w0_12, w0_13, w0_14, w0_15, w0_16, w0_17, w0_18, w0_19, w0_20, w0_21, w0_22, w0_23, w0_24, w0_25, w0_26, w0_27, w0_28, w0_29, w0_30, w0_31, w0_32, w0_33, w0_34, w0_35, w0_36, w0_37, w0_38, w0_39, w0_40, w0_41, w0_42, w0_43, w0_44, w0_45, w0_46, w0_47, w0_48, w0_49, w0_50, w0_51, w0_52, w0_53, w0_54, w0_55, w0_56, w0_57, w0_58, w0_59, w0_60, w0_61, w0_62, w0_63, w0_64, w0_65, w0_66])), (a1, .inl (E.2 0, 20, .inl s_many))] := hV20.sub [0, 1] rfl rfl
      clear hV12
      refine lv_if_eq (tgt := 69) hx hb dX12_count_53 (by decide) (fun c22 => ?_) (fun c22 => ?_)
      · have h23 := itS c22 h19
        clear h19 c22
        refine lv_iload_n hx hb dX12_count_69 rfl (lv_at hl 1 rfl) ?_
        by_cases c25 : p1 = 0
        · have h26 := itS c25 h23
          refine lv_tableIn (tgt := 108) (off := 38) hx hb dX12_count_70 (by rw [c25]; decide) (by rw [c25]; decide) (by rw [c25]; decide) (by decide) ?_
          clear h23
          refine lv_aload_n hx hb dX12_count_108 rfl (lv_at hl 0 rfl) ?_
          refine kget X hV20 (ci := 12) inlX12 rfl 0 rfl 2 (by decide) mw_216 rfl dX12_count_109 ?_
          have q27 := tup1_s h26
          clear h26
          exact hret _ () _ _ _ _ q27 rfl hV20 dX12_count_112
        · have h28 := ieS c25 h23
          clear h23
          by_cases c29 : p1 = 1
          · have h30 := itS c29 h28
            refine lv_tableIn (tgt := 113) (off := 43) hx hb dX12_count_70 (by rw [c29]; decide) (by rw [c29]; decide) (by rw [c29]; decide) (by decide) ?_
            clear h28
            refine lv_aload_n hx hb dX12_count_113 rfl (lv_at hl 0 rfl) ?_
            refine kget X hV20 (ci := 12) inlX12 rfl 0 rfl 4 (by decide) mw_899 rfl dX12_count_114 ?_
            have q31 := tup1_s h30
            clear h30
            exact hret _ () _ _ _ _ q31 rfl hV20 dX12_count_117
          · have h32 := ieS c29 h28
            clear h28
            by_cases c33 : p1 = 2
            · have h34 := itS c33 h32
              refine lv_tableIn (tgt := 118) (off := 48) hx hb dX12_count_70 (by rw [c33]; decide) (by rw [c33]; decide) (by rw [c33]; decide) (by decide) ?_
              clear h32
              refine lv_aload_n hx hb dX12_count_118 rfl (lv_at hl 0 rfl) ?_
              refine kget X hV20 (ci := 12) inlX12 rfl 0 rfl 5 (by decide) mw_991 rfl dX12_count_119 ?_
              have q35 := tup1_s h34
              clear h34
              exact hret _ () _ _ _ _ q35 rfl hV20 dX12_count_122
            · have h36 := ieS c33 h32
              clear h32
              by_cases c37 : p1 = 3
              · have h38 := itS c37 h36
                refine lv_tableIn (tgt := 123) (off := 53) hx hb dX12_count_70 (by rw [c37]; decide) (by rw [c37]; decide) (by rw [c37]; decide) (by decide) ?_
                clear h36
                refine lv_aload_n hx hb dX12_count_123 rfl (lv_at hl 0 rfl) ?_
                refine kget X hV20 (ci := 12) inlX12 rfl 0 rfl 6 (by decide) mw_1106 rfl dX12_count_124 ?_
                have q39 := tup1_s h38
                clear h38
                exact hret _ () _ _ _ _ q39 rfl hV20 dX12_count_127
              · have h40 := ieS c37 h36
                clear h36
                by_cases c41 : p1 = 4
                · have h42 := itS c41 h40
                  refine lv_tableIn (tgt := 128) (off := 58) hx hb dX12_count_70 (by rw [c41]; decide) (by rw [c41]; decide) (by rw [c41]; decide) (by decide) ?_
                  clear h40
                  refine lv_aload_n hx hb dX12_count_128 rfl (lv_at hl 0 rfl) ?_
                  refine kget X hV20 (ci := 12) inlX12 rfl 0 rfl 3 (by decide) mw_237 rfl dX12_count_129 ?_
                  have q43 := tup1_s h42
                  clear h42
                  exact hret _ () _ _ _ _ q43 rfl hV20 dX12_count_132
                · have h44 := ieS c41 h40
                  clear h40
                  by_cases c45 : p1 = 5
                  · have h46 := itS c45 h44
                    refine lv_tableIn (tgt := 133) (off := 63) hx hb dX12_count_70 (by rw [c45]; decide) (by rw [c45]; decide) (by rw [c45]; decide) (by decide) ?_
                    clear h44
                    refine lv_aload_n hx hb dX12_count_133 rfl (lv_at hl 0 rfl) ?_
                    refine kget X hV20 (ci := 12) inlX12 rfl 0 rfl 1 (by decide) mw_251 rfl dX12_count_134 ?_
                    have q47 := tup1_s h46
                    clear h46
                    exact hret _ () _ _ _ _ q47 rfl hV20 dX12_count_137
                  · have h48 := ieS c45 h44
                    clear h44
                    refine lv_tableOut (tgt := 138) hx hb dX12_count_70 (by have ec25 : ¬ p1.toInt = 0 := fun q => c25 (Int32.toInt_inj.mp (q.trans (by decide))); have ec29 : ¬ p1.toInt = 1 := fun q => c29 (Int32.toInt_inj.mp (q.trans (by decide))); have ec33 : ¬ p1.toInt = 2 := fun q => c33 (Int32.toInt_inj.mp (q.trans (by decide))); have ec37 : ¬ p1.toInt = 3 := fun q => c37 (Int32.toInt_inj.mp (q.trans (by decide))); have ec41 : ¬ p1.toInt = 4 := fun q => c41 (Int32.toInt_inj.mp (q.trans (by decide))); have ec45 : ¬ p1.toInt = 5 := fun q => c45 (Int32.toInt_inj.mp (q.trans (by decide))); omega) (by decide) ?_
                    refine lv_iconst (v := (-1)) hx hb dX12_count_138 (by decide) ?_
                    have q49 := tup1_s h48
                    clear h48
                    exact hret _ () _ _ _ _ q49 rfl hV20 dX12_count_139
      · have h24 := ieS c22 h19
        clear h19 c22
        refine lv_aload_n hx hb dX12_count_56 rfl (lv_at hl 0 rfl) ?_
        refine kget X hV20 (ci := 12) inlX12 rfl 0 rfl 7 (by decide) mw_142 rfl dX12_count_57 ?_
        refine lv_bipush (v := 14) hx hb dX12_count_60 (by decide) ?_
        refine lv_iload_n hx hb dX12_count_62 rfl (lv_at hl 1 rfl) ?_
        refine lv_iadd hx hb dX12_count_63 ?_
        refine lv_bipush (v := 30) hx hb dX12_count_64 (by decide) ?_
        refine lv_isub hx hb dX12_count_66 ?_
        obtain ⟨hi51, v67_50, e52, h53⟩ := rdI_s h24
        clear h24
        refine kiald X hV20 1 rfl hi51 e52 dX12_count_67 ?_
        clear hi51 e52
        have q54 := tup1_s h53
        clear h53
        exact hret _ () _ _ _ _ q54 rfl hV20 dX12_count_68
    · have h16 := ieS c14 h11
      clear h11 c14
      refine lv_aload_n hx hb dX12_count_33 rfl (lv_at hl 0 rfl) ?_
      refine kget X hV12 (ci := 12) inlX12 rfl 0 rfl 7 (by decide) mw_142 rfl dX12_count_34 ?_
      refine lv_bipush (v := 10) hx hb dX12_count_37 (by decide) ?_
      refine lv_iload_n hx hb dX12_count_39 rfl (lv_at hl 1 rfl) ?_
      refine lv_iadd hx hb dX12_count_40 ?_
      refine lv_bipush (v := 20) hx hb dX12_count_41 (by decide) ?_
      refine lv_isub hx hb dX12_count_43 ?_
      obtain ⟨hi56, v44_55, e57, h58⟩ := rdI_s h16
      clear h16
      refine kiald X hV12 1 rfl hi56 e57 dX12_count_44 ?_
      clear hi56 e57
      have q59 := tup1_s h58
      clear h58
      exact hret _ () _ _ _ _ q59 rfl hV12 dX12_count_45
  · have h8 := ieS c6 h3
    clear h3 c6
    refine lv_aload_n hx hb dX12_count_11 rfl (lv_at hl 0 rfl) ?_
    refine kget X hV4 (ci := 12) inlX12 rfl 0 rfl 7 (by decide) mw_142 rfl dX12_count_12 ?_
    refine lv_iconst (v := 0) hx hb dX12_count_15 (by decide) ?_
    refine lv_iload_n hx hb dX12_count_16 rfl (lv_at hl 1 rfl) ?_
    refine lv_iadd hx hb dX12_count_17 ?_
    refine lv_bipush (v := 10) hx hb dX12_count_18 (by decide) ?_
    refine lv_isub hx hb dX12_count_20 ?_
    obtain ⟨hi61, v21_60, e62, h63⟩ := rdI_s h8
    clear h8
    refine kiald X hV4 1 rfl hi61 e62 dX12_count_21 ?_
    clear hi61 e62
    have q64 := tup1_s h63
    clear h63
    exact hret _ () _ _ _ _ q64 rfl hV4 dX12_count_22
