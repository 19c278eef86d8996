abbrev r_X12_beats : Room := { frames := 3, cells := 0, slots := 0, locals := 68 }
set_option maxHeartbeats 4000000 in
set_option maxRecDepth 100000 in
theorem c_X12_beats (l : Launch) (E : kE) (sz : Nat) (a0 a1 : Nat) (w0_0 w0_1 w0_2 w0_3 w0_4 w0_6 w0_7 w0_8 w0_9 w0_10 w0_11 w0_12 w0_13 w0_14 w0_15 w0_16 w0_17 w0_18 w0_19 w0_20 w0_21 w0_22 w0_23 w0_24 w0_25 w0_26 w0_27 w0_28 w0_29 w0_30 w0_31 w0_32 w0_33 w0_34 w0_35 w0_36 w0_37 w0_38 w0_39 w0_40 w0_41 w0_42 w0_43 w0_44 w0_45 w0_46 w0_47 w0_48 w0_49 w0_50 w0_51 w0_52 w0_53 w0_54 w0_55 w0_56 w0_57 w0_58 w0_63 w0_64 w0_65 w0_66 : Value) (s_blips : Int32) (s_fitMany : Int32) (s_fitLeast : Int32) (s_fitMost : Int32) (s_time : Nat → Int32) (p1 : Int32) (p2 : Int32) (p3 : Int32) (p4 : Int32) (r : Int32) (o_fitMany : Int32) (o_fitLeast : Int32) (o_fitMost : Int32) (h : f_X12_beats s_blips s_fitMany s_fitLeast s_fitMost s_time p1 p2 p3 p4 = some (r, o_fitMany, o_fitLeast, o_fitMost)) : kMi l yX12_beats cX12_beats 5 (some .int) r_X12_beats [.ref a0, .int p1, .int p2, .int p3, .int p4] E [(a0, .inr (12, [w0_0, w0_1, w0_2, w0_3, w0_4, .int s_blips, w0_6, w0_7, w0_8, w0_9, w0_10, w0_11, w0_12, w0_13, w0_14, w0_15, w0_16, w0_17, w0_18, w0_19, w0_20, w0_21, w0_22, w0_23, w0_24, w0_25, w0_26, w0_27, w0_28, w0_29, w0_30, w0_31, w0_32, w0_33, w0_34, w0_35, w0_36, w0_37, w0_38, w0_39, w0_40, w0_41, w0_42, w0_43, w0_44, w0_45, w0_46, w0_47, w0_48, w0_49, w0_50, w0_51, w0_52, w0_53, w0_54, w0_55, w0_56, w0_57, w0_58, .ref a1, .int s_fitMany, .int s_fitLeast, .int s_fitMost, w0_63, w0_64, w0_65, w0_66])), (a1, .inl (E.2 0, 40, .inl s_time))] sz 0 0 (fun x (_ : Unit) => x = r) (fun _ => [(a0, .inr (12, [w0_0, w0_1, w0_2, w0_3, w0_4, .int s_blips, w0_6, w0_7, w0_8, w0_9, w0_10, w0_11, w0_12, w0_13, w0_14, w0_15, w0_16, w0_17, w0_18, w0_19, w0_20, w0_21, w0_22, w0_23, w0_24, w0_25, w0_26, w0_27, w0_28, w0_29, w0_30, w0_31, w0_32, w0_33, w0_34, w0_35, w0_36, w0_37, w0_38, w0_39, w0_40, w0_41, w0_42, w0_43, w0_44, w0_45, w0_46, w0_47, w0_48, w0_49, w0_50, w0_51, w0_52, w0_53, w0_54, w0_55, w0_56, w0_57, w0_58, .ref a1, .int o_fitMany, .int o_fitLeast, .int o_fitMost, w0_63, w0_64, w0_65, w0_66])), (a1, .inl (E.2 0, 40, .inl s_time))]) := by
  refine kmeti rfl (Nat.le_of_ble_eq_true rfl) ?_
  intro p e s m args below meth c ls A Q X hV hret hl
  have X : kC p s m c cX12_beats 5 RX12 args E A := X
  have hx := X.1
  have hb := X.2.1
  have hl : lv_has ls 5 [(0, .ref a0), (1, .int p1), (2, .int p2), (3, .int p3), (4, .int p4)] := hl
  rw [f_X12_beats] at h
  refine lv_aload_n hx hb dX12_beats_0 rfl (lv_at hl 0 rfl) ?_
  refine lv_iload_n hx hb dX12_beats_1 rfl (lv_at hl 1 rfl) ?_
  refine lv_iload_n hx hb dX12_beats_2 rfl (lv_at hl 2 rfl) ?_
  refine lv_iload_n hx hb dX12_beats_3 rfl (lv_at hl 3 rfl) ?_
  obtain ⟨r4_1, hc2, h3⟩ := cb1_s h
  clear h
  refine kgoiE (krunV (rest := []) X hV [0] (c_X12_canBeat l E _ a0 (w0_0) (w0_1) (w0_2) (w0_3) (w0_4) (w0_6) (w0_7) (w0_8) (w0_9) (w0_10) (w0_11) (w0_12) (w0_13) (w0_14) (w0_15) (w0_16) (w0_17) (w0_18) (w0_19) (w0_20) (w0_21) (w0_22) (w0_23) (w0_24) (w0_25) (w0_26) (w0_27) (w0_28) (w0_29) (w0_30) (w0_31) (w0_32) (w0_33) (w0_34) (w0_35) (w0_36) (w0_37) (w0_38) (w0_39) (w0_40) (w0_41) (w0_42) (w0_43) (w0_44) (w0_45) (w0_46) (w0_47) (w0_48) (w0_49) (w0_50) (w0_51) (w0_52) (w0_53) (w0_54) (w0_55) (w0_56) (w0_57) (w0_58) (.ref a1) (.int s_fitMany) (.int s_fitLeast) (.int s_fitMost) (w0_63) (w0_64) (w0_65) (w0_66) s_blips p1 p2 p3 r4_1 hc2) mw_1042 kb_X12_canBeat (ci := 12) rfl rfl (by decide) rfl rfl hl.1 rfl (Nat.le_of_ble_eq_true rfl) dX12_beats_4 (by decide)) X hV [0] [1] rfl rfl rfl (by decide) (fun u H locs hV4 => ?_)
  have hV4 : kV E A s.heap H locs [(a0, .inr (12, [w0_0, w0_1, w0_2, w0_3, w0_4, .int s_blips, w0_6, w0_7, w0_8, w0_9, w0_10, w0_11, w0_12, w0_13, w0_14, w0_15, w0_16, w0_17, w0_18, w0_19, w0_20, w0_21, w0_22, w0_23, w0_24, w0_25, w0_26, w0_27, w0_28, w0_29, w0_30, w0_31, w0_32, w0_33, w0_34, w0_35, w0_36, w0_37, w0_38, w0_39, w0_40, w0_41, w0_42, w0_43, w0_44, w0_45, w0_46, w0_47, w0_48, w0_49, w0_50, w0_51, w0_52, w0_53, w0_54, w0_55, w0_56, w0_57, w0_58, .ref a1, .int s_fitMany, .int s_fitLeast, .int s_fitMost, w0_63, w0_64, w0_65, w0_66])), (a1, .inl (E.2 0, 40, .inl s_time))] := hV4.sub [1, 0] rfl rfl
  clear hV
  refine lv_if_eq (tgt := 23) hx hb dX12_beats_7 (by decide) (fun c6 => ?_) (fun c6 => ?_)
  · have h7 := itS c6 h3
    clear h3 c6
    refine lv_iconst (v := (-1)) hx hb dX12_beats_23 (by decide) ?_
    obtain ⟨q9, q10, q11, q12⟩ := tup4_s h7
    clear h7
    exact hret _ () _ _ _ _ q9 rfl (by rw [← q10, ← q11, ← q12]; exact hV4) dX12_beats_24
  · have h8 := ieS c6 h3
    clear h3 c6
    refine lv_iload hx hb dX12_beats_10 (lv_at hl 4 rfl) ?_
    refine lv_i2l (v := Int32.toInt64 p4) hx hb dX12_beats_12 rfl ?_
    refine lv_lconst (v := 0) hx hb dX12_beats_13 (by decide) ?_
    refine lv_ldc2 (v := 2) hx hb X.2.2.2.1 (X.2.2.2.2.1 _ mw_882) dX12_beats_14 ?_
    obtain ⟨r17_13, hc14, h15⟩ := cb1_s h8
    clear h8
    refine kgoiE (krunS (rest := []) X hV4 [] (c_X12_lies l E _ (Int32.toInt64 p4) 0 2 r17_13 hc14) mw_224 kb_X12_lies (by decide) rfl rfl hl.1 rfl (Nat.le_of_ble_eq_true rfl) dX12_beats_17 (by decide)) X hV4 [] [0, 1] rfl rfl rfl (by decide) (fun u H locs hV16 => ?_)
    have hV16 : kV E A s.heap H locs [(a0, .inr (12, [w0_0, w0_1, w0_2, w0_3, w0_4, .int s_blips, w0_6, w0_7, w0_8, w0_9, w0_10, w0_11, w0_12, w0_13, w0_14, w0_15, w0_16, w0_17, w0_18, w0_19, w0_20, w0_21, w0_22, w0_23, w0_24, w0_25, w0_26, w0_27, w0_28, w0_29, w0_30, w0_31, w0_32, w0_33, w0_34, w0_35, w0_36, w0_37, w0_38, w0_39, w0_40, w0_41, w0_42, w0_43, w0_44, w0_45, w0_46, w0_47, w0_48, w0_49, w0_50, w0_51, w0_52, w0_53, w0_54, w0_55, w0_56, w0_57, w0_58, .ref a1, .int s_fitMany, .int s_fitLeast, .int s_fitMost, w0_63, w0_64, w0_65, w0_66])), (a1, .inl (E.2 0, 40, .inl s_time))] := hV16.sub [0, 1] rfl rfl
    clear hV4
    refine lv_if_ne (tgt := 25) hx hb dX12_beats_20 (by decide) (fun c18 => ?_) (fun c18 => ?_)
    · have h19 := ieS c18 h15
      clear h15 c18
      refine lv_aload_n hx hb dX12_beats_25 rfl (lv_at hl 0 rfl) ?_
      refine lv_iload_n hx hb dX12_beats_26 rfl (lv_at hl 1 rfl) ?_
      refine lv_iload_n hx hb dX12_beats_27 rfl (lv_at hl 2 rfl) ?_
      refine lv_iload_n hx hb dX12_beats_28 rfl (lv_at hl 3 rfl) ?_
      obtain ⟨o_fitMany29_21, o_fitLeast29_22, o_fitMost29_23, hc24, h25⟩ := cb3_s h19
      clear h19
      refine kgov (krunV (rest := []) X hV16 [0, 1] (c_X12_fitsAll l E _ a0 a1 (w0_0) (w0_1) (w0_2) (w0_3) (w0_4) (w0_6) (w0_7) (w0_8) (w0_9) (w0_10) (w0_11) (w0_12) (w0_13) (w0_14) (w0_15) (w0_16) (w0_17) (w0_18) (w0_19) (w0_20) (w0_21) (w0_22) (w0_23) (w0_24) (w0_25) (w0_26) (w0_27) (w0_28) (w0_29) (w0_30) (w0_31) (w0_32) (w0_33) (w0_34) (w0_35) (w0_36) (w0_37) (w0_38) (w0_39) (w0_40) (w0_41) (w0_42) (w0_43) (w0_44) (w0_45) (w0_46) (w0_47) (w0_48) (w0_49) (w0_50) (w0_51) (w0_52) (w0_53) (w0_54) (w0_55) (w0_56) (w0_57) (w0_58) (w0_63) (w0_64) (w0_65) (w0_66) s_blips s_fitMany s_fitLeast s_fitMost s_time p1 p2 p3 o_fitMany29_21 o_fitLeast29_22 o_fitMost29_23 hc24) mw_1046 kb_X12_fitsAll (ci := 12) rfl rfl (by decide) rfl rfl hl.1 rfl (Nat.le_of_ble_eq_true rfl) dX12_beats_29 (by decide)) X hV16 [0, 1] [] rfl rfl rfl (by decide) (fun u H locs hp27 hV26 => ?_)
      have hV26 : kV E A s.heap H locs [(a0, .inr (12, [w0_0, w0_1, w0_2, w0_3, w0_4, .int s_blips, w0_6, w0_7, w0_8, w0_9, w0_10, w0_11, w0_12, w0_13, w0_14, w0_15, w0_16, w0_17, w0_18, w0_19, w0_20, w0_21, w0_22, w0_23, w0_24, w0_25, w0_26, w0_27, w0_28, w0_29, w0_30, w0_31, w0_32, w0_33, w0_34, w0_35, w0_36, w0_37, w0_38, w0_39, w0_40, w0_41, w0_42, w0_43, w0_44, w0_45, w0_46, w0_47, w0_48, w0_49, w0_50, w0_51, w0_52, w0_53, w0_54, w0_55, w0_56, w0_57, w0_58, .ref a1, .int o_fitMany29_21, .int o_fitLeast29_22, .int o_fitMost29_23, w0_63, w0_64, w0_65, w0_66])), (a1, .inl (E.2 0, 40, .inl s_time))] := hV26.sub [0, 1] rfl rfl
      clear hV16
      refine lv_iload hx hb dX12_beats_32 (lv_at hl 4 rfl) ?_
      refine lv_if_ne (tgt := 44) hx hb dX12_beats_34 (by decide) (fun c28 => ?_) (fun c28 => ?_)
      · have h29 := ieS c28 h25
        clear h25 c28
        refine lv_iload hx hb dX12_beats_44 (lv_at hl 4 rfl) ?_
        refine lv_iconst (v := 1) hx hb dX12_beats_46 (by decide) ?_
        refine lv_icmp_ne (tgt := 57) hx hb dX12_beats_47 (by decide) (fun c31 => ?_) (fun c31 => ?_)
        · have h32 := ieS c31 h29
          clear h29 c31
          refine lv_aload_n hx hb dX12_beats_57 rfl (lv_at hl 0 rfl) ?_
          refine kget X hV26 (ci := 12) inlX12 rfl 0 rfl 62 (by decide) mw_1041 rfl dX12_beats_58 ?_
          obtain ⟨q34, q35, q36, q37⟩ := tup4_s h32
          clear h32
          exact hret _ () _ _ _ _ q34 rfl (by rw [← q35, ← q36, ← q37]; exact hV26) dX12_beats_61
        · have h33 := itS c31 h29
          clear h29 c31
          refine lv_aload_n hx hb dX12_beats_50 rfl (lv_at hl 0 rfl) ?_
          refine kget X hV26 (ci := 12) inlX12 rfl 0 rfl 61 (by decide) mw_1040 rfl dX12_beats_51 ?_
          refine lv_goto (tgt := 61) hx hb dX12_beats_54 (by decide) ?_
          obtain ⟨q38, q39, q40, q41⟩ := tup4_s h33
          clear h33
          exact hret _ () _ _ _ _ q38 rfl (by rw [← q39, ← q40, ← q41]; exact hV26) dX12_beats_61
      · have h30 := itS c28 h25
        clear h25 c28
        refine lv_aload_n hx hb dX12_beats_37 rfl (lv_at hl 0 rfl) ?_
        refine kget X hV26 (ci := 12) inlX12 rfl 0 rfl 60 (by decide) mw_1039 rfl dX12_beats_38 ?_
        refine lv_goto (tgt := 61) hx hb dX12_beats_41 (by decide) ?_
        obtain ⟨q42, q43, q44, q45⟩ := tup4_s h30
        clear h30
        exact hret _ () _ _ _ _ q42 rfl (by rw [← q43, ← q44, ← q45]; exact hV26) dX12_beats_61
    · have h20 := itS c18 h15
      clear h15 c18
      refine lv_iconst (v := (-1)) hx hb dX12_beats_23 (by decide) ?_
      obtain ⟨q46, q47, q48, q49⟩ := tup4_s h20
      clear h20
      exact hret _ () _ _ _ _ q46 rfl (by rw [← q47, ← q48, ← q49]; exact hV16) dX12_beats_24
abbrev r_X12_countOf : Room := { frames := 0, cells := 0, slots := 0, locals := 0 }
set_option maxHeartbeats 4000000 in
set_option maxRecDepth 100000 in
theorem c_X12_countOf (l : Launch) (E : kE) (sz : Nat) (a0 a1 : Nat) (w0_0 w0_1 w0_2 w0_3 w0_4 w0_5 w0_6 w0_7 w0_8 w0_9 w0_10 w0_11 w0_12 w0_13 w0_14 w0_15 w0_16 w0_17 w0_18 w0_19 w0_20 w0_21 w0_22 w0_23 w0_24 w0_25 w0_26 w0_27 w0_28 w0_29 w0_30 w0_31 w0_32 w0_33 w0_34 w0_35 w0_36 w0_37 w0_38 w0_39 w0_40 w0_41 w0_42 w0_43 w0_44 w0_45 w0_46 w0_47 w0_48 w0_49 w0_50 w0_51 w0_52 w0_53 w0_54 w0_55 w0_56 w0_57 w0_58 w0_60 w0_61 w0_62 w0_63 w0_64 w0_65 w0_66 : Value) (s_time : Nat → Int32) (p1 : Int32) (p2 : Int32) (r : Int32) (h : f_X12_countOf s_time p1 p2 = some (r)) : kMi l yX12_countOf cX12_countOf 3 (some .int) r_X12_countOf [.ref a0, .int p1, .int p2] E [(a0, .inr (12, [w0_0, w0_1, w0_2, w0_3, w0_4, w0_5, w0_6, w0_7, w0_8, w0_9, w0_10, w0_11, w0_12, w0_13, w0_14, w0_15, w0_16, w0_17, w0_18, w0_19, w0_20, w0_21, w0_22, w0_23, w0_24, w0_25, w0_26, w0_27, w0_28, w0_29, w0_30, w0_31, w0_32, w0_33, w0_34, w0_35, w0_36, w0_37, w0_38, w0_39, w0_40, w0_41, w0_42, w0_43, w0_44, w0_45, w0_46, w0_47, w0_48, w0_49, w0_50, w0_51, w0_52, w0_53, w0_54, w0_55, w0_56, w0_57, w0_58, .ref a1, w0_60, w0_61, w0_62, w0_63, w0_64, w0_65, w0_66])), (a1, .inl (E.2 0, 40, .inl s_time))] sz 0 0 (fun x (_ : Unit) => x = r) (fun _ => [(a0, .inr (12, [w0_0, w0_1, w0_2, w0_3, w0_4, w0_5, w0_6, w0_7, w0_8, w0_9, w0_10, w0_11, w0_12, w0_13, w0_14, w0_15, w0_16, w0_17, w0_18, w0_19, w0_20, w0_21, w0_22, w0_23, w0_24, w0_25, w0_26, w0_27, w0_28, w0_29, w0_30, w0_31, w0_32, w0_33, w0_34, w0_35, w0_36, w0_37, w0_38, w0_39, w0_40, w0_41, w0_42, w0_43, w0_44, w0_45, w0_46, w0_47, w0_48, w0_49, w0_50, w0_51, w0_52, w0_53, w0_54, w0_55, w0_56, w0_57, w0_58, .ref a1, w0_60, w0_61, w0_62, w0_63, w0_64, w0_65, w0_66])), (a1, .inl (E.2 0, 40, .inl s_time))]) := by
  refine kmeti rfl (Nat.le_of_ble_eq_true rfl) ?_
  intro p e s m args below meth c ls A Q X hV hret hl
  have X : kC p s m c cX12_countOf 3 RX12 args E A := X
  have hx := X.1
  have hb := X.2.1
  have hl : lv_has ls 3 [(0, .ref a0), (1, .int p1), (2, .int p2)] := hl
  rw [f_X12_countOf] at h
  refine lv_ldc2 (v := 2) hx hb X.2.2.2.1 (X.2.2.2.2.1 _ mw_882) dX12_countOf_0 ?_
  refine lv_aload_n hx hb dX12_countOf_3 rfl (lv_at hl 0 rfl) ?_
  refine kget X hV (ci := 12) inlX12 rfl 0 rfl 59 (by decide) mw_171 rfl dX12_countOf_4 ?_
  refine lv_iload_n hx hb dX12_countOf_7 rfl (lv_at hl 1 rfl) ?_
  obtain ⟨hi2, v8_1, e3, h4⟩ := rdI_s h
  clear h
  refine kiald X hV 1 rfl hi2 e3 dX12_countOf_8 ?_
  clear hi2 e3
  refine lv_aload_n hx hb dX12_countOf_9 rfl (lv_at hl 0 rfl) ?_
  refine kget X hV (ci := 12) inlX12 rfl 0 rfl 59 (by decide) mw_171 rfl dX12_countOf_10 ?_
  refine lv_iconst (v := 0) hx hb dX12_countOf_13 (by decide) ?_
  obtain ⟨hi6, v14_5, e7, h8⟩ := rdI_s h4
  clear h4
  refine kiald X hV 1 rfl hi6 e7 dX12_countOf_14 ?_
  clear hi6 e7
  refine lv_isub hx hb dX12_countOf_15 ?_
  refine lv_i2l (v := Int32.toInt64 (v8_1 - v14_5)) hx hb dX12_countOf_16 rfl ?_
  refine lv_lmul hx hb dX12_countOf_17 ?_
  refine lv_iload_n hx hb dX12_countOf_18 rfl (lv_at hl 2 rfl) ?_
  refine lv_i2l (v := Int32.toInt64 p2) hx hb dX12_countOf_19 rfl ?_
  refine lv_ladd hx hb dX12_countOf_20 ?_
  refine lv_ldc2 (v := 2) hx hb X.2.2.2.1 (X.2.2.2.2.1 _ mw_882) dX12_countOf_21 ?_
  refine lv_iload_n hx hb dX12_countOf_24 rfl (lv_at hl 2 rfl) ?_
  refine lv_i2l (v := Int32.toInt64 p2) hx hb dX12_countOf_25 rfl ?_
  refine lv_lmul hx hb dX12_countOf_26 ?_
  obtain ⟨hn9, h10⟩ := dvL_s h8
  clear h8
  refine lv_ldiv hx hb dX12_countOf_27 hn9 ?_
  refine lv_l2i (v := Int64.toInt32 (((2 * (Int32.toInt64 (v8_1 - v14_5))) + (Int32.toInt64 p2)) / (2 * (Int32.toInt64 p2)))) hx hb dX12_countOf_28 rfl ?_
  have q11 := tup1_s h10
  clear h10
  exact hret _ () _ _ _ _ q11 rfl hV dX12_countOf_29
abbrev r_X12_counted : Room := { frames := 2, cells := 0, slots := 0, locals := 45 }
set_option maxHeartbeats 4000000 in
set_option maxRecDepth 100000 in
theorem c_X12_counted (l : Launch) (E : kE) (sz : Nat) (a0 a1 : Nat) (w0_0 w0_1 w0_2 w0_3 w0_4 w0_6 w0_7 w0_8 w0_9 w0_10 w0_11 w0_12 w0_13 w0_14 w0_15 w0_16 w0_17 w0_18 w0_19 w0_20 w0_21 w0_22 w0_23 w0_24 w0_25 w0_26 w0_27 w0_28 w0_29 w0_30 w0_31 w0_32 w0_33 w0_34 w0_35 w0_36 w0_37 w0_38 w0_39 w0_40 w0_41 w0_42 w0_43 w0_44 w0_45 w0_46 w0_47 w0_48 w0_49 w0_50 w0_51 w0_52 w0_53 w0_54 w0_55 w0_56 w0_57 w0_58 w0_60 w0_61 w0_62 w0_63 w0_64 w0_65 w0_66 : Value) (s_blips : Int32) (s_time : Nat → Int32) (p1 : Int32) (p2 : Int32) (r : Int32) (h : f_X12_counted s_blips s_time p1 p2 = some (r)) : kMi l yX12_counted cX12_counted 3 (some .int) r_X12_counted [.ref a0, .int p1, .int p2] E [(a0, .inr (12, [w0_0, w0_1, w0_2, w0_3, w0_4, .int s_blips, w0_6, w0_7, w0_8, w0_9, w0_10, w0_11, w0_12, w0_13, w0_14, w0_15, w0_16, w0_17, w0_18, w0_19, w0_20, w0_21, w0_22, w0_23, w0_24, w0_25, w0_26, w0_27, w0_28, w0_29, w0_30, w0_31, w0_32, w0_33, w0_34, w0_35, w0_36, w0_37, w0_38, w0_39, w0_40, w0_41, w0_42, w0_43, w0_44, w0_45, w0_46, w0_47, w0_48, w0_49, w0_50, w0_51, w0_52, w0_53, w0_54, w0_55, w0_56, w0_57, w0_58, .ref a1, w0_60, w0_61, w0_62, w0_63, w0_64, w0_65, w0_66])), (a1, .inl (E.2 0, 40, .inl s_time))] sz 0 0 (fun x (_ : Unit) => x = r) (fun _ => [(a0, .inr (12, [w0_0, w0_1, w0_2, w0_3, w0_4, .int s_blips, w0_6, w0_7, w0_8, w0_9, w0_10, w0_11, w0_12, w0_13, w0_14, w0_15, w0_16, w0_17, w0_18, w0_19, w0_20, w0_21, w0_22, w0_23, w0_24, w0_25, w0_26, w0_27, w0_28, w0_29, w0_30, w0_31, w0_32, w0_33, w0_34, w0_35, w0_36, w0_37, w0_38, w0_39, w0_40, w0_41, w0_42, w0_43, w0_44, w0_45, w0_46, w0_47, w0_48, w0_49, w0_50, w0_51, w0_52, w0_53, w0_54, w0_55, w0_56, w0_57, w0_58, .ref a1, w0_60, w0_61, w0_62, w0_63, w0_64, w0_65, w0_66])), (a1, .inl (E.2 0, 40, .inl s_time))]) := by
  refine kmeti rfl (Nat.le_of_ble_eq_true rfl) ?_
  intro p e s m args below meth c ls A Q X hV hret hl
  have X : kC p s m c cX12_counted 3 RX12 args E A := X
  have hx := X.1
  have hb := X.2.1
  have hl : lv_has ls 3 [(0, .ref a0), (1, .int p1), (2, .int p2)] := hl
  rw [f_X12_counted] at h
  refine lv_iload_n hx hb dX12_counted_0 rfl (lv_at hl 1 rfl) ?_
  refine lv_i2l (v := Int32.toInt64 p1) hx hb dX12_counted_1 rfl ?_
  refine lv_lconst (v := 0) hx hb dX12_counted_2 (by decide) ?_
  refine lv_aload_n hx hb dX12_counted_3 rfl (lv_at hl 0 rfl) ?_
  refine kget X hV (ci := 12) inlX12 rfl 0 rfl 5 (by decide) mw_991 rfl dX12_counted_4 ?_
  refine lv_iconst (v := 1) hx hb dX12_counted_7 (by decide) ?_
  refine lv_isub hx hb dX12_counted_8 ?_
  refine lv_i2l (v := Int32.toInt64 (s_blips - 1)) hx hb dX12_counted_9 rfl ?_
  obtain ⟨r10_1, hc2, h3⟩ := cb1_s h
  clear h
  refine kgoiE (krunS (rest := []) X hV [] (c_X12_lies l E _ (Int32.toInt64 p1) 0 (Int32.toInt64 (s_blips - 1)) r10_1 hc2) mw_224 kb_X12_lies (by decide) rfl rfl hl.1 rfl (Nat.le_of_ble_eq_true rfl) dX12_counted_10 (by decide)) X hV [] [0, 1] rfl rfl rfl (by decide) (fun u H locs hV4 => ?_)
  have hV4 : kV E A s.heap H locs [(a0, .inr (12, [w0_0, w0_1, w0_2, w0_3, w0_4, .int s_blips, w0_6, w0_7, w0_8, w0_9, w0_10, w0_11, w0_12, w0_13, w0_14, w0_15, w0_16, w0_17, w0_18, w0_19, w0_20, w0_21, w0_22, w0_23, w0_24, w0_25, w0_26, w0_27, w0_28, w0_29, w0_30, w0_31, w0_32, w0_33, w0_34, w0_35, w0_36, w0_37, w0_38, w0_39, w0_40, w0_41, w0_42, w0_43, w0_44, w0_45, w0_46, w0_47, w0_48, w0_49, w0_50, w0_51, w0_52, w0_53, w0_54, w0_55, w0_56, w0_57, w0_58, .ref a1, w0_60, w0_61, w0_62, w0_63, w0_64, w0_65, w0_66])), (a1, .inl (E.2 0, 40, .inl s_time))] := hV4.sub [0, 1] rfl rfl
  clear hV
  refine lv_if_eq (tgt := 32) hx hb dX12_counted_13 (by decide) (fun c6 => ?_) (fun c6 => ?_)
  · have h7 := itS c6 h3
    clear h3 c6
    refine lv_iconst (v := (-1)) hx hb dX12_counted_32 (by decide) ?_
    have q9 := tup1_s h7
    clear h7
    exact hret _ () _ _ _ _ q9 rfl hV4 dX12_counted_33
  · have h8 := ieS c6 h3
    clear h3 c6
    refine lv_iload_n hx hb dX12_counted_16 rfl (lv_at hl 2 rfl) ?_
    obtain ⟨r17_10, hc11, h12⟩ := cb1_s h8
    clear h8
    refine kgoiE (krunS (rest := []) X hV4 [] (c_X12_isBeat l E _ p2 r17_10 hc11) mw_1011 kb_X12_isBeat (by decide) rfl rfl hl.1 rfl (Nat.le_of_ble_eq_true rfl) dX12_counted_17 (by decide)) X hV4 [] [0, 1] rfl rfl rfl (by decide) (fun u H locs hV13 => ?_)
    have hV13 : kV E A s.heap H locs [(a0, .inr (12, [w0_0, w0_1, w0_2, w0_3, w0_4, .int s_blips, w0_6, w0_7, w0_8, w0_9, w0_10, w0_11, w0_12, w0_13, w0_14, w0_15, w0_16, w0_17, w0_18, w0_19, w0_20, w0_21, w0_22, w0_23, w0_24, w0_25, w0_26, w0_27, w0_28, w0_29, w0_30, w0_31, w0_32, w0_33, w0_34, w0_35, w0_36, w0_37, w0_38, w0_39, w0_40, w0_41, w0_42, w0_43, w0_44, w0_45, w0_46, w0_47, w0_48, w0_49, w0_50, w0_51, w0_52, w0_53, w0_54, w0_55, w0_56, w0_57, w0_58, .ref a1, w0_60, w0_61, w0_62, w0_63, w0_64, w0_65, w0_66])), (a1, .inl (E.2 0, 40, .inl s_time))] := hV13.sub [0, 1] rfl rfl
    clear hV4
    refine lv_if_eq (tgt := 32) hx hb dX12_counted_20 (by decide) (fun c15 => ?_) (fun c15 => ?_)
    · have h16 := itS c15 h12
      clear h12 c15
      refine lv_iconst (v := (-1)) hx hb dX12_counted_32 (by decide) ?_
      have q18 := tup1_s h16
      clear h16
      exact hret _ () _ _ _ _ q18 rfl hV13 dX12_counted_33
    · have h17 := ieS c15 h12
      clear h12 c15
      refine lv_aload_n hx hb dX12_counted_23 rfl (lv_at hl 0 rfl) ?_
      refine lv_iload_n hx hb dX12_counted_24 rfl (lv_at hl 1 rfl) ?_
      refine lv_iload_n hx hb dX12_counted_25 rfl (lv_at hl 2 rfl) ?_
      obtain ⟨r26_19, hc20, h21⟩ := cb1_s h17
      clear h17
      refine kgoiE (krunV (rest := []) X hV13 [0, 1] (c_X12_countOf l E _ a0 a1 (w0_0) (w0_1) (w0_2) (w0_3) (w0_4) (.int s_blips) (w0_6) (w0_7) (w0_8) (w0_9) (w0_10) (w0_11) (w0_12) (w0_13) (w0_14) (w0_15) (w0_16) (w0_17) (w0_18) (w0_19) (w0_20) (w0_21) (w0_22) (w0_23) (w0_24) (w0_25) (w0_26) (w0_27) (w0_28) (w0_29) (w0_30) (w0_31) (w0_32) (w0_33) (w0_34) (w0_35) (w0_36) (w0_37) (w0_38) (w0_39) (w0_40) (w0_41) (w0_42) (w0_43) (w0_44) (w0_45) (w0_46) (w0_47) (w0_48) (w0_49) (w0_50) (w0_51) (w0_52) (w0_53) (w0_54) (w0_55) (w0_56) (w0_57) (w0_58) (w0_60) (w0_61) (w0_62) (w0_63) (w0_64) (w0_65) (w0_66) s_time p1 p2 r26_19 hc20) mw_1063 kb_X12_countOf (ci := 12) rfl rfl (by decide) rfl rfl hl.1 rfl (Nat.le_of_ble_eq_true rfl) dX12_counted_26 (by decide)) X hV13 [0, 1] [] rfl rfl rfl (by decide) (fun u H locs hV22 => ?_)
      have hV22 : kV E A s.heap H locs [(a0, .inr (12, [w0_0, w0_1, w0_2, w0_3, w0_4, .int s_blips, w0_6, w0_7, w0_8, w0_9, w0_10, w0_11, w0_12, w0_13, w0_14, w0_15, w0_16, w0_17, w0_18, w0_19, w0_20, w0_21, w0_22, w0_23, w0_24, w0_25, w0_26, w0_27, w0_28, w0_29, w0_30, w0_31, w0_32, w0_33, w0_34, w0_35, w0_36, w0_37, w0_38, w0_39, w0_40, w0_41, w0_42, w0_43, w0_44, w0_45, w0_46, w0_47, w0_48, w0_49, w0_50, w0_51, w0_52, w0_53, w0_54, w0_55, w0_56, w0_57, w0_58, .ref a1, w0_60, w0_61, w0_62, w0_63, w0_64, w0_65, w0_66])), (a1, .inl (E.2 0, 40, .inl s_time))] := hV22.sub [0, 1] rfl rfl
      clear hV13
      refine lv_goto (tgt := 33) hx hb dX12_counted_29 (by decide) ?_
      have q24 := tup1_s h21
      clear h21
      exact hret _ () _ _ _ _ q24 rfl hV22 dX12_counted_33
abbrev r_X12_sure : Room := { frames := 3, cells := 0, slots := 0, locals := 68 }
set_option maxHeartbeats 4000000 in
set_option maxRecDepth 100000 in
theorem c_X12_sure (l : Launch) (E : kE) (sz : Nat) (a0 a1 : Nat) (w0_0 w0_1 w0_2 w0_3 w0_4 w0_6 w0_7 w0_8 w0_9 w0_10 w0_11 w0_12 w0_13 w0_14 w0_15 w0_16 w0_17 w0_18 w0_19 w0_20 w0_21 w0_22 w0_23 w0_24 w0_25 w0_26 w0_27 w0_28 w0_29 w0_30 w0_31 w0_32 w0_33 w0_34 w0_35 w0_36 w0_37 w0_38 w0_39 w0_40 w0_41 w0_42 w0_43 w0_44 w0_45 w0_46 w0_47 w0_48 w0_49 w0_50 w0_51 w0_52 w0_53 w0_54 w0_55 w0_56 w0_57 w0_58 w0_63 w0_64 w0_65 w0_66 : Value) (s_blips : Int32) (s_fitMany : Int32) (s_fitLeast : Int32) (s_fitMost : Int32) (s_time : Nat → Int32) (p1 : Int32) (p2 : Int32) (p3 : Int32) (r : Int32) (o_fitMany : Int32) (o_fitLeast : Int32) (o_fitMost : Int32) (h : f_X12_sure s_blips s_fitMany s_fitLeast s_fitMost s_time p1 p2 p3 = some (r, o_fitMany, o_fitLeast, o_fitMost)) : kMi l yX12_sure cX12_sure 5 (some .int) r_X12_sure [.ref a0, .int p1, .int p2, .int p3] E [(a0, .inr (12, [w0_0, w0_1, w0_2, w0_3, w0_4, .int s_blips, w0_6, w0_7, w0_8, w0_9, w0_10, w0_11, w0_12, w0_13, w0_14, w0_15, w0_16, w0_17, w0_18, w0_19, w0_20, w0_21, w0_22, w0_23, w0_24, w0_25, w0_26, w0_27, w0_28, w0_29, w0_30, w0_31, w0_32, w0_33, w0_34, w0_35, w0_36, w0_37, w0_38, w0_39, w0_40, w0_41, w0_42, w0_43, w0_44, w0_45, w0_46, w0_47, w0_48, w0_49, w0_50, w0_51, w0_52, w0_53, w0_54, w0_55, w0_56, w0_57, w0_58, .ref a1, .int s_fitMany, .int s_fitLeast, .int s_fitMost, w0_63, w0_64, w0_65, w0_66])), (a1, .inl (E.2 0, 40, .inl s_time))] sz 0 0 (fun x (_ : Unit) => x = r) (fun _ => [(a0, .inr (12, [w0_0, w0_1, w0_2, w0_3, w0_4, .int s_blips, w0_6, w0_7, w0_8, w0_9, w0_10, w0_11, w0_12, w0_13, w0_14, w0_15, w0_16, w0_17, w0_18, w0_19, w0_20, w0_21, w0_22, w0_23, w0_24, w0_25, w0_26, w0_27, w0_28, w0_29, w0_30, w0_31, w0_32, w0_33, w0_34, w0_35, w0_36, w0_37, w0_38, w0_39, w0_40, w0_41, w0_42, w0_43, w0_44, w0_45, w0_46, w0_47, w0_48, w0_49, w0_50, w0_51, w0_52, w0_53, w0_54, w0_55, w0_56, w0_57, w0_58, .ref a1, .int o_fitMany, .int o_fitLeast, .int o_fitMost, w0_63, w0_64, w0_65, w0_66])), (a1, .inl (E.2 0, 40, .inl s_time))]) := by
  refine kmeti rfl (Nat.le_of_ble_eq_true rfl) ?_
  intro p e s m args below meth c ls A Q X hV hret hl
  have X : kC p s m c cX12_sure 5 RX12 args E A := X
  have hx := X.1
  have hb := X.2.1
  have hl : lv_has ls 5 [(0, .ref a0), (1, .int p1), (2, .int p2), (3, .int p3)] := hl
  rw [f_X12_sure] at h
  refine lv_aload_n hx hb dX12_sure_0 rfl (lv_at hl 0 rfl) ?_
  refine lv_iload_n hx hb dX12_sure_1 rfl (lv_at hl 1 rfl) ?_
  refine lv_iload_n hx hb dX12_sure_2 rfl (lv_at hl 2 rfl) ?_
  refine lv_iload_n hx hb dX12_sure_3 rfl (lv_at hl 3 rfl) ?_
  obtain ⟨r4_1, hc2, h3⟩ := cb1_s h
  clear h
  refine kgoiE (krunV (rest := []) X hV [0] (c_X12_canBeat l E _ a0 (w0_0) (w0_1) (w0_2) (w0_3) (w0_4) (w0_6) (w0_7) (w0_8) (w0_9) (w0_10) (w0_11) (w0_12) (w0_13) (w0_14) (w0_15) (w0_16) (w0_17) (w0_18) (w0_19) (w0_20) (w0_21) (w0_22) (w0_23) (w0_24) (w0_25) (w0_26) (w0_27) (w0_28) (w0_29) (w0_30) (w0_31) (w0_32) (w0_33) (w0_34) (w0_35) (w0_36) (w0_37) (w0_38) (w0_39) (w0_40) (w0_41) (w0_42) (w0_43) (w0_44) (w0_45) (w0_46) (w0_47) (w0_48) (w0_49) (w0_50) (w0_51) (w0_52) (w0_53) (w0_54) (w0_55) (w0_56) (w0_57) (w0_58) (.ref a1) (.int s_fitMany) (.int s_fitLeast) (.int s_fitMost) (w0_63) (w0_64) (w0_65) (w0_66) s_blips p1 p2 p3 r4_1 hc2) mw_1042 kb_X12_canBeat (ci := 12) rfl rfl (by decide) rfl rfl hl.1 rfl (Nat.le_of_ble_eq_true rfl) dX12_sure_4 (by decide)) X hV [0] [1] rfl rfl rfl (by decide) (fun u H locs hV4 => ?_)
  have hV4 : kV E A s.heap H locs [(a0, .inr (12, [w0_0, w0_1, w0_2, w0_3, w0_4, .int s_blips, w0_6, w0_7, w0_8, w0_9, w0_10, w0_11, w0_12, w0_13, w0_14, w0_15, w0_16, w0_17, w0_18, w0_19, w0_20, w0_21, w0_22, w0_23, w0_24, w0_25, w0_26, w0_27, w0_28, w0_29, w0_30, w0_31, w0_32, w0_33, w0_34, w0_35, w0_36, w0_37, w0_38, w0_39, w0_40, w0_41, w0_42, w0_43, w0_44, w0_45, w0_46, w0_47, w0_48, w0_49, w0_50, w0_51, w0_52, w0_53, w0_54, w0_55, w0_56, w0_57, w0_58, .ref a1, .int s_fitMany, .int s_fitLeast, .int s_fitMost, w0_63, w0_64, w0_65, w0_66])), (a1, .inl (E.2 0, 40, .inl s_time))] := hV4.sub [1, 0] rfl rfl
  clear hV
  refine lv_if_ne (tgt := 12) hx hb dX12_sure_7 (by decide) (fun c6 => ?_) (fun c6 => ?_)
  · have h7 := ieS c6 h3
    clear h3 c6
    refine lv_aload_n hx hb dX12_sure_12 rfl (lv_at hl 0 rfl) ?_
    refine lv_iload_n hx hb dX12_sure_13 rfl (lv_at hl 1 rfl) ?_
    refine lv_iload_n hx hb dX12_sure_14 rfl (lv_at hl 2 rfl) ?_
    refine lv_iload_n hx hb dX12_sure_15 rfl (lv_at hl 3 rfl) ?_
    obtain ⟨o_fitMany16_9, o_fitLeast16_10, o_fitMost16_11, hc12, h13⟩ := cb3_s h7
    clear h7
    refine kgov (krunV (rest := []) X hV4 [0, 1] (c_X12_fitsAll l E _ a0 a1 (w0_0) (w0_1) (w0_2) (w0_3) (w0_4) (w0_6) (w0_7) (w0_8) (w0_9) (w0_10) (w0_11) (w0_12) (w0_13) (w0_14) (w0_15) (w0_16) (w0_17) (w0_18) (w0_19) (w0_20) (w0_21) (w0_22) (w0_23) (w0_24) (w0_25) (w0_26) (w0_27) (w0_28) (w0_29) (w0_30) (w0_31) (w0_32) (w0_33) (w0_34) (w0_35) (w0_36) (w0_37) (w0_38) (w0_39) (w0_40) (w0_41) (w0_42) (w0_43) (w0_44) (w0_45) (w0_46) (w0_47) (w0_48) (w0_49) (w0_50) (w0_51) (w0_52) (w0_53) (w0_54) (w0_55) (w0_56) (w0_57) (w0_58) (w0_63) (w0_64) (w0_65) (w0_66) s_blips s_fitMany s_fitLeast s_fitMost s_time p1 p2 p3 o_fitMany16_9 o_fitLeast16_10 o_fitMost16_11 hc12) mw_1046 kb_X12_fitsAll (ci := 12) rfl rfl (by decide) rfl rfl hl.1 rfl (Nat.le_of_ble_eq_true rfl) dX12_sure_16 (by decide)) X hV4 [0, 1] [] rfl rfl rfl (by decide) (fun u H locs hp15 hV14 => ?_)
    have hV14 : kV E A s.heap H locs [(a0, .inr (12, [w0_0, w0_1, w0_2, w0_3, w0_4, .int s_blips, w0_6, w0_7, w0_8, w0_9, w0_10, w0_11, w0_12, w0_13, w0_14, w0_15, w0_16, w0_17, w0_18, w0_19, w0_20, w0_21, w0_22, w0_23, w0_24, w0_25, w0_26, w0_27, w0_28, w0_29, w0_30, w0_31, w0_32, w0_33, w0_34, w0_35, w0_36, w0_37, w0_38, w0_39, w0_40, w0_41, w0_42, w0_43, w0_44, w0_45, w0_46, w0_47, w0_48, w0_49, w0_50, w0_51, w0_52, w0_53, w0_54, w0_55, w0_56, w0_57, w0_58, .ref a1, .int o_fitMany16_9, .int o_fitLeast16_10, .int o_fitMost16_11, w0_63, w0_64, w0_65, w0_66])), (a1, .inl (E.2 0, 40, .inl s_time))] := hV14.sub [0, 1] rfl rfl
    clear hV4
    refine lv_aload_n hx hb dX12_sure_19 rfl (lv_at hl 0 rfl) ?_
    refine kget X hV14 (ci := 12) inlX12 rfl 0 rfl 60 (by decide) mw_1039 rfl dX12_sure_20 ?_
    refine lv_if_ne (tgt := 29) hx hb dX12_sure_23 (by decide) (fun c16 => ?_) (fun c16 => ?_)
    · have h17 := ieS c16 h13
      clear h13 c16
      refine lv_iconst (v := 0) hx hb dX12_sure_29 (by decide) ?_
      refine lv_istore (lv' := [(4, .int 0), (0, .ref a0), (1, .int p1), (2, .int p2), (3, .int p3)]) hx hb dX12_sure_30 hl (by decide) rfl (fun ls hl19 => ?_)
      clear hl
      have L32 : ∀ (n32 : Nat) (x4_20 : Int32) (H : Heap) (locs : List Loc) (ls : Array Slot), (f_X12_sure_L32 s_blips s_time o_fitMany16_9 o_fitLeast16_10 o_fitMost16_11  n32) x4_20 = some (r, o_fitMany, o_fitLeast, o_fitMost) → kV E A s.heap H locs [(a0, .inr (12, [w0_0, w0_1, w0_2, w0_3, w0_4, .int s_blips, w0_6, w0_7, w0_8, w0_9, w0_10, w0_11, w0_12, w0_13, w0_14, w0_15, w0_16, w0_17, w0_18, w0_19, w0_20, w0_21, w0_22, w0_23, w0_24, w0_25, w0_26, w0_27, w0_28, w0_29, w0_30, w0_31, w0_32, w0_33, w0_34, w0_35, w0_36, w0_37, w0_38, w0_39, w0_40, w0_41, w0_42, w0_43, w0_44, w0_45, w0_46, w0_47, w0_48, w0_49, w0_50, w0_51, w0_52, w0_53, w0_54, w0_55, w0_56, w0_57, w0_58, .ref a1, .int o_fitMany16_9, .int o_fitLeast16_10, .int o_fitMost16_11, w0_63, w0_64, w0_65, w0_66])), (a1, .inl (E.2 0, 40, .inl s_time))] → lv_has ls 5 [(0, .ref a0), (4, .int x4_20)] → W p l e r_X12_sure s m args below meth c H locs 0 0 Q (F0 m 32 ls []) := by
        intro n32
        induction n32 with
        | zero =>
          intro x4_20 H locs ls hB32 hVB32 hlB32
          rw [f_X12_sure_L32] at hB32
          exact nomatch hB32
        | succ n32 ih32 =>
          intro x4_20 H locs ls hB32 hVB32 hlB32
          rw [f_X12_sure_L32] at hB32
          refine lv_iload hx hb dX12_sure_32 (lv_at hlB32 1 rfl) ?_
          refine lv_aload_n hx hb dX12_sure_34 rfl (lv_at hlB32 0 rfl) ?_
          refine kget X hVB32 (ci := 12) inlX12 rfl 0 rfl 5 (by decide) mw_991 rfl dX12_sure_35 ?_
          refine lv_icmp_ge (tgt := 72) hx hb dX12_sure_38 (by decide) (fun c21 => ?_) (fun c21 => ?_)
          · have h22 := itS c21 hB32
            clear hB32 c21
            refine lv_iconst (v := 1) hx hb dX12_sure_72 (by decide) ?_
            obtain ⟨q24, q25, q26, q27⟩ := tup4_s h22
            clear h22
            exact hret _ () _ _ _ _ q24 rfl (by rw [← q25, ← q26, ← q27]; exact hVB32) dX12_sure_73
          · have h23 := ieS c21 hB32
            clear hB32 c21
            refine lv_aload_n hx hb dX12_sure_41 rfl (lv_at hlB32 0 rfl) ?_
            refine lv_iload hx hb dX12_sure_42 (lv_at hlB32 1 rfl) ?_
            refine lv_aload_n hx hb dX12_sure_44 rfl (lv_at hlB32 0 rfl) ?_
            refine kget X hVB32 (ci := 12) inlX12 rfl 0 rfl 61 (by decide) mw_1040 rfl dX12_sure_45 ?_
            obtain ⟨r48_28, hc29, h30⟩ := cb1_s h23
            clear h23
            refine kgoiE (krunV (rest := []) X hVB32 [0, 1] (c_X12_countOf l E _ a0 a1 (w0_0) (w0_1) (w0_2) (w0_3) (w0_4) (.int s_blips) (w0_6) (w0_7) (w0_8) (w0_9) (w0_10) (w0_11) (w0_12) (w0_13) (w0_14) (w0_15) (w0_16) (w0_17) (w0_18) (w0_19) (w0_20) (w0_21) (w0_22) (w0_23) (w0_24) (w0_25) (w0_26) (w0_27) (w0_28) (w0_29) (w0_30) (w0_31) (w0_32) (w0_33) (w0_34) (w0_35) (w0_36) (w0_37) (w0_38) (w0_39) (w0_40) (w0_41) (w0_42) (w0_43) (w0_44) (w0_45) (w0_46) (w0_47) (w0_48) (w0_49) (w0_50) (w0_51) (w0_52) (w0_53) (w0_54) (w0_55) (w0_56) (w0_57) (w0_58) (.int o_fitMany16_9) (.int o_fitLeast16_10) (.int o_fitMost16_11) (w0_63) (w0_64) (w0_65) (w0_66) s_time x4_20 o_fitLeast16_10 r48_28 hc29) mw_1063 kb_X12_countOf (ci := 12) rfl rfl (by decide) rfl rfl hlB32.1 rfl (Nat.le_of_ble_eq_true rfl) dX12_sure_48 (by decide)) X hVB32 [0, 1] [] rfl rfl rfl (by decide) (fun u H locs hV31 => ?_)
            have hV31 : kV E A s.heap H locs [(a0, .inr (12, [w0_0, w0_1, w0_2, w0_3, w0_4, .int s_blips, w0_6, w0_7, w0_8, w0_9, w0_10, w0_11, w0_12, w0_13, w0_14, w0_15, w0_16, w0_17, w0_18, w0_19, w0_20, w0_21, w0_22, w0_23, w0_24, w0_25, w0_26, w0_27, w0_28, w0_29, w0_30, w0_31, w0_32, w0_33, w0_34, w0_35, w0_36, w0_37, w0_38, w0_39, w0_40, w0_41, w0_42, w0_43, w0_44, w0_45, w0_46, w0_47, w0_48, w0_49, w0_50, w0_51, w0_52, w0_53, w0_54, w0_55, w0_56, w0_57, w0_58, .ref a1, .int o_fitMany16_9, .int o_fitLeast16_10, .int o_fitMost16_11, w0_63, w0_64, w0_65, w0_66])), (a1, .inl (E.2 0, 40, .inl s_time))] := hV31.sub [0, 1] rfl rfl
            clear hVB32
            refine lv_aload_n hx hb dX12_sure_51 rfl (lv_at hlB32 0 rfl) ?_
            refine lv_iload hx hb dX12_sure_52 (lv_at hlB32 1 rfl) ?_
            refine lv_aload_n hx hb dX12_sure_54 rfl (lv_at hlB32 0 rfl) ?_
            refine kget X hV31 (ci := 12) inlX12 rfl 0 rfl 62 (by decide) mw_1041 rfl dX12_sure_55 ?_
            obtain ⟨r58_33, hc34, h35⟩ := cb1_s h30
            clear h30
            refine kgoiE (krunV (rest := [.int r48_28]) X hV31 [0, 1] (c_X12_countOf l E _ a0 a1 (w0_0) (w0_1) (w0_2) (w0_3) (w0_4) (.int s_blips) (w0_6) (w0_7) (w0_8) (w0_9) (w0_10) (w0_11) (w0_12) (w0_13) (w0_14) (w0_15) (w0_16) (w0_17) (w0_18) (w0_19) (w0_20) (w0_21) (w0_22) (w0_23) (w0_24) (w0_25) (w0_26) (w0_27) (w0_28) (w0_29) (w0_30) (w0_31) (w0_32) (w0_33) (w0_34) (w0_35) (w0_36) (w0_37) (w0_38) (w0_39) (w0_40) (w0_41) (w0_42) (w0_43) (w0_44) (w0_45) (w0_46) (w0_47) (w0_48) (w0_49) (w0_50) (w0_51) (w0_52) (w0_53) (w0_54) (w0_55) (w0_56) (w0_57) (w0_58) (.int o_fitMany16_9) (.int o_fitLeast16_10) (.int o_fitMost16_11) (w0_63) (w0_64) (w0_65) (w0_66) s_time x4_20 o_fitMost16_11 r58_33 hc34) mw_1063 kb_X12_countOf (ci := 12) rfl rfl (by decide) rfl rfl hlB32.1 rfl (Nat.le_of_ble_eq_true rfl) dX12_sure_58 (by decide)) X hV31 [0, 1] [] rfl rfl rfl (by decide) (fun u H locs hV36 => ?_)
            have hV36 : kV E A s.heap H locs [(a0, .inr (12, [w0_0, w0_1, w0_2, w0_3, w0_4, .int s_blips, w0_6, w0_7, w0_8, w0_9, w0_10, w0_11, w0_12, w0_13, w0_14, w0_15, w0_16, w0_17, w0_18, w0_19, w0_20, w0_21, w0_22, w0_23, w0_24, w0_25, w0_26, w0_27, w0_28, w0_29, w0_30, w0_31, w0_32, w0_33, w0_34, w0_35, w0_36, w0_37, w0_38, w0_39, w0_40, w0_41, w0_42, w0_43, w0_44, w0_45, w0_46, w0_47, w0_48, w0_49, w0_50, w0_51, w0_52, w0_53, w0_54, w0_55, w0_56, w0_57, w0_58, .ref a1, .int o_fitMany16_9, .int o_fitLeast16_10, .int o_fitMost16_11, w0_63, w0_64, w0_65, w0_66])), (a1, .inl (E.2 0, 40, .inl s_time))] := hV36.sub [0, 1] rfl rfl
            clear hV31
            refine lv_icmp_eq (tgt := 66) hx hb dX12_sure_61 (by decide) (fun c38 => ?_) (fun c38 => ?_)
            · have h39 := itS c38 h35
              clear h35 c38
              obtain ⟨v66_41, e42, h43⟩ := nmI_s h39
              clear h39
              refine lv_iinc (v := v66_41) (lv' := [(4, .int v66_41), (0, .ref a0)]) hx hb dX12_sure_66 hlB32 (k := 1) rfl (by rw [e42]; rfl) (by decide) rfl (fun ls hl44 => ?_)
              clear hlB32 e42
              refine lv_goto (tgt := 32) hx hb dX12_sure_69 (by decide) ?_
              exact ih32 v66_41 _ _ _ h43 hV36 (lv_sub hl44 [1, 0] rfl)
            · have h40 := ieS c38 h35
              clear h35 c38
              refine lv_iconst (v := 0) hx hb dX12_sure_64 (by decide) ?_
              obtain ⟨q45, q46, q47, q48⟩ := tup4_s h40
              clear h40
              exact hret _ () _ _ _ _ q45 rfl (by rw [← q46, ← q47, ← q48]; exact hV36) dX12_sure_65
      exact L32 FU 0 _ _ _ h17 hV14 (lv_sub hl19 [1, 0] rfl)
    · have h18 := itS c16 h13
      clear h13 c16
      refine lv_bipush (v := (-2)) hx hb dX12_sure_26 (by decide) ?_
      obtain ⟨q49, q50, q51, q52⟩ := tup4_s h18
      clear h18
      exact hret _ () _ _ _ _ q49 rfl (by rw [← q50, ← q51, ← q52]; exact hV14) dX12_sure_28
  · have h8 := itS c6 h3
    clear h3 c6
    refine lv_iconst (v := (-1)) hx hb dX12_sure_10 (by decide) ?_
    obtain ⟨q53, q54, q55, q56⟩ := tup4_s h8
    clear h8
    exact hret _ () _ _ _ _ q53 rfl (by rw [← q54, ← q55, ← q56]; exact hV4) dX12_sure_11
abbrev r_X12_lost : Room := { frames := 3, cells := 0, slots := 0, locals := 68 }
set_option maxHeartbeats 4000000 in
set_option maxRecDepth 100000 in
theorem c_X12_lost (l : Launch) (E : kE) (sz : Nat) (a0 a1 : Nat) (w0_0 w0_1 w0_2 w0_3 w0_4 w0_6 w0_7 w0_8 w0_9 w0_10 w0_11 w0_12 w0_13 w0_14 w0_15 w0_16 w0_17 w0_18 w0_19 w0_20 w0_21 w0_22 w0_23 w0_24 w0_25 w0_26 w0_27 w0_28 w0_29 w0_30 w0_31 w0_32 w0_33 w0_34 w0_35 w0_36 w0_37 w0_38 w0_39 w0_40 w0_41 w0_42 w0_43 w0_44 w0_45 w0_46 w0_47 w0_48 w0_49 w0_50 w0_51 w0_52 w0_53 w0_54 w0_55 w0_56 w0_57 w0_58 w0_63 w0_64 w0_65 w0_66 : Value) (s_blips : Int32) (s_fitMany : Int32) (s_fitLeast : Int32) (s_fitMost : Int32) (s_time : Nat → Int32) (p1 : Int32) (p2 : Int32) (p3 : Int32) (r : Int32) (o_fitMany : Int32) (o_fitLeast : Int32) (o_fitMost : Int32) (h : f_X12_lost s_blips s_fitMany s_fitLeast s_fitMost s_time p1 p2 p3 = some (r, o_fitMany, o_fitLeast, o_fitMost)) : kMi l yX12_lost cX12_lost 5 (some .int) r_X12_lost [.ref a0, .int p1, .int p2, .int p3] E [(a0, .inr (12, [w0_0, w0_1, w0_2, w0_3, w0_4, .int s_blips, w0_6, w0_7, w0_8, w0_9, w0_10, w0_11, w0_12, w0_13, w0_14, w0_15, w0_16, w0_17, w0_18, w0_19, w0_20, w0_21, w0_22, w0_23, w0_24, w0_25, w0_26, w0_27, w0_28, w0_29, w0_30, w0_31, w0_32, w0_33, w0_34, w0_35, w0_36, w0_37, w0_38, w0_39, w0_40, w0_41, w0_42, w0_43, w0_44, w0_45, w0_46, w0_47, w0_48, w0_49, w0_50, w0_51, w0_52, w0_53, w0_54, w0_55, w0_56, w0_57, w0_58, .ref a1, .int s_fitMany, .int s_fitLeast, .int s_fitMost, w0_63, w0_64, w0_65, w0_66])), (a1, .inl (E.2 0, 40, .inl s_time))] sz 0 0 (fun x (_ : Unit) => x = r) (fun _ => [(a0, .inr (12, [w0_0, w0_1, w0_2, w0_3, w0_4, .int s_blips, w0_6, w0_7, w0_8, w0_9, w0_10, w0_11, w0_12, w0_13, w0_14, w0_15, w0_16, w0_17, w0_18, w0_19, w0_20, w0_21, w0_22, w0_23, w0_24, w0_25, w0_26, w0_27, w0_28, w0_29, w0_30, w0_31, w0_32, w0_33, w0_34, w0_35, w0_36, w0_37, w0_38, w0_39, w0_40, w0_41, w0_42, w0_43, w0_44, w0_45, w0_46, w0_47, w0_48, w0_49, w0_50, w0_51, w0_52, w0_53, w0_54, w0_55, w0_56, w0_57, w0_58, .ref a1, .int o_fitMany, .int o_fitLeast, .int o_fitMost, w0_63, w0_64, w0_65, w0_66])), (a1, .inl (E.2 0, 40, .inl s_time))]) := by
  refine kmeti rfl (Nat.le_of_ble_eq_true rfl) ?_
  intro p e s m args below meth c ls A Q X hV hret hl
  have X : kC p s m c cX12_lost 5 RX12 args E A := X
  have hx := X.1
  have hb := X.2.1
  have hl : lv_has ls 5 [(0, .ref a0), (1, .int p1), (2, .int p2), (3, .int p3)] := hl
  rw [f_X12_lost] at h
  refine lv_aload_n hx hb dX12_lost_0 rfl (lv_at hl 0 rfl) ?_
  refine lv_iload_n hx hb dX12_lost_1 rfl (lv_at hl 1 rfl) ?_
  refine lv_iload_n hx hb dX12_lost_2 rfl (lv_at hl 2 rfl) ?_
  refine lv_iload_n hx hb dX12_lost_3 rfl (lv_at hl 3 rfl) ?_
  obtain ⟨r4_1, hc2, h3⟩ := cb1_s h
  clear h
  refine kgoiE (krunV (rest := []) X hV [0] (c_X12_canBeat l E _ a0 (w0_0) (w0_1) (w0_2) (w0_3) (w0_4) (w0_6) (w0_7) (w0_8) (w0_9) (w0_10) (w0_11) (w0_12) (w0_13) (w0_14) (w0_15) (w0_16) (w0_17) (w0_18) (w0_19) (w0_20) (w0_21) (w0_22) (w0_23) (w0_24) (w0_25) (w0_26) (w0_27) (w0_28) (w0_29) (w0_30) (w0_31) (w0_32) (w0_33) (w0_34) (w0_35) (w0_36) (w0_37) (w0_38) (w0_39) (w0_40) (w0_41) (w0_42) (w0_43) (w0_44) (w0_45) (w0_46) (w0_47) (w0_48) (w0_49) (w0_50) (w0_51) (w0_52) (w0_53) (w0_54) (w0_55) (w0_56) (w0_57) (w0_58) (.ref a1) (.int s_fitMany) (.int s_fitLeast) (.int s_fitMost) (w0_63) (w0_64) (w0_65) (w0_66) s_blips p1 p2 p3 r4_1 hc2) mw_1042 kb_X12_canBeat (ci := 12) rfl rfl (by decide) rfl rfl hl.1 rfl (Nat.le_of_ble_eq_true rfl) dX12_lost_4 (by decide)) X hV [0] [1] rfl rfl rfl (by decide) (fun u H locs hV4 => ?_)
  have hV4 : kV E A s.heap H locs [(a0, .inr (12, [w0_0, w0_1, w0_2, w0_3, w0_4, .int s_blips, w0_6, w0_7, w0_8, w0_9, w0_10, w0_11, w0_12, w0_13, w0_14, w0_15, w0_16, w0_17, w0_18, w0_19, w0_20, w0_21, w0_22, w0_23, w0_24, w0_25, w0_26, w0_27, w0_28, w0_29, w0_30, w0_31, w0_32, w0_33, w0_34, w0_35, w0_36, w0_37, w0_38, w0_39, w0_40, w0_41, w0_42, w0_43, w0_44, w0_45, w0_46, w0_47, w0_48, w0_49, w0_50, w0_51, w0_52, w0_53, w0_54, w0_55, w0_56, w0_57, w0_58, .ref a1, .int s_fitMany, .int s_fitLeast, .int s_fitMost, w0_63, w0_64, w0_65, w0_66])), (a1, .inl (E.2 0, 40, .inl s_time))] := hV4.sub [1, 0] rfl rfl
  clear hV
  refine lv_if_ne (tgt := 12) hx hb dX12_lost_7 (by decide) (fun c6 => ?_) (fun c6 => ?_)
  · have h7 := ieS c6 h3
    clear h3 c6
    refine lv_aload_n hx hb dX12_lost_12 rfl (lv_at hl 0 rfl) ?_
    refine lv_iload_n hx hb dX12_lost_13 rfl (lv_at hl 1 rfl) ?_
    refine lv_iload_n hx hb dX12_lost_14 rfl (lv_at hl 2 rfl) ?_
    refine lv_iload_n hx hb dX12_lost_15 rfl (lv_at hl 3 rfl) ?_
    obtain ⟨o_fitMany16_9, o_fitLeast16_10, o_fitMost16_11, hc12, h13⟩ := cb3_s h7
    clear h7
    refine kgov (krunV (rest := []) X hV4 [0, 1] (c_X12_fitsAll l E _ a0 a1 (w0_0) (w0_1) (w0_2) (w0_3) (w0_4) (w0_6) (w0_7) (w0_8) (w0_9) (w0_10) (w0_11) (w0_12) (w0_13) (w0_14) (w0_15) (w0_16) (w0_17) (w0_18) (w0_19) (w0_20) (w0_21) (w0_22) (w0_23) (w0_24) (w0_25) (w0_26) (w0_27) (w0_28) (w0_29) (w0_30) (w0_31) (w0_32) (w0_33) (w0_34) (w0_35) (w0_36) (w0_37) (w0_38) (w0_39) (w0_40) (w0_41) (w0_42) (w0_43) (w0_44) (w0_45) (w0_46) (w0_47) (w0_48) (w0_49) (w0_50) (w0_51) (w0_52) (w0_53) (w0_54) (w0_55) (w0_56) (w0_57) (w0_58) (w0_63) (w0_64) (w0_65) (w0_66) s_blips s_fitMany s_fitLeast s_fitMost s_time p1 p2 p3 o_fitMany16_9 o_fitLeast16_10 o_fitMost16_11 hc12) mw_1046 kb_X12_fitsAll (ci := 12) rfl rfl (by decide) rfl rfl hl.1 rfl (Nat.le_of_ble_eq_true rfl) dX12_lost_16 (by decide)) X hV4 [0, 1] [] rfl rfl rfl (by decide) (fun u H locs hp15 hV14 => ?_)
    have hV14 : kV E A s.heap H locs [(a0, .inr (12, [w0_0, w0_1, w0_2, w0_3, w0_4, .int s_blips, w0_6, w0_7, w0_8, w0_9, w0_10, w0_11, w0_12, w0_13, w0_14, w0_15, w0_16, w0_17, w0_18, w0_19, w0_20, w0_21, w0_22, w0_23, w0_24, w0_25, w0_26, w0_27, w0_28, w0_29, w0_30, w0_31, w0_32, w0_33, w0_34, w0_35, w0_36, w0_37, w0_38, w0_39, w0_40, w0_41, w0_42, w0_43, w0_44, w0_45, w0_46, w0_47, w0_48, w0_49, w0_50, w0_51, w0_52, w0_53, w0_54, w0_55, w0_56, w0_57, w0_58, .ref a1, .int o_fitMany16_9, .int o_fitLeast16_10, .int o_fitMost16_11, w0_63, w0_64, w0_65, w0_66])), (a1, .inl (E.2 0, 40, .inl s_time))] := hV14.sub [0, 1] rfl rfl
    clear hV4
    refine lv_aload_n hx hb dX12_lost_19 rfl (lv_at hl 0 rfl) ?_
    refine kget X hV14 (ci := 12) inlX12 rfl 0 rfl 60 (by decide) mw_1039 rfl dX12_lost_20 ?_
    refine lv_iconst (v := 2) hx hb dX12_lost_23 (by decide) ?_
    refine lv_icmp_ge (tgt := 30) hx hb dX12_lost_24 (by decide) (fun c16 => ?_) (fun c16 => ?_)
    · have h17 := itS c16 h13
      clear h13 c16
      refine lv_iconst (v := 2) hx hb dX12_lost_30 (by decide) ?_
      refine lv_aload_n hx hb dX12_lost_31 rfl (lv_at hl 0 rfl) ?_
      refine kget X hV14 (ci := 12) inlX12 rfl 0 rfl 62 (by decide) mw_1041 rfl dX12_lost_32 ?_
      refine lv_aload_n hx hb dX12_lost_35 rfl (lv_at hl 0 rfl) ?_
      refine kget X hV14 (ci := 12) inlX12 rfl 0 rfl 61 (by decide) mw_1040 rfl dX12_lost_36 ?_
      refine lv_isub hx hb dX12_lost_39 ?_
      refine lv_imul hx hb dX12_lost_40 ?_
      obtain ⟨v41_19, e20, h21⟩ := nmI_s h17
      clear h17
      refine ktopi e20 ?_
      clear e20
      refine lv_istore (lv' := [(4, .int v41_19), (0, .ref a0), (1, .int p1), (2, .int p2), (3, .int p3)]) hx hb dX12_lost_41 hl (by decide) rfl (fun ls hl22 => ?_)
      clear hl
      refine lv_aload_n hx hb dX12_lost_43 rfl (lv_at hl22 1 rfl) ?_
      refine kget X hV14 (ci := 12) inlX12 rfl 0 rfl 61 (by decide) mw_1040 rfl dX12_lost_44 ?_
      refine lv_iload hx hb dX12_lost_47 (lv_at hl22 0 rfl) ?_
      refine lv_iadd hx hb dX12_lost_49 ?_
      refine lv_iconst (v := 1) hx hb dX12_lost_50 (by decide) ?_
      refine lv_isub hx hb dX12_lost_51 ?_
      refine lv_iload hx hb dX12_lost_52 (lv_at hl22 0 rfl) ?_
      obtain ⟨hn23, h24⟩ := dvI_s h21
      clear h21
      refine lv_idiv hx hb dX12_lost_54 hn23 ?_
      obtain ⟨q25, q26, q27, q28⟩ := tup4_s h24
      clear h24
      exact hret _ () _ _ _ _ q25 rfl (by rw [← q26, ← q27, ← q28]; exact hV14) dX12_lost_55
    · have h18 := ieS c16 h13
      clear h13 c16
      refine lv_bipush (v := (-2)) hx hb dX12_lost_27 (by decide) ?_
      obtain ⟨q29, q30, q31, q32⟩ := tup4_s h18
      clear h18
      exact hret _ () _ _ _ _ q29 rfl (by rw [← q30, ← q31, ← q32]; exact hV14) dX12_lost_29
  · have h8 := itS c6 h3
    clear h3 c6
    refine lv_iconst (v := (-1)) hx hb dX12_lost_10 (by decide) ?_
    obtain ⟨q33, q34, q35, q36⟩ := tup4_s h8
    clear h8
    exact hret _ () _ _ _ _ q33 rfl (by rw [← q34, ← q35, ← q36]; exact hV4) dX12_lost_11
abbrev r_X12_night : Room := { frames := 2, cells := 0, slots := 0, locals := 45 }
set_option maxHeartbeats 4000000 in
set_option maxRecDepth 100000 in
theorem c_X12_night (l : Launch) (E : kE) (sz : Nat) (a0 a1 a2 : Nat) (w0_0 w0_1 w0_2 w0_3 w0_4 w0_5 w0_7 w0_8 w0_9 w0_10 w0_11 w0_12 w0_13 w0_14 w0_15 w0_16 w0_17 w0_18 w0_19 w0_20 w0_21 w0_22 w0_23 w0_24 w0_25 w0_26 w0_27 w0_28 w0_29 w0_30 w0_31 w0_32 w0_33 w0_34 w0_35 w0_36 w0_37 w0_38 w0_39 w0_40 w0_41 w0_42 w0_43 w0_44 w0_45 w0_46 w0_47 w0_48 w0_49 w0_50 w0_51 w0_52 w0_53 w0_54 w0_55 w0_56 w0_57 w0_58 w0_59 w0_60 w0_61 w0_62 w0_65 w0_66 : Value) (s_nights : Int32) (s_found : Nat → Int32) (s_nightDay : Nat → Int32) (p1 : Int32) (p2 : Int32) (r : Int32) (o_nights : Int32) (o_found : Nat → Int32) (o_nightDay : Nat → Int32) (h : f_X12_night s_nights s_found s_nightDay p1 p2 = some (r, o_nights, o_found, o_nightDay)) : kMi l yX12_night cX12_night 3 (some .int) r_X12_night [.ref a0, .int p1, .int p2] E [(a0, .inr (12, [w0_0, w0_1, w0_2, w0_3, w0_4, w0_5, .int s_nights, w0_7, w0_8, w0_9, w0_10, w0_11, w0_12, w0_13, w0_14, w0_15, w0_16, w0_17, w0_18, w0_19, w0_20, w0_21, w0_22, w0_23, w0_24, w0_25, w0_26, w0_27, w0_28, w0_29, w0_30, w0_31, w0_32, w0_33, w0_34, w0_35, w0_36, w0_37, w0_38, w0_39, w0_40, w0_41, w0_42, w0_43, w0_44, w0_45, w0_46, w0_47, w0_48, w0_49, w0_50, w0_51, w0_52, w0_53, w0_54, w0_55, w0_56, w0_57, w0_58, w0_59, w0_60, w0_61, w0_62, .ref a2, .ref a1, w0_65, w0_66])), (a1, .inl (E.2 0, 30, .inl s_found)), (a2, .inl (E.2 0, 30, .inl s_nightDay))] sz 0 0 (fun x (_ : Unit) => x = r) (fun _ => [(a0, .inr (12, [w0_0, w0_1, w0_2, w0_3, w0_4, w0_5, .int o_nights, w0_7, w0_8, w0_9, w0_10, w0_11, w0_12, w0_13, w0_14, w0_15, w0_16, w0_17, w0_18, w0_19, w0_20, w0_21, w0_22, w0_23, w0_24, w0_25, w0_26, w0_27, w0_28, w0_29, w0_30, w0_31, w0_32, w0_33, w0_34, w0_35, w0_36, w0_37, w0_38, w0_39, w0_40, w0_41, w0_42, w0_43, w0_44, w0_45, w0_46, w0_47, w0_48, w0_49, w0_50, w0_51, w0_52, w0_53, w0_54, w0_55, w0_56, w0_57, w0_58, w0_59, w0_60, w0_61, w0_62, .ref a2, .ref a1, w0_65, w0_66])), (a1, .inl (E.2 0, 30, .inl o_found)), (a2, .inl (E.2 0, 30, .inl o_nightDay))]) := by
  refine kmeti rfl (Nat.le_of_ble_eq_true rfl) ?_
  intro p e s m args below meth c ls A Q X hV hret hl
  have X : kC p s m c cX12_night 3 RX12 args E A := X
  have hx := X.1
  have hb := X.2.1
  have hl : lv_has ls 3 [(0, .ref a0), (1, .int p1), (2, .int p2)] := hl
  rw [f_X12_night] at h
  refine lv_aload_n hx hb dX12_night_0 rfl (lv_at hl 0 rfl) ?_
  refine kget X hV (ci := 12) inlX12 rfl 0 rfl 6 (by decide) mw_1106 rfl dX12_night_1 ?_
  refine lv_bipush (v := 30) hx hb dX12_night_4 (by decide) ?_
  refine lv_icmp_eq (tgt := 30) hx hb dX12_night_6 (by decide) (fun c1 => ?_) (fun c1 => ?_)
  · have h2 := itS c1 h
    clear h c1
    refine lv_iconst (v := (-1)) hx hb dX12_night_30 (by decide) ?_
    obtain ⟨q4, q5, q6, q7⟩ := tup4_s h2
    clear h2
    exact hret _ () _ _ _ _ q4 rfl (by rw [← q5, ← q6, ← q7]; exact hV) dX12_night_31
  · have h3 := ieS c1 h
    clear h c1
    refine lv_iload_n hx hb dX12_night_9 rfl (lv_at hl 1 rfl) ?_
    obtain ⟨r10_8, hc9, h10⟩ := cb1_s h3
    clear h3
    refine kgoiE (krunS (rest := []) X hV [] (c_X12_isDay l E _ p1 r10_8 hc9) mw_632 kb_X12_isDay (by decide) rfl rfl hl.1 rfl (Nat.le_of_ble_eq_true rfl) dX12_night_10 (by decide)) X hV [] [0, 1, 2] rfl rfl rfl (by decide) (fun u H locs hV11 => ?_)
    have hV11 : kV E A s.heap H locs [(a0, .inr (12, [w0_0, w0_1, w0_2, w0_3, w0_4, w0_5, .int s_nights, w0_7, w0_8, w0_9, w0_10, w0_11, w0_12, w0_13, w0_14, w0_15, w0_16, w0_17, w0_18, w0_19, w0_20, w0_21, w0_22, w0_23, w0_24, w0_25, w0_26, w0_27, w0_28, w0_29, w0_30, w0_31, w0_32, w0_33, w0_34, w0_35, w0_36, w0_37, w0_38, w0_39, w0_40, w0_41, w0_42, w0_43, w0_44, w0_45, w0_46, w0_47, w0_48, w0_49, w0_50, w0_51, w0_52, w0_53, w0_54, w0_55, w0_56, w0_57, w0_58, w0_59, w0_60, w0_61, w0_62, .ref a2, .ref a1, w0_65, w0_66])), (a1, .inl (E.2 0, 30, .inl s_found)), (a2, .inl (E.2 0, 30, .inl s_nightDay))] := hV11.sub [0, 1, 2] rfl rfl
    clear hV
    refine lv_if_eq (tgt := 30) hx hb dX12_night_13 (by decide) (fun c13 => ?_) (fun c13 => ?_)
    · have h14 := itS c13 h10
      clear h10 c13
      refine lv_iconst (v := (-1)) hx hb dX12_night_30 (by decide) ?_
      obtain ⟨q16, q17, q18, q19⟩ := tup4_s h14
      clear h14
      exact hret _ () _ _ _ _ q16 rfl (by rw [← q17, ← q18, ← q19]; exact hV11) dX12_night_31
    · have h15 := ieS c13 h10
      clear h10 c13
      refine lv_iload_n hx hb dX12_night_16 rfl (lv_at hl 2 rfl) ?_
      refine lv_i2l (v := Int32.toInt64 p2) hx hb dX12_night_17 rfl ?_
      refine lv_ldc2 (v := (-100000)) hx hb X.2.2.2.1 (X.2.2.2.2.1 _ mw_1107) dX12_night_18 ?_
      refine lv_ldc2 (v := 100000) hx hb X.2.2.2.1 (X.2.2.2.2.1 _ mw_1108) dX12_night_21 ?_
      obtain ⟨r24_20, hc21, h22⟩ := cb1_s h15
      clear h15
      refine kgoiE (krunS (rest := []) X hV11 [] (c_X12_lies l E _ (Int32.toInt64 p2) (-100000) 100000 r24_20 hc21) mw_224 kb_X12_lies (by decide) rfl rfl hl.1 rfl (Nat.le_of_ble_eq_true rfl) dX12_night_24 (by decide)) X hV11 [] [0, 1, 2] rfl rfl rfl (by decide) (fun u H locs hV23 => ?_)
      have hV23 : kV E A s.heap H locs [(a0, .inr (12, [w0_0, w0_1, w0_2, w0_3, w0_4, w0_5, .int s_nights, w0_7, w0_8, w0_9, w0_10, w0_11, w0_12, w0_13, w0_14, w0_15, w0_16, w0_17, w0_18, w0_19, w0_20, w0_21, w0_22, w0_23, w0_24, w0_25, w0_26, w0_27, w0_28, w0_29, w0_30, w0_31, w0_32, w0_33, w0_34, w0_35, w0_36, w0_37, w0_38, w0_39, w0_40, w0_41, w0_42, w0_43, w0_44, w0_45, w0_46, w0_47, w0_48, w0_49, w0_50, w0_51, w0_52, w0_53, w0_54, w0_55, w0_56, w0_57, w0_58, w0_59, w0_60, w0_61, w0_62, .ref a2, .ref a1, w0_65, w0_66])), (a1, .inl (E.2 0, 30, .inl s_found)), (a2, .inl (E.2 0, 30, .inl s_nightDay))] := hV23.sub [0, 1, 2] rfl rfl
      clear hV11
      refine lv_if_ne (tgt := 32) hx hb dX12_night_27 (by decide) (fun c25 => ?_) (fun c25 => ?_)
      · have h26 := ieS c25 h22
        clear h22 c25
        refine lv_aload_n hx hb dX12_night_32 rfl (lv_at hl 0 rfl) ?_
        refine kget X hV23 (ci := 12) inlX12 rfl 0 rfl 63 (by decide) mw_172 rfl dX12_night_33 ?_
        refine lv_aload_n hx hb dX12_night_36 rfl (lv_at hl 0 rfl) ?_
        refine kget X hV23 (ci := 12) inlX12 rfl 0 rfl 6 (by decide) mw_1106 rfl dX12_night_37 ?_
        refine lv_iload_n hx hb dX12_night_40 rfl (lv_at hl 1 rfl) ?_
        obtain ⟨hi29, g41_28, e30, h31⟩ := wrI_s h26
        clear h26
        refine kiast X hV23 2 rfl hi29 e30 dX12_night_41 (fun H locs hV32 => ?_)
        have hV32 : kV E A s.heap H locs [(a0, .inr (12, [w0_0, w0_1, w0_2, w0_3, w0_4, w0_5, .int s_nights, w0_7, w0_8, w0_9, w0_10, w0_11, w0_12, w0_13, w0_14, w0_15, w0_16, w0_17, w0_18, w0_19, w0_20, w0_21, w0_22, w0_23, w0_24, w0_25, w0_26, w0_27, w0_28, w0_29, w0_30, w0_31, w0_32, w0_33, w0_34, w0_35, w0_36, w0_37, w0_38, w0_39, w0_40, w0_41, w0_42, w0_43, w0_44, w0_45, w0_46, w0_47, w0_48, w0_49, w0_50, w0_51, w0_52, w0_53, w0_54, w0_55, w0_56, w0_57, w0_58, w0_59, w0_60, w0_61, w0_62, .ref a2, .ref a1, w0_65, w0_66])), (a1, .inl (E.2 0, 30, .inl s_found)), (a2, .inl (E.2 0, 30, .inl g41_28))] := hV32
        clear hV23 hi29 e30
        refine lv_aload_n hx hb dX12_night_42 rfl (lv_at hl 0 rfl) ?_
        refine kget X hV32 (ci := 12) inlX12 rfl 0 rfl 64 (by decide) mw_173 rfl dX12_night_43 ?_
        refine lv_aload_n hx hb dX12_night_46 rfl (lv_at hl 0 rfl) ?_
        refine kget X hV32 (ci := 12) inlX12 rfl 0 rfl 6 (by decide) mw_1106 rfl dX12_night_47 ?_
        refine lv_iload_n hx hb dX12_night_50 rfl (lv_at hl 2 rfl) ?_
        obtain ⟨hi34, g51_33, e35, h36⟩ := wrI_s h31
        clear h31
        refine kiast X hV32 1 rfl hi34 e35 dX12_night_51 (fun H locs hV37 => ?_)
        have hV37 : kV E A s.heap H locs [(a0, .inr (12, [w0_0, w0_1, w0_2, w0_3, w0_4, w0_5, .int s_nights, w0_7, w0_8, w0_9, w0_10, w0_11, w0_12, w0_13, w0_14, w0_15, w0_16, w0_17, w0_18, w0_19, w0_20, w0_21, w0_22, w0_23, w0_24, w0_25, w0_26, w0_27, w0_28, w0_29, w0_30, w0_31, w0_32, w0_33, w0_34, w0_35, w0_36, w0_37, w0_38, w0_39, w0_40, w0_41, w0_42, w0_43, w0_44, w0_45, w0_46, w0_47, w0_48, w0_49, w0_50, w0_51, w0_52, w0_53, w0_54, w0_55, w0_56, w0_57, w0_58, w0_59, w0_60, w0_61, w0_62, .ref a2, .ref a1, w0_65, w0_66])), (a1, .inl (E.2 0, 30, .inl g51_33)), (a2, .inl (E.2 0, 30, .inl g41_28))] := hV37
        clear hV32 hi34 e35
        refine lv_aload_n hx hb dX12_night_52 rfl (lv_at hl 0 rfl) ?_
        refine lv_dup hx hb dX12_night_53 rfl ?_
        refine kget X hV37 (ci := 12) inlX12 rfl 0 rfl 6 (by decide) mw_1106 rfl dX12_night_54 ?_
        refine lv_iconst (v := 1) hx hb dX12_night_57 (by decide) ?_
        refine lv_iadd hx hb dX12_night_58 ?_
        obtain ⟨v59_38, e39, h40⟩ := nmI_s h36
        clear h36
        refine ktopi e39 ?_
        clear e39
        refine kput X hV37 (ci := 12) inlX12 rfl tyX12 tyX12_ok nmX12 0 rfl 6 (by decide) mw_1106 rfl rfl rfl (Nat.le_of_ble_eq_true rfl) dX12_night_59 (fun H locs hV41 => ?_)
        have hV41 : kV E A s.heap H locs [(a0, .inr (12, [w0_0, w0_1, w0_2, w0_3, w0_4, w0_5, .int v59_38, w0_7, w0_8, w0_9, w0_10, w0_11, w0_12, w0_13, w0_14, w0_15, w0_16, w0_17, w0_18, w0_19, w0_20, w0_21, w0_22, w0_23, w0_24, w0_25, w0_26, w0_27, w0_28, w0_29, w0_30, w0_31, w0_32, w0_33, w0_34, w0_35, w0_36, w0_37, w0_38, w0_39, w0_40, w0_41, w0_42, w0_43, w0_44, w0_45, w0_46, w0_47, w0_48, w0_49, w0_50, w0_51, w0_52, w0_53, w0_54, w0_55, w0_56, w0_57, w0_58, w0_59, w0_60, w0_61, w0_62, .ref a2, .ref a1, w0_65, w0_66])), (a1, .inl (E.2 0, 30, .inl g51_33)), (a2, .inl (E.2 0, 30, .inl g41_28))] := hV41
        clear hV37
        refine lv_aload_n hx hb dX12_night_62 rfl (lv_at hl 0 rfl) ?_
        refine kget X hV41 (ci := 12) inlX12 rfl 0 rfl 6 (by decide) mw_1106 rfl dX12_night_63 ?_
        refine lv_iconst (v := 1) hx hb dX12_night_66 (by decide) ?_
        refine lv_isub hx hb dX12_night_67 ?_
        obtain ⟨q42, q43, q44, q45⟩ := tup4_s h40
        clear h40
        exact hret _ () _ _ _ _ q42 rfl (by rw [← q43, ← q44, ← q45]; exact hV41) dX12_night_68
      · have h27 := itS c25 h22
        clear h22 c25
        refine lv_iconst (v := (-1)) hx hb dX12_night_30 (by decide) ?_
        obtain ⟨q46, q47, q48, q49⟩ := tup4_s h27
        clear h27
        exact hret _ () _ _ _ _ q46 rfl (by rw [← q47, ← q48, ← q49]; exact hV23) dX12_night_31
abbrev r_X12_isNight : Room := { frames := 1, cells := 0, slots := 0, locals := 25 }
set_option maxHeartbeats 4000000 in
set_option maxRecDepth 100000 in
theorem c_X12_isNight (l : Launch) (E : kE) (sz : Nat) (a0 : Nat) (w0_0 w0_1 w0_2 w0_3 w0_4 w0_5 w0_7 w0_8 w0_9 w0_10 w0_11 w0_12 w0_13 w0_14 w0_15 w0_16 w0_17 w0_18 w0_19 w0_20 w0_21 w0_22 w0_23 w0_24 w0_25 w0_26 w0_27 w0_28 w0_29 w0_30 w0_31 w0_32 w0_33 w0_34 w0_35 w0_36 w0_37 w0_38 w0_39 w0_40 w0_41 w0_42 w0_43 w0_44 w0_45 w0_46 w0_47 w0_48 w0_49 w0_50 w0_51 w0_52 w0_53 w0_54 w0_55 w0_56 w0_57 w0_58 w0_59 w0_60 w0_61 w0_62 w0_63 w0_64 w0_65 w0_66 : Value) (s_nights : Int32) (p1 : Int32) (r : Int32) (h : f_X12_isNight s_nights p1 = some (r)) : kMi l yX12_isNight cX12_isNight 2 (some .boolean) r_X12_isNight [.ref a0, .int p1] E [(a0, .inr (12, [w0_0, w0_1, w0_2, w0_3, w0_4, w0_5, .int s_nights, w0_7, w0_8, w0_9, w0_10, w0_11, w0_12, w0_13, w0_14, w0_15, w0_16, w0_17, w0_18, w0_19, w0_20, w0_21, w0_22, w0_23, w0_24, w0_25, w0_26, w0_27, w0_28, w0_29, w0_30, w0_31, w0_32, w0_33, w0_34, w0_35, w0_36, w0_37, w0_38, w0_39, w0_40, w0_41, w0_42, w0_43, w0_44, w0_45, w0_46, w0_47, w0_48, w0_49, w0_50, w0_51, w0_52, w0_53, w0_54, w0_55, w0_56, w0_57, w0_58, w0_59, w0_60, w0_61, w0_62, w0_63, w0_64, w0_65, w0_66]))] sz 0 0 (fun x (_ : Unit) => x = r) (fun _ => [(a0, .inr (12, [w0_0, w0_1, w0_2, w0_3, w0_4, w0_5, .int s_nights, w0_7, w0_8, w0_9, w0_10, w0_11, w0_12, w0_13, w0_14, w0_15, w0_16, w0_17, w0_18, w0_19, w0_20, w0_21, w0_22, w0_23, w0_24, w0_25, w0_26, w0_27, w0_28, w0_29, w0_30, w0_31, w0_32, w0_33, w0_34, w0_35, w0_36, w0_37, w0_38, w0_39, w0_40, w0_41, w0_42, w0_43, w0_44, w0_45, w0_46, w0_47, w0_48, w0_49, w0_50, w0_51, w0_52, w0_53, w0_54, w0_55, w0_56, w0_57, w0_58, w0_59, w0_60, w0_61, w0_62, w0_63, w0_64, w0_65, w0_66]))]) := by
  refine kmeti rfl (Nat.le_of_ble_eq_true rfl) ?_
  intro p e s m args below meth c ls A Q X hV hret hl
  have X : kC p s m c cX12_isNight 2 RX12 args E A := X
  have hx := X.1
  have hb := X.2.1
  have hl : lv_has ls 2 [(0, .ref a0), (1, .int p1)] := hl
  rw [f_X12_isNight] at h
  refine lv_iload_n hx hb dX12_isNight_0 rfl (lv_at hl 1 rfl) ?_
  refine lv_i2l (v := Int32.toInt64 p1) hx hb dX12_isNight_1 rfl ?_
  refine lv_lconst (v := 0) hx hb dX12_isNight_2 (by decide) ?_
  refine lv_aload_n hx hb dX12_isNight_3 rfl (lv_at hl 0 rfl) ?_
  refine kget X hV (ci := 12) inlX12 rfl 0 rfl 6 (by decide) mw_1106 rfl dX12_isNight_4 ?_
  refine lv_iconst (v := 1) hx hb dX12_isNight_7 (by decide) ?_
  refine lv_isub hx hb dX12_isNight_8 ?_
  refine lv_i2l (v := Int32.toInt64 (s_nights - 1)) hx hb dX12_isNight_9 rfl ?_
  obtain ⟨r10_1, hc2, h3⟩ := cb1_s h
  clear h
  refine kgoiE (krunS (rest := []) X hV [] (c_X12_lies l E _ (Int32.toInt64 p1) 0 (Int32.toInt64 (s_nights - 1)) r10_1 hc2) mw_224 kb_X12_lies (by decide) rfl rfl hl.1 rfl (Nat.le_of_ble_eq_true rfl) dX12_isNight_10 (by decide)) X hV [] [0] rfl rfl rfl (by decide) (fun u H locs hV4 => ?_)
  have hV4 : kV E A s.heap H locs [(a0, .inr (12, [w0_0, w0_1, w0_2, w0_3, w0_4, w0_5, .int s_nights, w0_7, w0_8, w0_9, w0_10, w0_11, w0_12, w0_13, w0_14, w0_15, w0_16, w0_17, w0_18, w0_19, w0_20, w0_21, w0_22, w0_23, w0_24, w0_25, w0_26, w0_27, w0_28, w0_29, w0_30, w0_31, w0_32, w0_33, w0_34, w0_35, w0_36, w0_37, w0_38, w0_39, w0_40, w0_41, w0_42, w0_43, w0_44, w0_45, w0_46, w0_47, w0_48, w0_49, w0_50, w0_51, w0_52, w0_53, w0_54, w0_55, w0_56, w0_57, w0_58, w0_59, w0_60, w0_61, w0_62, w0_63, w0_64, w0_65, w0_66]))] := hV4.sub [0] rfl rfl
  clear hV
  obtain ⟨hb6, h7⟩ := bo_s h3
  clear h3
  have q8 := tup1_s h7
  clear h7
  exact hret _ () _ _ _ _ q8 hb6 hV4 dX12_isNight_13
abbrev r_X12_isTold : Room := { frames := 2, cells := 0, slots := 0, locals := 45 }
set_option maxHeartbeats 4000000 in
set_option maxRecDepth 100000 in
theorem c_X12_isTold (l : Launch) (E : kE) (sz : Nat) (a0 a1 : Nat) (w0_0 w0_1 w0_2 w0_3 w0_4 w0_5 w0_6 w0_8 w0_9 w0_10 w0_11 w0_12 w0_13 w0_14 w0_15 w0_16 w0_17 w0_18 w0_19 w0_20 w0_21 w0_22 w0_23 w0_24 w0_25 w0_26 w0_27 w0_28 w0_29 w0_30 w0_31 w0_32 w0_33 w0_34 w0_35 w0_36 w0_37 w0_38 w0_39 w0_40 w0_41 w0_42 w0_43 w0_44 w0_45 w0_46 w0_47 w0_48 w0_49 w0_50 w0_51 w0_52 w0_53 w0_54 w0_55 w0_56 w0_57 w0_58 w0_59 w0_60 w0_61 w0_62 w0_63 w0_64 w0_65 w0_66 : Value) (s_many : Nat → Int32) (p1 : Int32) (r : Int32) (h : f_X12_isTold s_many p1 = some (r)) : kMi l yX12_isTold cX12_isTold 2 (some .boolean) r_X12_isTold [.ref a0, .int p1] E [(a0, .inr (12, [w0_0, w0_1, w0_2, w0_3, w0_4, w0_5, w0_6, .ref a1, w0_8, w0_9, w0_10, w0_11, w0_12, w0_13, w0_14, w0_15, w0_16, w0_17, w0_18, w0_19, w0_20, w0_21, w0_22, w0_23, w0_24, w0_25, w0_26, w0_27, w0_28, w0_29, w0_30, w0_31, w0_32, w0_33, w0_34, w0_35, w0_36, w0_37, w0_38, w0_39, w0_40, w0_41, w0_42, w0_43, w0_44, w0_45, w0_46, w0_47, w0_48, w0_49, w0_50, w0_51, w0_52, w0_53, w0_54, w0_55, w0_56, w0_57, w0_58, w0_59, w0_60, w0_61, w0_62, w0_63, w0_64, w0_65, w0_66])), (a1, .inl (E.2 0, 20, .inl s_many))] sz 0 0 (fun x (_ : Unit) => x = r) (fun _ => [(a0, .inr (12, [w0_0, w0_1, w0_2, w0_3, w0_4, w0_5, w0_6, .ref a1, w0_8, w0_9, w0_10, w0_11, w0_12, w0_13, w0_14, w0_15, w0_16, w0_17, w0_18, w0_19, w0_20, w0_21, w0_22, w0_23, w0_24, w0_25, w0_26, w0_27, w0_28, w0_29, w0_30, w0_31, w0_32, w0_33, w0_34, w0_35, w0_36, w0_37, w0_38, w0_39, w0_40, w0_41, w0_42, w0_43, w0_44, w0_45, w0_46, w0_47, w0_48, w0_49, w0_50, w0_51, w0_52, w0_53, w0_54, w0_55, w0_56, w0_57, w0_58, w0_59, w0_60, w0_61, w0_62, w0_63, w0_64, w0_65, w0_66])), (a1, .inl (E.2 0, 20, .inl s_many))]) := by
  refine kmeti rfl (Nat.le_of_ble_eq_true rfl) ?_
  intro p e s m args below meth c ls A Q X hV hret hl
  have X : kC p s m c cX12_isTold 2 RX12 args E A := X
  have hx := X.1
  have hb := X.2.1
  have hl : lv_has ls 2 [(0, .ref a0), (1, .int p1)] := hl
  rw [f_X12_isTold] at h
  refine lv_iload_n hx hb dX12_isTold_0 rfl (lv_at hl 1 rfl) ?_
  obtain ⟨r1_1, hc2, h3⟩ := cb1_s h
  clear h
  refine kgoiE (krunS (rest := []) X hV [] (c_X12_isTale l E _ p1 r1_1 hc2) mw_614 kb_X12_isTale (by decide) rfl rfl hl.1 rfl (Nat.le_of_ble_eq_true rfl) dX12_isTold_1 (by decide)) X hV [] [0, 1] rfl rfl rfl (by decide) (fun u H locs hV4 => ?_)
  have hV4 : kV E A s.heap H locs [(a0, .inr (12, [w0_0, w0_1, w0_2, w0_3, w0_4, w0_5, w0_6, .ref a1, w0_8, w0_9, w0_10, w0_11, w0_12, w0_13, w0_14, w0_15, w0_16, w0_17, w0_18, w0_19, w0_20, w0_21, w0_22, w0_23, w0_24, w0_25, w0_26, w0_27, w0_28, w0_29, w0_30, w0_31, w0_32, w0_33, w0_34, w0_35, w0_36, w0_37, w0_38, w0_39, w0_40, w0_41, w0_42, w0_43, w0_44, w0_45, w0_46, w0_47, w0_48, w0_49, w0_50, w0_51, w0_52, w0_53, w0_54, w0_55, w0_56, w0_57, w0_58, w0_59, w0_60, w0_61, w0_62, w0_63, w0_64, w0_65, w0_66])), (a1, .inl (E.2 0, 20, .inl s_many))] := hV4.sub [0, 1] rfl rfl
  clear hV
  refine lv_if_eq (tgt := 23) hx hb dX12_isTold_4 (by decide) (fun c6 => ?_) (fun c6 => ?_)
  · have h7 := itS c6 h3
    clear h3 c6
    refine lv_iconst (v := 0) hx hb dX12_isTold_23 (by decide) ?_
    have q9 := tup1_s h7
    clear h7
    exact hret _ () _ _ _ _ q9 rfl hV4 dX12_isTold_24
  · have h8 := ieS c6 h3
    clear h3 c6
    refine lv_aload_n hx hb dX12_isTold_7 rfl (lv_at hl 0 rfl) ?_
    refine kget X hV4 (ci := 12) inlX12 rfl 0 rfl 7 (by decide) mw_142 rfl dX12_isTold_8 ?_
    refine lv_bipush (v := 14) hx hb dX12_isTold_11 (by decide) ?_
    refine lv_iload_n hx hb dX12_isTold_13 rfl (lv_at hl 1 rfl) ?_
    refine lv_iadd hx hb dX12_isTold_14 ?_
    obtain ⟨hi11, v15_10, e12, h13⟩ := rdI_s h8
    clear h8
    refine kiald X hV4 1 rfl hi11 e12 dX12_isTold_15 ?_
    clear hi11 e12
    refine lv_if_le (tgt := 23) hx hb dX12_isTold_16 (by decide) (fun c14 => ?_) (fun c14 => ?_)
    · have h15 := itS c14 h13
      clear h13 c14
      refine lv_iconst (v := 0) hx hb dX12_isTold_23 (by decide) ?_
      have q17 := tup1_s h15
      clear h15
      exact hret _ () _ _ _ _ q17 rfl hV4 dX12_isTold_24
    · have h16 := ieS c14 h13
      clear h13 c14
      refine lv_iconst (v := 1) hx hb dX12_isTold_19 (by decide) ?_
      refine lv_goto (tgt := 24) hx hb dX12_isTold_20 (by decide) ?_
      have q18 := tup1_s h16
      clear h16
      exact hret _ () _ _ _ _ q18 rfl hV4 dX12_isTold_24
abbrev r_X12_saysOf : Room := { frames := 4, cells := 0, slots := 0, locals := 90 }
set_option maxHeartbeats 4000000 in
set_option maxRecDepth 100000 in
theorem c_X12_saysOf (l : Launch) (E : kE) (sz : Nat) (a0 a1 a2 a3 a4 a5 a6 a7 : Nat) (w0_0 w0_1 w0_2 w0_3 w0_4 w0_5 w0_6 w0_7 w0_10 w0_13 w0_14 w0_15 w0_16 w0_17 w0_18 w0_19 w0_20 w0_21 w0_22 w0_23 w0_24 w0_25 w0_26 w0_27 w0_43 w0_44 w0_45 w0_46 w0_47 w0_48 w0_49 w0_50 w0_51 w0_52 w0_53 w0_54 w0_55 w0_56 w0_57 w0_58 w0_59 w0_60 w0_61 w0_62 w0_64 w0_65 w0_66 : Value) (s_atA : Int32) (s_atB : Int32) (s_atD : Int32) (s_atF : Int32) (s_atG : Int32) (s_atH : Int32) (s_atL : Int32) (s_atM : Int32) (s_atN : Int32) (s_atS : Int32) (s_atT : Int32) (s_atU : Int32) (s_atX : Int32) (s_code : Nat → Int32) (s_codeArg : Nat → Int32) (s_codeFrom : Nat → Int32) (s_isRefused : Nat → Int32) (s_nightDay : Nat → Int32) (s_sumFrom : Nat → Int32) (s_worth : Nat → Int32) (p1 : Int32) (p2 : Int32) (r : Int32) (o_atA : Int32) (o_atB : Int32) (o_atD : Int32) (o_atF : Int32) (o_atG : Int32) (o_atH : Int32) (o_atL : Int32) (o_atM : Int32) (o_atN : Int32) (o_atS : Int32) (o_atT : Int32) (o_atU : Int32) (o_atX : Int32) (o_isRefused : Nat → Int32) (o_worth : Nat → Int32) (h : f_X12_saysOf s_atA s_atB s_atD s_atF s_atG s_atH s_atL s_atM s_atN s_atS s_atT s_atU s_atX s_code s_codeArg s_codeFrom s_isRefused s_nightDay s_sumFrom s_worth p1 p2 = some (r, o_atA, o_atB, o_atD, o_atF, o_atG, o_atH, o_atL, o_atM, o_atN, o_atS, o_atT, o_atU, o_atX, o_isRefused, o_worth)) : kMi l yX12_saysOf cX12_saysOf 3 (some .int) r_X12_saysOf [.ref a0, .int p1, .int p2] E [(a0, .inr (12, [w0_0, w0_1, w0_2, w0_3, w0_4, w0_5, w0_6, w0_7, .ref a6, .ref a3, w0_10, .ref a1, .ref a2, w0_13, w0_14, w0_15, w0_16, w0_17, w0_18, w0_19, w0_20, w0_21, w0_22, w0_23, w0_24, w0_25, w0_26, w0_27, .int s_atA, .int s_atB, .int s_atD, .int s_atF, .int s_atG, .int s_atH, .int s_atL, .int s_atM, .int s_atN, .int s_atS, .int s_atT, .int s_atU, .int s_atX, .ref a7, .ref a4, w0_43, w0_44, w0_45, w0_46, w0_47, w0_48, w0_49, w0_50, w0_51, w0_52, w0_53, w0_54, w0_55, w0_56, w0_57, w0_58, w0_59, w0_60, w0_61, w0_62, .ref a5, w0_64, w0_65, w0_66])), (a1, .inl (E.2 0, 2400, .inl s_code)), (a2, .inl (E.2 0, 2400, .inl s_codeArg)), (a3, .inl (E.2 0, 240, .inl s_codeFrom)), (a4, .inl (E.2 2, 200, .inl s_isRefused)), (a5, .inl (E.2 0, 30, .inl s_nightDay)), (a6, .inl (E.2 0, 240, .inl s_sumFrom)), (a7, .inl (E.2 0, 200, .inl s_worth))] sz 0 0 (fun x (_ : Unit) => x = r) (fun _ => [(a0, .inr (12, [w0_0, w0_1, w0_2, w0_3, w0_4, w0_5, w0_6, w0_7, .ref a6, .ref a3, w0_10, .ref a1, .ref a2, w0_13, w0_14, w0_15, w0_16, w0_17, w0_18, w0_19, w0_20, w0_21, w0_22, w0_23, w0_24, w0_25, w0_26, w0_27, .int o_atA, .int o_atB, .int o_atD, .int o_atF, .int o_atG, .int o_atH, .int o_atL, .int o_atM, .int o_atN, .int o_atS, .int o_atT, .int o_atU, .int o_atX, .ref a7, .ref a4, w0_43, w0_44, w0_45, w0_46, w0_47, w0_48, w0_49, w0_50, w0_51, w0_52, w0_53, w0_54, w0_55, w0_56, w0_57, w0_58, w0_59, w0_60, w0_61, w0_62, .ref a5, w0_64, w0_65, w0_66])), (a1, .inl (E.2 0, 2400, .inl s_code)), (a2, .inl (E.2 0, 2400, .inl s_codeArg)), (a3, .inl (E.2 0, 240, .inl s_codeFrom)), (a4, .inl (E.2 2, 200, .inl o_isRefused)), (a5, .inl (E.2 0, 30, .inl s_nightDay)), (a6, .inl (E.2 0, 240, .inl s_sumFrom)), (a7, .inl (E.2 0, 200, .inl o_worth))]) := by
  refine kmeti rfl (Nat.le_of_ble_eq_true rfl) ?_
  intro p e s m args below meth c ls A Q X hV hret hl
  have X : kC p s m c cX12_saysOf 3 RX12 args E A := X
  have hx := X.1
  have hb := X.2.1
  have hl : lv_has ls 3 [(0, .ref a0), (1, .int p1), (2, .int p2)] := hl
  rw [f_X12_saysOf] at h
  refine lv_aload_n hx hb dX12_saysOf_0 rfl (lv_at hl 0 rfl) ?_
  obtain ⟨o_atA1_1, o_atB1_2, o_atD1_3, o_atF1_4, o_atG1_5, o_atH1_6, o_atL1_7, o_atM1_8, o_atN1_9, o_atS1_10, o_atT1_11, o_atU1_12, o_atX1_13, hc14, h15⟩ := cb13_s h
  clear h
  refine kgov (krunV (rest := []) X hV [0] (c_X12_clears l E _ a0 (w0_0) (w0_1) (w0_2) (w0_3) (w0_4) (w0_5) (w0_6) (w0_7) (.ref a6) (.ref a3) (w0_10) (.ref a1) (.ref a2) (w0_13) (w0_14) (w0_15) (w0_16) (w0_17) (w0_18) (w0_19) (w0_20) (w0_21) (w0_22) (w0_23) (w0_24) (w0_25) (w0_26) (w0_27) (.ref a7) (.ref a4) (w0_43) (w0_44) (w0_45) (w0_46) (w0_47) (w0_48) (w0_49) (w0_50) (w0_51) (w0_52) (w0_53) (w0_54) (w0_55) (w0_56) (w0_57) (w0_58) (w0_59) (w0_60) (w0_61) (w0_62) (.ref a5) (w0_64) (w0_65) (w0_66) s_atA s_atB s_atD s_atF s_atG s_atH s_atL s_atM s_atN s_atS s_atT s_atU s_atX o_atA1_1 o_atB1_2 o_atD1_3 o_atF1_4 o_atG1_5 o_atH1_6 o_atL1_7 o_atM1_8 o_atN1_9 o_atS1_10 o_atT1_11 o_atU1_12 o_atX1_13 hc14) mw_721 kb_X12_clears (ci := 12) rfl rfl (by decide) rfl rfl hl.1 rfl (Nat.le_of_ble_eq_true rfl) dX12_saysOf_1 (by decide)) X hV [0] [1, 2, 3, 4, 5, 6, 7] rfl rfl rfl (by decide) (fun u H locs hp17 hV16 => ?_)
  have hV16 : kV E A s.heap H locs [(a0, .inr (12, [w0_0, w0_1, w0_2, w0_3, w0_4, w0_5, w0_6, w0_7, .ref a6, .ref a3, w0_10, .ref a1, .ref a2, w0_13, w0_14, w0_15, w0_16, w0_17, w0_18, w0_19, w0_20, w0_21, w0_22, w0_23, w0_24, w0_25, w0_26, w0_27, .int o_atA1_1, .int o_atB1_2, .int o_atD1_3, .int o_atF1_4, .int o_atG1_5, .int o_atH1_6, .int o_atL1_7, .int o_atM1_8, .int o_atN1_9, .int o_atS1_10, .int o_atT1_11, .int o_atU1_12, .int o_atX1_13, .ref a7, .ref a4, w0_43, w0_44, w0_45, w0_46, w0_47, w0_48, w0_49, w0_50, w0_51, w0_52, w0_53, w0_54, w0_55, w0_56, w0_57, w0_58, w0_59, w0_60, w0_61, w0_62, .ref a5, w0_64, w0_65, w0_66])), (a1, .inl (E.2 0, 2400, .inl s_code)), (a2, .inl (E.2 0, 2400, .inl s_codeArg)), (a3, .inl (E.2 0, 240, .inl s_codeFrom)), (a4, .inl (E.2 2, 200, .inl s_isRefused)), (a5, .inl (E.2 0, 30, .inl s_nightDay)), (a6, .inl (E.2 0, 240, .inl s_sumFrom)), (a7, .inl (E.2 0, 200, .inl s_worth))] := hV16.sub [7, 0, 1, 2, 3, 4, 5, 6] rfl rfl
  clear hV
  refine lv_aload_n hx hb dX12_saysOf_4 rfl (lv_at hl 0 rfl) ?_
  refine lv_aload_n hx hb dX12_saysOf_5 rfl (lv_at hl 0 rfl) ?_
  refine kget X hV16 (ci := 12) inlX12 rfl 0 rfl 63 (by decide) mw_172 rfl dX12_saysOf_6 ?_
  refine lv_iload_n hx hb dX12_saysOf_9 rfl (lv_at hl 2 rfl) ?_
  obtain ⟨hi19, v10_18, e20, h21⟩ := rdI_s h15
  clear h15
  refine kiald X hV16 5 rfl hi19 e20 dX12_saysOf_10 ?_
  clear hi19 e20
  refine kput X hV16 (ci := 12) inlX12 rfl tyX12 tyX12_ok nmX12 0 rfl 30 (by decide) mw_701 rfl rfl rfl (Nat.le_of_ble_eq_true rfl) dX12_saysOf_11 (fun H locs hV22 => ?_)
  have hV22 : kV E A s.heap H locs [(a0, .inr (12, [w0_0, w0_1, w0_2, w0_3, w0_4, w0_5, w0_6, w0_7, .ref a6, .ref a3, w0_10, .ref a1, .ref a2, w0_13, w0_14, w0_15, w0_16, w0_17, w0_18, w0_19, w0_20, w0_21, w0_22, w0_23, w0_24, w0_25, w0_26, w0_27, .int o_atA1_1, .int o_atB1_2, .int v10_18, .int o_atF1_4, .int o_atG1_5, .int o_atH1_6, .int o_atL1_7, .int o_atM1_8, .int o_atN1_9, .int o_atS1_10, .int o_atT1_11, .int o_atU1_12, .int o_atX1_13, .ref a7, .ref a4, w0_43, w0_44, w0_45, w0_46, w0_47, w0_48, w0_49, w0_50, w0_51, w0_52, w0_53, w0_54, w0_55, w0_56, w0_57, w0_58, w0_59, w0_60, w0_61, w0_62, .ref a5, w0_64, w0_65, w0_66])), (a1, .inl (E.2 0, 2400, .inl s_code)), (a2, .inl (E.2 0, 2400, .inl s_codeArg)), (a3, .inl (E.2 0, 240, .inl s_codeFrom)), (a4, .inl (E.2 2, 200, .inl s_isRefused)), (a5, .inl (E.2 0, 30, .inl s_nightDay)), (a6, .inl (E.2 0, 240, .inl s_sumFrom)), (a7, .inl (E.2 0, 200, .inl s_worth))] := hV22
  clear hV16
  refine lv_aload_n hx hb dX12_saysOf_14 rfl (lv_at hl 0 rfl) ?_
  refine lv_iload_n hx hb dX12_saysOf_15 rfl (lv_at hl 2 rfl) ?_
  refine kput X hV22 (ci := 12) inlX12 rfl tyX12 tyX12_ok nmX12 0 rfl 36 (by decide) mw_729 rfl rfl rfl (Nat.le_of_ble_eq_true rfl) dX12_saysOf_16 (fun H locs hV23 => ?_)
  have hV23 : kV E A s.heap H locs [(a0, .inr (12, [w0_0, w0_1, w0_2, w0_3, w0_4, w0_5, w0_6, w0_7, .ref a6, .ref a3, w0_10, .ref a1, .ref a2, w0_13, w0_14, w0_15, w0_16, w0_17, w0_18, w0_19, w0_20, w0_21, w0_22, w0_23, w0_24, w0_25, w0_26, w0_27, .int o_atA1_1, .int o_atB1_2, .int v10_18, .int o_atF1_4, .int o_atG1_5, .int o_atH1_6, .int o_atL1_7, .int o_atM1_8, .int p2, .int o_atS1_10, .int o_atT1_11, .int o_atU1_12, .int o_atX1_13, .ref a7, .ref a4, w0_43, w0_44, w0_45, w0_46, w0_47, w0_48, w0_49, w0_50, w0_51, w0_52, w0_53, w0_54, w0_55, w0_56, w0_57, w0_58, w0_59, w0_60, w0_61, w0_62, .ref a5, w0_64, w0_65, w0_66])), (a1, .inl (E.2 0, 2400, .inl s_code)), (a2, .inl (E.2 0, 2400, .inl s_codeArg)), (a3, .inl (E.2 0, 240, .inl s_codeFrom)), (a4, .inl (E.2 2, 200, .inl s_isRefused)), (a5, .inl (E.2 0, 30, .inl s_nightDay)), (a6, .inl (E.2 0, 240, .inl s_sumFrom)), (a7, .inl (E.2 0, 200, .inl s_worth))] := hV23
  clear hV22
  refine lv_aload_n hx hb dX12_saysOf_19 rfl (lv_at hl 0 rfl) ?_
  refine lv_bipush (v := 12) hx hb dX12_saysOf_20 (by decide) ?_
  refine lv_bipush (v := 14) hx hb dX12_saysOf_22 (by decide) ?_
  refine lv_iload_n hx hb dX12_saysOf_24 rfl (lv_at hl 1 rfl) ?_
  refine lv_iadd hx hb dX12_saysOf_25 ?_
  refine lv_imul hx hb dX12_saysOf_26 ?_
  obtain ⟨r27_24, o_isRefused27_25, o_worth27_26, hc27, h28⟩ := cb3_s h21
  clear h21
  refine kgoiE (krunV (rest := []) X hV23 [0, 1, 2, 3, 4, 6, 7] (c_X12_sumOf l E _ a0 a1 a2 a3 a4 a6 a7 (w0_0) (w0_1) (w0_2) (w0_3) (w0_4) (w0_5) (w0_6) (w0_7) (w0_10) (w0_13) (w0_14) (w0_15) (w0_16) (w0_17) (w0_18) (w0_19) (w0_20) (w0_21) (w0_22) (w0_23) (w0_24) (w0_25) (w0_26) (w0_27) (w0_43) (w0_44) (w0_45) (w0_46) (w0_47) (w0_48) (w0_49) (w0_50) (w0_51) (w0_52) (w0_53) (w0_54) (w0_55) (w0_56) (w0_57) (w0_58) (w0_59) (w0_60) (w0_61) (w0_62) (.ref a5) (w0_64) (w0_65) (w0_66) o_atA1_1 o_atB1_2 v10_18 o_atF1_4 o_atG1_5 o_atH1_6 o_atL1_7 o_atM1_8 p2 o_atS1_10 o_atT1_11 o_atU1_12 o_atX1_13 s_code s_codeArg s_codeFrom s_isRefused s_sumFrom s_worth (12 * (14 + p1)) r27_24 o_isRefused27_25 o_worth27_26 hc27) mw_757 kb_X12_sumOf (ci := 12) rfl rfl (by decide) rfl rfl hl.1 rfl (Nat.le_of_ble_eq_true rfl) dX12_saysOf_27 (by decide)) X hV23 [0, 1, 2, 3, 4, 6, 7] [5] rfl rfl rfl (by decide) (fun u H locs hV29 => ?_)
  have hV29 : kV E A s.heap H locs [(a0, .inr (12, [w0_0, w0_1, w0_2, w0_3, w0_4, w0_5, w0_6, w0_7, .ref a6, .ref a3, w0_10, .ref a1, .ref a2, w0_13, w0_14, w0_15, w0_16, w0_17, w0_18, w0_19, w0_20, w0_21, w0_22, w0_23, w0_24, w0_25, w0_26, w0_27, .int o_atA1_1, .int o_atB1_2, .int v10_18, .int o_atF1_4, .int o_atG1_5, .int o_atH1_6, .int o_atL1_7, .int o_atM1_8, .int p2, .int o_atS1_10, .int o_atT1_11, .int o_atU1_12, .int o_atX1_13, .ref a7, .ref a4, w0_43, w0_44, w0_45, w0_46, w0_47, w0_48, w0_49, w0_50, w0_51, w0_52, w0_53, w0_54, w0_55, w0_56, w0_57, w0_58, w0_59, w0_60, w0_61, w0_62, .ref a5, w0_64, w0_65, w0_66])), (a1, .inl (E.2 0, 2400, .inl s_code)), (a2, .inl (E.2 0, 2400, .inl s_codeArg)), (a3, .inl (E.2 0, 240, .inl s_codeFrom)), (a4, .inl (E.2 2, 200, .inl o_isRefused27_25)), (a5, .inl (E.2 0, 30, .inl s_nightDay)), (a6, .inl (E.2 0, 240, .inl s_sumFrom)), (a7, .inl (E.2 0, 200, .inl o_worth27_26))] := hV29.sub [1, 2, 3, 4, 5, 0, 6, 7] rfl rfl
  clear hV23
  obtain ⟨q31, q32, q33, q34, q35, q36, q37, q38, q39, q40, q41, q42, q43, q44, q45, q46⟩ := tup16_s h28
  clear h28
  exact hret _ () _ _ _ _ q31 rfl (by rw [← q32, ← q33, ← q34, ← q35, ← q36, ← q37, ← q38, ← q39, ← q40, ← q41, ← q42, ← q43, ← q44, ← q45, ← q46]; exact hV29) dX12_saysOf_30
abbrev r_X12_says : Room := { frames := 5, cells := 0, slots := 0, locals := 112 }
set_option maxHeartbeats 4000000 in
set_option maxRecDepth 100000 in
theorem c_X12_says (l : Launch) (E : kE) (sz : Nat) (a0 a1 a2 a3 a4 a5 a6 a7 a8 : Nat) (w0_0 w0_1 w0_2 w0_3 w0_4 w0_5 w0_10 w0_13 w0_14 w0_15 w0_16 w0_17 w0_18 w0_19 w0_20 w0_21 w0_22 w0_23 w0_24 w0_25 w0_26 w0_27 w0_43 w0_44 w0_45 w0_46 w0_47 w0_48 w0_49 w0_50 w0_51 w0_52 w0_53 w0_54 w0_55 w0_56 w0_57 w0_58 w0_59 w0_60 w0_61 w0_62 w0_64 w0_65 w0_66 : Value) (s_nights : Int32) (s_atA : Int32) (s_atB : Int32) (s_atD : Int32) (s_atF : Int32) (s_atG : Int32) (s_atH : Int32) (s_atL : Int32) (s_atM : Int32) (s_atN : Int32) (s_atS : Int32) (s_atT : Int32) (s_atU : Int32) (s_atX : Int32) (s_code : Nat → Int32) (s_codeArg : Nat → Int32) (s_codeFrom : Nat → Int32) (s_isRefused : Nat → Int32) (s_many : Nat → Int32) (s_nightDay : Nat → Int32) (s_sumFrom : Nat → Int32) (s_worth : Nat → Int32) (p1 : Int32) (p2 : Int32) (r : Int32) (o_atA : Int32) (o_atB : Int32) (o_atD : Int32) (o_atF : Int32) (o_atG : Int32) (o_atH : Int32) (o_atL : Int32) (o_atM : Int32) (o_atN : Int32) (o_atS : Int32) (o_atT : Int32) (o_atU : Int32) (o_atX : Int32) (o_isRefused : Nat → Int32) (o_worth : Nat → Int32) (h : f_X12_says s_nights s_atA s_atB s_atD s_atF s_atG s_atH s_atL s_atM s_atN s_atS s_atT s_atU s_atX s_code s_codeArg s_codeFrom s_isRefused s_many s_nightDay s_sumFrom s_worth p1 p2 = some (r, o_atA, o_atB, o_atD, o_atF, o_atG, o_atH, o_atL, o_atM, o_atN, o_atS, o_atT, o_atU, o_atX, o_isRefused, o_worth)) : kMi l yX12_says cX12_says 3 (some .int) r_X12_says [.ref a0, .int p1, .int p2] E [(a0, .inr (12, [w0_0, w0_1, w0_2, w0_3, w0_4, w0_5, .int s_nights, .ref a5, .ref a7, .ref a3, w0_10, .ref a1, .ref a2, w0_13, w0_14, w0_15, w0_16, w0_17, w0_18, w0_19, w0_20, w0_21, w0_22, w0_23, w0_24, w0_25, w0_26, w0_27, .int s_atA, .int s_atB, .int s_atD, .int s_atF, .int s_atG, .int s_atH, .int s_atL, .int s_atM, .int s_atN, .int s_atS, .int s_atT, .int s_atU, .int s_atX, .ref a8, .ref a4, w0_43, w0_44, w0_45, w0_46, w0_47, w0_48, w0_49, w0_50, w0_51, w0_52, w0_53, w0_54, w0_55, w0_56, w0_57, w0_58, w0_59, w0_60, w0_61, w0_62, .ref a6, w0_64, w0_65, w0_66])), (a1, .inl (E.2 0, 2400, .inl s_code)), (a2, .inl (E.2 0, 2400, .inl s_codeArg)), (a3, .inl (E.2 0, 240, .inl s_codeFrom)), (a4, .inl (E.2 2, 200, .inl s_isRefused)), (a5, .inl (E.2 0, 20, .inl s_many)), (a6, .inl (E.2 0, 30, .inl s_nightDay)), (a7, .inl (E.2 0, 240, .inl s_sumFrom)), (a8, .inl (E.2 0, 200, .inl s_worth))] sz 0 0 (fun x (_ : Unit) => x = r) (fun _ => [(a0, .inr (12, [w0_0, w0_1, w0_2, w0_3, w0_4, w0_5, .int s_nights, .ref a5, .ref a7, .ref a3, w0_10, .ref a1, .ref a2, w0_13, w0_14, w0_15, w0_16, w0_17, w0_18, w0_19, w0_20, w0_21, w0_22, w0_23, w0_24, w0_25, w0_26, w0_27, .int o_atA, .int o_atB, .int o_atD, .int o_atF, .int o_atG, .int o_atH, .int o_atL, .int o_atM, .int o_atN, .int o_atS, .int o_atT, .int o_atU, .int o_atX, .ref a8, .ref a4, w0_43, w0_44, w0_45, w0_46, w0_47, w0_48, w0_49, w0_50, w0_51, w0_52, w0_53, w0_54, w0_55, w0_56, w0_57, w0_58, w0_59, w0_60, w0_61, w0_62, .ref a6, w0_64, w0_65, w0_66])), (a1, .inl (E.2 0, 2400, .inl s_code)), (a2, .inl (E.2 0, 2400, .inl s_codeArg)), (a3, .inl (E.2 0, 240, .inl s_codeFrom)), (a4, .inl (E.2 2, 200, .inl o_isRefused)), (a5, .inl (E.2 0, 20, .inl s_many)), (a6, .inl (E.2 0, 30, .inl s_nightDay)), (a7, .inl (E.2 0, 240, .inl s_sumFrom)), (a8, .inl (E.2 0, 200, .inl o_worth))]) := by
  refine kmeti rfl (Nat.le_of_ble_eq_true rfl) ?_
  intro p e s m args below meth c ls A Q X hV hret hl
  have X : kC p s m c cX12_says 3 RX12 args E A := X
  have hx := X.1
  have hb := X.2.1
  have hl : lv_has ls 3 [(0, .ref a0), (1, .int p1), (2, .int p2)] := hl
  rw [f_X12_says] at h
  refine lv_aload_n hx hb dX12_says_0 rfl (lv_at hl 0 rfl) ?_
  refine lv_iload_n hx hb dX12_says_1 rfl (lv_at hl 1 rfl) ?_
  obtain ⟨r2_1, hc2, h3⟩ := cb1_s h
  clear h
  refine kgoiE (krunV (rest := []) X hV [0, 5] (c_X12_isTold l E _ a0 a5 (w0_0) (w0_1) (w0_2) (w0_3) (w0_4) (w0_5) (.int s_nights) (.ref a7) (.ref a3) (w0_10) (.ref a1) (.ref a2) (w0_13) (w0_14) (w0_15) (w0_16) (w0_17) (w0_18) (w0_19) (w0_20) (w0_21) (w0_22) (w0_23) (w0_24) (w0_25) (w0_26) (w0_27) (.int s_atA) (.int s_atB) (.int s_atD) (.int s_atF) (.int s_atG) (.int s_atH) (.int s_atL) (.int s_atM) (.int s_atN) (.int s_atS) (.int s_atT) (.int s_atU) (.int s_atX) (.ref a8) (.ref a4) (w0_43) (w0_44) (w0_45) (w0_46) (w0_47) (w0_48) (w0_49) (w0_50) (w0_51) (w0_52) (w0_53) (w0_54) (w0_55) (w0_56) (w0_57) (w0_58) (w0_59) (w0_60) (w0_61) (w0_62) (.ref a6) (w0_64) (w0_65) (w0_66) s_many p1 r2_1 hc2) mw_1130 kb_X12_isTold (ci := 12) rfl rfl (by decide) rfl rfl hl.1 rfl (Nat.le_of_ble_eq_true rfl) dX12_says_2 (by decide)) X hV [0, 5] [1, 2, 3, 4, 6, 7, 8] rfl rfl rfl (by decide) (fun u H locs hV4 => ?_)
  have hV4 : kV E A s.heap H locs [(a0, .inr (12, [w0_0, w0_1, w0_2, w0_3, w0_4, w0_5, .int s_nights, .ref a5, .ref a7, .ref a3, w0_10, .ref a1, .ref a2, w0_13, w0_14, w0_15, w0_16, w0_17, w0_18, w0_19, w0_20, w0_21, w0_22, w0_23, w0_24, w0_25, w0_26, w0_27, .int s_atA, .int s_atB, .int s_atD, .int s_atF, .int s_atG, .int s_atH, .int s_atL, .int s_atM, .int s_atN, .int s_atS, .int s_atT, .int s_atU, .int s_atX, .ref a8, .ref a4, w0_43, w0_44, w0_45, w0_46, w0_47, w0_48, w0_49, w0_50, w0_51, w0_52, w0_53, w0_54, w0_55, w0_56, w0_57, w0_58, w0_59, w0_60, w0_61, w0_62, .ref a6, w0_64, w0_65, w0_66])), (a1, .inl (E.2 0, 2400, .inl s_code)), (a2, .inl (E.2 0, 2400, .inl s_codeArg)), (a3, .inl (E.2 0, 240, .inl s_codeFrom)), (a4, .inl (E.2 2, 200, .inl s_isRefused)), (a5, .inl (E.2 0, 20, .inl s_many)), (a6, .inl (E.2 0, 30, .inl s_nightDay)), (a7, .inl (E.2 0, 240, .inl s_sumFrom)), (a8, .inl (E.2 0, 200, .inl s_worth))] := hV4.sub [7, 0, 1, 2, 3, 8, 4, 5, 6] rfl rfl
  clear hV
  refine lv_if_eq (tgt := 25) hx hb dX12_says_5 (by decide) (fun c6 => ?_) (fun c6 => ?_)
  · have h7 := itS c6 h3
    clear h3 c6
    refine lv_ldcw (v := (-1000000)) hx hb X.2.2.2.1 (X.2.2.2.2.1 _ mw_1129) dX12_says_25 ?_
    obtain ⟨q9, q10, q11, q12, q13, q14, q15, q16, q17, q18, q19, q20, q21, q22, q23, q24⟩ := tup16_s h7
    clear h7
    exact hret _ () _ _ _ _ q9 rfl (by rw [← q10, ← q11, ← q12, ← q13, ← q14, ← q15, ← q16, ← q17, ← q18, ← q19, ← q20, ← q21, ← q22, ← q23, ← q24]; exact hV4) dX12_says_28
  · have h8 := ieS c6 h3
    clear h3 c6
    refine lv_aload_n hx hb dX12_says_8 rfl (lv_at hl 0 rfl) ?_
    refine lv_iload_n hx hb dX12_says_9 rfl (lv_at hl 2 rfl) ?_
    obtain ⟨r10_25, hc26, h27⟩ := cb1_s h8
    clear h8
    refine kgoiE (krunV (rest := []) X hV4 [0] (c_X12_isNight l E _ a0 (w0_0) (w0_1) (w0_2) (w0_3) (w0_4) (w0_5) (.ref a5) (.ref a7) (.ref a3) (w0_10) (.ref a1) (.ref a2) (w0_13) (w0_14) (w0_15) (w0_16) (w0_17) (w0_18) (w0_19) (w0_20) (w0_21) (w0_22) (w0_23) (w0_24) (w0_25) (w0_26) (w0_27) (.int s_atA) (.int s_atB) (.int s_atD) (.int s_atF) (.int s_atG) (.int s_atH) (.int s_atL) (.int s_atM) (.int s_atN) (.int s_atS) (.int s_atT) (.int s_atU) (.int s_atX) (.ref a8) (.ref a4) (w0_43) (w0_44) (w0_45) (w0_46) (w0_47) (w0_48) (w0_49) (w0_50) (w0_51) (w0_52) (w0_53) (w0_54) (w0_55) (w0_56) (w0_57) (w0_58) (w0_59) (w0_60) (w0_61) (w0_62) (.ref a6) (w0_64) (w0_65) (w0_66) s_nights p2 r10_25 hc26) mw_1134 kb_X12_isNight (ci := 12) rfl rfl (by decide) rfl rfl hl.1 rfl (Nat.le_of_ble_eq_true rfl) dX12_says_10 (by decide)) X hV4 [0] [1, 2, 3, 4, 5, 6, 7, 8] rfl rfl rfl (by decide) (fun u H locs hV28 => ?_)
    have hV28 : kV E A s.heap H locs [(a0, .inr (12, [w0_0, w0_1, w0_2, w0_3, w0_4, w0_5, .int s_nights, .ref a5, .ref a7, .ref a3, w0_10, .ref a1, .ref a2, w0_13, w0_14, w0_15, w0_16, w0_17, w0_18, w0_19, w0_20, w0_21, w0_22, w0_23, w0_24, w0_25, w0_26, w0_27, .int s_atA, .int s_atB, .int s_atD, .int s_atF, .int s_atG, .int s_atH, .int s_atL, .int s_atM, .int s_atN, .int s_atS, .int s_atT, .int s_atU, .int s_atX, .ref a8, .ref a4, w0_43, w0_44, w0_45, w0_46, w0_47, w0_48, w0_49, w0_50, w0_51, w0_52, w0_53, w0_54, w0_55, w0_56, w0_57, w0_58, w0_59, w0_60, w0_61, w0_62, .ref a6, w0_64, w0_65, w0_66])), (a1, .inl (E.2 0, 2400, .inl s_code)), (a2, .inl (E.2 0, 2400, .inl s_codeArg)), (a3, .inl (E.2 0, 240, .inl s_codeFrom)), (a4, .inl (E.2 2, 200, .inl s_isRefused)), (a5, .inl (E.2 0, 20, .inl s_many)), (a6, .inl (E.2 0, 30, .inl s_nightDay)), (a7, .inl (E.2 0, 240, .inl s_sumFrom)), (a8, .inl (E.2 0, 200, .inl s_worth))] := hV28.sub [8, 0, 1, 2, 3, 4, 5, 6, 7] rfl rfl
    clear hV4
    refine lv_if_eq (tgt := 25) hx hb dX12_says_13 (by decide) (fun c30 => ?_) (fun c30 => ?_)
    · have h31 := itS c30 h27
      clear h27 c30
      refine lv_ldcw (v := (-1000000)) hx hb X.2.2.2.1 (X.2.2.2.2.1 _ mw_1129) dX12_says_25 ?_
      obtain ⟨q33, q34, q35, q36, q37, q38, q39, q40, q41, q42, q43, q44, q45, q46, q47, q48⟩ := tup16_s h31
      clear h31
      exact hret _ () _ _ _ _ q33 rfl (by rw [← q34, ← q35, ← q36, ← q37, ← q38, ← q39, ← q40, ← q41, ← q42, ← q43, ← q44, ← q45, ← q46, ← q47, ← q48]; exact hV28) dX12_says_28
    · have h32 := ieS c30 h27
      clear h27 c30
      refine lv_aload_n hx hb dX12_says_16 rfl (lv_at hl 0 rfl) ?_
      refine lv_iload_n hx hb dX12_says_17 rfl (lv_at hl 1 rfl) ?_
      refine lv_iload_n hx hb dX12_says_18 rfl (lv_at hl 2 rfl) ?_
      obtain ⟨r19_49, o_atA19_50, o_atB19_51, o_atD19_52, o_atF19_53, o_atG19_54, o_atH19_55, o_atL19_56, o_atM19_57, o_atN19_58, o_atS19_59, o_atT19_60, o_atU19_61, o_atX19_62, o_isRefused19_63, o_worth19_64, hc65, h66⟩ := cb16_s h32
      clear h32
      refine kgoiE (krunV (rest := []) X hV28 [0, 1, 2, 3, 4, 6, 7, 8] (c_X12_saysOf l E _ a0 a1 a2 a3 a4 a6 a7 a8 (w0_0) (w0_1) (w0_2) (w0_3) (w0_4) (w0_5) (.int s_nights) (.ref a5) (w0_10) (w0_13) (w0_14) (w0_15) (w0_16) (w0_17) (w0_18) (w0_19) (w0_20) (w0_21) (w0_22) (w0_23) (w0_24) (w0_25) (w0_26) (w0_27) (w0_43) (w0_44) (w0_45) (w0_46) (w0_47) (w0_48) (w0_49) (w0_50) (w0_51) (w0_52) (w0_53) (w0_54) (w0_55) (w0_56) (w0_57) (w0_58) (w0_59) (w0_60) (w0_61) (w0_62) (w0_64) (w0_65) (w0_66) s_atA s_atB s_atD s_atF s_atG s_atH s_atL s_atM s_atN s_atS s_atT s_atU s_atX s_code s_codeArg s_codeFrom s_isRefused s_nightDay s_sumFrom s_worth p1 p2 r19_49 o_atA19_50 o_atB19_51 o_atD19_52 o_atF19_53 o_atG19_54 o_atH19_55 o_atL19_56 o_atM19_57 o_atN19_58 o_atS19_59 o_atT19_60 o_atU19_61 o_atX19_62 o_isRefused19_63 o_worth19_64 hc65) mw_1138 kb_X12_saysOf (ci := 12) rfl rfl (by decide) rfl rfl hl.1 rfl (Nat.le_of_ble_eq_true rfl) dX12_says_19 (by decide)) X hV28 [0, 1, 2, 3, 4, 6, 7, 8] [5] rfl rfl rfl (by decide) (fun u H locs hV67 => ?_)
      have hV67 : kV E A s.heap H locs [(a0, .inr (12, [w0_0, w0_1, w0_2, w0_3, w0_4, w0_5, .int s_nights, .ref a5, .ref a7, .ref a3, w0_10, .ref a1, .ref a2, w0_13, w0_14, w0_15, w0_16, w0_17, w0_18, w0_19, w0_20, w0_21, w0_22, w0_23, w0_24, w0_25, w0_26, w0_27, .int o_atA19_50, .int o_atB19_51, .int o_atD19_52, .int o_atF19_53, .int o_atG19_54, .int o_atH19_55, .int o_atL19_56, .int o_atM19_57, .int o_atN19_58, .int o_atS19_59, .int o_atT19_60, .int o_atU19_61, .int o_atX19_62, .ref a8, .ref a4, w0_43, w0_44, w0_45, w0_46, w0_47, w0_48, w0_49, w0_50, w0_51, w0_52, w0_53, w0_54, w0_55, w0_56, w0_57, w0_58, w0_59, w0_60, w0_61, w0_62, .ref a6, w0_64, w0_65, w0_66])), (a1, .inl (E.2 0, 2400, .inl s_code)), (a2, .inl (E.2 0, 2400, .inl s_codeArg)), (a3, .inl (E.2 0, 240, .inl s_codeFrom)), (a4, .inl (E.2 2, 200, .inl o_isRefused19_63)), (a5, .inl (E.2 0, 20, .inl s_many)), (a6, .inl (E.2 0, 30, .inl s_nightDay)), (a7, .inl (E.2 0, 240, .inl s_sumFrom)), (a8, .inl (E.2 0, 200, .inl o_worth19_64))] := hV67.sub [1, 2, 3, 4, 5, 0, 6, 7, 8] rfl rfl
      clear hV28
      refine lv_goto (tgt := 28) hx hb dX12_says_22 (by decide) ?_
      obtain ⟨q69, q70, q71, q72, q73, q74, q75, q76, q77, q78, q79, q80, q81, q82, q83, q84⟩ := tup16_s h66
      clear h66
      exact hret _ () _ _ _ _ q69 rfl (by rw [← q70, ← q71, ← q72, ← q73, ← q74, ← q75, ← q76, ← q77, ← q78, ← q79, ← q80, ← q81, ← q82, ← q83, ← q84]; exact hV67) dX12_says_28
abbrev r_X12_isError : Room := { frames := 1, cells := 0, slots := 0, locals := 25 }
set_option maxHeartbeats 4000000 in
set_option maxRecDepth 100000 in
theorem c_X12_isError (l : Launch) (E : kE) (sz : Nat) (p1 : Int32) (r : Int32) (h : f_X12_isError p1 = some (r)) : kMi l yX12_isError cX12_isError 1 (some .boolean) r_X12_isError [.int p1] E [] sz 0 0 (fun x (_ : Unit) => x = r) (fun _ => []) := by
  refine kmeti rfl (Nat.le_of_ble_eq_true rfl) ?_
  intro p e s m args below meth c ls A Q X hV hret hl
  have X : kC p s m c cX12_isError 1 RX12 args E A := X
  have hx := X.1
  have hb := X.2.1
  have hl : lv_has ls 1 [(0, .int p1)] := hl
  rw [f_X12_isError] at h
  refine lv_iload_n hx hb dX12_isError_0 rfl (lv_at hl 0 rfl) ?_
  refine lv_i2l (v := Int32.toInt64 p1) hx hb dX12_isError_1 rfl ?_
  refine lv_lconst (v := 0) hx hb dX12_isError_2 (by decide) ?_
  refine lv_ldc2 (v := 100000) hx hb X.2.2.2.1 (X.2.2.2.2.1 _ mw_1108) dX12_isError_3 ?_
  obtain ⟨r6_1, hc2, h3⟩ := cb1_s h
  clear h
  refine kgoiE (krunS (rest := []) X hV [] (c_X12_lies l E _ (Int32.toInt64 p1) 0 100000 r6_1 hc2) mw_224 kb_X12_lies (by decide) rfl rfl hl.1 rfl (Nat.le_of_ble_eq_true rfl) dX12_isError_6 (by decide)) X hV [] [] rfl rfl rfl (by decide) (fun u H locs hV4 => ?_)
  have hV4 : kV E A s.heap H locs [] := hV4.sub [] rfl rfl
  clear hV
  obtain ⟨hb6, h7⟩ := bo_s h3
  clear h3
  have q8 := tup1_s h7
  clear h7
  exact hret _ () _ _ _ _ q8 hb6 hV4 dX12_isError_9
abbrev r_X12_fallsAt : Room := { frames := 5, cells := 0, slots := 0, locals := 112 }
set_option maxHeartbeats 4000000 in
set_option maxRecDepth 100000 in
theorem c_X12_fallsAt (l : Launch) (E : kE) (sz : Nat) (a0 a1 a2 a3 a4 a5 a6 a7 a8 : Nat) (w0_0 w0_1 w0_2 w0_3 w0_4 w0_5 w0_7 w0_10 w0_13 w0_14 w0_15 w0_16 w0_17 w0_18 w0_19 w0_20 w0_21 w0_22 w0_23 w0_24 w0_25 w0_26 w0_27 w0_43 w0_44 w0_45 w0_46 w0_47 w0_48 w0_49 w0_50 w0_51 w0_52 w0_53 w0_54 w0_55 w0_56 w0_57 w0_58 w0_59 w0_60 w0_61 w0_62 w0_65 w0_66 : Value) (s_nights : Int32) (s_atA : Int32) (s_atB : Int32) (s_atD : Int32) (s_atF : Int32) (s_atG : Int32) (s_atH : Int32) (s_atL : Int32) (s_atM : Int32) (s_atN : Int32) (s_atS : Int32) (s_atT : Int32) (s_atU : Int32) (s_atX : Int32) (s_code : Nat → Int32) (s_codeArg : Nat → Int32) (s_codeFrom : Nat → Int32) (s_found : Nat → Int32) (s_isRefused : Nat → Int32) (s_nightDay : Nat → Int32) (s_sumFrom : Nat → Int32) (s_worth : Nat → Int32) (p1 : Int32) (p2 : Int32) (r : Int32) (o_atA : Int32) (o_atB : Int32) (o_atD : Int32) (o_atF : Int32) (o_atG : Int32) (o_atH : Int32) (o_atL : Int32) (o_atM : Int32) (o_atN : Int32) (o_atS : Int32) (o_atT : Int32) (o_atU : Int32) (o_atX : Int32) (o_isRefused : Nat → Int32) (o_worth : Nat → Int32) (h : f_X12_fallsAt s_nights s_atA s_atB s_atD s_atF s_atG s_atH s_atL s_atM s_atN s_atS s_atT s_atU s_atX s_code s_codeArg s_codeFrom s_found s_isRefused s_nightDay s_sumFrom s_worth p1 p2 = some (r, o_atA, o_atB, o_atD, o_atF, o_atG, o_atH, o_atL, o_atM, o_atN, o_atS, o_atT, o_atU, o_atX, o_isRefused, o_worth)) : kMi l yX12_fallsAt cX12_fallsAt 4 (some .int) r_X12_fallsAt [.ref a0, .int p1, .int p2] E [(a0, .inr (12, [w0_0, w0_1, w0_2, w0_3, w0_4, w0_5, .int s_nights, w0_7, .ref a7, .ref a3, w0_10, .ref a1, .ref a2, w0_13, w0_14, w0_15, w0_16, w0_17, w0_18, w0_19, w0_20, w0_21, w0_22, w0_23, w0_24, w0_25, w0_26, w0_27, .int s_atA, .int s_atB, .int s_atD, .int s_atF, .int s_atG, .int s_atH, .int s_atL, .int s_atM, .int s_atN, .int s_atS, .int s_atT, .int s_atU, .int s_atX, .ref a8, .ref a5, w0_43, w0_44, w0_45, w0_46, w0_47, w0_48, w0_49, w0_50, w0_51, w0_52, w0_53, w0_54, w0_55, w0_56, w0_57, w0_58, w0_59, w0_60, w0_61, w0_62, .ref a6, .ref a4, w0_65, w0_66])), (a1, .inl (E.2 0, 2400, .inl s_code)), (a2, .inl (E.2 0, 2400, .inl s_codeArg)), (a3, .inl (E.2 0, 240, .inl s_codeFrom)), (a4, .inl (E.2 0, 30, .inl s_found)), (a5, .inl (E.2 2, 200, .inl s_isRefused)), (a6, .inl (E.2 0, 30, .inl s_nightDay)), (a7, .inl (E.2 0, 240, .inl s_sumFrom)), (a8, .inl (E.2 0, 200, .inl s_worth))] sz 0 0 (fun x (_ : Unit) => x = r) (fun _ => [(a0, .inr (12, [w0_0, w0_1, w0_2, w0_3, w0_4, w0_5, .int s_nights, w0_7, .ref a7, .ref a3, w0_10, .ref a1, .ref a2, w0_13, w0_14, w0_15, w0_16, w0_17, w0_18, w0_19, w0_20, w0_21, w0_22, w0_23, w0_24, w0_25, w0_26, w0_27, .int o_atA, .int o_atB, .int o_atD, .int o_atF, .int o_atG, .int o_atH, .int o_atL, .int o_atM, .int o_atN, .int o_atS, .int o_atT, .int o_atU, .int o_atX, .ref a8, .ref a5, w0_43, w0_44, w0_45, w0_46, w0_47, w0_48, w0_49, w0_50, w0_51, w0_52, w0_53, w0_54, w0_55, w0_56, w0_57, w0_58, w0_59, w0_60, w0_61, w0_62, .ref a6, .ref a4, w0_65, w0_66])), (a1, .inl (E.2 0, 2400, .inl s_code)), (a2, .inl (E.2 0, 2400, .inl s_codeArg)), (a3, .inl (E.2 0, 240, .inl s_codeFrom)), (a4, .inl (E.2 0, 30, .inl s_found)), (a5, .inl (E.2 2, 200, .inl o_isRefused)), (a6, .inl (E.2 0, 30, .inl s_nightDay)), (a7, .inl (E.2 0, 240, .inl s_sumFrom)), (a8, .inl (E.2 0, 200, .inl o_worth))]) := by
  refine kmeti rfl (Nat.le_of_ble_eq_true rfl) ?_
  intro p e s m args below meth c ls A Q X hV hret hl
  have X : kC p s m c cX12_fallsAt 4 RX12 args E A := X
  have hx := X.1
  have hb := X.2.1
  have hl : lv_has ls 4 [(0, .ref a0), (1, .int p1), (2, .int p2)] := hl
  rw [f_X12_fallsAt] at h
  refine lv_iconst (v := 0) hx hb dX12_fallsAt_0 (by decide) ?_
  refine lv_istore_n (lv' := [(3, .int 0), (0, .ref a0), (1, .int p1), (2, .int p2)]) hx hb dX12_fallsAt_1 rfl hl (by decide) rfl (fun ls hl1 => ?_)
  clear hl
  have L2 : ∀ (n2 : Nat) (x3_2 : Int32) (atA__3 : Int32) (atB__4 : Int32) (atD__5 : Int32) (atF__6 : Int32) (atG__7 : Int32) (atH__8 : Int32) (atL__9 : Int32) (atM__10 : Int32) (atN__11 : Int32) (atS__12 : Int32) (atT__13 : Int32) (atU__14 : Int32) (atX__15 : Int32) (isRefused__16 : Nat → Int32) (worth__17 : Nat → Int32) (H : Heap) (locs : List Loc) (ls : Array Slot), (f_X12_fallsAt_L2 s_nights s_code s_codeArg s_codeFrom s_found s_nightDay s_sumFrom p1 p2  n2) x3_2 atA__3 atB__4 atD__5 atF__6 atG__7 atH__8 atL__9 atM__10 atN__11 atS__12 atT__13 atU__14 atX__15 isRefused__16 worth__17 = some (r, o_atA, o_atB, o_atD, o_atF, o_atG, o_atH, o_atL, o_atM, o_atN, o_atS, o_atT, o_atU, o_atX, o_isRefused, o_worth) → kV E A s.heap H locs [(a0, .inr (12, [w0_0, w0_1, w0_2, w0_3, w0_4, w0_5, .int s_nights, w0_7, .ref a7, .ref a3, w0_10, .ref a1, .ref a2, w0_13, w0_14, w0_15, w0_16, w0_17, w0_18, w0_19, w0_20, w0_21, w0_22, w0_23, w0_24, w0_25, w0_26, w0_27, .int atA__3, .int atB__4, .int atD__5, .int atF__6, .int atG__7, .int atH__8, .int atL__9, .int atM__10, .int atN__11, .int atS__12, .int atT__13, .int atU__14, .int atX__15, .ref a8, .ref a5, w0_43, w0_44, w0_45, w0_46, w0_47, w0_48, w0_49, w0_50, w0_51, w0_52, w0_53, w0_54, w0_55, w0_56, w0_57, w0_58, w0_59, w0_60, w0_61, w0_62, .ref a6, .ref a4, w0_65, w0_66])), (a1, .inl (E.2 0, 2400, .inl s_code)), (a2, .inl (E.2 0, 2400, .inl s_codeArg)), (a3, .inl (E.2 0, 240, .inl s_codeFrom)), (a4, .inl (E.2 0, 30, .inl s_found)), (a5, .inl (E.2 2, 200, .inl isRefused__16)), (a6, .inl (E.2 0, 30, .inl s_nightDay)), (a7, .inl (E.2 0, 240, .inl s_sumFrom)), (a8, .inl (E.2 0, 200, .inl worth__17))] → lv_has ls 4 [(0, .ref a0), (1, .int p1), (2, .int p2), (3, .int x3_2)] → W p l e r_X12_fallsAt s m args below meth c H locs 0 0 Q (F0 m 2 ls []) := by
    intro n2
    induction n2 with
    | zero =>
      intro x3_2 atA__3 atB__4 atD__5 atF__6 atG__7 atH__8 atL__9 atM__10 atN__11 atS__12 atT__13 atU__14 atX__15 isRefused__16 worth__17 H locs ls hB2 hVB2 hlB2
      rw [f_X12_fallsAt_L2] at hB2
      exact nomatch hB2
    | succ n2 ih2 =>
      intro x3_2 atA__3 atB__4 atD__5 atF__6 atG__7 atH__8 atL__9 atM__10 atN__11 atS__12 atT__13 atU__14 atX__15 isRefused__16 worth__17 H locs ls hB2 hVB2 hlB2
      rw [f_X12_fallsAt_L2] at hB2
      refine lv_iload_n hx hb dX12_fallsAt_2 rfl (lv_at hlB2 3 rfl) ?_
      refine lv_aload_n hx hb dX12_fallsAt_3 rfl (lv_at hlB2 0 rfl) ?_
      refine kget X hVB2 (ci := 12) inlX12 rfl 0 rfl 6 (by decide) mw_1106 rfl dX12_fallsAt_4 ?_
      refine lv_icmp_ge (tgt := 44) hx hb dX12_fallsAt_7 (by decide) (fun c18 => ?_) (fun c18 => ?_)
      · have h19 := itS c18 hB2
        clear hB2 c18
        refine lv_aload_n hx hb dX12_fallsAt_44 rfl (lv_at hlB2 0 rfl) ?_
        refine kget X hVB2 (ci := 12) inlX12 rfl 0 rfl 6 (by decide) mw_1106 rfl dX12_fallsAt_45 ?_
        obtain ⟨q21, q22, q23, q24, q25, q26, q27, q28, q29, q30, q31, q32, q33, q34, q35, q36⟩ := tup16_s h19
        clear h19
        exact hret _ () _ _ _ _ q21 rfl (by rw [← q22, ← q23, ← q24, ← q25, ← q26, ← q27, ← q28, ← q29, ← q30, ← q31, ← q32, ← q33, ← q34, ← q35, ← q36]; exact hVB2) dX12_fallsAt_48
      · have h20 := ieS c18 hB2
        clear hB2 c18
        refine lv_aload_n hx hb dX12_fallsAt_10 rfl (lv_at hlB2 0 rfl) ?_
        refine lv_iload_n hx hb dX12_fallsAt_11 rfl (lv_at hlB2 1 rfl) ?_
        refine lv_iload_n hx hb dX12_fallsAt_12 rfl (lv_at hlB2 3 rfl) ?_
        obtain ⟨r13_37, o_atA13_38, o_atB13_39, o_atD13_40, o_atF13_41, o_atG13_42, o_atH13_43, o_atL13_44, o_atM13_45, o_atN13_46, o_atS13_47, o_atT13_48, o_atU13_49, o_atX13_50, o_isRefused13_51, o_worth13_52, hc53, h54⟩ := cb16_s h20
        clear h20
        refine kgoiE (krunV (rest := []) X hVB2 [0, 1, 2, 3, 5, 6, 7, 8] (c_X12_saysOf l E _ a0 a1 a2 a3 a5 a6 a7 a8 (w0_0) (w0_1) (w0_2) (w0_3) (w0_4) (w0_5) (.int s_nights) (w0_7) (w0_10) (w0_13) (w0_14) (w0_15) (w0_16) (w0_17) (w0_18) (w0_19) (w0_20) (w0_21) (w0_22) (w0_23) (w0_24) (w0_25) (w0_26) (w0_27) (w0_43) (w0_44) (w0_45) (w0_46) (w0_47) (w0_48) (w0_49) (w0_50) (w0_51) (w0_52) (w0_53) (w0_54) (w0_55) (w0_56) (w0_57) (w0_58) (w0_59) (w0_60) (w0_61) (w0_62) (.ref a4) (w0_65) (w0_66) atA__3 atB__4 atD__5 atF__6 atG__7 atH__8 atL__9 atM__10 atN__11 atS__12 atT__13 atU__14 atX__15 s_code s_codeArg s_codeFrom isRefused__16 s_nightDay s_sumFrom worth__17 p1 x3_2 r13_37 o_atA13_38 o_atB13_39 o_atD13_40 o_atF13_41 o_atG13_42 o_atH13_43 o_atL13_44 o_atM13_45 o_atN13_46 o_atS13_47 o_atT13_48 o_atU13_49 o_atX13_50 o_isRefused13_51 o_worth13_52 hc53) mw_1138 kb_X12_saysOf (ci := 12) rfl rfl (by decide) rfl rfl hlB2.1 rfl (Nat.le_of_ble_eq_true rfl) dX12_fallsAt_13 (by decide)) X hVB2 [0, 1, 2, 3, 5, 6, 7, 8] [4] rfl rfl rfl (by decide) (fun u H locs hV55 => ?_)
        have hV55 : kV E A s.heap H locs [(a0, .inr (12, [w0_0, w0_1, w0_2, w0_3, w0_4, w0_5, .int s_nights, w0_7, .ref a7, .ref a3, w0_10, .ref a1, .ref a2, w0_13, w0_14, w0_15, w0_16, w0_17, w0_18, w0_19, w0_20, w0_21, w0_22, w0_23, w0_24, w0_25, w0_26, w0_27, .int o_atA13_38, .int o_atB13_39, .int o_atD13_40, .int o_atF13_41, .int o_atG13_42, .int o_atH13_43, .int o_atL13_44, .int o_atM13_45, .int o_atN13_46, .int o_atS13_47, .int o_atT13_48, .int o_atU13_49, .int o_atX13_50, .ref a8, .ref a5, w0_43, w0_44, w0_45, w0_46, w0_47, w0_48, w0_49, w0_50, w0_51, w0_52, w0_53, w0_54, w0_55, w0_56, w0_57, w0_58, w0_59, w0_60, w0_61, w0_62, .ref a6, .ref a4, w0_65, w0_66])), (a1, .inl (E.2 0, 2400, .inl s_code)), (a2, .inl (E.2 0, 2400, .inl s_codeArg)), (a3, .inl (E.2 0, 240, .inl s_codeFrom)), (a4, .inl (E.2 0, 30, .inl s_found)), (a5, .inl (E.2 2, 200, .inl o_isRefused13_51)), (a6, .inl (E.2 0, 30, .inl s_nightDay)), (a7, .inl (E.2 0, 240, .inl s_sumFrom)), (a8, .inl (E.2 0, 200, .inl o_worth13_52))] := hV55.sub [1, 2, 3, 4, 0, 5, 6, 7, 8] rfl rfl
        clear hVB2
        refine lv_i2l (v := Int32.toInt64 r13_37) hx hb dX12_fallsAt_16 rfl ?_
        refine lv_aload_n hx hb dX12_fallsAt_17 rfl (lv_at hlB2 0 rfl) ?_
        refine kget X hV55 (ci := 12) inlX12 rfl 0 rfl 64 (by decide) mw_173 rfl dX12_fallsAt_18 ?_
        refine lv_iload_n hx hb dX12_fallsAt_21 rfl (lv_at hlB2 3 rfl) ?_
        obtain ⟨hi58, v22_57, e59, h60⟩ := rdI_s h54
        clear h54
        refine kiald X hV55 4 rfl hi58 e59 dX12_fallsAt_22 ?_
        clear hi58 e59
        refine lv_i2l (v := Int32.toInt64 v22_57) hx hb dX12_fallsAt_23 rfl ?_
        refine lv_lsub hx hb dX12_fallsAt_24 ?_
        refine lv_iload_n hx hb dX12_fallsAt_25 rfl (lv_at hlB2 2 rfl) ?_
        refine lv_ineg hx hb dX12_fallsAt_26 ?_
        refine lv_i2l (v := Int32.toInt64 (-p2)) hx hb dX12_fallsAt_27 rfl ?_
        refine lv_iload_n hx hb dX12_fallsAt_28 rfl (lv_at hlB2 2 rfl) ?_
        refine lv_i2l (v := Int32.toInt64 p2) hx hb dX12_fallsAt_29 rfl ?_
        obtain ⟨r30_61, hc62, h63⟩ := cb1_s h60
        clear h60
        refine kgoiE (krunS (rest := []) X hV55 [] (c_X12_lies l E _ ((Int32.toInt64 r13_37) - (Int32.toInt64 v22_57)) (Int32.toInt64 (-p2)) (Int32.toInt64 p2) r30_61 hc62) mw_224 kb_X12_lies (by decide) rfl rfl hlB2.1 rfl (Nat.le_of_ble_eq_true rfl) dX12_fallsAt_30 (by decide)) X hV55 [] [0, 1, 2, 3, 4, 5, 6, 7, 8] rfl rfl rfl (by decide) (fun u H locs hV64 => ?_)
        have hV64 : kV E A s.heap H locs [(a0, .inr (12, [w0_0, w0_1, w0_2, w0_3, w0_4, w0_5, .int s_nights, w0_7, .ref a7, .ref a3, w0_10, .ref a1, .ref a2, w0_13, w0_14, w0_15, w0_16, w0_17, w0_18, w0_19, w0_20, w0_21, w0_22, w0_23, w0_24, w0_25, w0_26, w0_27, .int o_atA13_38, .int o_atB13_39, .int o_atD13_40, .int o_atF13_41, .int o_atG13_42, .int o_atH13_43, .int o_atL13_44, .int o_atM13_45, .int o_atN13_46, .int o_atS13_47, .int o_atT13_48, .int o_atU13_49, .int o_atX13_50, .ref a8, .ref a5, w0_43, w0_44, w0_45, w0_46, w0_47, w0_48, w0_49, w0_50, w0_51, w0_52, w0_53, w0_54, w0_55, w0_56, w0_57, w0_58, w0_59, w0_60, w0_61, w0_62, .ref a6, .ref a4, w0_65, w0_66])), (a1, .inl (E.2 0, 2400, .inl s_code)), (a2, .inl (E.2 0, 2400, .inl s_codeArg)), (a3, .inl (E.2 0, 240, .inl s_codeFrom)), (a4, .inl (E.2 0, 30, .inl s_found)), (a5, .inl (E.2 2, 200, .inl o_isRefused13_51)), (a6, .inl (E.2 0, 30, .inl s_nightDay)), (a7, .inl (E.2 0, 240, .inl s_sumFrom)), (a8, .inl (E.2 0, 200, .inl o_worth13_52))] := hV64.sub [0, 1, 2, 3, 4, 5, 6, 7, 8] rfl rfl
        clear hV55
        refine lv_if_ne (tgt := 38) hx hb dX12_fallsAt_33 (by decide) (fun c66 => ?_) (fun c66 => ?_)
        · have h67 := ieS c66 h63
          clear h63 c66
          obtain ⟨v38_69, e70, h71⟩ := nmI_s h67
          clear h67
          refine lv_iinc (v := v38_69) (lv' := [(3, .int v38_69), (0, .ref a0), (1, .int p1), (2, .int p2)]) hx hb dX12_fallsAt_38 hlB2 (k := 3) rfl (by rw [e70]; rfl) (by decide) rfl (fun ls hl72 => ?_)
          clear hlB2 e70
          refine lv_goto (tgt := 2) hx hb dX12_fallsAt_41 (by decide) ?_
          exact ih2 v38_69 o_atA13_38 o_atB13_39 o_atD13_40 o_atF13_41 o_atG13_42 o_atH13_43 o_atL13_44 o_atM13_45 o_atN13_46 o_atS13_47 o_atT13_48 o_atU13_49 o_atX13_50 o_isRefused13_51 o_worth13_52 _ _ _ h71 hV64 (lv_sub hl72 [1, 2, 3, 0] rfl)
        · have h68 := itS c66 h63
          clear h63 c66
          refine lv_iload_n hx hb dX12_fallsAt_36 rfl (lv_at hlB2 3 rfl) ?_
          obtain ⟨q73, q74, q75, q76, q77, q78, q79, q80, q81, q82, q83, q84, q85, q86, q87, q88⟩ := tup16_s h68
          clear h68
          exact hret _ () _ _ _ _ q73 rfl (by rw [← q74, ← q75, ← q76, ← q77, ← q78, ← q79, ← q80, ← q81, ← q82, ← q83, ← q84, ← q85, ← q86, ← q87, ← q88]; exact hV64) dX12_fallsAt_37
  exact L2 FU 0 s_atA s_atB s_atD s_atF s_atG s_atH s_atL s_atM s_atN s_atS s_atT s_atU s_atX s_isRefused s_worth _ _ _ h hV (lv_sub hl1 [1, 2, 3, 0] rfl)
abbrev r_X12_falls : Room := { frames := 6, cells := 0, slots := 0, locals := 135 }
set_option maxHeartbeats 4000000 in
set_option maxRecDepth 100000 in
theorem c_X12_falls (l : Launch) (E : kE) (sz : Nat) (a0 a1 a2 a3 a4 a5 a6 a7 a8 a9 : Nat) (w0_0 w0_1 w0_2 w0_3 w0_4 w0_5 w0_10 w0_13 w0_14 w0_15 w0_16 w0_17 w0_18 w0_19 w0_20 w0_21 w0_22 w0_23 w0_24 w0_25 w0_26 w0_27 w0_43 w0_44 w0_45 w0_46 w0_47 w0_48 w0_49 w0_50 w0_51 w0_52 w0_53 w0_54 w0_55 w0_56 w0_57 w0_58 w0_59 w0_60 w0_61 w0_62 w0_65 w0_66 : Value) (s_nights : Int32) (s_atA : Int32) (s_atB : Int32) (s_atD : Int32) (s_atF : Int32) (s_atG : Int32) (s_atH : Int32) (s_atL : Int32) (s_atM : Int32) (s_atN : Int32) (s_atS : Int32) (s_atT : Int32) (s_atU : Int32) (s_atX : Int32) (s_code : Nat → Int32) (s_codeArg : Nat → Int32) (s_codeFrom : Nat → Int32) (s_found : Nat → Int32) (s_isRefused : Nat → Int32) (s_many : Nat → Int32) (s_nightDay : Nat → Int32) (s_sumFrom : Nat → Int32) (s_worth : Nat → Int32) (p1 : Int32) (p2 : Int32) (r : Int32) (o_atA : Int32) (o_atB : Int32) (o_atD : Int32) (o_atF : Int32) (o_atG : Int32) (o_atH : Int32) (o_atL : Int32) (o_atM : Int32) (o_atN : Int32) (o_atS : Int32) (o_atT : Int32) (o_atU : Int32) (o_atX : Int32) (o_isRefused : Nat → Int32) (o_worth : Nat → Int32) (h : f_X12_falls s_nights s_atA s_atB s_atD s_atF s_atG s_atH s_atL s_atM s_atN s_atS s_atT s_atU s_atX s_code s_codeArg s_codeFrom s_found s_isRefused s_many s_nightDay s_sumFrom s_worth p1 p2 = some (r, o_atA, o_atB, o_atD, o_atF, o_atG, o_atH, o_atL, o_atM, o_atN, o_atS, o_atT, o_atU, o_atX, o_isRefused, o_worth)) : kMi l yX12_falls cX12_falls 4 (some .int) r_X12_falls [.ref a0, .int p1, .int p2] E [(a0, .inr (12, [w0_0, w0_1, w0_2, w0_3, w0_4, w0_5, .int s_nights, .ref a6, .ref a8, .ref a3, w0_10, .ref a1, .ref a2, w0_13, w0_14, w0_15, w0_16, w0_17, w0_18, w0_19, w0_20, w0_21, w0_22, w0_23, w0_24, w0_25, w0_26, w0_27, .int s_atA, .int s_atB, .int s_atD, .int s_atF, .int s_atG, .int s_atH, .int s_atL, .int s_atM, .int s_atN, .int s_atS, .int s_atT, .int s_atU, .int s_atX, .ref a9, .ref a5, w0_43, w0_44, w0_45, w0_46, w0_47, w0_48, w0_49, w0_50, w0_51, w0_52, w0_53, w0_54, w0_55, w0_56, w0_57, w0_58, w0_59, w0_60, w0_61, w0_62, .ref a7, .ref a4, w0_65, w0_66])), (a1, .inl (E.2 0, 2400, .inl s_code)), (a2, .inl (E.2 0, 2400, .inl s_codeArg)), (a3, .inl (E.2 0, 240, .inl s_codeFrom)), (a4, .inl (E.2 0, 30, .inl s_found)), (a5, .inl (E.2 2, 200, .inl s_isRefused)), (a6, .inl (E.2 0, 20, .inl s_many)), (a7, .inl (E.2 0, 30, .inl s_nightDay)), (a8, .inl (E.2 0, 240, .inl s_sumFrom)), (a9, .inl (E.2 0, 200, .inl s_worth))] sz 0 0 (fun x (_ : Unit) => x = r) (fun _ => [(a0, .inr (12, [w0_0, w0_1, w0_2, w0_3, w0_4, w0_5, .int s_nights, .ref a6, .ref a8, .ref a3, w0_10, .ref a1, .ref a2, w0_13, w0_14, w0_15, w0_16, w0_17, w0_18, w0_19, w0_20, w0_21, w0_22, w0_23, w0_24, w0_25, w0_26, w0_27, .int o_atA, .int o_atB, .int o_atD, .int o_atF, .int o_atG, .int o_atH, .int o_atL, .int o_atM, .int o_atN, .int o_atS, .int o_atT, .int o_atU, .int o_atX, .ref a9, .ref a5, w0_43, w0_44, w0_45, w0_46, w0_47, w0_48, w0_49, w0_50, w0_51, w0_52, w0_53, w0_54, w0_55, w0_56, w0_57, w0_58, w0_59, w0_60, w0_61, w0_62, .ref a7, .ref a4, w0_65, w0_66])), (a1, .inl (E.2 0, 2400, .inl s_code)), (a2, .inl (E.2 0, 2400, .inl s_codeArg)), (a3, .inl (E.2 0, 240, .inl s_codeFrom)), (a4, .inl (E.2 0, 30, .inl s_found)), (a5, .inl (E.2 2, 200, .inl o_isRefused)), (a6, .inl (E.2 0, 20, .inl s_many)), (a7, .inl (E.2 0, 30, .inl s_nightDay)), (a8, .inl (E.2 0, 240, .inl s_sumFrom)), (a9, .inl (E.2 0, 200, .inl o_worth))]) := by
  refine kmeti rfl (Nat.le_of_ble_eq_true rfl) ?_
  intro p e s m args below meth c ls A Q X hV hret hl
  have X : kC p s m c cX12_falls 4 RX12 args E A := X
  have hx := X.1
  have hb := X.2.1
  have hl : lv_has ls 4 [(0, .ref a0), (1, .int p1), (2, .int p2)] := hl
  rw [f_X12_falls] at h
  refine lv_aload_n hx hb dX12_falls_0 rfl (lv_at hl 0 rfl) ?_
  refine lv_iload_n hx hb dX12_falls_1 rfl (lv_at hl 1 rfl) ?_
  obtain ⟨r2_1, hc2, h3⟩ := cb1_s h
  clear h
  refine kgoiE (krunV (rest := []) X hV [0, 6] (c_X12_isTold l E _ a0 a6 (w0_0) (w0_1) (w0_2) (w0_3) (w0_4) (w0_5) (.int s_nights) (.ref a8) (.ref a3) (w0_10) (.ref a1) (.ref a2) (w0_13) (w0_14) (w0_15) (w0_16) (w0_17) (w0_18) (w0_19) (w0_20) (w0_21) (w0_22) (w0_23) (w0_24) (w0_25) (w0_26) (w0_27) (.int s_atA) (.int s_atB) (.int s_atD) (.int s_atF) (.int s_atG) (.int s_atH) (.int s_atL) (.int s_atM) (.int s_atN) (.int s_atS) (.int s_atT) (.int s_atU) (.int s_atX) (.ref a9) (.ref a5) (w0_43) (w0_44) (w0_45) (w0_46) (w0_47) (w0_48) (w0_49) (w0_50) (w0_51) (w0_52) (w0_53) (w0_54) (w0_55) (w0_56) (w0_57) (w0_58) (w0_59) (w0_60) (w0_61) (w0_62) (.ref a7) (.ref a4) (w0_65) (w0_66) s_many p1 r2_1 hc2) mw_1130 kb_X12_isTold (ci := 12) rfl rfl (by decide) rfl rfl hl.1 rfl (Nat.le_of_ble_eq_true rfl) dX12_falls_2 (by decide)) X hV [0, 6] [1, 2, 3, 4, 5, 7, 8, 9] rfl rfl rfl (by decide) (fun u H locs hV4 => ?_)
  have hV4 : kV E A s.heap H locs [(a0, .inr (12, [w0_0, w0_1, w0_2, w0_3, w0_4, w0_5, .int s_nights, .ref a6, .ref a8, .ref a3, w0_10, .ref a1, .ref a2, w0_13, w0_14, w0_15, w0_16, w0_17, w0_18, w0_19, w0_20, w0_21, w0_22, w0_23, w0_24, w0_25, w0_26, w0_27, .int s_atA, .int s_atB, .int s_atD, .int s_atF, .int s_atG, .int s_atH, .int s_atL, .int s_atM, .int s_atN, .int s_atS, .int s_atT, .int s_atU, .int s_atX, .ref a9, .ref a5, w0_43, w0_44, w0_45, w0_46, w0_47, w0_48, w0_49, w0_50, w0_51, w0_52, w0_53, w0_54, w0_55, w0_56, w0_57, w0_58, w0_59, w0_60, w0_61, w0_62, .ref a7, .ref a4, w0_65, w0_66])), (a1, .inl (E.2 0, 2400, .inl s_code)), (a2, .inl (E.2 0, 2400, .inl s_codeArg)), (a3, .inl (E.2 0, 240, .inl s_codeFrom)), (a4, .inl (E.2 0, 30, .inl s_found)), (a5, .inl (E.2 2, 200, .inl s_isRefused)), (a6, .inl (E.2 0, 20, .inl s_many)), (a7, .inl (E.2 0, 30, .inl s_nightDay)), (a8, .inl (E.2 0, 240, .inl s_sumFrom)), (a9, .inl (E.2 0, 200, .inl s_worth))] := hV4.sub [8, 0, 1, 2, 3, 4, 9, 5, 6, 7] rfl rfl
  clear hV
  refine lv_if_eq (tgt := 15) hx hb dX12_falls_5 (by decide) (fun c6 => ?_) (fun c6 => ?_)
  · have h7 := itS c6 h3
    clear h3 c6
    refine lv_iconst (v := (-1)) hx hb dX12_falls_15 (by decide) ?_
    obtain ⟨q9, q10, q11, q12, q13, q14, q15, q16, q17, q18, q19, q20, q21, q22, q23, q24⟩ := tup16_s h7
    clear h7
    exact hret _ () _ _ _ _ q9 rfl (by rw [← q10, ← q11, ← q12, ← q13, ← q14, ← q15, ← q16, ← q17, ← q18, ← q19, ← q20, ← q21, ← q22, ← q23, ← q24]; exact hV4) dX12_falls_16
  · have h8 := ieS c6 h3
    clear h3 c6
    refine lv_iload_n hx hb dX12_falls_8 rfl (lv_at hl 2 rfl) ?_
    obtain ⟨r9_25, hc26, h27⟩ := cb1_s h8
    clear h8
    refine kgoiE (krunS (rest := []) X hV4 [] (c_X12_isError l E _ p2 r9_25 hc26) mw_1161 kb_X12_isError (by decide) rfl rfl hl.1 rfl (Nat.le_of_ble_eq_true rfl) dX12_falls_9 (by decide)) X hV4 [] [0, 1, 2, 3, 4, 5, 6, 7, 8, 9] rfl rfl rfl (by decide) (fun u H locs hV28 => ?_)
    have hV28 : kV E A s.heap H locs [(a0, .inr (12, [w0_0, w0_1, w0_2, w0_3, w0_4, w0_5, .int s_nights, .ref a6, .ref a8, .ref a3, w0_10, .ref a1, .ref a2, w0_13, w0_14, w0_15, w0_16, w0_17, w0_18, w0_19, w0_20, w0_21, w0_22, w0_23, w0_24, w0_25, w0_26, w0_27, .int s_atA, .int s_atB, .int s_atD, .int s_atF, .int s_atG, .int s_atH, .int s_atL, .int s_atM, .int s_atN, .int s_atS, .int s_atT, .int s_atU, .int s_atX, .ref a9, .ref a5, w0_43, w0_44, w0_45, w0_46, w0_47, w0_48, w0_49, w0_50, w0_51, w0_52, w0_53, w0_54, w0_55, w0_56, w0_57, w0_58, w0_59, w0_60, w0_61, w0_62, .ref a7, .ref a4, w0_65, w0_66])), (a1, .inl (E.2 0, 2400, .inl s_code)), (a2, .inl (E.2 0, 2400, .inl s_codeArg)), (a3, .inl (E.2 0, 240, .inl s_codeFrom)), (a4, .inl (E.2 0, 30, .inl s_found)), (a5, .inl (E.2 2, 200, .inl s_isRefused)), (a6, .inl (E.2 0, 20, .inl s_many)), (a7, .inl (E.2 0, 30, .inl s_nightDay)), (a8, .inl (E.2 0, 240, .inl s_sumFrom)), (a9, .inl (E.2 0, 200, .inl s_worth))] := hV28.sub [0, 1, 2, 3, 4, 5, 6, 7, 8, 9] rfl rfl
    clear hV4
    refine lv_if_ne (tgt := 17) hx hb dX12_falls_12 (by decide) (fun c30 => ?_) (fun c30 => ?_)
    · have h31 := ieS c30 h27
      clear h27 c30
      refine lv_aload_n hx hb dX12_falls_17 rfl (lv_at hl 0 rfl) ?_
      refine lv_iload_n hx hb dX12_falls_18 rfl (lv_at hl 1 rfl) ?_
      refine lv_iload_n hx hb dX12_falls_19 rfl (lv_at hl 2 rfl) ?_
      obtain ⟨r20_33, o_atA20_34, o_atB20_35, o_atD20_36, o_atF20_37, o_atG20_38, o_atH20_39, o_atL20_40, o_atM20_41, o_atN20_42, o_atS20_43, o_atT20_44, o_atU20_45, o_atX20_46, o_isRefused20_47, o_worth20_48, hc49, h50⟩ := cb16_s h31
      clear h31
      refine kgoiE (krunV (rest := []) X hV28 [0, 1, 2, 3, 4, 5, 7, 8, 9] (c_X12_fallsAt l E _ a0 a1 a2 a3 a4 a5 a7 a8 a9 (w0_0) (w0_1) (w0_2) (w0_3) (w0_4) (w0_5) (.ref a6) (w0_10) (w0_13) (w0_14) (w0_15) (w0_16) (w0_17) (w0_18) (w0_19) (w0_20) (w0_21) (w0_22) (w0_23) (w0_24) (w0_25) (w0_26) (w0_27) (w0_43) (w0_44) (w0_45) (w0_46) (w0_47) (w0_48) (w0_49) (w0_50) (w0_51) (w0_52) (w0_53) (w0_54) (w0_55) (w0_56) (w0_57) (w0_58) (w0_59) (w0_60) (w0_61) (w0_62) (w0_65) (w0_66) s_nights s_atA s_atB s_atD s_atF s_atG s_atH s_atL s_atM s_atN s_atS s_atT s_atU s_atX s_code s_codeArg s_codeFrom s_found s_isRefused s_nightDay s_sumFrom s_worth p1 p2 r20_33 o_atA20_34 o_atB20_35 o_atD20_36 o_atF20_37 o_atG20_38 o_atH20_39 o_atL20_40 o_atM20_41 o_atN20_42 o_atS20_43 o_atT20_44 o_atU20_45 o_atX20_46 o_isRefused20_47 o_worth20_48 hc49) mw_1164 kb_X12_fallsAt (ci := 12) rfl rfl (by decide) rfl rfl hl.1 rfl (Nat.le_of_ble_eq_true rfl) dX12_falls_20 (by decide)) X hV28 [0, 1, 2, 3, 4, 5, 7, 8, 9] [6] rfl rfl rfl (by decide) (fun u H locs hV51 => ?_)
      have hV51 : kV E A s.heap H locs [(a0, .inr (12, [w0_0, w0_1, w0_2, w0_3, w0_4, w0_5, .int s_nights, .ref a6, .ref a8, .ref a3, w0_10, .ref a1, .ref a2, w0_13, w0_14, w0_15, w0_16, w0_17, w0_18, w0_19, w0_20, w0_21, w0_22, w0_23, w0_24, w0_25, w0_26, w0_27, .int o_atA20_34, .int o_atB20_35, .int o_atD20_36, .int o_atF20_37, .int o_atG20_38, .int o_atH20_39, .int o_atL20_40, .int o_atM20_41, .int o_atN20_42, .int o_atS20_43, .int o_atT20_44, .int o_atU20_45, .int o_atX20_46, .ref a9, .ref a5, w0_43, w0_44, w0_45, w0_46, w0_47, w0_48, w0_49, w0_50, w0_51, w0_52, w0_53, w0_54, w0_55, w0_56, w0_57, w0_58, w0_59, w0_60, w0_61, w0_62, .ref a7, .ref a4, w0_65, w0_66])), (a1, .inl (E.2 0, 2400, .inl s_code)), (a2, .inl (E.2 0, 2400, .inl s_codeArg)), (a3, .inl (E.2 0, 240, .inl s_codeFrom)), (a4, .inl (E.2 0, 30, .inl s_found)), (a5, .inl (E.2 2, 200, .inl o_isRefused20_47)), (a6, .inl (E.2 0, 20, .inl s_many)), (a7, .inl (E.2 0, 30, .inl s_nightDay)), (a8, .inl (E.2 0, 240, .inl s_sumFrom)), (a9, .inl (E.2 0, 200, .inl o_worth20_48))] := hV51.sub [1, 2, 3, 4, 5, 6, 0, 7, 8, 9] rfl rfl
      clear hV28
      refine lv_istore_n (lv' := [(3, .int r20_33), (0, .ref a0), (1, .int p1), (2, .int p2)]) hx hb dX12_falls_23 rfl hl (by decide) rfl (fun ls hl53 => ?_)
      clear hl
      refine lv_iload_n hx hb dX12_falls_24 rfl (lv_at hl53 0 rfl) ?_
      refine lv_aload_n hx hb dX12_falls_25 rfl (lv_at hl53 1 rfl) ?_
      refine kget X hV51 (ci := 12) inlX12 rfl 0 rfl 6 (by decide) mw_1106 rfl dX12_falls_26 ?_
      refine lv_icmp_ne (tgt := 37) hx hb dX12_falls_29 (by decide) (fun c54 => ?_) (fun c54 => ?_)
      · have h55 := ieS c54 h50
        clear h50 c54
        refine lv_iload_n hx hb dX12_falls_37 rfl (lv_at hl53 0 rfl) ?_
        obtain ⟨q57, q58, q59, q60, q61, q62, q63, q64, q65, q66, q67, q68, q69, q70, q71, q72⟩ := tup16_s h55
        clear h55
        exact hret _ () _ _ _ _ q57 rfl (by rw [← q58, ← q59, ← q60, ← q61, ← q62, ← q63, ← q64, ← q65, ← q66, ← q67, ← q68, ← q69, ← q70, ← q71, ← q72]; exact hV51) dX12_falls_38
      · have h56 := itS c54 h50
        clear h50 c54
        refine lv_bipush (v := (-2)) hx hb dX12_falls_32 (by decide) ?_
        refine lv_goto (tgt := 38) hx hb dX12_falls_34 (by decide) ?_
        obtain ⟨q73, q74, q75, q76, q77, q78, q79, q80, q81, q82, q83, q84, q85, q86, q87, q88⟩ := tup16_s h56
        clear h56
        exact hret _ () _ _ _ _ q73 rfl (by rw [← q74, ← q75, ← q76, ← q77, ← q78, ← q79, ← q80, ← q81, ← q82, ← q83, ← q84, ← q85, ← q86, ← q87, ← q88]; exact hV51) dX12_falls_38
    · have h32 := itS c30 h27
      clear h27 c30
      refine lv_iconst (v := (-1)) hx hb dX12_falls_15 (by decide) ?_
      obtain ⟨q89, q90, q91, q92, q93, q94, q95, q96, q97, q98, q99, q100, q101, q102, q103, q104⟩ := tup16_s h32
      clear h32
      exact hret _ () _ _ _ _ q89 rfl (by rw [← q90, ← q91, ← q92, ← q93, ← q94, ← q95, ← q96, ← q97, ← q98, ← q99, ← q100, ← q101, ← q102, ← q103, ← q104]; exact hV28) dX12_falls_16
abbrev r_X12_told : Room := { frames := 6, cells := 0, slots := 0, locals := 135 }
set_option maxHeartbeats 4000000 in
set_option maxRecDepth 100000 in
theorem c_X12_told (l : Launch) (E : kE) (sz : Nat) (a0 a1 a2 a3 a4 a5 a6 a7 a8 a9 : Nat) (w0_0 w0_1 w0_2 w0_3 w0_4 w0_5 w0_10 w0_13 w0_14 w0_15 w0_16 w0_17 w0_18 w0_19 w0_20 w0_21 w0_22 w0_23 w0_24 w0_25 w0_26 w0_27 w0_43 w0_44 w0_45 w0_46 w0_47 w0_48 w0_49 w0_50 w0_51 w0_52 w0_53 w0_54 w0_55 w0_56 w0_57 w0_58 w0_59 w0_60 w0_61 w0_62 w0_65 w0_66 : Value) (s_nights : Int32) (s_atA : Int32) (s_atB : Int32) (s_atD : Int32) (s_atF : Int32) (s_atG : Int32) (s_atH : Int32) (s_atL : Int32) (s_atM : Int32) (s_atN : Int32) (s_atS : Int32) (s_atT : Int32) (s_atU : Int32) (s_atX : Int32) (s_code : Nat → Int32) (s_codeArg : Nat → Int32) (s_codeFrom : Nat → Int32) (s_found : Nat → Int32) (s_isRefused : Nat → Int32) (s_many : Nat → Int32) (s_nightDay : Nat → Int32) (s_sumFrom : Nat → Int32) (s_worth : Nat → Int32) (p1 : Int32) (p2 : Int32) (r : Int32) (o_atA : Int32) (o_atB : Int32) (o_atD : Int32) (o_atF : Int32) (o_atG : Int32) (o_atH : Int32) (o_atL : Int32) (o_atM : Int32) (o_atN : Int32) (o_atS : Int32) (o_atT : Int32) (o_atU : Int32) (o_atX : Int32) (o_isRefused : Nat → Int32) (o_worth : Nat → Int32) (h : f_X12_told s_nights s_atA s_atB s_atD s_atF s_atG s_atH s_atL s_atM s_atN s_atS s_atT s_atU s_atX s_code s_codeArg s_codeFrom s_found s_isRefused s_many s_nightDay s_sumFrom s_worth p1 p2 = some (r, o_atA, o_atB, o_atD, o_atF, o_atG, o_atH, o_atL, o_atM, o_atN, o_atS, o_atT, o_atU, o_atX, o_isRefused, o_worth)) : kMi l yX12_told cX12_told 7 (some .int) r_X12_told [.ref a0, .int p1, .int p2] E [(a0, .inr (12, [w0_0, w0_1, w0_2, w0_3, w0_4, w0_5, .int s_nights, .ref a6, .ref a8, .ref a3, w0_10, .ref a1, .ref a2, w0_13, w0_14, w0_15, w0_16, w0_17, w0_18, w0_19, w0_20, w0_21, w0_22, w0_23, w0_24, w0_25, w0_26, w0_27, .int s_atA, .int s_atB, .int s_atD, .int s_atF, .int s_atG, .int s_atH, .int s_atL, .int s_atM, .int s_atN, .int s_atS, .int s_atT, .int s_atU, .int s_atX, .ref a9, .ref a5, w0_43, w0_44, w0_45, w0_46, w0_47, w0_48, w0_49, w0_50, w0_51, w0_52, w0_53, w0_54, w0_55, w0_56, w0_57, w0_58, w0_59, w0_60, w0_61, w0_62, .ref a7, .ref a4, w0_65, w0_66])), (a1, .inl (E.2 0, 2400, .inl s_code)), (a2, .inl (E.2 0, 2400, .inl s_codeArg)), (a3, .inl (E.2 0, 240, .inl s_codeFrom)), (a4, .inl (E.2 0, 30, .inl s_found)), (a5, .inl (E.2 2, 200, .inl s_isRefused)), (a6, .inl (E.2 0, 20, .inl s_many)), (a7, .inl (E.2 0, 30, .inl s_nightDay)), (a8, .inl (E.2 0, 240, .inl s_sumFrom)), (a9, .inl (E.2 0, 200, .inl s_worth))] sz 0 0 (fun x (_ : Unit) => x = r) (fun _ => [(a0, .inr (12, [w0_0, w0_1, w0_2, w0_3, w0_4, w0_5, .int s_nights, .ref a6, .ref a8, .ref a3, w0_10, .ref a1, .ref a2, w0_13, w0_14, w0_15, w0_16, w0_17, w0_18, w0_19, w0_20, w0_21, w0_22, w0_23, w0_24, w0_25, w0_26, w0_27, .int o_atA, .int o_atB, .int o_atD, .int o_atF, .int o_atG, .int o_atH, .int o_atL, .int o_atM, .int o_atN, .int o_atS, .int o_atT, .int o_atU, .int o_atX, .ref a9, .ref a5, w0_43, w0_44, w0_45, w0_46, w0_47, w0_48, w0_49, w0_50, w0_51, w0_52, w0_53, w0_54, w0_55, w0_56, w0_57, w0_58, w0_59, w0_60, w0_61, w0_62, .ref a7, .ref a4, w0_65, w0_66])), (a1, .inl (E.2 0, 2400, .inl s_code)), (a2, .inl (E.2 0, 2400, .inl s_codeArg)), (a3, .inl (E.2 0, 240, .inl s_codeFrom)), (a4, .inl (E.2 0, 30, .inl s_found)), (a5, .inl (E.2 2, 200, .inl o_isRefused)), (a6, .inl (E.2 0, 20, .inl s_many)), (a7, .inl (E.2 0, 30, .inl s_nightDay)), (a8, .inl (E.2 0, 240, .inl s_sumFrom)), (a9, .inl (E.2 0, 200, .inl o_worth))]) := by
  refine kmeti rfl (Nat.le_of_ble_eq_true rfl) ?_
  intro p e s m args below meth c ls A Q X hV hret hl
  have X : kC p s m c cX12_told 7 RX12 args E A := X
  have hx := X.1
  have hb := X.2.1
  have hl : lv_has ls 7 [(0, .ref a0), (1, .int p1), (2, .int p2)] := hl
  rw [f_X12_told] at h
  refine lv_iload_n hx hb dX12_told_0 rfl (lv_at hl 1 rfl) ?_
  obtain ⟨r1_1, hc2, h3⟩ := cb1_s h
  clear h
  refine kgoiE (krunS (rest := []) X hV [] (c_X12_isError l E _ p1 r1_1 hc2) mw_1161 kb_X12_isError (by decide) rfl rfl hl.1 rfl (Nat.le_of_ble_eq_true rfl) dX12_told_1 (by decide)) X hV [] [0, 1, 2, 3, 4, 5, 6, 7, 8, 9] rfl rfl rfl (by decide) (fun u H locs hV4 => ?_)
  have hV4 : kV E A s.heap H locs [(a0, .inr (12, [w0_0, w0_1, w0_2, w0_3, w0_4, w0_5, .int s_nights, .ref a6, .ref a8, .ref a3, w0_10, .ref a1, .ref a2, w0_13, w0_14, w0_15, w0_16, w0_17, w0_18, w0_19, w0_20, w0_21, w0_22, w0_23, w0_24, w0_25, w0_26, w0_27, .int s_atA, .int s_atB, .int s_atD, .int s_atF, .int s_atG, .int s_atH, .int s_atL, .int s_atM, .int s_atN, .int s_atS, .int s_atT, .int s_atU, .int s_atX, .ref a9, .ref a5, w0_43, w0_44, w0_45, w0_46, w0_47, w0_48, w0_49, w0_50, w0_51, w0_52, w0_53, w0_54, w0_55, w0_56, w0_57, w0_58, w0_59, w0_60, w0_61, w0_62, .ref a7, .ref a4, w0_65, w0_66])), (a1, .inl (E.2 0, 2400, .inl s_code)), (a2, .inl (E.2 0, 2400, .inl s_codeArg)), (a3, .inl (E.2 0, 240, .inl s_codeFrom)), (a4, .inl (E.2 0, 30, .inl s_found)), (a5, .inl (E.2 2, 200, .inl s_isRefused)), (a6, .inl (E.2 0, 20, .inl s_many)), (a7, .inl (E.2 0, 30, .inl s_nightDay)), (a8, .inl (E.2 0, 240, .inl s_sumFrom)), (a9, .inl (E.2 0, 200, .inl s_worth))] := hV4.sub [0, 1, 2, 3, 4, 5, 6, 7, 8, 9] rfl rfl
  clear hV
  refine lv_if_eq (tgt := 17) hx hb dX12_told_4 (by decide) (fun c6 => ?_) (fun c6 => ?_)
  · have h7 := itS c6 h3
    clear h3 c6
    refine lv_iconst (v := (-1)) hx hb dX12_told_17 (by decide) ?_
    obtain ⟨q9, q10, q11, q12, q13, q14, q15, q16, q17, q18, q19, q20, q21, q22, q23, q24⟩ := tup16_s h7
    clear h7
    exact hret _ () _ _ _ _ q9 rfl (by rw [← q10, ← q11, ← q12, ← q13, ← q14, ← q15, ← q16, ← q17, ← q18, ← q19, ← q20, ← q21, ← q22, ← q23, ← q24]; exact hV4) dX12_told_18
  · have h8 := ieS c6 h3
    clear h3 c6
    refine lv_iload_n hx hb dX12_told_7 rfl (lv_at hl 2 rfl) ?_
    refine lv_i2l (v := Int32.toInt64 p2) hx hb dX12_told_8 rfl ?_
    refine lv_lconst (v := 0) hx hb dX12_told_9 (by decide) ?_
    refine lv_lconst (v := 1) hx hb dX12_told_10 (by decide) ?_
    obtain ⟨r11_25, hc26, h27⟩ := cb1_s h8
    clear h8
    refine kgoiE (krunS (rest := []) X hV4 [] (c_X12_lies l E _ (Int32.toInt64 p2) 0 1 r11_25 hc26) mw_224 kb_X12_lies (by decide) rfl rfl hl.1 rfl (Nat.le_of_ble_eq_true rfl) dX12_told_11 (by decide)) X hV4 [] [0, 1, 2, 3, 4, 5, 6, 7, 8, 9] rfl rfl rfl (by decide) (fun u H locs hV28 => ?_)
    have hV28 : kV E A s.heap H locs [(a0, .inr (12, [w0_0, w0_1, w0_2, w0_3, w0_4, w0_5, .int s_nights, .ref a6, .ref a8, .ref a3, w0_10, .ref a1, .ref a2, w0_13, w0_14, w0_15, w0_16, w0_17, w0_18, w0_19, w0_20, w0_21, w0_22, w0_23, w0_24, w0_25, w0_26, w0_27, .int s_atA, .int s_atB, .int s_atD, .int s_atF, .int s_atG, .int s_atH, .int s_atL, .int s_atM, .int s_atN, .int s_atS, .int s_atT, .int s_atU, .int s_atX, .ref a9, .ref a5, w0_43, w0_44, w0_45, w0_46, w0_47, w0_48, w0_49, w0_50, w0_51, w0_52, w0_53, w0_54, w0_55, w0_56, w0_57, w0_58, w0_59, w0_60, w0_61, w0_62, .ref a7, .ref a4, w0_65, w0_66])), (a1, .inl (E.2 0, 2400, .inl s_code)), (a2, .inl (E.2 0, 2400, .inl s_codeArg)), (a3, .inl (E.2 0, 240, .inl s_codeFrom)), (a4, .inl (E.2 0, 30, .inl s_found)), (a5, .inl (E.2 2, 200, .inl s_isRefused)), (a6, .inl (E.2 0, 20, .inl s_many)), (a7, .inl (E.2 0, 30, .inl s_nightDay)), (a8, .inl (E.2 0, 240, .inl s_sumFrom)), (a9, .inl (E.2 0, 200, .inl s_worth))] := hV28.sub [0, 1, 2, 3, 4, 5, 6, 7, 8, 9] rfl rfl
    clear hV4
    refine lv_if_ne (tgt := 19) hx hb dX12_told_14 (by decide) (fun c30 => ?_) (fun c30 => ?_)
    · have h31 := ieS c30 h27
      clear h27 c30
      refine lv_iconst (v := 0) hx hb dX12_told_19 (by decide) ?_
      refine lv_istore_n (lv' := [(3, .int 0), (0, .ref a0), (1, .int p1), (2, .int p2)]) hx hb dX12_told_20 rfl hl (by decide) rfl (fun ls hl33 => ?_)
      clear hl
      have J87 : ∀ (x3_34 : Int32) (x5_35 : Int32) (atA__36 : Int32) (atB__37 : Int32) (atD__38 : Int32) (atF__39 : Int32) (atG__40 : Int32) (atH__41 : Int32) (atL__42 : Int32) (atM__43 : Int32) (atN__44 : Int32) (atS__45 : Int32) (atT__46 : Int32) (atU__47 : Int32) (atX__48 : Int32) (isRefused__49 : Nat → Int32) (worth__50 : Nat → Int32) (H : Heap) (locs : List Loc) (ls : Array Slot), (f_X12_told_J87 p2 ) x3_34 x5_35 atA__36 atB__37 atD__38 atF__39 atG__40 atH__41 atL__42 atM__43 atN__44 atS__45 atT__46 atU__47 atX__48 isRefused__49 worth__50 = some (r, o_atA, o_atB, o_atD, o_atF, o_atG, o_atH, o_atL, o_atM, o_atN, o_atS, o_atT, o_atU, o_atX, o_isRefused, o_worth) → kV E A s.heap H locs [(a0, .inr (12, [w0_0, w0_1, w0_2, w0_3, w0_4, w0_5, .int s_nights, .ref a6, .ref a8, .ref a3, w0_10, .ref a1, .ref a2, w0_13, w0_14, w0_15, w0_16, w0_17, w0_18, w0_19, w0_20, w0_21, w0_22, w0_23, w0_24, w0_25, w0_26, w0_27, .int atA__36, .int atB__37, .int atD__38, .int atF__39, .int atG__40, .int atH__41, .int atL__42, .int atM__43, .int atN__44, .int atS__45, .int atT__46, .int atU__47, .int atX__48, .ref a9, .ref a5, w0_43, w0_44, w0_45, w0_46, w0_47, w0_48, w0_49, w0_50, w0_51, w0_52, w0_53, w0_54, w0_55, w0_56, w0_57, w0_58, w0_59, w0_60, w0_61, w0_62, .ref a7, .ref a4, w0_65, w0_66])), (a1, .inl (E.2 0, 2400, .inl s_code)), (a2, .inl (E.2 0, 2400, .inl s_codeArg)), (a3, .inl (E.2 0, 240, .inl s_codeFrom)), (a4, .inl (E.2 0, 30, .inl s_found)), (a5, .inl (E.2 2, 200, .inl isRefused__49)), (a6, .inl (E.2 0, 20, .inl s_many)), (a7, .inl (E.2 0, 30, .inl s_nightDay)), (a8, .inl (E.2 0, 240, .inl s_sumFrom)), (a9, .inl (E.2 0, 200, .inl worth__50))] → lv_has ls 7 [(2, .int p2), (3, .int x3_34), (5, .int x5_35)] → W p l e r_X12_told s m args below meth c H locs 0 0 Q (F0 m 87 ls []) := by
        intro x3_34 x5_35 atA__36 atB__37 atD__38 atF__39 atG__40 atH__41 atL__42 atM__43 atN__44 atS__45 atT__46 atU__47 atX__48 isRefused__49 worth__50 H locs ls hB87 hVB87 hlB87
        rw [f_X12_told_J87] at hB87
        refine lv_iload_n hx hb dX12_told_87 rfl (lv_at hlB87 0 rfl) ?_
        refine lv_if_ne (tgt := 95) hx hb dX12_told_88 (by decide) (fun c51 => ?_) (fun c51 => ?_)
        · have h52 := ieS c51 hB87
          clear hB87 c51
          refine lv_iload hx hb dX12_told_95 (lv_at hlB87 2 rfl) ?_
          obtain ⟨q54, q55, q56, q57, q58, q59, q60, q61, q62, q63, q64, q65, q66, q67, q68, q69⟩ := tup16_s h52
          clear h52
          exact hret _ () _ _ _ _ q54 rfl (by rw [← q55, ← q56, ← q57, ← q58, ← q59, ← q60, ← q61, ← q62, ← q63, ← q64, ← q65, ← q66, ← q67, ← q68, ← q69]; exact hVB87) dX12_told_97
        · have h53 := itS c51 hB87
          clear hB87 c51
          refine lv_iload_n hx hb dX12_told_91 rfl (lv_at hlB87 1 rfl) ?_
          refine lv_goto (tgt := 97) hx hb dX12_told_92 (by decide) ?_
          obtain ⟨q70, q71, q72, q73, q74, q75, q76, q77, q78, q79, q80, q81, q82, q83, q84, q85⟩ := tup16_s h53
          clear h53
          exact hret _ () _ _ _ _ q70 rfl (by rw [← q71, ← q72, ← q73, ← q74, ← q75, ← q76, ← q77, ← q78, ← q79, ← q80, ← q81, ← q82, ← q83, ← q84, ← q85]; exact hVB87) dX12_told_97
      have L21 : ∀ (n21 : Nat) (x3_86 : Int32) (atA__87 : Int32) (atB__88 : Int32) (atD__89 : Int32) (atF__90 : Int32) (atG__91 : Int32) (atH__92 : Int32) (atL__93 : Int32) (atM__94 : Int32) (atN__95 : Int32) (atS__96 : Int32) (atT__97 : Int32) (atU__98 : Int32) (atX__99 : Int32) (isRefused__100 : Nat → Int32) (worth__101 : Nat → Int32) (H : Heap) (locs : List Loc) (ls : Array Slot), (f_X12_told_L21 s_nights s_code s_codeArg s_codeFrom s_found s_many s_nightDay s_sumFrom p1 (f_X12_told_J87 p2 ) n21) x3_86 atA__87 atB__88 atD__89 atF__90 atG__91 atH__92 atL__93 atM__94 atN__95 atS__96 atT__97 atU__98 atX__99 isRefused__100 worth__101 = some (r, o_atA, o_atB, o_atD, o_atF, o_atG, o_atH, o_atL, o_atM, o_atN, o_atS, o_atT, o_atU, o_atX, o_isRefused, o_worth) → kV E A s.heap H locs [(a0, .inr (12, [w0_0, w0_1, w0_2, w0_3, w0_4, w0_5, .int s_nights, .ref a6, .ref a8, .ref a3, w0_10, .ref a1, .ref a2, w0_13, w0_14, w0_15, w0_16, w0_17, w0_18, w0_19, w0_20, w0_21, w0_22, w0_23, w0_24, w0_25, w0_26, w0_27, .int atA__87, .int atB__88, .int atD__89, .int atF__90, .int atG__91, .int atH__92, .int atL__93, .int atM__94, .int atN__95, .int atS__96, .int atT__97, .int atU__98, .int atX__99, .ref a9, .ref a5, w0_43, w0_44, w0_45, w0_46, w0_47, w0_48, w0_49, w0_50, w0_51, w0_52, w0_53, w0_54, w0_55, w0_56, w0_57, w0_58, w0_59, w0_60, w0_61, w0_62, .ref a7, .ref a4, w0_65, w0_66])), (a1, .inl (E.2 0, 2400, .inl s_code)), (a2, .inl (E.2 0, 2400, .inl s_codeArg)), (a3, .inl (E.2 0, 240, .inl s_codeFrom)), (a4, .inl (E.2 0, 30, .inl s_found)), (a5, .inl (E.2 2, 200, .inl isRefused__100)), (a6, .inl (E.2 0, 20, .inl s_many)), (a7, .inl (E.2 0, 30, .inl s_nightDay)), (a8, .inl (E.2 0, 240, .inl s_sumFrom)), (a9, .inl (E.2 0, 200, .inl worth__101))] → lv_has ls 7 [(0, .ref a0), (1, .int p1), (2, .int p2), (3, .int x3_86)] → W p l e r_X12_told s m args below meth c H locs 0 0 Q (F0 m 21 ls []) := by
        intro n21
        induction n21 with
        | zero =>
          intro x3_86 atA__87 atB__88 atD__89 atF__90 atG__91 atH__92 atL__93 atM__94 atN__95 atS__96 atT__97 atU__98 atX__99 isRefused__100 worth__101 H locs ls hB21 hVB21 hlB21
          rw [f_X12_told_L21] at hB21
          exact nomatch hB21
        | succ n21 ih21 =>
          intro x3_86 atA__87 atB__88 atD__89 atF__90 atG__91 atH__92 atL__93 atM__94 atN__95 atS__96 atT__97 atU__98 atX__99 isRefused__100 worth__101 H locs ls hB21 hVB21 hlB21
          rw [f_X12_told_L21] at hB21
          refine lv_iload_n hx hb dX12_told_21 rfl (lv_at hlB21 3 rfl) ?_
          refine lv_aload_n hx hb dX12_told_22 rfl (lv_at hlB21 0 rfl) ?_
          refine kget X hVB21 (ci := 12) inlX12 rfl 0 rfl 6 (by decide) mw_1106 rfl dX12_told_23 ?_
          refine lv_icmp_ge (tgt := 104) hx hb dX12_told_26 (by decide) (fun c102 => ?_) (fun c102 => ?_)
          · have h103 := itS c102 hB21
            clear hB21 c102
            refine lv_iconst (v := (-1)) hx hb dX12_told_104 (by decide) ?_
            obtain ⟨q105, q106, q107, q108, q109, q110, q111, q112, q113, q114, q115, q116, q117, q118, q119, q120⟩ := tup16_s h103
            clear h103
            exact hret _ () _ _ _ _ q105 rfl (by rw [← q106, ← q107, ← q108, ← q109, ← q110, ← q111, ← q112, ← q113, ← q114, ← q115, ← q116, ← q117, ← q118, ← q119, ← q120]; exact hVB21) dX12_told_105
          · have h104 := ieS c102 hB21
            clear hB21 c102
            refine lv_iconst (v := 0) hx hb dX12_told_29 (by decide) ?_
            refine lv_istore (lv' := [(4, .int 0), (0, .ref a0), (1, .int p1), (2, .int p2), (3, .int x3_86)]) hx hb dX12_told_30 hlB21 (by decide) rfl (fun ls hl121 => ?_)
            clear hlB21
            refine lv_iconst (v := (-1)) hx hb dX12_told_32 (by decide) ?_
            refine lv_istore (lv' := [(5, .int (-1)), (4, .int 0), (0, .ref a0), (1, .int p1), (2, .int p2), (3, .int x3_86)]) hx hb dX12_told_33 hl121 (by decide) rfl (fun ls hl122 => ?_)
            clear hl121
            refine lv_iconst (v := 0) hx hb dX12_told_35 (by decide) ?_
            refine lv_istore (lv' := [(6, .int 0), (5, .int (-1)), (4, .int 0), (0, .ref a0), (1, .int p1), (2, .int p2), (3, .int x3_86)]) hx hb dX12_told_36 hl122 (by decide) rfl (fun ls hl123 => ?_)
            clear hl122
            have J81 : ∀ (x4_124 : Int32) (x5_125 : Int32) (atA__126 : Int32) (atB__127 : Int32) (atD__128 : Int32) (atF__129 : Int32) (atG__130 : Int32) (atH__131 : Int32) (atL__132 : Int32) (atM__133 : Int32) (atN__134 : Int32) (atS__135 : Int32) (atT__136 : Int32) (atU__137 : Int32) (atX__138 : Int32) (isRefused__139 : Nat → Int32) (worth__140 : Nat → Int32) (H : Heap) (locs : List Loc) (ls : Array Slot), (f_X12_told_J81 x3_86 (f_X12_told_L21 s_nights s_code s_codeArg s_codeFrom s_found s_many s_nightDay s_sumFrom p1 (f_X12_told_J87 p2 ) n21) (f_X12_told_J87 p2 )) x4_124 x5_125 atA__126 atB__127 atD__128 atF__129 atG__130 atH__131 atL__132 atM__133 atN__134 atS__135 atT__136 atU__137 atX__138 isRefused__139 worth__140 = some (r, o_atA, o_atB, o_atD, o_atF, o_atG, o_atH, o_atL, o_atM, o_atN, o_atS, o_atT, o_atU, o_atX, o_isRefused, o_worth) → kV E A s.heap H locs [(a0, .inr (12, [w0_0, w0_1, w0_2, w0_3, w0_4, w0_5, .int s_nights, .ref a6, .ref a8, .ref a3, w0_10, .ref a1, .ref a2, w0_13, w0_14, w0_15, w0_16, w0_17, w0_18, w0_19, w0_20, w0_21, w0_22, w0_23, w0_24, w0_25, w0_26, w0_27, .int atA__126, .int atB__127, .int atD__128, .int atF__129, .int atG__130, .int atH__131, .int atL__132, .int atM__133, .int atN__134, .int atS__135, .int atT__136, .int atU__137, .int atX__138, .ref a9, .ref a5, w0_43, w0_44, w0_45, w0_46, w0_47, w0_48, w0_49, w0_50, w0_51, w0_52, w0_53, w0_54, w0_55, w0_56, w0_57, w0_58, w0_59, w0_60, w0_61, w0_62, .ref a7, .ref a4, w0_65, w0_66])), (a1, .inl (E.2 0, 2400, .inl s_code)), (a2, .inl (E.2 0, 2400, .inl s_codeArg)), (a3, .inl (E.2 0, 240, .inl s_codeFrom)), (a4, .inl (E.2 0, 30, .inl s_found)), (a5, .inl (E.2 2, 200, .inl isRefused__139)), (a6, .inl (E.2 0, 20, .inl s_many)), (a7, .inl (E.2 0, 30, .inl s_nightDay)), (a8, .inl (E.2 0, 240, .inl s_sumFrom)), (a9, .inl (E.2 0, 200, .inl worth__140))] → lv_has ls 7 [(0, .ref a0), (1, .int p1), (2, .int p2), (3, .int x3_86), (4, .int x4_124), (5, .int x5_125)] → W p l e r_X12_told s m args below meth c H locs 0 0 Q (F0 m 81 ls []) := by
              intro x4_124 x5_125 atA__126 atB__127 atD__128 atF__129 atG__130 atH__131 atL__132 atM__133 atN__134 atS__135 atT__136 atU__137 atX__138 isRefused__139 worth__140 H locs ls hB81 hVB81 hlB81
              rw [f_X12_told_J81] at hB81
              refine lv_iload hx hb dX12_told_81 (lv_at hlB81 4 rfl) ?_
              refine lv_iconst (v := 1) hx hb dX12_told_83 (by decide) ?_
              refine lv_icmp_ne (tgt := 98) hx hb dX12_told_84 (by decide) (fun c141 => ?_) (fun c141 => ?_)
              · have h142 := ieS c141 hB81
                clear hB81 c141
                obtain ⟨v98_144, e145, h146⟩ := nmI_s h142
                clear h142
                refine lv_iinc (v := v98_144) (lv' := [(3, .int v98_144), (0, .ref a0), (1, .int p1), (2, .int p2), (4, .int x4_124), (5, .int x5_125)]) hx hb dX12_told_98 hlB81 (k := 3) rfl (by rw [e145]; rfl) (by decide) rfl (fun ls hl147 => ?_)
                clear hlB81 e145
                refine lv_goto (tgt := 21) hx hb dX12_told_101 (by decide) ?_
                exact ih21 v98_144 atA__126 atB__127 atD__128 atF__129 atG__130 atH__131 atL__132 atM__133 atN__134 atS__135 atT__136 atU__137 atX__138 isRefused__139 worth__140 _ _ _ h146 hVB81 (lv_sub hl147 [1, 2, 3, 0] rfl)
              · have h143 := itS c141 hB81
                clear hB81 c141
                exact J87 x3_86 x5_125 atA__126 atB__127 atD__128 atF__129 atG__130 atH__131 atL__132 atM__133 atN__134 atS__135 atT__136 atU__137 atX__138 isRefused__139 worth__140 _ _ _ h143 hVB81 (lv_sub hlB81 [2, 3, 5] rfl)
            have L38 : ∀ (n38 : Nat) (x4_148 : Int32) (x5_149 : Int32) (x6_150 : Int32) (atA__151 : Int32) (atB__152 : Int32) (atD__153 : Int32) (atF__154 : Int32) (atG__155 : Int32) (atH__156 : Int32) (atL__157 : Int32) (atM__158 : Int32) (atN__159 : Int32) (atS__160 : Int32) (atT__161 : Int32) (atU__162 : Int32) (atX__163 : Int32) (isRefused__164 : Nat → Int32) (worth__165 : Nat → Int32) (H : Heap) (locs : List Loc) (ls : Array Slot), (f_X12_told_L38 s_nights s_code s_codeArg s_codeFrom s_found s_many s_nightDay s_sumFrom p1 x3_86 (f_X12_told_J81 x3_86 (f_X12_told_L21 s_nights s_code s_codeArg s_codeFrom s_found s_many s_nightDay s_sumFrom p1 (f_X12_told_J87 p2 ) n21) (f_X12_told_J87 p2 )) n38) x4_148 x5_149 x6_150 atA__151 atB__152 atD__153 atF__154 atG__155 atH__156 atL__157 atM__158 atN__159 atS__160 atT__161 atU__162 atX__163 isRefused__164 worth__165 = some (r, o_atA, o_atB, o_atD, o_atF, o_atG, o_atH, o_atL, o_atM, o_atN, o_atS, o_atT, o_atU, o_atX, o_isRefused, o_worth) → kV E A s.heap H locs [(a0, .inr (12, [w0_0, w0_1, w0_2, w0_3, w0_4, w0_5, .int s_nights, .ref a6, .ref a8, .ref a3, w0_10, .ref a1, .ref a2, w0_13, w0_14, w0_15, w0_16, w0_17, w0_18, w0_19, w0_20, w0_21, w0_22, w0_23, w0_24, w0_25, w0_26, w0_27, .int atA__151, .int atB__152, .int atD__153, .int atF__154, .int atG__155, .int atH__156, .int atL__157, .int atM__158, .int atN__159, .int atS__160, .int atT__161, .int atU__162, .int atX__163, .ref a9, .ref a5, w0_43, w0_44, w0_45, w0_46, w0_47, w0_48, w0_49, w0_50, w0_51, w0_52, w0_53, w0_54, w0_55, w0_56, w0_57, w0_58, w0_59, w0_60, w0_61, w0_62, .ref a7, .ref a4, w0_65, w0_66])), (a1, .inl (E.2 0, 2400, .inl s_code)), (a2, .inl (E.2 0, 2400, .inl s_codeArg)), (a3, .inl (E.2 0, 240, .inl s_codeFrom)), (a4, .inl (E.2 0, 30, .inl s_found)), (a5, .inl (E.2 2, 200, .inl isRefused__164)), (a6, .inl (E.2 0, 20, .inl s_many)), (a7, .inl (E.2 0, 30, .inl s_nightDay)), (a8, .inl (E.2 0, 240, .inl s_sumFrom)), (a9, .inl (E.2 0, 200, .inl worth__165))] → lv_has ls 7 [(0, .ref a0), (1, .int p1), (2, .int p2), (3, .int x3_86), (4, .int x4_148), (5, .int x5_149), (6, .int x6_150)] → W p l e r_X12_told s m args below meth c H locs 0 0 Q (F0 m 38 ls []) := by
              intro n38
              induction n38 with
              | zero =>
                intro x4_148 x5_149 x6_150 atA__151 atB__152 atD__153 atF__154 atG__155 atH__156 atL__157 atM__158 atN__159 atS__160 atT__161 atU__162 atX__163 isRefused__164 worth__165 H locs ls hB38 hVB38 hlB38
                rw [f_X12_told_L38] at hB38
                exact nomatch hB38
              | succ n38 ih38 =>
                intro x4_148 x5_149 x6_150 atA__151 atB__152 atD__153 atF__154 atG__155 atH__156 atL__157 atM__158 atN__159 atS__160 atT__161 atU__162 atX__163 isRefused__164 worth__165 H locs ls hB38 hVB38 hlB38
                rw [f_X12_told_L38] at hB38
                refine lv_iload hx hb dX12_told_38 (lv_at hlB38 6 rfl) ?_
                refine lv_bipush (v := 6) hx hb dX12_told_40 (by decide) ?_
                refine lv_icmp_ge (tgt := 81) hx hb dX12_told_42 (by decide) (fun c166 => ?_) (fun c166 => ?_)
                · have h167 := itS c166 hB38
                  clear hB38 c166
                  exact J81 x4_148 x5_149 atA__151 atB__152 atD__153 atF__154 atG__155 atH__156 atL__157 atM__158 atN__159 atS__160 atT__161 atU__162 atX__163 isRefused__164 worth__165 _ _ _ h167 hVB38 (lv_sub hlB38 [0, 1, 2, 3, 4, 5] rfl)
                · have h168 := ieS c166 hB38
                  clear hB38 c166
                  refine lv_aload_n hx hb dX12_told_45 rfl (lv_at hlB38 0 rfl) ?_
                  refine lv_iload hx hb dX12_told_46 (lv_at hlB38 6 rfl) ?_
                  obtain ⟨r48_169, hc170, h171⟩ := cb1_s h168
                  clear h168
                  refine kgoiE (krunV (rest := []) X hVB38 [0, 6] (c_X12_isTold l E _ a0 a6 (w0_0) (w0_1) (w0_2) (w0_3) (w0_4) (w0_5) (.int s_nights) (.ref a8) (.ref a3) (w0_10) (.ref a1) (.ref a2) (w0_13) (w0_14) (w0_15) (w0_16) (w0_17) (w0_18) (w0_19) (w0_20) (w0_21) (w0_22) (w0_23) (w0_24) (w0_25) (w0_26) (w0_27) (.int atA__151) (.int atB__152) (.int atD__153) (.int atF__154) (.int atG__155) (.int atH__156) (.int atL__157) (.int atM__158) (.int atN__159) (.int atS__160) (.int atT__161) (.int atU__162) (.int atX__163) (.ref a9) (.ref a5) (w0_43) (w0_44) (w0_45) (w0_46) (w0_47) (w0_48) (w0_49) (w0_50) (w0_51) (w0_52) (w0_53) (w0_54) (w0_55) (w0_56) (w0_57) (w0_58) (w0_59) (w0_60) (w0_61) (w0_62) (.ref a7) (.ref a4) (w0_65) (w0_66) s_many x6_150 r48_169 hc170) mw_1130 kb_X12_isTold (ci := 12) rfl rfl (by decide) rfl rfl hlB38.1 rfl (Nat.le_of_ble_eq_true rfl) dX12_told_48 (by decide)) X hVB38 [0, 6] [1, 2, 3, 4, 5, 7, 8, 9] rfl rfl rfl (by decide) (fun u H locs hV172 => ?_)
                  have hV172 : kV E A s.heap H locs [(a0, .inr (12, [w0_0, w0_1, w0_2, w0_3, w0_4, w0_5, .int s_nights, .ref a6, .ref a8, .ref a3, w0_10, .ref a1, .ref a2, w0_13, w0_14, w0_15, w0_16, w0_17, w0_18, w0_19, w0_20, w0_21, w0_22, w0_23, w0_24, w0_25, w0_26, w0_27, .int atA__151, .int atB__152, .int atD__153, .int atF__154, .int atG__155, .int atH__156, .int atL__157, .int atM__158, .int atN__159, .int atS__160, .int atT__161, .int atU__162, .int atX__163, .ref a9, .ref a5, w0_43, w0_44, w0_45, w0_46, w0_47, w0_48, w0_49, w0_50, w0_51, w0_52, w0_53, w0_54, w0_55, w0_56, w0_57, w0_58, w0_59, w0_60, w0_61, w0_62, .ref a7, .ref a4, w0_65, w0_66])), (a1, .inl (E.2 0, 2400, .inl s_code)), (a2, .inl (E.2 0, 2400, .inl s_codeArg)), (a3, .inl (E.2 0, 240, .inl s_codeFrom)), (a4, .inl (E.2 0, 30, .inl s_found)), (a5, .inl (E.2 2, 200, .inl isRefused__164)), (a6, .inl (E.2 0, 20, .inl s_many)), (a7, .inl (E.2 0, 30, .inl s_nightDay)), (a8, .inl (E.2 0, 240, .inl s_sumFrom)), (a9, .inl (E.2 0, 200, .inl worth__165))] := hV172.sub [8, 0, 1, 2, 3, 4, 9, 5, 6, 7] rfl rfl
                  clear hVB38
                  refine lv_if_eq (tgt := 75) hx hb dX12_told_51 (by decide) (fun c174 => ?_) (fun c174 => ?_)
                  · have h175 := itS c174 h171
                    clear h171 c174
                    obtain ⟨v75_177, e178, h179⟩ := nmI_s h175
                    clear h175
                    refine lv_iinc (v := v75_177) (lv' := [(6, .int v75_177), (0, .ref a0), (1, .int p1), (2, .int p2), (3, .int x3_86), (4, .int x4_148), (5, .int x5_149)]) hx hb dX12_told_75 hlB38 (k := 6) rfl (by rw [e178]; rfl) (by decide) rfl (fun ls hl180 => ?_)
                    clear hlB38 e178
                    refine lv_goto (tgt := 38) hx hb dX12_told_78 (by decide) ?_
                    exact ih38 x4_148 x5_149 v75_177 atA__151 atB__152 atD__153 atF__154 atG__155 atH__156 atL__157 atM__158 atN__159 atS__160 atT__161 atU__162 atX__163 isRefused__164 worth__165 _ _ _ h179 hV172 (lv_sub hl180 [1, 2, 3, 4, 5, 6, 0] rfl)
                  · have h176 := ieS c174 h171
                    clear h171 c174
                    refine lv_aload_n hx hb dX12_told_54 rfl (lv_at hlB38 0 rfl) ?_
                    refine lv_iload hx hb dX12_told_55 (lv_at hlB38 6 rfl) ?_
                    refine lv_iload_n hx hb dX12_told_57 rfl (lv_at hlB38 1 rfl) ?_
                    obtain ⟨r58_181, o_atA58_182, o_atB58_183, o_atD58_184, o_atF58_185, o_atG58_186, o_atH58_187, o_atL58_188, o_atM58_189, o_atN58_190, o_atS58_191, o_atT58_192, o_atU58_193, o_atX58_194, o_isRefused58_195, o_worth58_196, hc197, h198⟩ := cb16_s h176
                    clear h176
                    refine kgoiE (krunV (rest := []) X hV172 [0, 1, 2, 3, 4, 5, 7, 8, 9] (c_X12_fallsAt l E _ a0 a1 a2 a3 a4 a5 a7 a8 a9 (w0_0) (w0_1) (w0_2) (w0_3) (w0_4) (w0_5) (.ref a6) (w0_10) (w0_13) (w0_14) (w0_15) (w0_16) (w0_17) (w0_18) (w0_19) (w0_20) (w0_21) (w0_22) (w0_23) (w0_24) (w0_25) (w0_26) (w0_27) (w0_43) (w0_44) (w0_45) (w0_46) (w0_47) (w0_48) (w0_49) (w0_50) (w0_51) (w0_52) (w0_53) (w0_54) (w0_55) (w0_56) (w0_57) (w0_58) (w0_59) (w0_60) (w0_61) (w0_62) (w0_65) (w0_66) s_nights atA__151 atB__152 atD__153 atF__154 atG__155 atH__156 atL__157 atM__158 atN__159 atS__160 atT__161 atU__162 atX__163 s_code s_codeArg s_codeFrom s_found isRefused__164 s_nightDay s_sumFrom worth__165 x6_150 p1 r58_181 o_atA58_182 o_atB58_183 o_atD58_184 o_atF58_185 o_atG58_186 o_atH58_187 o_atL58_188 o_atM58_189 o_atN58_190 o_atS58_191 o_atT58_192 o_atU58_193 o_atX58_194 o_isRefused58_195 o_worth58_196 hc197) mw_1164 kb_X12_fallsAt (ci := 12) rfl rfl (by decide) rfl rfl hlB38.1 rfl (Nat.le_of_ble_eq_true rfl) dX12_told_58 (by decide)) X hV172 [0, 1, 2, 3, 4, 5, 7, 8, 9] [6] rfl rfl rfl (by decide) (fun u H locs hV199 => ?_)
                    have hV199 : kV E A s.heap H locs [(a0, .inr (12, [w0_0, w0_1, w0_2, w0_3, w0_4, w0_5, .int s_nights, .ref a6, .ref a8, .ref a3, w0_10, .ref a1, .ref a2, w0_13, w0_14, w0_15, w0_16, w0_17, w0_18, w0_19, w0_20, w0_21, w0_22, w0_23, w0_24, w0_25, w0_26, w0_27, .int o_atA58_182, .int o_atB58_183, .int o_atD58_184, .int o_atF58_185, .int o_atG58_186, .int o_atH58_187, .int o_atL58_188, .int o_atM58_189, .int o_atN58_190, .int o_atS58_191, .int o_atT58_192, .int o_atU58_193, .int o_atX58_194, .ref a9, .ref a5, w0_43, w0_44, w0_45, w0_46, w0_47, w0_48, w0_49, w0_50, w0_51, w0_52, w0_53, w0_54, w0_55, w0_56, w0_57, w0_58, w0_59, w0_60, w0_61, w0_62, .ref a7, .ref a4, w0_65, w0_66])), (a1, .inl (E.2 0, 2400, .inl s_code)), (a2, .inl (E.2 0, 2400, .inl s_codeArg)), (a3, .inl (E.2 0, 240, .inl s_codeFrom)), (a4, .inl (E.2 0, 30, .inl s_found)), (a5, .inl (E.2 2, 200, .inl o_isRefused58_195)), (a6, .inl (E.2 0, 20, .inl s_many)), (a7, .inl (E.2 0, 30, .inl s_nightDay)), (a8, .inl (E.2 0, 240, .inl s_sumFrom)), (a9, .inl (E.2 0, 200, .inl o_worth58_196))] := hV199.sub [1, 2, 3, 4, 5, 6, 0, 7, 8, 9] rfl rfl
                    clear hV172
                    refine lv_iload_n hx hb dX12_told_61 rfl (lv_at hlB38 3 rfl) ?_
                    refine lv_icmp_gt (tgt := 68) hx hb dX12_told_62 (by decide) (fun c201 => ?_) (fun c201 => ?_)
                    · have h202 := itS c201 h198
                      clear h198 c201
                      obtain ⟨v68_204, e205, h206⟩ := nmI_s h202
                      clear h202
                      refine lv_iinc (v := v68_204) (lv' := [(4, .int v68_204), (0, .ref a0), (1, .int p1), (2, .int p2), (3, .int x3_86), (5, .int x5_149), (6, .int x6_150)]) hx hb dX12_told_68 hlB38 (k := 4) rfl (by rw [e205]; rfl) (by decide) rfl (fun ls hl207 => ?_)
                      clear hlB38 e205
                      refine lv_iload hx hb dX12_told_71 (lv_at hl207 6 rfl) ?_
                      refine lv_istore (lv' := [(5, .int x6_150), (4, .int v68_204), (0, .ref a0), (1, .int p1), (2, .int p2), (3, .int x3_86), (6, .int x6_150)]) hx hb dX12_told_73 hl207 (by decide) rfl (fun ls hl208 => ?_)
                      clear hl207
                      obtain ⟨v75_209, e210, h211⟩ := nmI_s h206
                      clear h206
                      refine lv_iinc (v := v75_209) (lv' := [(6, .int v75_209), (5, .int x6_150), (4, .int v68_204), (0, .ref a0), (1, .int p1), (2, .int p2), (3, .int x3_86)]) hx hb dX12_told_75 hl208 (k := 6) rfl (by rw [e210]; rfl) (by decide) rfl (fun ls hl212 => ?_)
                      clear hl208 e210
                      refine lv_goto (tgt := 38) hx hb dX12_told_78 (by decide) ?_
                      exact ih38 v68_204 x6_150 v75_209 o_atA58_182 o_atB58_183 o_atD58_184 o_atF58_185 o_atG58_186 o_atH58_187 o_atL58_188 o_atM58_189 o_atN58_190 o_atS58_191 o_atT58_192 o_atU58_193 o_atX58_194 o_isRefused58_195 o_worth58_196 _ _ _ h211 hV199 (lv_sub hl212 [3, 4, 5, 6, 2, 1, 0] rfl)
                    · have h203 := ieS c201 h198
                      clear h198 c201
                      refine lv_goto (tgt := 75) hx hb dX12_told_65 (by decide) ?_
                      obtain ⟨v75_213, e214, h215⟩ := nmI_s h203
                      clear h203
                      refine lv_iinc (v := v75_213) (lv' := [(6, .int v75_213), (0, .ref a0), (1, .int p1), (2, .int p2), (3, .int x3_86), (4, .int x4_148), (5, .int x5_149)]) hx hb dX12_told_75 hlB38 (k := 6) rfl (by rw [e214]; rfl) (by decide) rfl (fun ls hl216 => ?_)
                      clear hlB38 e214
                      refine lv_goto (tgt := 38) hx hb dX12_told_78 (by decide) ?_
                      exact ih38 x4_148 x5_149 v75_213 o_atA58_182 o_atB58_183 o_atD58_184 o_atF58_185 o_atG58_186 o_atH58_187 o_atL58_188 o_atM58_189 o_atN58_190 o_atS58_191 o_atT58_192 o_atU58_193 o_atX58_194 o_isRefused58_195 o_worth58_196 _ _ _ h215 hV199 (lv_sub hl216 [1, 2, 3, 4, 5, 6, 0] rfl)
            exact L38 FU 0 (-1) 0 atA__87 atB__88 atD__89 atF__90 atG__91 atH__92 atL__93 atM__94 atN__95 atS__96 atT__97 atU__98 atX__99 isRefused__100 worth__101 _ _ _ h104 hVB21 (lv_sub hl123 [3, 4, 5, 6, 2, 1, 0] rfl)
      exact L21 FU 0 s_atA s_atB s_atD s_atF s_atG s_atH s_atL s_atM s_atN s_atS s_atT s_atU s_atX s_isRefused s_worth _ _ _ h31 hV28 (lv_sub hl33 [1, 2, 3, 0] rfl)
    · have h32 := itS c30 h27
      clear h27 c30
      refine lv_iconst (v := (-1)) hx hb dX12_told_17 (by decide) ?_
      obtain ⟨q217, q218, q219, q220, q221, q222, q223, q224, q225, q226, q227, q228, q229, q230, q231, q232⟩ := tup16_s h32
      clear h32
      exact hret _ () _ _ _ _ q217 rfl (by rw [← q218, ← q219, ← q220, ← q221, ← q222, ← q223, ← q224, ← q225, ← q226, ← q227, ← q228, ← q229, ← q230, ← q231, ← q232]; exact hV28) dX12_told_18
