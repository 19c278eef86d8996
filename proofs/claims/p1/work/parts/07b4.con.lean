abbrev r_X12_there : Room := { frames := 1, cells := 0, slots := 0, locals := 25 }
set_option maxHeartbeats 4000000 in
set_option maxRecDepth 100000 in
theorem c_X12_there (l : Launch) (E : kE) (sz : Nat) (a0 a1 : Nat) (w0_0 w0_1 w0_2 w0_3 w0_4 w0_5 w0_6 w0_7 w0_8 w0_9 w0_10 w0_11 w0_12 w0_13 w0_14 w0_15 w0_16 w0_17 w0_18 w0_19 w0_20 w0_21 w0_22 w0_23 w0_24 w0_25 w0_26 w0_27 w0_28 w0_29 w0_30 w0_31 w0_32 w0_33 w0_34 w0_35 w0_36 w0_37 w0_38 w0_39 w0_40 w0_41 w0_42 w0_43 w0_44 w0_45 w0_46 w0_47 w0_48 w0_49 w0_50 w0_51 w0_52 w0_53 w0_54 w0_55 w0_56 w0_57 w0_58 w0_59 w0_60 w0_61 w0_62 w0_63 w0_64 w0_66 : Value) (s_ten : Nat → Int32) (p1 : Int32) (p2 : Int32) (r : Int32) (o_ten : Nat → Int32) (h : f_X12_there s_ten p1 p2 = some (r, o_ten)) : kMi l yX12_there cX12_there 3 (some .boolean) r_X12_there [.ref a0, .int p1, .int p2] E [(a0, .inr (12, [w0_0, w0_1, w0_2, w0_3, w0_4, w0_5, w0_6, w0_7, w0_8, w0_9, w0_10, w0_11, w0_12, w0_13, w0_14, w0_15, w0_16, w0_17, w0_18, w0_19, w0_20, w0_21, w0_22, w0_23, w0_24, w0_25, w0_26, w0_27, w0_28, w0_29, w0_30, w0_31, w0_32, w0_33, w0_34, w0_35, w0_36, w0_37, w0_38, w0_39, w0_40, w0_41, w0_42, w0_43, w0_44, w0_45, w0_46, w0_47, w0_48, w0_49, w0_50, w0_51, w0_52, w0_53, w0_54, w0_55, w0_56, w0_57, w0_58, w0_59, w0_60, w0_61, w0_62, w0_63, w0_64, .ref a1, w0_66])), (a1, .inl (E.2 0, 40, .inl s_ten))] sz 0 0 (fun x (_ : Unit) => x = r) (fun _ => [(a0, .inr (12, [w0_0, w0_1, w0_2, w0_3, w0_4, w0_5, w0_6, w0_7, w0_8, w0_9, w0_10, w0_11, w0_12, w0_13, w0_14, w0_15, w0_16, w0_17, w0_18, w0_19, w0_20, w0_21, w0_22, w0_23, w0_24, w0_25, w0_26, w0_27, w0_28, w0_29, w0_30, w0_31, w0_32, w0_33, w0_34, w0_35, w0_36, w0_37, w0_38, w0_39, w0_40, w0_41, w0_42, w0_43, w0_44, w0_45, w0_46, w0_47, w0_48, w0_49, w0_50, w0_51, w0_52, w0_53, w0_54, w0_55, w0_56, w0_57, w0_58, w0_59, w0_60, w0_61, w0_62, w0_63, w0_64, .ref a1, w0_66])), (a1, .inl (E.2 0, 40, .inl o_ten))]) := by
  refine kmeti rfl (Nat.le_of_ble_eq_true rfl) ?_
  intro p e s m args below meth c ls A Q X hV hret hl
  have X : kC p s m c cX12_there 3 RX12 args E A := X
  have hx := X.1
  have hb := X.2.1
  have hl : lv_has ls 3 [(0, .ref a0), (1, .int p1), (2, .int p2)] := hl
  rw [f_X12_there] at h
  refine lv_iload_n hx hb dX12_there_0 rfl (lv_at hl 1 rfl) ?_
  refine lv_i2l (v := Int32.toInt64 p1) hx hb dX12_there_1 rfl ?_
  refine lv_lconst (v := 0) hx hb dX12_there_2 (by decide) ?_
  refine lv_ldc2 (v := 39) hx hb X.2.2.2.1 (X.2.2.2.2.1 _ mw_1221) dX12_there_3 ?_
  obtain ⟨r6_1, hc2, h3⟩ := cb1_s h
  clear h
  refine kgoiE (krunS (rest := []) X hV [] (c_X12_lies l E _ (Int32.toInt64 p1) 0 39 r6_1 hc2) mw_224 kb_X12_lies (by decide) rfl rfl hl.1 rfl (Nat.le_of_ble_eq_true rfl) dX12_there_6 (by decide)) X hV [] [0, 1] rfl rfl rfl (by decide) (fun u H locs hV4 => ?_)
  have hV4 : kV E A s.heap H locs [(a0, .inr (12, [w0_0, w0_1, w0_2, w0_3, w0_4, w0_5, w0_6, w0_7, w0_8, w0_9, w0_10, w0_11, w0_12, w0_13, w0_14, w0_15, w0_16, w0_17, w0_18, w0_19, w0_20, w0_21, w0_22, w0_23, w0_24, w0_25, w0_26, w0_27, w0_28, w0_29, w0_30, w0_31, w0_32, w0_33, w0_34, w0_35, w0_36, w0_37, w0_38, w0_39, w0_40, w0_41, w0_42, w0_43, w0_44, w0_45, w0_46, w0_47, w0_48, w0_49, w0_50, w0_51, w0_52, w0_53, w0_54, w0_55, w0_56, w0_57, w0_58, w0_59, w0_60, w0_61, w0_62, w0_63, w0_64, .ref a1, w0_66])), (a1, .inl (E.2 0, 40, .inl s_ten))] := hV4.sub [0, 1] rfl rfl
  clear hV
  refine lv_if_eq (tgt := 24) hx hb dX12_there_9 (by decide) (fun c6 => ?_) (fun c6 => ?_)
  · have h7 := itS c6 h3
    clear h3 c6
    refine lv_iconst (v := 0) hx hb dX12_there_24 (by decide) ?_
    cases h7
    exact hret _ () _ _ _ _ rfl rfl hV4 dX12_there_25
  · have h8 := ieS c6 h3
    clear h3 c6
    refine lv_iload_n hx hb dX12_there_12 rfl (lv_at hl 2 rfl) ?_
    refine lv_i2l (v := Int32.toInt64 p2) hx hb dX12_there_13 rfl ?_
    refine lv_lconst (v := 0) hx hb dX12_there_14 (by decide) ?_
    refine lv_ldc2 (v := 10) hx hb X.2.2.2.1 (X.2.2.2.2.1 _ mw_1222) dX12_there_15 ?_
    obtain ⟨r18_9, hc10, h11⟩ := cb1_s h8
    clear h8
    refine kgoiE (krunS (rest := []) X hV4 [] (c_X12_lies l E _ (Int32.toInt64 p2) 0 10 r18_9 hc10) mw_224 kb_X12_lies (by decide) rfl rfl hl.1 rfl (Nat.le_of_ble_eq_true rfl) dX12_there_18 (by decide)) X hV4 [] [0, 1] rfl rfl rfl (by decide) (fun u H locs hV12 => ?_)
    have hV12 : kV E A s.heap H locs [(a0, .inr (12, [w0_0, w0_1, w0_2, w0_3, w0_4, w0_5, w0_6, w0_7, w0_8, w0_9, w0_10, w0_11, w0_12, w0_13, w0_14, w0_15, w0_16, w0_17, w0_18, w0_19, w0_20, w0_21, w0_22, w0_23, w0_24, w0_25, w0_26, w0_27, w0_28, w0_29, w0_30, w0_31, w0_32, w0_33, w0_34, w0_35, w0_36, w0_37, w0_38, w0_39, w0_40, w0_41, w0_42, w0_43, w0_44, w0_45, w0_46, w0_47, w0_48, w0_49, w0_50, w0_51, w0_52, w0_53, w0_54, w0_55, w0_56, w0_57, w0_58, w0_59, w0_60, w0_61, w0_62, w0_63, w0_64, .ref a1, w0_66])), (a1, .inl (E.2 0, 40, .inl s_ten))] := hV12.sub [0, 1] rfl rfl
    clear hV4
    refine lv_if_ne (tgt := 26) hx hb dX12_there_21 (by decide) (fun c14 => ?_) (fun c14 => ?_)
    · have h15 := ieS c14 h11
      clear h11 c14
      refine lv_aload_n hx hb dX12_there_26 rfl (lv_at hl 0 rfl) ?_
      refine kget X hV12 (ci := 12) inlX12 rfl 0 rfl 65 (by decide) mw_174 rfl dX12_there_27 ?_
      refine lv_iload_n hx hb dX12_there_30 rfl (lv_at hl 1 rfl) ?_
      refine lv_iload_n hx hb dX12_there_31 rfl (lv_at hl 2 rfl) ?_
      obtain ⟨hi18, g32_17, e19, h20⟩ := wrI_s h15
      clear h15
      refine kiast X hV12 1 rfl hi18 e19 dX12_there_32 (fun H locs hV21 => ?_)
      have hV21 : kV E A s.heap H locs [(a0, .inr (12, [w0_0, w0_1, w0_2, w0_3, w0_4, w0_5, w0_6, w0_7, w0_8, w0_9, w0_10, w0_11, w0_12, w0_13, w0_14, w0_15, w0_16, w0_17, w0_18, w0_19, w0_20, w0_21, w0_22, w0_23, w0_24, w0_25, w0_26, w0_27, w0_28, w0_29, w0_30, w0_31, w0_32, w0_33, w0_34, w0_35, w0_36, w0_37, w0_38, w0_39, w0_40, w0_41, w0_42, w0_43, w0_44, w0_45, w0_46, w0_47, w0_48, w0_49, w0_50, w0_51, w0_52, w0_53, w0_54, w0_55, w0_56, w0_57, w0_58, w0_59, w0_60, w0_61, w0_62, w0_63, w0_64, .ref a1, w0_66])), (a1, .inl (E.2 0, 40, .inl g32_17))] := hV21
      clear hV12 hi18 e19
      refine lv_iconst (v := 1) hx hb dX12_there_33 (by decide) ?_
      cases h20
      exact hret _ () _ _ _ _ rfl rfl hV21 dX12_there_34
    · have h16 := itS c14 h11
      clear h11 c14
      refine lv_iconst (v := 0) hx hb dX12_there_24 (by decide) ?_
      cases h16
      exact hret _ () _ _ _ _ rfl rfl hV12 dX12_there_25
abbrev r_X12_leastAt : Room := { frames := 0, cells := 0, slots := 0, locals := 0 }
set_option maxHeartbeats 4000000 in
set_option maxRecDepth 100000 in
theorem c_X12_leastAt (l : Launch) (E : kE) (sz : Nat) (a0 a1 : Nat) (w0_0 w0_1 w0_2 w0_3 w0_4 w0_5 w0_6 w0_7 w0_8 w0_9 w0_10 w0_11 w0_12 w0_13 w0_14 w0_15 w0_16 w0_17 w0_18 w0_19 w0_20 w0_21 w0_22 w0_23 w0_24 w0_25 w0_26 w0_27 w0_28 w0_29 w0_30 w0_31 w0_32 w0_33 w0_34 w0_35 w0_36 w0_37 w0_38 w0_39 w0_40 w0_41 w0_42 w0_43 w0_44 w0_45 w0_46 w0_47 w0_48 w0_49 w0_50 w0_51 w0_52 w0_53 w0_54 w0_55 w0_56 w0_57 w0_58 w0_59 w0_60 w0_61 w0_62 w0_63 w0_64 w0_65 : Value) (s_leastFrom : Nat → Int32) (p1 : Int32) (p2 : Int32) (r : Int32) (h : f_X12_leastAt s_leastFrom p1 p2 = some (r)) : kMi l yX12_leastAt cX12_leastAt 3 (some .int) r_X12_leastAt [.ref a0, .int p1, .int p2] E [(a0, .inr (12, [w0_0, w0_1, w0_2, w0_3, w0_4, w0_5, w0_6, w0_7, w0_8, w0_9, w0_10, w0_11, w0_12, w0_13, w0_14, w0_15, w0_16, w0_17, w0_18, w0_19, w0_20, w0_21, w0_22, w0_23, w0_24, w0_25, w0_26, w0_27, w0_28, w0_29, w0_30, w0_31, w0_32, w0_33, w0_34, w0_35, w0_36, w0_37, w0_38, w0_39, w0_40, w0_41, w0_42, w0_43, w0_44, w0_45, w0_46, w0_47, w0_48, w0_49, w0_50, w0_51, w0_52, w0_53, w0_54, w0_55, w0_56, w0_57, w0_58, w0_59, w0_60, w0_61, w0_62, w0_63, w0_64, w0_65, .ref a1])), (a1, .inl (E.2 0, 371, .inl s_leastFrom))] sz 0 0 (fun x (_ : Unit) => x = r) (fun _ => [(a0, .inr (12, [w0_0, w0_1, w0_2, w0_3, w0_4, w0_5, w0_6, w0_7, w0_8, w0_9, w0_10, w0_11, w0_12, w0_13, w0_14, w0_15, w0_16, w0_17, w0_18, w0_19, w0_20, w0_21, w0_22, w0_23, w0_24, w0_25, w0_26, w0_27, w0_28, w0_29, w0_30, w0_31, w0_32, w0_33, w0_34, w0_35, w0_36, w0_37, w0_38, w0_39, w0_40, w0_41, w0_42, w0_43, w0_44, w0_45, w0_46, w0_47, w0_48, w0_49, w0_50, w0_51, w0_52, w0_53, w0_54, w0_55, w0_56, w0_57, w0_58, w0_59, w0_60, w0_61, w0_62, w0_63, w0_64, w0_65, .ref a1])), (a1, .inl (E.2 0, 371, .inl s_leastFrom))]) := by
  refine kmeti rfl (Nat.le_of_ble_eq_true rfl) ?_
  intro p e s m args below meth c ls A Q X hV hret hl
  have X : kC p s m c cX12_leastAt 3 RX12 args E A := X
  have hx := X.1
  have hb := X.2.1
  have hl : lv_has ls 3 [(0, .ref a0), (1, .int p1), (2, .int p2)] := hl
  rw [f_X12_leastAt] at h
  refine lv_iload_n hx hb dX12_leastAt_0 rfl (lv_at hl 2 rfl) ?_
  refine lv_bipush (v := 40) hx hb dX12_leastAt_1 (by decide) ?_
  refine lv_icmp_le (tgt := 18) hx hb dX12_leastAt_3 (by decide) (fun c1 => ?_) (fun c1 => ?_)
  · have h2 := itS c1 h
    clear h c1
    refine lv_aload_n hx hb dX12_leastAt_18 rfl (lv_at hl 0 rfl) ?_
    refine kget X hV (ci := 12) inlX12 rfl 0 rfl 66 (by decide) mw_175 rfl dX12_leastAt_19 ?_
    refine lv_bipush (v := 53) hx hb dX12_leastAt_22 (by decide) ?_
    refine lv_iload_n hx hb dX12_leastAt_24 rfl (lv_at hl 1 rfl) ?_
    refine lv_imul hx hb dX12_leastAt_25 ?_
    refine lv_iload_n hx hb dX12_leastAt_26 rfl (lv_at hl 2 rfl) ?_
    refine lv_iadd hx hb dX12_leastAt_27 ?_
    obtain ⟨hi5, v28_4, e6, h7⟩ := rdI_s h2
    clear h2
    refine kiald X hV 1 rfl hi5 e6 dX12_leastAt_28 ?_
    clear hi5 e6
    cases h7
    exact hret _ () _ _ _ _ rfl rfl hV dX12_leastAt_29
  · have h3 := ieS c1 h
    clear h c1
    refine lv_iload_n hx hb dX12_leastAt_6 rfl (lv_at hl 1 rfl) ?_
    refine lv_if_ne (tgt := 14) hx hb dX12_leastAt_7 (by decide) (fun c8 => ?_) (fun c8 => ?_)
    · have h9 := ieS c8 h3
      clear h3 c8
      refine lv_iconst (v := (-1)) hx hb dX12_leastAt_14 (by decide) ?_
      refine lv_goto (tgt := 29) hx hb dX12_leastAt_15 (by decide) ?_
      cases h9
      exact hret _ () _ _ _ _ rfl rfl hV dX12_leastAt_29
    · have h10 := itS c8 h3
      clear h3 c8
      refine lv_iconst (v := 1) hx hb dX12_leastAt_10 (by decide) ?_
      refine lv_goto (tgt := 29) hx hb dX12_leastAt_11 (by decide) ?_
      cases h10
      exact hret _ () _ _ _ _ rfl rfl hV dX12_leastAt_29
abbrev r_X12_pen : Room := { frames := 1, cells := 0, slots := 0, locals := 25 }
set_option maxHeartbeats 4000000 in
set_option maxRecDepth 100000 in
theorem c_X12_pen (l : Launch) (E : kE) (sz : Nat) (a0 a1 a2 : Nat) (w0_0 w0_1 w0_2 w0_3 w0_4 w0_5 w0_6 w0_7 w0_8 w0_9 w0_10 w0_11 w0_12 w0_13 w0_14 w0_15 w0_16 w0_17 w0_18 w0_19 w0_20 w0_21 w0_22 w0_23 w0_24 w0_25 w0_26 w0_27 w0_28 w0_29 w0_30 w0_31 w0_32 w0_33 w0_34 w0_35 w0_36 w0_37 w0_38 w0_39 w0_40 w0_41 w0_42 w0_43 w0_44 w0_45 w0_46 w0_47 w0_48 w0_49 w0_50 w0_51 w0_52 w0_53 w0_54 w0_55 w0_56 w0_57 w0_58 w0_59 w0_60 w0_61 w0_62 w0_63 w0_64 : Value) (s_leastFrom : Nat → Int32) (s_ten : Nat → Int32) (p1 : Int32) (p2 : Int32) (p3 : Int32) (r : Int32) (o_leastFrom : Nat → Int32) (h : f_X12_pen s_leastFrom s_ten p1 p2 p3 = some (r, o_leastFrom)) : kMi l yX12_pen cX12_pen 9 (some .int) r_X12_pen [.ref a0, .int p1, .int p2, .int p3] E [(a0, .inr (12, [w0_0, w0_1, w0_2, w0_3, w0_4, w0_5, w0_6, w0_7, w0_8, w0_9, w0_10, w0_11, w0_12, w0_13, w0_14, w0_15, w0_16, w0_17, w0_18, w0_19, w0_20, w0_21, w0_22, w0_23, w0_24, w0_25, w0_26, w0_27, w0_28, w0_29, w0_30, w0_31, w0_32, w0_33, w0_34, w0_35, w0_36, w0_37, w0_38, w0_39, w0_40, w0_41, w0_42, w0_43, w0_44, w0_45, w0_46, w0_47, w0_48, w0_49, w0_50, w0_51, w0_52, w0_53, w0_54, w0_55, w0_56, w0_57, w0_58, w0_59, w0_60, w0_61, w0_62, w0_63, w0_64, .ref a2, .ref a1])), (a1, .inl (E.2 0, 371, .inl s_leastFrom)), (a2, .inl (E.2 0, 40, .inl s_ten))] sz 0 0 (fun x (_ : Unit) => x = r) (fun _ => [(a0, .inr (12, [w0_0, w0_1, w0_2, w0_3, w0_4, w0_5, w0_6, w0_7, w0_8, w0_9, w0_10, w0_11, w0_12, w0_13, w0_14, w0_15, w0_16, w0_17, w0_18, w0_19, w0_20, w0_21, w0_22, w0_23, w0_24, w0_25, w0_26, w0_27, w0_28, w0_29, w0_30, w0_31, w0_32, w0_33, w0_34, w0_35, w0_36, w0_37, w0_38, w0_39, w0_40, w0_41, w0_42, w0_43, w0_44, w0_45, w0_46, w0_47, w0_48, w0_49, w0_50, w0_51, w0_52, w0_53, w0_54, w0_55, w0_56, w0_57, w0_58, w0_59, w0_60, w0_61, w0_62, w0_63, w0_64, .ref a2, .ref a1])), (a1, .inl (E.2 0, 371, .inl o_leastFrom)), (a2, .inl (E.2 0, 40, .inl s_ten))]) := by
  refine kmeti rfl (Nat.le_of_ble_eq_true rfl) ?_
  intro p e s m args below meth c ls A Q X hV hret hl
  have X : kC p s m c cX12_pen 9 RX12 args E A := X
  have hx := X.1
  have hb := X.2.1
  have hl : lv_has ls 9 [(0, .ref a0), (1, .int p1), (2, .int p2), (3, .int p3)] := hl
  rw [f_X12_pen] at h
  refine lv_iload_n hx hb dX12_pen_0 rfl (lv_at hl 1 rfl) ?_
  refine lv_i2l (v := Int32.toInt64 p1) hx hb dX12_pen_1 rfl ?_
  refine lv_lconst (v := 1) hx hb dX12_pen_2 (by decide) ?_
  refine lv_ldc2 (v := 6) hx hb X.2.2.2.1 (X.2.2.2.2.1 _ mw_1250) dX12_pen_3 ?_
  obtain ⟨r6_1, hc2, h3⟩ := cb1_s h
  clear h
  refine kgoiE (krunS (rest := []) X hV [] (c_X12_lies l E _ (Int32.toInt64 p1) 1 6 r6_1 hc2) mw_224 kb_X12_lies (by decide) rfl rfl hl.1 rfl (Nat.le_of_ble_eq_true rfl) dX12_pen_6 (by decide)) X hV [] [0, 1, 2] rfl rfl rfl (by decide) (fun u H locs hV4 => ?_)
  have hV4 : kV E A s.heap H locs [(a0, .inr (12, [w0_0, w0_1, w0_2, w0_3, w0_4, w0_5, w0_6, w0_7, w0_8, w0_9, w0_10, w0_11, w0_12, w0_13, w0_14, w0_15, w0_16, w0_17, w0_18, w0_19, w0_20, w0_21, w0_22, w0_23, w0_24, w0_25, w0_26, w0_27, w0_28, w0_29, w0_30, w0_31, w0_32, w0_33, w0_34, w0_35, w0_36, w0_37, w0_38, w0_39, w0_40, w0_41, w0_42, w0_43, w0_44, w0_45, w0_46, w0_47, w0_48, w0_49, w0_50, w0_51, w0_52, w0_53, w0_54, w0_55, w0_56, w0_57, w0_58, w0_59, w0_60, w0_61, w0_62, w0_63, w0_64, .ref a2, .ref a1])), (a1, .inl (E.2 0, 371, .inl s_leastFrom)), (a2, .inl (E.2 0, 40, .inl s_ten))] := hV4.sub [0, 1, 2] rfl rfl
  clear hV
  refine lv_if_eq (tgt := 53) hx hb dX12_pen_9 (by decide) (fun c6 => ?_) (fun c6 => ?_)
  · have h7 := itS c6 h3
    clear h3 c6
    refine lv_iconst (v := (-1)) hx hb dX12_pen_53 (by decide) ?_
    cases h7
    exact hret _ () _ _ _ _ rfl rfl hV4 dX12_pen_54
  · have h8 := ieS c6 h3
    clear h3 c6
    refine lv_iload_n hx hb dX12_pen_12 rfl (lv_at hl 2 rfl) ?_
    refine lv_i2l (v := Int32.toInt64 p2) hx hb dX12_pen_13 rfl ?_
    refine lv_lconst (v := 1) hx hb dX12_pen_14 (by decide) ?_
    refine lv_ldc2 (v := 10) hx hb X.2.2.2.1 (X.2.2.2.2.1 _ mw_1222) dX12_pen_15 ?_
    obtain ⟨r18_9, hc10, h11⟩ := cb1_s h8
    clear h8
    refine kgoiE (krunS (rest := []) X hV4 [] (c_X12_lies l E _ (Int32.toInt64 p2) 1 10 r18_9 hc10) mw_224 kb_X12_lies (by decide) rfl rfl hl.1 rfl (Nat.le_of_ble_eq_true rfl) dX12_pen_18 (by decide)) X hV4 [] [0, 1, 2] rfl rfl rfl (by decide) (fun u H locs hV12 => ?_)
    have hV12 : kV E A s.heap H locs [(a0, .inr (12, [w0_0, w0_1, w0_2, w0_3, w0_4, w0_5, w0_6, w0_7, w0_8, w0_9, w0_10, w0_11, w0_12, w0_13, w0_14, w0_15, w0_16, w0_17, w0_18, w0_19, w0_20, w0_21, w0_22, w0_23, w0_24, w0_25, w0_26, w0_27, w0_28, w0_29, w0_30, w0_31, w0_32, w0_33, w0_34, w0_35, w0_36, w0_37, w0_38, w0_39, w0_40, w0_41, w0_42, w0_43, w0_44, w0_45, w0_46, w0_47, w0_48, w0_49, w0_50, w0_51, w0_52, w0_53, w0_54, w0_55, w0_56, w0_57, w0_58, w0_59, w0_60, w0_61, w0_62, w0_63, w0_64, .ref a2, .ref a1])), (a1, .inl (E.2 0, 371, .inl s_leastFrom)), (a2, .inl (E.2 0, 40, .inl s_ten))] := hV12.sub [0, 1, 2] rfl rfl
    clear hV4
    refine lv_if_eq (tgt := 53) hx hb dX12_pen_21 (by decide) (fun c14 => ?_) (fun c14 => ?_)
    · have h15 := itS c14 h11
      clear h11 c14
      refine lv_iconst (v := (-1)) hx hb dX12_pen_53 (by decide) ?_
      cases h15
      exact hret _ () _ _ _ _ rfl rfl hV12 dX12_pen_54
    · have h16 := ieS c14 h11
      clear h11 c14
      refine lv_iload_n hx hb dX12_pen_24 rfl (lv_at hl 3 rfl) ?_
      refine lv_bipush (v := 6) hx hb dX12_pen_25 (by decide) ?_
      have J43 : ∀  (H : Heap) (locs : List Loc) (ls : Array Slot), (f_X12_pen_J43 s_leastFrom s_ten p1 p2 p3 ) = some (r, o_leastFrom) → kV E A s.heap H locs [(a0, .inr (12, [w0_0, w0_1, w0_2, w0_3, w0_4, w0_5, w0_6, w0_7, w0_8, w0_9, w0_10, w0_11, w0_12, w0_13, w0_14, w0_15, w0_16, w0_17, w0_18, w0_19, w0_20, w0_21, w0_22, w0_23, w0_24, w0_25, w0_26, w0_27, w0_28, w0_29, w0_30, w0_31, w0_32, w0_33, w0_34, w0_35, w0_36, w0_37, w0_38, w0_39, w0_40, w0_41, w0_42, w0_43, w0_44, w0_45, w0_46, w0_47, w0_48, w0_49, w0_50, w0_51, w0_52, w0_53, w0_54, w0_55, w0_56, w0_57, w0_58, w0_59, w0_60, w0_61, w0_62, w0_63, w0_64, .ref a2, .ref a1])), (a1, .inl (E.2 0, 371, .inl s_leastFrom)), (a2, .inl (E.2 0, 40, .inl s_ten))] → lv_has ls 9 [(0, .ref a0), (1, .int p1), (2, .int p2), (3, .int p3)] → W p l e r_X12_pen s m args below meth c H locs 0 0 Q (F0 m 43 ls []) := by
        intro  H locs ls hB43 hVB43 hlB43
        rw [f_X12_pen_J43] at hB43
        refine lv_iload_n hx hb dX12_pen_43 rfl (lv_at hlB43 1 rfl) ?_
        refine lv_iconst (v := 1) hx hb dX12_pen_44 (by decide) ?_
        refine lv_isub hx hb dX12_pen_45 ?_
        refine lv_iload_n hx hb dX12_pen_46 rfl (lv_at hlB43 2 rfl) ?_
        refine lv_imul hx hb dX12_pen_47 ?_
        refine lv_bipush (v := 39) hx hb dX12_pen_48 (by decide) ?_
        refine lv_icmp_le (tgt := 55) hx hb dX12_pen_50 (by decide) (fun c17 => ?_) (fun c17 => ?_)
        · have h18 := itS c17 hB43
          clear hB43 c17
          refine lv_iconst (v := 0) hx hb dX12_pen_55 (by decide) ?_
          refine lv_istore (lv' := [(4, .int 0), (0, .ref a0), (1, .int p1), (2, .int p2), (3, .int p3)]) hx hb dX12_pen_56 hlB43 (by decide) rfl (fun ls hl20 => ?_)
          clear hlB43
          have J200 : ∀ (leastFrom__21 : Nat → Int32) (H : Heap) (locs : List Loc) (ls : Array Slot), (f_X12_pen_J200 s_ten p1 p2 p3 ) leastFrom__21 = some (r, o_leastFrom) → kV E A s.heap H locs [(a0, .inr (12, [w0_0, w0_1, w0_2, w0_3, w0_4, w0_5, w0_6, w0_7, w0_8, w0_9, w0_10, w0_11, w0_12, w0_13, w0_14, w0_15, w0_16, w0_17, w0_18, w0_19, w0_20, w0_21, w0_22, w0_23, w0_24, w0_25, w0_26, w0_27, w0_28, w0_29, w0_30, w0_31, w0_32, w0_33, w0_34, w0_35, w0_36, w0_37, w0_38, w0_39, w0_40, w0_41, w0_42, w0_43, w0_44, w0_45, w0_46, w0_47, w0_48, w0_49, w0_50, w0_51, w0_52, w0_53, w0_54, w0_55, w0_56, w0_57, w0_58, w0_59, w0_60, w0_61, w0_62, w0_63, w0_64, .ref a2, .ref a1])), (a1, .inl (E.2 0, 371, .inl leastFrom__21)), (a2, .inl (E.2 0, 40, .inl s_ten))] → lv_has ls 9 [(0, .ref a0), (1, .int p1), (2, .int p2), (3, .int p3)] → W p l e r_X12_pen s m args below meth c H locs 0 0 Q (F0 m 200 ls []) := by
            intro leastFrom__21 H locs ls hB200 hVB200 hlB200
            rw [f_X12_pen_J200] at hB200
            refine lv_iload_n hx hb dX12_pen_200 rfl (lv_at hlB200 3 rfl) ?_
            refine lv_bipush (v := 6) hx hb dX12_pen_201 (by decide) ?_
            refine lv_icmp_ne (tgt := 216) hx hb dX12_pen_203 (by decide) (fun c22 => ?_) (fun c22 => ?_)
            · have h23 := ieS c22 hB200
              clear hB200 c22
              refine lv_iconst (v := 0) hx hb dX12_pen_216 (by decide) ?_
              refine lv_istore (lv' := [(4, .int 0), (0, .ref a0), (1, .int p1), (2, .int p2), (3, .int p3)]) hx hb dX12_pen_217 hlB200 (by decide) rfl (fun ls hl25 => ?_)
              clear hlB200
              refine lv_iload_n hx hb dX12_pen_219 rfl (lv_at hl25 2 rfl) ?_
              refine lv_istore (lv' := [(5, .int p1), (4, .int 0), (0, .ref a0), (1, .int p1), (2, .int p2), (3, .int p3)]) hx hb dX12_pen_220 hl25 (by decide) rfl (fun ls hl26 => ?_)
              clear hl25
              have L222 : ∀ (n222 : Nat) (x4_27 : Int32) (x5_28 : Int32) (H : Heap) (locs : List Loc) (ls : Array Slot), (f_X12_pen_L222 s_ten p1 p2 p3 leastFrom__21  n222) x4_27 x5_28 = some (r, o_leastFrom) → kV E A s.heap H locs [(a0, .inr (12, [w0_0, w0_1, w0_2, w0_3, w0_4, w0_5, w0_6, w0_7, w0_8, w0_9, w0_10, w0_11, w0_12, w0_13, w0_14, w0_15, w0_16, w0_17, w0_18, w0_19, w0_20, w0_21, w0_22, w0_23, w0_24, w0_25, w0_26, w0_27, w0_28, w0_29, w0_30, w0_31, w0_32, w0_33, w0_34, w0_35, w0_36, w0_37, w0_38, w0_39, w0_40, w0_41, w0_42, w0_43, w0_44, w0_45, w0_46, w0_47, w0_48, w0_49, w0_50, w0_51, w0_52, w0_53, w0_54, w0_55, w0_56, w0_57, w0_58, w0_59, w0_60, w0_61, w0_62, w0_63, w0_64, .ref a2, .ref a1])), (a1, .inl (E.2 0, 371, .inl leastFrom__21)), (a2, .inl (E.2 0, 40, .inl s_ten))] → lv_has ls 9 [(0, .ref a0), (1, .int p1), (2, .int p2), (3, .int p3), (4, .int x4_27), (5, .int x5_28)] → W p l e r_X12_pen s m args below meth c H locs 0 0 Q (F0 m 222 ls []) := by
                intro n222
                induction n222 with
                | zero =>
                  intro x4_27 x5_28 H locs ls hB222 hVB222 hlB222
                  rw [f_X12_pen_L222] at hB222
                  exact nomatch hB222
                | succ n222 ih222 =>
                  intro x4_27 x5_28 H locs ls hB222 hVB222 hlB222
                  rw [f_X12_pen_L222] at hB222
                  refine lv_iload hx hb dX12_pen_222 (lv_at hlB222 5 rfl) ?_
                  refine lv_if_le (tgt := 310) hx hb dX12_pen_224 (by decide) (fun c29 => ?_) (fun c29 => ?_)
                  · have h30 := itS c29 hB222
                    clear hB222 c29
                    refine lv_iconst (v := (-1)) hx hb dX12_pen_310 (by decide) ?_
                    cases h30
                    exact hret _ () _ _ _ _ rfl rfl hVB222 dX12_pen_311
                  · have h31 := ieS c29 hB222
                    clear hB222 c29
                    have J287 : ∀ (x4_32 : Int32) (H : Heap) (locs : List Loc) (ls : Array Slot), (f_X12_pen_J287 p1 p2 p3 leastFrom__21 x5_28 (f_X12_pen_L222 s_ten p1 p2 p3 leastFrom__21  n222)) x4_32 = some (r, o_leastFrom) → kV E A s.heap H locs [(a0, .inr (12, [w0_0, w0_1, w0_2, w0_3, w0_4, w0_5, w0_6, w0_7, w0_8, w0_9, w0_10, w0_11, w0_12, w0_13, w0_14, w0_15, w0_16, w0_17, w0_18, w0_19, w0_20, w0_21, w0_22, w0_23, w0_24, w0_25, w0_26, w0_27, w0_28, w0_29, w0_30, w0_31, w0_32, w0_33, w0_34, w0_35, w0_36, w0_37, w0_38, w0_39, w0_40, w0_41, w0_42, w0_43, w0_44, w0_45, w0_46, w0_47, w0_48, w0_49, w0_50, w0_51, w0_52, w0_53, w0_54, w0_55, w0_56, w0_57, w0_58, w0_59, w0_60, w0_61, w0_62, w0_63, w0_64, .ref a2, .ref a1])), (a1, .inl (E.2 0, 371, .inl leastFrom__21)), (a2, .inl (E.2 0, 40, .inl s_ten))] → lv_has ls 9 [(0, .ref a0), (1, .int p1), (2, .int p2), (3, .int p3), (4, .int x4_32), (5, .int x5_28)] → W p l e r_X12_pen s m args below meth c H locs 0 0 Q (F0 m 287 ls []) := by
                      intro x4_32 H locs ls hB287 hVB287 hlB287
                      rw [f_X12_pen_J287] at hB287
                      refine lv_iload_n hx hb dX12_pen_287 rfl (lv_at hlB287 1 rfl) ?_
                      refine lv_iload hx hb dX12_pen_288 (lv_at hlB287 5 rfl) ?_
                      refine lv_isub hx hb dX12_pen_290 ?_
                      refine lv_iload_n hx hb dX12_pen_291 rfl (lv_at hlB287 3 rfl) ?_
                      refine lv_icmp_ne (tgt := 298) hx hb dX12_pen_292 (by decide) (fun c33 => ?_) (fun c33 => ?_)
                      · have h34 := ieS c33 hB287
                        clear hB287 c33
                        refine lv_iload hx hb dX12_pen_298 (lv_at hlB287 4 rfl) ?_
                        refine lv_iload_n hx hb dX12_pen_300 rfl (lv_at hlB287 2 rfl) ?_
                        refine lv_iadd hx hb dX12_pen_301 ?_
                        obtain ⟨v302_36, e37, h38⟩ := nmI_s h34
                        clear h34
                        refine ktopi e37 ?_
                        clear e37
                        refine lv_istore (lv' := [(4, .int v302_36), (0, .ref a0), (1, .int p1), (2, .int p2), (3, .int p3), (5, .int x5_28)]) hx hb dX12_pen_302 hlB287 (by decide) rfl (fun ls hl39 => ?_)
                        clear hlB287
                        obtain ⟨v304_40, e41, h42⟩ := nmI_s h38
                        clear h38
                        refine lv_iinc (v := v304_40) (lv' := [(5, .int v304_40), (4, .int v302_36), (0, .ref a0), (1, .int p1), (2, .int p2), (3, .int p3)]) hx hb dX12_pen_304 hl39 (k := 5) rfl (by rw [e41]; rfl) (by decide) rfl (fun ls hl43 => ?_)
                        clear hl39 e41
                        refine lv_goto (tgt := 222) hx hb dX12_pen_307 (by decide) ?_
                        exact ih222 v302_36 v304_40 _ _ _ h42 hVB287 (lv_sub hl43 [2, 3, 4, 5, 1, 0] rfl)
                      · have h35 := itS c33 hB287
                        clear hB287 c33
                        refine lv_iload hx hb dX12_pen_295 (lv_at hlB287 4 rfl) ?_
                        cases h35
                        exact hret _ () _ _ _ _ rfl rfl hVB287 dX12_pen_297
                    have L227 : ∀ (n227 : Nat) (x4_44 : Int32) (H : Heap) (locs : List Loc) (ls : Array Slot), (f_X12_pen_L227 s_ten p2 leastFrom__21 x5_28 (f_X12_pen_J287 p1 p2 p3 leastFrom__21 x5_28 (f_X12_pen_L222 s_ten p1 p2 p3 leastFrom__21  n222)) n227) x4_44 = some (r, o_leastFrom) → kV E A s.heap H locs [(a0, .inr (12, [w0_0, w0_1, w0_2, w0_3, w0_4, w0_5, w0_6, w0_7, w0_8, w0_9, w0_10, w0_11, w0_12, w0_13, w0_14, w0_15, w0_16, w0_17, w0_18, w0_19, w0_20, w0_21, w0_22, w0_23, w0_24, w0_25, w0_26, w0_27, w0_28, w0_29, w0_30, w0_31, w0_32, w0_33, w0_34, w0_35, w0_36, w0_37, w0_38, w0_39, w0_40, w0_41, w0_42, w0_43, w0_44, w0_45, w0_46, w0_47, w0_48, w0_49, w0_50, w0_51, w0_52, w0_53, w0_54, w0_55, w0_56, w0_57, w0_58, w0_59, w0_60, w0_61, w0_62, w0_63, w0_64, .ref a2, .ref a1])), (a1, .inl (E.2 0, 371, .inl leastFrom__21)), (a2, .inl (E.2 0, 40, .inl s_ten))] → lv_has ls 9 [(0, .ref a0), (1, .int p1), (2, .int p2), (3, .int p3), (4, .int x4_44), (5, .int x5_28)] → W p l e r_X12_pen s m args below meth c H locs 0 0 Q (F0 m 227 ls []) := by
                      intro n227
                      induction n227 with
                      | zero =>
                        intro x4_44 H locs ls hB227 hVB227 hlB227
                        rw [f_X12_pen_L227] at hB227
                        exact nomatch hB227
                      | succ n227 ih227 =>
                        intro x4_44 H locs ls hB227 hVB227 hlB227
                        rw [f_X12_pen_L227] at hB227
                        refine lv_aload_n hx hb dX12_pen_227 rfl (lv_at hlB227 0 rfl) ?_
                        refine lv_iload hx hb dX12_pen_228 (lv_at hlB227 5 rfl) ?_
                        refine lv_iconst (v := 1) hx hb dX12_pen_230 (by decide) ?_
                        refine lv_isub hx hb dX12_pen_231 ?_
                        refine lv_iload hx hb dX12_pen_232 (lv_at hlB227 4 rfl) ?_
                        refine lv_iload_n hx hb dX12_pen_234 rfl (lv_at hlB227 2 rfl) ?_
                        refine lv_iadd hx hb dX12_pen_235 ?_
                        obtain ⟨r236_45, hc46, h47⟩ := cb1_s hB227
                        clear hB227
                        refine kgoiE (krunV (rest := []) X hVB227 [0, 1] (c_X12_leastAt l E _ a0 a1 (w0_0) (w0_1) (w0_2) (w0_3) (w0_4) (w0_5) (w0_6) (w0_7) (w0_8) (w0_9) (w0_10) (w0_11) (w0_12) (w0_13) (w0_14) (w0_15) (w0_16) (w0_17) (w0_18) (w0_19) (w0_20) (w0_21) (w0_22) (w0_23) (w0_24) (w0_25) (w0_26) (w0_27) (w0_28) (w0_29) (w0_30) (w0_31) (w0_32) (w0_33) (w0_34) (w0_35) (w0_36) (w0_37) (w0_38) (w0_39) (w0_40) (w0_41) (w0_42) (w0_43) (w0_44) (w0_45) (w0_46) (w0_47) (w0_48) (w0_49) (w0_50) (w0_51) (w0_52) (w0_53) (w0_54) (w0_55) (w0_56) (w0_57) (w0_58) (w0_59) (w0_60) (w0_61) (w0_62) (w0_63) (w0_64) (.ref a2) leastFrom__21 (x5_28 - 1) (x4_44 + p2) r236_45 hc46) mw_1251 kb_X12_leastAt (ci := 12) rfl rfl (by decide) rfl rfl hlB227.1 rfl (Nat.le_of_ble_eq_true rfl) dX12_pen_236 (by decide)) X hVB227 [0, 1] [2] rfl rfl rfl (by decide) (fun u H locs hV48 => ?_)
                        have hV48 : kV E A s.heap H locs [(a0, .inr (12, [w0_0, w0_1, w0_2, w0_3, w0_4, w0_5, w0_6, w0_7, w0_8, w0_9, w0_10, w0_11, w0_12, w0_13, w0_14, w0_15, w0_16, w0_17, w0_18, w0_19, w0_20, w0_21, w0_22, w0_23, w0_24, w0_25, w0_26, w0_27, w0_28, w0_29, w0_30, w0_31, w0_32, w0_33, w0_34, w0_35, w0_36, w0_37, w0_38, w0_39, w0_40, w0_41, w0_42, w0_43, w0_44, w0_45, w0_46, w0_47, w0_48, w0_49, w0_50, w0_51, w0_52, w0_53, w0_54, w0_55, w0_56, w0_57, w0_58, w0_59, w0_60, w0_61, w0_62, w0_63, w0_64, .ref a2, .ref a1])), (a1, .inl (E.2 0, 371, .inl leastFrom__21)), (a2, .inl (E.2 0, 40, .inl s_ten))] := hV48.sub [1, 2, 0] rfl rfl
                        clear hVB227
                        refine lv_if_lt (tgt := 281) hx hb dX12_pen_239 (by decide) (fun c50 => ?_) (fun c50 => ?_)
                        · have h51 := itS c50 h47
                          clear h47 c50
                          obtain ⟨v281_53, e54, h55⟩ := nmI_s h51
                          clear h51
                          refine lv_iinc (v := v281_53) (lv' := [(4, .int v281_53), (0, .ref a0), (1, .int p1), (2, .int p2), (3, .int p3), (5, .int x5_28)]) hx hb dX12_pen_281 hlB227 (k := 4) rfl (by rw [e54]; rfl) (by decide) rfl (fun ls hl56 => ?_)
                          clear hlB227 e54
                          refine lv_goto (tgt := 227) hx hb dX12_pen_284 (by decide) ?_
                          exact ih227 v281_53 _ _ _ h55 hV48 (lv_sub hl56 [1, 2, 3, 4, 0, 5] rfl)
                        · have h52 := ieS c50 h47
                          clear h47 c50
                          refine lv_bipush (v := 10) hx hb dX12_pen_242 (by decide) ?_
                          refine lv_aload_n hx hb dX12_pen_244 rfl (lv_at hlB227 0 rfl) ?_
                          refine kget X hV48 (ci := 12) inlX12 rfl 0 rfl 65 (by decide) mw_174 rfl dX12_pen_245 ?_
                          refine lv_iload hx hb dX12_pen_248 (lv_at hlB227 4 rfl) ?_
                          obtain ⟨hi58, v250_57, e59, h60⟩ := rdI_s h52
                          clear h52
                          refine kiald X hV48 2 rfl hi58 e59 dX12_pen_250 ?_
                          clear hi58 e59
                          refine lv_isub hx hb dX12_pen_251 ?_
                          refine lv_aload_n hx hb dX12_pen_252 rfl (lv_at hlB227 0 rfl) ?_
                          refine lv_iload hx hb dX12_pen_253 (lv_at hlB227 5 rfl) ?_
                          refine lv_iconst (v := 1) hx hb dX12_pen_255 (by decide) ?_
                          refine lv_isub hx hb dX12_pen_256 ?_
                          refine lv_iload hx hb dX12_pen_257 (lv_at hlB227 4 rfl) ?_
                          refine lv_iload_n hx hb dX12_pen_259 rfl (lv_at hlB227 2 rfl) ?_
                          refine lv_iadd hx hb dX12_pen_260 ?_
                          obtain ⟨r261_61, hc62, h63⟩ := cb1_s h60
                          clear h60
                          refine kgoiE (krunV (rest := [.int (10 - v250_57)]) X hV48 [0, 1] (c_X12_leastAt l E _ a0 a1 (w0_0) (w0_1) (w0_2) (w0_3) (w0_4) (w0_5) (w0_6) (w0_7) (w0_8) (w0_9) (w0_10) (w0_11) (w0_12) (w0_13) (w0_14) (w0_15) (w0_16) (w0_17) (w0_18) (w0_19) (w0_20) (w0_21) (w0_22) (w0_23) (w0_24) (w0_25) (w0_26) (w0_27) (w0_28) (w0_29) (w0_30) (w0_31) (w0_32) (w0_33) (w0_34) (w0_35) (w0_36) (w0_37) (w0_38) (w0_39) (w0_40) (w0_41) (w0_42) (w0_43) (w0_44) (w0_45) (w0_46) (w0_47) (w0_48) (w0_49) (w0_50) (w0_51) (w0_52) (w0_53) (w0_54) (w0_55) (w0_56) (w0_57) (w0_58) (w0_59) (w0_60) (w0_61) (w0_62) (w0_63) (w0_64) (.ref a2) leastFrom__21 (x5_28 - 1) (x4_44 + p2) r261_61 hc62) mw_1251 kb_X12_leastAt (ci := 12) rfl rfl (by decide) rfl rfl hlB227.1 rfl (Nat.le_of_ble_eq_true rfl) dX12_pen_261 (by decide)) X hV48 [0, 1] [2] rfl rfl rfl (by decide) (fun u H locs hV64 => ?_)
                          have hV64 : kV E A s.heap H locs [(a0, .inr (12, [w0_0, w0_1, w0_2, w0_3, w0_4, w0_5, w0_6, w0_7, w0_8, w0_9, w0_10, w0_11, w0_12, w0_13, w0_14, w0_15, w0_16, w0_17, w0_18, w0_19, w0_20, w0_21, w0_22, w0_23, w0_24, w0_25, w0_26, w0_27, w0_28, w0_29, w0_30, w0_31, w0_32, w0_33, w0_34, w0_35, w0_36, w0_37, w0_38, w0_39, w0_40, w0_41, w0_42, w0_43, w0_44, w0_45, w0_46, w0_47, w0_48, w0_49, w0_50, w0_51, w0_52, w0_53, w0_54, w0_55, w0_56, w0_57, w0_58, w0_59, w0_60, w0_61, w0_62, w0_63, w0_64, .ref a2, .ref a1])), (a1, .inl (E.2 0, 371, .inl leastFrom__21)), (a2, .inl (E.2 0, 40, .inl s_ten))] := hV64.sub [1, 2, 0] rfl rfl
                          clear hV48
                          refine lv_imul hx hb dX12_pen_264 ?_
                          refine lv_aload_n hx hb dX12_pen_265 rfl (lv_at hlB227 0 rfl) ?_
                          refine kget X hV64 (ci := 12) inlX12 rfl 0 rfl 66 (by decide) mw_175 rfl dX12_pen_266 ?_
                          refine lv_bipush (v := 53) hx hb dX12_pen_269 (by decide) ?_
                          refine lv_iload hx hb dX12_pen_271 (lv_at hlB227 5 rfl) ?_
                          refine lv_imul hx hb dX12_pen_273 ?_
                          refine lv_iload hx hb dX12_pen_274 (lv_at hlB227 4 rfl) ?_
                          refine lv_iadd hx hb dX12_pen_276 ?_
                          obtain ⟨hi67, v277_66, e68, h69⟩ := rdI_s h63
                          clear h63
                          refine kiald X hV64 1 rfl hi67 e68 dX12_pen_277 ?_
                          clear hi67 e68
                          refine lv_icmp_eq (tgt := 287) hx hb dX12_pen_278 (by decide) (fun c70 => ?_) (fun c70 => ?_)
                          · have h71 := itS c70 h69
                            clear h69 c70
                            exact J287 x4_44 _ _ _ h71 hV64 (lv_sub hlB227 [0, 1, 2, 3, 4, 5] rfl)
                          · have h72 := ieS c70 h69
                            clear h69 c70
                            obtain ⟨v281_73, e74, h75⟩ := nmI_s h72
                            clear h72
                            refine lv_iinc (v := v281_73) (lv' := [(4, .int v281_73), (0, .ref a0), (1, .int p1), (2, .int p2), (3, .int p3), (5, .int x5_28)]) hx hb dX12_pen_281 hlB227 (k := 4) rfl (by rw [e74]; rfl) (by decide) rfl (fun ls hl76 => ?_)
                            clear hlB227 e74
                            refine lv_goto (tgt := 227) hx hb dX12_pen_284 (by decide) ?_
                            exact ih227 v281_73 _ _ _ h75 hV64 (lv_sub hl76 [1, 2, 3, 4, 0, 5] rfl)
                    exact L227 FU x4_27 _ _ _ h31 hVB222 (lv_sub hlB222 [0, 1, 2, 3, 4, 5] rfl)
              exact L222 FU 0 p1 _ _ _ h23 hVB200 (lv_sub hl26 [2, 3, 4, 5, 1, 0] rfl)
            · have h24 := itS c22 hB200
              clear hB200 c22
              refine lv_aload_n hx hb dX12_pen_206 rfl (lv_at hlB200 0 rfl) ?_
              refine kget X hVB200 (ci := 12) inlX12 rfl 0 rfl 66 (by decide) mw_175 rfl dX12_pen_207 ?_
              refine lv_bipush (v := 53) hx hb dX12_pen_210 (by decide) ?_
              refine lv_iload_n hx hb dX12_pen_212 rfl (lv_at hlB200 1 rfl) ?_
              refine lv_imul hx hb dX12_pen_213 ?_
              obtain ⟨hi78, v214_77, e79, h80⟩ := rdI_s h24
              clear h24
              refine kiald X hVB200 1 rfl hi78 e79 dX12_pen_214 ?_
              clear hi78 e79
              cases h80
              exact hret _ () _ _ _ _ rfl rfl hVB200 dX12_pen_215
          have L58 : ∀ (n58 : Nat) (x4_81 : Int32) (leastFrom__82 : Nat → Int32) (H : Heap) (locs : List Loc) (ls : Array Slot), (f_X12_pen_L58 s_ten p1 p2 (f_X12_pen_J200 s_ten p1 p2 p3 ) n58) x4_81 leastFrom__82 = some (r, o_leastFrom) → kV E A s.heap H locs [(a0, .inr (12, [w0_0, w0_1, w0_2, w0_3, w0_4, w0_5, w0_6, w0_7, w0_8, w0_9, w0_10, w0_11, w0_12, w0_13, w0_14, w0_15, w0_16, w0_17, w0_18, w0_19, w0_20, w0_21, w0_22, w0_23, w0_24, w0_25, w0_26, w0_27, w0_28, w0_29, w0_30, w0_31, w0_32, w0_33, w0_34, w0_35, w0_36, w0_37, w0_38, w0_39, w0_40, w0_41, w0_42, w0_43, w0_44, w0_45, w0_46, w0_47, w0_48, w0_49, w0_50, w0_51, w0_52, w0_53, w0_54, w0_55, w0_56, w0_57, w0_58, w0_59, w0_60, w0_61, w0_62, w0_63, w0_64, .ref a2, .ref a1])), (a1, .inl (E.2 0, 371, .inl leastFrom__82)), (a2, .inl (E.2 0, 40, .inl s_ten))] → lv_has ls 9 [(0, .ref a0), (1, .int p1), (2, .int p2), (3, .int p3), (4, .int x4_81)] → W p l e r_X12_pen s m args below meth c H locs 0 0 Q (F0 m 58 ls []) := by
            intro n58
            induction n58 with
            | zero =>
              intro x4_81 leastFrom__82 H locs ls hB58 hVB58 hlB58
              rw [f_X12_pen_L58] at hB58
              exact nomatch hB58
            | succ n58 ih58 =>
              intro x4_81 leastFrom__82 H locs ls hB58 hVB58 hlB58
              rw [f_X12_pen_L58] at hB58
              refine lv_iload hx hb dX12_pen_58 (lv_at hlB58 4 rfl) ?_
              refine lv_iload_n hx hb dX12_pen_60 rfl (lv_at hlB58 1 rfl) ?_
              refine lv_icmp_gt (tgt := 200) hx hb dX12_pen_61 (by decide) (fun c83 => ?_) (fun c83 => ?_)
              · have h84 := itS c83 hB58
                clear hB58 c83
                exact J200 leastFrom__82 _ _ _ h84 hVB58 (lv_sub hlB58 [0, 1, 2, 3] rfl)
              · have h85 := ieS c83 hB58
                clear hB58 c83
                refine lv_bipush (v := 40) hx hb dX12_pen_64 (by decide) ?_
                refine lv_istore (lv' := [(5, .int 40), (0, .ref a0), (1, .int p1), (2, .int p2), (3, .int p3), (4, .int x4_81)]) hx hb dX12_pen_66 hlB58 (by decide) rfl (fun ls hl86 => ?_)
                clear hlB58
                have L68 : ∀ (n68 : Nat) (x5_87 : Int32) (leastFrom__88 : Nat → Int32) (H : Heap) (locs : List Loc) (ls : Array Slot), (f_X12_pen_L68 s_ten p2 x4_81 (f_X12_pen_L58 s_ten p1 p2 (f_X12_pen_J200 s_ten p1 p2 p3 ) n58) n68) x5_87 leastFrom__88 = some (r, o_leastFrom) → kV E A s.heap H locs [(a0, .inr (12, [w0_0, w0_1, w0_2, w0_3, w0_4, w0_5, w0_6, w0_7, w0_8, w0_9, w0_10, w0_11, w0_12, w0_13, w0_14, w0_15, w0_16, w0_17, w0_18, w0_19, w0_20, w0_21, w0_22, w0_23, w0_24, w0_25, w0_26, w0_27, w0_28, w0_29, w0_30, w0_31, w0_32, w0_33, w0_34, w0_35, w0_36, w0_37, w0_38, w0_39, w0_40, w0_41, w0_42, w0_43, w0_44, w0_45, w0_46, w0_47, w0_48, w0_49, w0_50, w0_51, w0_52, w0_53, w0_54, w0_55, w0_56, w0_57, w0_58, w0_59, w0_60, w0_61, w0_62, w0_63, w0_64, .ref a2, .ref a1])), (a1, .inl (E.2 0, 371, .inl leastFrom__88)), (a2, .inl (E.2 0, 40, .inl s_ten))] → lv_has ls 9 [(0, .ref a0), (1, .int p1), (2, .int p2), (3, .int p3), (4, .int x4_81), (5, .int x5_87)] → W p l e r_X12_pen s m args below meth c H locs 0 0 Q (F0 m 68 ls []) := by
                  intro n68
                  induction n68 with
                  | zero =>
                    intro x5_87 leastFrom__88 H locs ls hB68 hVB68 hlB68
                    rw [f_X12_pen_L68] at hB68
                    exact nomatch hB68
                  | succ n68 ih68 =>
                    intro x5_87 leastFrom__88 H locs ls hB68 hVB68 hlB68
                    rw [f_X12_pen_L68] at hB68
                    refine lv_iload hx hb dX12_pen_68 (lv_at hlB68 5 rfl) ?_
                    refine lv_if_lt (tgt := 194) hx hb dX12_pen_70 (by decide) (fun c89 => ?_) (fun c89 => ?_)
                    · have h90 := itS c89 hB68
                      clear hB68 c89
                      obtain ⟨v194_92, e93, h94⟩ := nmI_s h90
                      clear h90
                      refine lv_iinc (v := v194_92) (lv' := [(4, .int v194_92), (0, .ref a0), (1, .int p1), (2, .int p2), (3, .int p3), (5, .int x5_87)]) hx hb dX12_pen_194 hlB68 (k := 4) rfl (by rw [e93]; rfl) (by decide) rfl (fun ls hl95 => ?_)
                      clear hlB68 e93
                      refine lv_goto (tgt := 58) hx hb dX12_pen_197 (by decide) ?_
                      exact ih58 v194_92 leastFrom__88 _ _ _ h94 hVB68 (lv_sub hl95 [1, 2, 3, 4, 0] rfl)
                    · have h91 := ieS c89 hB68
                      clear hB68 c89
                      refine lv_iload hx hb dX12_pen_73 (lv_at hlB68 4 rfl) ?_
                      have J83 : ∀ (t0_96 : Int32) (H : Heap) (locs : List Loc) (ls : Array Slot), (f_X12_pen_J83 s_ten p2 x4_81 x5_87 leastFrom__88 (f_X12_pen_L68 s_ten p2 x4_81 (f_X12_pen_L58 s_ten p1 p2 (f_X12_pen_J200 s_ten p1 p2 p3 ) n58) n68)) t0_96 = some (r, o_leastFrom) → kV E A s.heap H locs [(a0, .inr (12, [w0_0, w0_1, w0_2, w0_3, w0_4, w0_5, w0_6, w0_7, w0_8, w0_9, w0_10, w0_11, w0_12, w0_13, w0_14, w0_15, w0_16, w0_17, w0_18, w0_19, w0_20, w0_21, w0_22, w0_23, w0_24, w0_25, w0_26, w0_27, w0_28, w0_29, w0_30, w0_31, w0_32, w0_33, w0_34, w0_35, w0_36, w0_37, w0_38, w0_39, w0_40, w0_41, w0_42, w0_43, w0_44, w0_45, w0_46, w0_47, w0_48, w0_49, w0_50, w0_51, w0_52, w0_53, w0_54, w0_55, w0_56, w0_57, w0_58, w0_59, w0_60, w0_61, w0_62, w0_63, w0_64, .ref a2, .ref a1])), (a1, .inl (E.2 0, 371, .inl leastFrom__88)), (a2, .inl (E.2 0, 40, .inl s_ten))] → lv_has ls 9 [(0, .ref a0), (1, .int p1), (2, .int p2), (3, .int p3), (4, .int x4_81), (5, .int x5_87)] → W p l e r_X12_pen s m args below meth c H locs 0 0 Q (F0 m 83 ls [.int t0_96]) := by
                        intro t0_96 H locs ls hB83 hVB83 hlB83
                        rw [f_X12_pen_J83] at hB83
                        refine lv_istore (lv' := [(6, .int t0_96), (0, .ref a0), (1, .int p1), (2, .int p2), (3, .int p3), (4, .int x4_81), (5, .int x5_87)]) hx hb dX12_pen_83 hlB83 (by decide) rfl (fun ls hl97 => ?_)
                        clear hlB83
                        refine lv_iload hx hb dX12_pen_85 (lv_at hl97 5 rfl) ?_
                        have J173 : ∀ (x6_98 : Int32) (H : Heap) (locs : List Loc) (ls : Array Slot), (f_X12_pen_J173 x4_81 x5_87 leastFrom__88 (f_X12_pen_L68 s_ten p2 x4_81 (f_X12_pen_L58 s_ten p1 p2 (f_X12_pen_J200 s_ten p1 p2 p3 ) n58) n68)) x6_98 = some (r, o_leastFrom) → kV E A s.heap H locs [(a0, .inr (12, [w0_0, w0_1, w0_2, w0_3, w0_4, w0_5, w0_6, w0_7, w0_8, w0_9, w0_10, w0_11, w0_12, w0_13, w0_14, w0_15, w0_16, w0_17, w0_18, w0_19, w0_20, w0_21, w0_22, w0_23, w0_24, w0_25, w0_26, w0_27, w0_28, w0_29, w0_30, w0_31, w0_32, w0_33, w0_34, w0_35, w0_36, w0_37, w0_38, w0_39, w0_40, w0_41, w0_42, w0_43, w0_44, w0_45, w0_46, w0_47, w0_48, w0_49, w0_50, w0_51, w0_52, w0_53, w0_54, w0_55, w0_56, w0_57, w0_58, w0_59, w0_60, w0_61, w0_62, w0_63, w0_64, .ref a2, .ref a1])), (a1, .inl (E.2 0, 371, .inl leastFrom__88)), (a2, .inl (E.2 0, 40, .inl s_ten))] → lv_has ls 9 [(0, .ref a0), (1, .int p1), (2, .int p2), (3, .int p3), (4, .int x4_81), (5, .int x5_87), (6, .int x6_98)] → W p l e r_X12_pen s m args below meth c H locs 0 0 Q (F0 m 173 ls []) := by
                          intro x6_98 H locs ls hB173 hVB173 hlB173
                          rw [f_X12_pen_J173] at hB173
                          refine lv_aload_n hx hb dX12_pen_173 rfl (lv_at hlB173 0 rfl) ?_
                          refine kget X hVB173 (ci := 12) inlX12 rfl 0 rfl 66 (by decide) mw_175 rfl dX12_pen_174 ?_
                          refine lv_bipush (v := 53) hx hb dX12_pen_177 (by decide) ?_
                          refine lv_iload hx hb dX12_pen_179 (lv_at hlB173 4 rfl) ?_
                          refine lv_imul hx hb dX12_pen_181 ?_
                          refine lv_iload hx hb dX12_pen_182 (lv_at hlB173 5 rfl) ?_
                          refine lv_iadd hx hb dX12_pen_184 ?_
                          refine lv_iload hx hb dX12_pen_185 (lv_at hlB173 6 rfl) ?_
                          obtain ⟨hi100, g187_99, e101, h102⟩ := wrI_s hB173
                          clear hB173
                          refine kiast X hVB173 1 rfl hi100 e101 dX12_pen_187 (fun H locs hV103 => ?_)
                          have hV103 : kV E A s.heap H locs [(a0, .inr (12, [w0_0, w0_1, w0_2, w0_3, w0_4, w0_5, w0_6, w0_7, w0_8, w0_9, w0_10, w0_11, w0_12, w0_13, w0_14, w0_15, w0_16, w0_17, w0_18, w0_19, w0_20, w0_21, w0_22, w0_23, w0_24, w0_25, w0_26, w0_27, w0_28, w0_29, w0_30, w0_31, w0_32, w0_33, w0_34, w0_35, w0_36, w0_37, w0_38, w0_39, w0_40, w0_41, w0_42, w0_43, w0_44, w0_45, w0_46, w0_47, w0_48, w0_49, w0_50, w0_51, w0_52, w0_53, w0_54, w0_55, w0_56, w0_57, w0_58, w0_59, w0_60, w0_61, w0_62, w0_63, w0_64, .ref a2, .ref a1])), (a1, .inl (E.2 0, 371, .inl g187_99)), (a2, .inl (E.2 0, 40, .inl s_ten))] := hV103
                          clear hVB173 hi100 e101
                          obtain ⟨v188_104, e105, h106⟩ := nmI_s h102
                          clear h102
                          refine lv_iinc (v := v188_104) (lv' := [(5, .int v188_104), (0, .ref a0), (1, .int p1), (2, .int p2), (3, .int p3), (4, .int x4_81), (6, .int x6_98)]) hx hb dX12_pen_188 hlB173 (k := 5) rfl (by rw [e105]; rfl) (by decide) rfl (fun ls hl107 => ?_)
                          clear hlB173 e105
                          refine lv_goto (tgt := 68) hx hb dX12_pen_191 (by decide) ?_
                          exact ih68 v188_104 g187_99 _ _ _ h106 hV103 (lv_sub hl107 [1, 2, 3, 4, 5, 0] rfl)
                        refine lv_if_le (tgt := 173) hx hb dX12_pen_87 (by decide) (fun c108 => ?_) (fun c108 => ?_)
                        · have h109 := itS c108 hB83
                          clear hB83 c108
                          exact J173 t0_96 _ _ _ h109 hVB83 (lv_sub hl97 [1, 2, 3, 4, 5, 6, 0] rfl)
                        · have h110 := ieS c108 hB83
                          clear hB83 c108
                          refine lv_iload hx hb dX12_pen_90 (lv_at hl97 6 rfl) ?_
                          refine lv_bipush (v := 40) hx hb dX12_pen_92 (by decide) ?_
                          refine lv_icmp_ge (tgt := 173) hx hb dX12_pen_94 (by decide) (fun c111 => ?_) (fun c111 => ?_)
                          · have h112 := itS c111 h110
                            clear h110 c111
                            exact J173 t0_96 _ _ _ h112 hVB83 (lv_sub hl97 [1, 2, 3, 4, 5, 6, 0] rfl)
                          · have h113 := ieS c111 h110
                            clear h110 c111
                            refine lv_aload_n hx hb dX12_pen_97 rfl (lv_at hl97 1 rfl) ?_
                            refine kget X hVB83 (ci := 12) inlX12 rfl 0 rfl 66 (by decide) mw_175 rfl dX12_pen_98 ?_
                            refine lv_bipush (v := 53) hx hb dX12_pen_101 (by decide) ?_
                            refine lv_iload hx hb dX12_pen_103 (lv_at hl97 5 rfl) ?_
                            refine lv_imul hx hb dX12_pen_105 ?_
                            refine lv_iload hx hb dX12_pen_106 (lv_at hl97 6 rfl) ?_
                            refine lv_iadd hx hb dX12_pen_108 ?_
                            refine lv_iconst (v := 1) hx hb dX12_pen_109 (by decide) ?_
                            refine lv_iadd hx hb dX12_pen_110 ?_
                            obtain ⟨hi115, v111_114, e116, h117⟩ := rdI_s h113
                            clear h113
                            refine kiald X hVB83 1 rfl hi115 e116 dX12_pen_111 ?_
                            clear hi115 e116
                            refine lv_istore (lv' := [(6, .int v111_114), (0, .ref a0), (1, .int p1), (2, .int p2), (3, .int p3), (4, .int x4_81), (5, .int x5_87)]) hx hb dX12_pen_112 hl97 (by decide) rfl (fun ls hl118 => ?_)
                            clear hl97
                            refine lv_aload_n hx hb dX12_pen_114 rfl (lv_at hl118 1 rfl) ?_
                            refine lv_iload hx hb dX12_pen_115 (lv_at hl118 5 rfl) ?_
                            refine lv_iconst (v := 1) hx hb dX12_pen_117 (by decide) ?_
                            refine lv_isub hx hb dX12_pen_118 ?_
                            refine lv_iload hx hb dX12_pen_119 (lv_at hl118 6 rfl) ?_
                            refine lv_iload_n hx hb dX12_pen_121 rfl (lv_at hl118 3 rfl) ?_
                            refine lv_iadd hx hb dX12_pen_122 ?_
                            obtain ⟨r123_119, hc120, h121⟩ := cb1_s h117
                            clear h117
                            refine kgoiE (krunV (rest := []) X hVB83 [0, 1] (c_X12_leastAt l E _ a0 a1 (w0_0) (w0_1) (w0_2) (w0_3) (w0_4) (w0_5) (w0_6) (w0_7) (w0_8) (w0_9) (w0_10) (w0_11) (w0_12) (w0_13) (w0_14) (w0_15) (w0_16) (w0_17) (w0_18) (w0_19) (w0_20) (w0_21) (w0_22) (w0_23) (w0_24) (w0_25) (w0_26) (w0_27) (w0_28) (w0_29) (w0_30) (w0_31) (w0_32) (w0_33) (w0_34) (w0_35) (w0_36) (w0_37) (w0_38) (w0_39) (w0_40) (w0_41) (w0_42) (w0_43) (w0_44) (w0_45) (w0_46) (w0_47) (w0_48) (w0_49) (w0_50) (w0_51) (w0_52) (w0_53) (w0_54) (w0_55) (w0_56) (w0_57) (w0_58) (w0_59) (w0_60) (w0_61) (w0_62) (w0_63) (w0_64) (.ref a2) leastFrom__88 (x4_81 - 1) (x5_87 + p2) r123_119 hc120) mw_1251 kb_X12_leastAt (ci := 12) rfl rfl (by decide) rfl rfl hl118.1 rfl (Nat.le_of_ble_eq_true rfl) dX12_pen_123 (by decide)) X hVB83 [0, 1] [2] rfl rfl rfl (by decide) (fun u H locs hV122 => ?_)
                            have hV122 : kV E A s.heap H locs [(a0, .inr (12, [w0_0, w0_1, w0_2, w0_3, w0_4, w0_5, w0_6, w0_7, w0_8, w0_9, w0_10, w0_11, w0_12, w0_13, w0_14, w0_15, w0_16, w0_17, w0_18, w0_19, w0_20, w0_21, w0_22, w0_23, w0_24, w0_25, w0_26, w0_27, w0_28, w0_29, w0_30, w0_31, w0_32, w0_33, w0_34, w0_35, w0_36, w0_37, w0_38, w0_39, w0_40, w0_41, w0_42, w0_43, w0_44, w0_45, w0_46, w0_47, w0_48, w0_49, w0_50, w0_51, w0_52, w0_53, w0_54, w0_55, w0_56, w0_57, w0_58, w0_59, w0_60, w0_61, w0_62, w0_63, w0_64, .ref a2, .ref a1])), (a1, .inl (E.2 0, 371, .inl leastFrom__88)), (a2, .inl (E.2 0, 40, .inl s_ten))] := hV122.sub [1, 2, 0] rfl rfl
                            clear hVB83
                            refine lv_istore (lv' := [(7, .int r123_119), (6, .int v111_114), (0, .ref a0), (1, .int p1), (2, .int p2), (3, .int p3), (4, .int x4_81), (5, .int x5_87)]) hx hb dX12_pen_126 hl118 (by decide) rfl (fun ls hl124 => ?_)
                            clear hl118
                            refine lv_iload hx hb dX12_pen_128 (lv_at hl124 0 rfl) ?_
                            have J150 : ∀ (t0_125 : Int32) (H : Heap) (locs : List Loc) (ls : Array Slot), (f_X12_pen_J150 v111_114 (f_X12_pen_J173 x4_81 x5_87 leastFrom__88 (f_X12_pen_L68 s_ten p2 x4_81 (f_X12_pen_L58 s_ten p1 p2 (f_X12_pen_J200 s_ten p1 p2 p3 ) n58) n68))) t0_125 = some (r, o_leastFrom) → kV E A s.heap H locs [(a0, .inr (12, [w0_0, w0_1, w0_2, w0_3, w0_4, w0_5, w0_6, w0_7, w0_8, w0_9, w0_10, w0_11, w0_12, w0_13, w0_14, w0_15, w0_16, w0_17, w0_18, w0_19, w0_20, w0_21, w0_22, w0_23, w0_24, w0_25, w0_26, w0_27, w0_28, w0_29, w0_30, w0_31, w0_32, w0_33, w0_34, w0_35, w0_36, w0_37, w0_38, w0_39, w0_40, w0_41, w0_42, w0_43, w0_44, w0_45, w0_46, w0_47, w0_48, w0_49, w0_50, w0_51, w0_52, w0_53, w0_54, w0_55, w0_56, w0_57, w0_58, w0_59, w0_60, w0_61, w0_62, w0_63, w0_64, .ref a2, .ref a1])), (a1, .inl (E.2 0, 371, .inl leastFrom__88)), (a2, .inl (E.2 0, 40, .inl s_ten))] → lv_has ls 9 [(0, .ref a0), (1, .int p1), (2, .int p2), (3, .int p3), (4, .int x4_81), (5, .int x5_87), (6, .int v111_114)] → W p l e r_X12_pen s m args below meth c H locs 0 0 Q (F0 m 150 ls [.int t0_125]) := by
                              intro t0_125 H locs ls hB150 hVB150 hlB150
                              rw [f_X12_pen_J150] at hB150
                              refine lv_istore (lv' := [(8, .int t0_125), (0, .ref a0), (1, .int p1), (2, .int p2), (3, .int p3), (4, .int x4_81), (5, .int x5_87), (6, .int v111_114)]) hx hb dX12_pen_150 hlB150 (by decide) rfl (fun ls hl126 => ?_)
                              clear hlB150
                              refine lv_iload hx hb dX12_pen_152 (lv_at hl126 0 rfl) ?_
                              refine lv_if_lt (tgt := 173) hx hb dX12_pen_154 (by decide) (fun c127 => ?_) (fun c127 => ?_)
                              · have h128 := itS c127 hB150
                                clear hB150 c127
                                exact J173 v111_114 _ _ _ h128 hVB150 (lv_sub hl126 [1, 2, 3, 4, 5, 6, 7] rfl)
                              · have h129 := ieS c127 hB150
                                clear hB150 c127
                                refine lv_iload hx hb dX12_pen_157 (lv_at hl126 7 rfl) ?_
                                refine lv_if_lt (tgt := 169) hx hb dX12_pen_159 (by decide) (fun c130 => ?_) (fun c130 => ?_)
                                · have h131 := itS c130 h129
                                  clear h129 c130
                                  refine lv_iload hx hb dX12_pen_169 (lv_at hl126 0 rfl) ?_
                                  refine lv_istore (lv' := [(6, .int t0_125), (8, .int t0_125), (0, .ref a0), (1, .int p1), (2, .int p2), (3, .int p3), (4, .int x4_81), (5, .int x5_87)]) hx hb dX12_pen_171 hl126 (by decide) rfl (fun ls hl133 => ?_)
                                  clear hl126
                                  exact J173 t0_125 _ _ _ h131 hVB150 (lv_sub hl133 [2, 3, 4, 5, 6, 7, 0] rfl)
                                · have h132 := ieS c130 h129
                                  clear h129 c130
                                  refine lv_iload hx hb dX12_pen_162 (lv_at hl126 0 rfl) ?_
                                  refine lv_iload hx hb dX12_pen_164 (lv_at hl126 7 rfl) ?_
                                  refine lv_icmp_ge (tgt := 173) hx hb dX12_pen_166 (by decide) (fun c134 => ?_) (fun c134 => ?_)
                                  · have h135 := itS c134 h132
                                    clear h132 c134
                                    exact J173 v111_114 _ _ _ h135 hVB150 (lv_sub hl126 [1, 2, 3, 4, 5, 6, 7] rfl)
                                  · have h136 := ieS c134 h132
                                    clear h132 c134
                                    refine lv_iload hx hb dX12_pen_169 (lv_at hl126 0 rfl) ?_
                                    refine lv_istore (lv' := [(6, .int t0_125), (8, .int t0_125), (0, .ref a0), (1, .int p1), (2, .int p2), (3, .int p3), (4, .int x4_81), (5, .int x5_87)]) hx hb dX12_pen_171 hl126 (by decide) rfl (fun ls hl137 => ?_)
                                    clear hl126
                                    exact J173 t0_125 _ _ _ h136 hVB150 (lv_sub hl137 [2, 3, 4, 5, 6, 7, 0] rfl)
                            refine lv_if_ge (tgt := 137) hx hb dX12_pen_130 (by decide) (fun c138 => ?_) (fun c138 => ?_)
                            · have h139 := itS c138 h121
                              clear h121 c138
                              refine lv_bipush (v := 10) hx hb dX12_pen_137 (by decide) ?_
                              refine lv_aload_n hx hb dX12_pen_139 rfl (lv_at hl124 2 rfl) ?_
                              refine kget X hV122 (ci := 12) inlX12 rfl 0 rfl 65 (by decide) mw_174 rfl dX12_pen_140 ?_
                              refine lv_iload hx hb dX12_pen_143 (lv_at hl124 7 rfl) ?_
                              obtain ⟨hi142, v145_141, e143, h144⟩ := rdI_s h139
                              clear h139
                              refine kiald X hV122 2 rfl hi142 e143 dX12_pen_145 ?_
                              clear hi142 e143
                              refine lv_isub hx hb dX12_pen_146 ?_
                              refine lv_iload hx hb dX12_pen_147 (lv_at hl124 0 rfl) ?_
                              refine lv_imul hx hb dX12_pen_149 ?_
                              exact J150 ((10 - v145_141) * r123_119) _ _ _ h144 hV122 (lv_sub hl124 [2, 3, 4, 5, 6, 7, 1] rfl)
                            · have h140 := ieS c138 h121
                              clear h121 c138
                              refine lv_iconst (v := (-1)) hx hb dX12_pen_133 (by decide) ?_
                              refine lv_goto (tgt := 150) hx hb dX12_pen_134 (by decide) ?_
                              exact J150 (-1) _ _ _ h140 hV122 (lv_sub hl124 [2, 3, 4, 5, 6, 7, 1] rfl)
                      refine lv_if_ne (tgt := 82) hx hb dX12_pen_75 (by decide) (fun c145 => ?_) (fun c145 => ?_)
                      · have h146 := ieS c145 h91
                        clear h91 c145
                        refine lv_iconst (v := (-1)) hx hb dX12_pen_82 (by decide) ?_
                        exact J83 (-1) _ _ _ h146 hVB68 (lv_sub hlB68 [0, 1, 2, 3, 4, 5] rfl)
                      · have h147 := itS c145 h91
                        clear h91 c145
                        refine lv_iconst (v := 1) hx hb dX12_pen_78 (by decide) ?_
                        refine lv_goto (tgt := 83) hx hb dX12_pen_79 (by decide) ?_
                        exact J83 1 _ _ _ h147 hVB68 (lv_sub hlB68 [0, 1, 2, 3, 4, 5] rfl)
                exact L68 FU 40 leastFrom__82 _ _ _ h85 hVB58 (lv_sub hl86 [1, 2, 3, 4, 5, 0] rfl)
          exact L58 FU 0 s_leastFrom _ _ _ h18 hVB43 (lv_sub hl20 [1, 2, 3, 4, 0] rfl)
        · have h19 := ieS c17 hB43
          clear hB43 c17
          refine lv_iconst (v := (-1)) hx hb dX12_pen_53 (by decide) ?_
          cases h19
          exact hret _ () _ _ _ _ rfl rfl hVB43 dX12_pen_54
      refine lv_icmp_eq (tgt := 43) hx hb dX12_pen_27 (by decide) (fun c148 => ?_) (fun c148 => ?_)
      · have h149 := itS c148 h16
        clear h16 c148
        exact J43  _ _ _ h149 hV12 (lv_sub hl [0, 1, 2, 3] rfl)
      · have h150 := ieS c148 h16
        clear h16 c148
        refine lv_iload_n hx hb dX12_pen_30 rfl (lv_at hl 3 rfl) ?_
        refine lv_i2l (v := Int32.toInt64 p3) hx hb dX12_pen_31 rfl ?_
        refine lv_lconst (v := 0) hx hb dX12_pen_32 (by decide) ?_
        refine lv_iload_n hx hb dX12_pen_33 rfl (lv_at hl 1 rfl) ?_
        refine lv_iconst (v := 1) hx hb dX12_pen_34 (by decide) ?_
        refine lv_isub hx hb dX12_pen_35 ?_
        refine lv_i2l (v := Int32.toInt64 (p1 - 1)) hx hb dX12_pen_36 rfl ?_
        obtain ⟨r37_151, hc152, h153⟩ := cb1_s h150
        clear h150
        refine kgoiE (krunS (rest := []) X hV12 [] (c_X12_lies l E _ (Int32.toInt64 p3) 0 (Int32.toInt64 (p1 - 1)) r37_151 hc152) mw_224 kb_X12_lies (by decide) rfl rfl hl.1 rfl (Nat.le_of_ble_eq_true rfl) dX12_pen_37 (by decide)) X hV12 [] [0, 1, 2] rfl rfl rfl (by decide) (fun u H locs hV154 => ?_)
        have hV154 : kV E A s.heap H locs [(a0, .inr (12, [w0_0, w0_1, w0_2, w0_3, w0_4, w0_5, w0_6, w0_7, w0_8, w0_9, w0_10, w0_11, w0_12, w0_13, w0_14, w0_15, w0_16, w0_17, w0_18, w0_19, w0_20, w0_21, w0_22, w0_23, w0_24, w0_25, w0_26, w0_27, w0_28, w0_29, w0_30, w0_31, w0_32, w0_33, w0_34, w0_35, w0_36, w0_37, w0_38, w0_39, w0_40, w0_41, w0_42, w0_43, w0_44, w0_45, w0_46, w0_47, w0_48, w0_49, w0_50, w0_51, w0_52, w0_53, w0_54, w0_55, w0_56, w0_57, w0_58, w0_59, w0_60, w0_61, w0_62, w0_63, w0_64, .ref a2, .ref a1])), (a1, .inl (E.2 0, 371, .inl s_leastFrom)), (a2, .inl (E.2 0, 40, .inl s_ten))] := hV154.sub [0, 1, 2] rfl rfl
        clear hV12
        refine lv_if_eq (tgt := 53) hx hb dX12_pen_40 (by decide) (fun c156 => ?_) (fun c156 => ?_)
        · have h157 := itS c156 h153
          clear h153 c156
          refine lv_iconst (v := (-1)) hx hb dX12_pen_53 (by decide) ?_
          cases h157
          exact hret _ () _ _ _ _ rfl rfl hV154 dX12_pen_54
        · have h158 := ieS c156 h153
          clear h153 c156
          exact J43  _ _ _ h158 hV154 (lv_sub hl [0, 1, 2, 3] rfl)
abbrev r_X12_choices : Room := { frames := 0, cells := 0, slots := 0, locals := 0 }
set_option maxHeartbeats 4000000 in
set_option maxRecDepth 100000 in
theorem c_X12_choices (l : Launch) (E : kE) (sz : Nat) (p1 : Int32) (p2 : Int32) (r : Int64) (h : f_X12_choices p1 p2 = some (r)) : kMl l yX12_choices cX12_choices 5 (some .long) r_X12_choices [.int p1, .int p2] E [] sz 0 0 (fun x (_ : Unit) => x = r) (fun _ => []) := by
  refine kmetl rfl (Nat.le_of_ble_eq_true rfl) ?_
  intro p e s m args below meth c ls A Q X hV hret hl
  have X : kC p s m c cX12_choices 5 RX12 args E A := X
  have hx := X.1
  have hb := X.2.1
  have hl : lv_has ls 5 [(0, .int p1), (1, .int p2)] := hl
  rw [f_X12_choices] at h
  refine lv_iload_n hx hb dX12_choices_0 rfl (lv_at hl 1 rfl) ?_
  refine lv_if_lt (tgt := 9) hx hb dX12_choices_1 (by decide) (fun c1 => ?_) (fun c1 => ?_)
  · have h2 := itS c1 h
    clear h c1
    refine lv_lconst (v := 0) hx hb dX12_choices_9 (by decide) ?_
    cases h2
    exact hret _ () _ _ _ _ rfl hV dX12_choices_10
  · have h3 := ieS c1 h
    clear h c1
    refine lv_iload_n hx hb dX12_choices_4 rfl (lv_at hl 1 rfl) ?_
    refine lv_iload_n hx hb dX12_choices_5 rfl (lv_at hl 0 rfl) ?_
    refine lv_icmp_le (tgt := 11) hx hb dX12_choices_6 (by decide) (fun c4 => ?_) (fun c4 => ?_)
    · have h5 := itS c4 h3
      clear h3 c4
      refine lv_lconst (v := 1) hx hb dX12_choices_11 (by decide) ?_
      refine lv_lstore_n (lv' := [(2, .long 1), (0, .int p1), (1, .int p2)]) hx hb dX12_choices_12 rfl hl (by decide) rfl (fun ls hl7 => ?_)
      clear hl
      refine lv_iconst (v := 1) hx hb dX12_choices_13 (by decide) ?_
      refine lv_istore (lv' := [(4, .int 1), (2, .long 1), (0, .int p1), (1, .int p2)]) hx hb dX12_choices_14 hl7 (by decide) rfl (fun ls hl8 => ?_)
      clear hl7
      have L16 : ∀ (n16 : Nat) (x2_9 : Int64) (x4_10 : Int32) (H : Heap) (locs : List Loc) (ls : Array Slot), (f_X12_choices_L16 p1 p2  n16) x2_9 x4_10 = some (r) → kV E A s.heap H locs [] → lv_has ls 5 [(0, .int p1), (1, .int p2), (2, .long x2_9), (4, .int x4_10)] → W p l e r_X12_choices s m args below meth c H locs 0 0 Q (F0 m 16 ls []) := by
        intro n16
        induction n16 with
        | zero =>
          intro x2_9 x4_10 H locs ls hB16 hVB16 hlB16
          rw [f_X12_choices_L16] at hB16
          exact nomatch hB16
        | succ n16 ih16 =>
          intro x2_9 x4_10 H locs ls hB16 hVB16 hlB16
          rw [f_X12_choices_L16] at hB16
          refine lv_iload hx hb dX12_choices_16 (lv_at hlB16 3 rfl) ?_
          refine lv_iload_n hx hb dX12_choices_18 rfl (lv_at hlB16 1 rfl) ?_
          refine lv_icmp_gt (tgt := 42) hx hb dX12_choices_19 (by decide) (fun c11 => ?_) (fun c11 => ?_)
          · have h12 := itS c11 hB16
            clear hB16 c11
            refine lv_lload_n hx hb dX12_choices_42 rfl (lv_at hlB16 2 rfl) ?_
            cases h12
            exact hret _ () _ _ _ _ rfl hVB16 dX12_choices_43
          · have h13 := ieS c11 hB16
            clear hB16 c11
            refine lv_lload_n hx hb dX12_choices_22 rfl (lv_at hlB16 2 rfl) ?_
            refine lv_iload_n hx hb dX12_choices_23 rfl (lv_at hlB16 0 rfl) ?_
            refine lv_iload_n hx hb dX12_choices_24 rfl (lv_at hlB16 1 rfl) ?_
            refine lv_isub hx hb dX12_choices_25 ?_
            refine lv_iload hx hb dX12_choices_26 (lv_at hlB16 3 rfl) ?_
            refine lv_iadd hx hb dX12_choices_28 ?_
            refine lv_i2l (v := Int32.toInt64 ((p1 - p2) + x4_10)) hx hb dX12_choices_29 rfl ?_
            refine lv_lmul hx hb dX12_choices_30 ?_
            refine lv_iload hx hb dX12_choices_31 (lv_at hlB16 3 rfl) ?_
            refine lv_i2l (v := Int32.toInt64 x4_10) hx hb dX12_choices_33 rfl ?_
            obtain ⟨hn14, h15⟩ := dvL_s h13
            clear h13
            refine lv_ldiv hx hb dX12_choices_34 hn14 ?_
            obtain ⟨v35_16, e17, h18⟩ := nmL_s h15
            clear h15
            refine ktopl e17 ?_
            clear e17
            refine lv_lstore_n (lv' := [(2, .long v35_16), (0, .int p1), (1, .int p2), (4, .int x4_10)]) hx hb dX12_choices_35 rfl hlB16 (by decide) rfl (fun ls hl19 => ?_)
            clear hlB16
            obtain ⟨v36_20, e21, h22⟩ := nmI_s h18
            clear h18
            refine lv_iinc (v := v36_20) (lv' := [(4, .int v36_20), (2, .long v35_16), (0, .int p1), (1, .int p2)]) hx hb dX12_choices_36 hl19 (k := 3) rfl (by rw [e21]; rfl) (by decide) rfl (fun ls hl23 => ?_)
            clear hl19 e21
            refine lv_goto (tgt := 16) hx hb dX12_choices_39 (by decide) ?_
            exact ih16 v35_16 v36_20 _ _ _ h22 hVB16 (lv_sub hl23 [2, 3, 1, 0] rfl)
      exact L16 FU 1 1 _ _ _ h5 hV (lv_sub hl8 [2, 3, 1, 0] rfl)
    · have h6 := ieS c4 h3
      clear h3 c4
      refine lv_lconst (v := 0) hx hb dX12_choices_9 (by decide) ?_
      cases h6
      exact hret _ () _ _ _ _ rfl hV dX12_choices_10
abbrev r_X12_divisor : Room := { frames := 0, cells := 0, slots := 0, locals := 0 }
set_option maxHeartbeats 4000000 in
set_option maxRecDepth 100000 in
theorem c_X12_divisor (l : Launch) (E : kE) (sz : Nat) (p1 : Int64) (p2 : Int64) (r : Int64) (h : f_X12_divisor p1 p2 = some (r)) : kMl l yX12_divisor cX12_divisor 10 (some .long) r_X12_divisor [.long p1, .long p2] E [] sz 0 0 (fun x (_ : Unit) => x = r) (fun _ => []) := by
  refine kmetl rfl (Nat.le_of_ble_eq_true rfl) ?_
  intro p e s m args below meth c ls A Q X hV hret hl
  have X : kC p s m c cX12_divisor 10 RX12 args E A := X
  have hx := X.1
  have hb := X.2.1
  have hl : lv_has ls 10 [(0, .long p1), (2, .long p2)] := hl
  rw [f_X12_divisor] at h
  refine lv_lload_n hx hb dX12_divisor_0 rfl (lv_at hl 0 rfl) ?_
  refine lv_lstore (lv' := [(4, .long p1), (0, .long p1), (2, .long p2)]) hx hb dX12_divisor_1 hl (by decide) rfl (fun ls hl1 => ?_)
  clear hl
  refine lv_lload_n hx hb dX12_divisor_3 rfl (lv_at hl1 2 rfl) ?_
  refine lv_lstore (lv' := [(6, .long p2), (4, .long p1), (0, .long p1), (2, .long p2)]) hx hb dX12_divisor_4 hl1 (by decide) rfl (fun ls hl2 => ?_)
  clear hl1
  have L6 : ∀ (n6 : Nat) (x4_3 : Int64) (x6_4 : Int64) (H : Heap) (locs : List Loc) (ls : Array Slot), (f_X12_divisor_L6   n6) x4_3 x6_4 = some (r) → kV E A s.heap H locs [] → lv_has ls 10 [(4, .long x4_3), (6, .long x6_4)] → W p l e r_X12_divisor s m args below meth c H locs 0 0 Q (F0 m 6 ls []) := by
    intro n6
    induction n6 with
    | zero =>
      intro x4_3 x6_4 H locs ls hB6 hVB6 hlB6
      rw [f_X12_divisor_L6] at hB6
      exact nomatch hB6
    | succ n6 ih6 =>
      intro x4_3 x6_4 H locs ls hB6 hVB6 hlB6
      rw [f_X12_divisor_L6] at hB6
      refine lv_lload hx hb dX12_divisor_6 (lv_at hlB6 1 rfl) ?_
      refine lv_lconst (v := 0) hx hb dX12_divisor_8 (by decide) ?_
      refine W.lcmp hx hb dX12_divisor_9 ?_
      refine lv_if_eq (tgt := 31) hx hb dX12_divisor_10 (by decide) (fun c5 => ?_) (fun c5 => ?_)
      · have h6 := itS c5 hB6
        clear hB6 c5
        refine lv_lload hx hb dX12_divisor_31 (lv_at hlB6 0 rfl) ?_
        cases h6
        exact hret _ () _ _ _ _ rfl hVB6 dX12_divisor_33
      · have h7 := ieS c5 hB6
        clear hB6 c5
        refine lv_lload hx hb dX12_divisor_13 (lv_at hlB6 0 rfl) ?_
        refine lv_lload hx hb dX12_divisor_15 (lv_at hlB6 1 rfl) ?_
        obtain ⟨hn8, h9⟩ := dvL_s h7
        clear h7
        refine lv_lrem hx hb dX12_divisor_17 hn8 ?_
        obtain ⟨v18_10, e11, h12⟩ := nmL_s h9
        clear h9
        refine ktopl e11 ?_
        clear e11
        refine lv_lstore (lv' := [(8, .long v18_10), (4, .long x4_3), (6, .long x6_4)]) hx hb dX12_divisor_18 hlB6 (by decide) rfl (fun ls hl13 => ?_)
        clear hlB6
        refine lv_lload hx hb dX12_divisor_20 (lv_at hl13 2 rfl) ?_
        refine lv_lstore (lv' := [(4, .long x6_4), (8, .long v18_10), (6, .long x6_4)]) hx hb dX12_divisor_22 hl13 (by decide) rfl (fun ls hl14 => ?_)
        clear hl13
        refine lv_lload hx hb dX12_divisor_24 (lv_at hl14 1 rfl) ?_
        refine lv_lstore (lv' := [(6, .long v18_10), (4, .long x6_4), (8, .long v18_10)]) hx hb dX12_divisor_26 hl14 (by decide) rfl (fun ls hl15 => ?_)
        clear hl14
        refine lv_goto (tgt := 6) hx hb dX12_divisor_28 (by decide) ?_
        exact ih6 x6_4 v18_10 _ _ _ h12 hVB6 (lv_sub hl15 [1, 0] rfl)
  exact L6 FU p1 p2 _ _ _ h hV (lv_sub hl2 [1, 0] rfl)
abbrev r_X12_canLook : Room := { frames := 1, cells := 0, slots := 0, locals := 25 }
set_option maxHeartbeats 4000000 in
set_option maxRecDepth 100000 in
theorem c_X12_canLook (l : Launch) (E : kE) (sz : Nat) (p1 : Int32) (p2 : Int32) (p3 : Int32) (r : Int32) (h : f_X12_canLook p1 p2 p3 = some (r)) : kMi l yX12_canLook cX12_canLook 3 (some .boolean) r_X12_canLook [.int p1, .int p2, .int p3] E [] sz 0 0 (fun x (_ : Unit) => x = r) (fun _ => []) := by
  refine kmeti rfl (Nat.le_of_ble_eq_true rfl) ?_
  intro p e s m args below meth c ls A Q X hV hret hl
  have X : kC p s m c cX12_canLook 3 RX12 args E A := X
  have hx := X.1
  have hb := X.2.1
  have hl : lv_has ls 3 [(0, .int p1), (1, .int p2), (2, .int p3)] := hl
  rw [f_X12_canLook] at h
  refine lv_iload_n hx hb dX12_canLook_0 rfl (lv_at hl 0 rfl) ?_
  refine lv_i2l (v := Int32.toInt64 p1) hx hb dX12_canLook_1 rfl ?_
  refine lv_lconst (v := 0) hx hb dX12_canLook_2 (by decide) ?_
  refine lv_ldc2 (v := 20) hx hb X.2.2.2.1 (X.2.2.2.2.1 _ mw_1285) dX12_canLook_3 ?_
  obtain ⟨r6_1, hc2, h3⟩ := cb1_s h
  clear h
  refine kgoiE (krunS (rest := []) X hV [] (c_X12_lies l E _ (Int32.toInt64 p1) 0 20 r6_1 hc2) mw_224 kb_X12_lies (by decide) rfl rfl hl.1 rfl (Nat.le_of_ble_eq_true rfl) dX12_canLook_6 (by decide)) X hV [] [] rfl rfl rfl (by decide) (fun u H locs hV4 => ?_)
  have hV4 : kV E A s.heap H locs [] := hV4.sub [] rfl rfl
  clear hV
  refine lv_if_eq (tgt := 44) hx hb dX12_canLook_9 (by decide) (fun c6 => ?_) (fun c6 => ?_)
  · have h7 := itS c6 h3
    clear h3 c6
    refine lv_iconst (v := 0) hx hb dX12_canLook_44 (by decide) ?_
    cases h7
    exact hret _ () _ _ _ _ rfl rfl hV4 dX12_canLook_45
  · have h8 := ieS c6 h3
    clear h3 c6
    refine lv_iload_n hx hb dX12_canLook_12 rfl (lv_at hl 1 rfl) ?_
    refine lv_i2l (v := Int32.toInt64 p2) hx hb dX12_canLook_13 rfl ?_
    refine lv_lconst (v := 0) hx hb dX12_canLook_14 (by decide) ?_
    refine lv_ldc2 (v := 20) hx hb X.2.2.2.1 (X.2.2.2.2.1 _ mw_1285) dX12_canLook_15 ?_
    obtain ⟨r18_9, hc10, h11⟩ := cb1_s h8
    clear h8
    refine kgoiE (krunS (rest := []) X hV4 [] (c_X12_lies l E _ (Int32.toInt64 p2) 0 20 r18_9 hc10) mw_224 kb_X12_lies (by decide) rfl rfl hl.1 rfl (Nat.le_of_ble_eq_true rfl) dX12_canLook_18 (by decide)) X hV4 [] [] rfl rfl rfl (by decide) (fun u H locs hV12 => ?_)
    have hV12 : kV E A s.heap H locs [] := hV12.sub [] rfl rfl
    clear hV4
    refine lv_if_eq (tgt := 44) hx hb dX12_canLook_21 (by decide) (fun c14 => ?_) (fun c14 => ?_)
    · have h15 := itS c14 h11
      clear h11 c14
      refine lv_iconst (v := 0) hx hb dX12_canLook_44 (by decide) ?_
      cases h15
      exact hret _ () _ _ _ _ rfl rfl hV12 dX12_canLook_45
    · have h16 := ieS c14 h11
      clear h11 c14
      refine lv_iload_n hx hb dX12_canLook_24 rfl (lv_at hl 2 rfl) ?_
      refine lv_i2l (v := Int32.toInt64 p3) hx hb dX12_canLook_25 rfl ?_
      refine lv_lconst (v := 0) hx hb dX12_canLook_26 (by decide) ?_
      refine lv_iload_n hx hb dX12_canLook_27 rfl (lv_at hl 0 rfl) ?_
      refine lv_i2l (v := Int32.toInt64 p1) hx hb dX12_canLook_28 rfl ?_
      obtain ⟨r29_17, hc18, h19⟩ := cb1_s h16
      clear h16
      refine kgoiE (krunS (rest := []) X hV12 [] (c_X12_lies l E _ (Int32.toInt64 p3) 0 (Int32.toInt64 p1) r29_17 hc18) mw_224 kb_X12_lies (by decide) rfl rfl hl.1 rfl (Nat.le_of_ble_eq_true rfl) dX12_canLook_29 (by decide)) X hV12 [] [] rfl rfl rfl (by decide) (fun u H locs hV20 => ?_)
      have hV20 : kV E A s.heap H locs [] := hV20.sub [] rfl rfl
      clear hV12
      refine lv_if_eq (tgt := 44) hx hb dX12_canLook_32 (by decide) (fun c22 => ?_) (fun c22 => ?_)
      · have h23 := itS c22 h19
        clear h19 c22
        refine lv_iconst (v := 0) hx hb dX12_canLook_44 (by decide) ?_
        cases h23
        exact hret _ () _ _ _ _ rfl rfl hV20 dX12_canLook_45
      · have h24 := ieS c22 h19
        clear h19 c22
        refine lv_iload_n hx hb dX12_canLook_35 rfl (lv_at hl 2 rfl) ?_
        refine lv_iload_n hx hb dX12_canLook_36 rfl (lv_at hl 1 rfl) ?_
        refine lv_icmp_gt (tgt := 44) hx hb dX12_canLook_37 (by decide) (fun c25 => ?_) (fun c25 => ?_)
        · have h26 := itS c25 h24
          clear h24 c25
          refine lv_iconst (v := 0) hx hb dX12_canLook_44 (by decide) ?_
          cases h26
          exact hret _ () _ _ _ _ rfl rfl hV20 dX12_canLook_45
        · have h27 := ieS c25 h24
          clear h24 c25
          refine lv_iconst (v := 1) hx hb dX12_canLook_40 (by decide) ?_
          refine lv_goto (tgt := 45) hx hb dX12_canLook_41 (by decide) ?_
          cases h27
          exact hret _ () _ _ _ _ rfl rfl hV20 dX12_canLook_45
abbrev r_X12_waysOf : Room := { frames := 1, cells := 0, slots := 0, locals := 24 }
set_option maxHeartbeats 4000000 in
set_option maxRecDepth 100000 in
theorem c_X12_waysOf (l : Launch) (E : kE) (sz : Nat) (p1 : Int32) (p2 : Int32) (p3 : Int32) (p4 : Int32) (r : Int64) (h : f_X12_waysOf p1 p2 p3 p4 = some (r)) : kMl l yX12_waysOf cX12_waysOf 4 (some .long) r_X12_waysOf [.int p1, .int p2, .int p3, .int p4] E [] sz 0 0 (fun x (_ : Unit) => x = r) (fun _ => []) := by
  refine kmetl rfl (Nat.le_of_ble_eq_true rfl) ?_
  intro p e s m args below meth c ls A Q X hV hret hl
  have X : kC p s m c cX12_waysOf 4 RX12 args E A := X
  have hx := X.1
  have hb := X.2.1
  have hl : lv_has ls 4 [(0, .int p1), (1, .int p2), (2, .int p3), (3, .int p4)] := hl
  rw [f_X12_waysOf] at h
  refine lv_iload_n hx hb dX12_waysOf_0 rfl (lv_at hl 0 rfl) ?_
  refine lv_iload_n hx hb dX12_waysOf_1 rfl (lv_at hl 2 rfl) ?_
  obtain ⟨r2_1, hc2, h3⟩ := cb1_s h
  clear h
  refine kgolE (krunS (rest := []) X hV [] (c_X12_choices l E _ p1 p3 r2_1 hc2) mw_1289 kb_X12_choices (by decide) rfl rfl hl.1 rfl (Nat.le_of_ble_eq_true rfl) dX12_waysOf_2 (by decide)) X hV [] [] rfl rfl rfl (by decide) (fun u H locs hV4 => ?_)
  have hV4 : kV E A s.heap H locs [] := hV4.sub [] rfl rfl
  clear hV
  refine lv_iload_n hx hb dX12_waysOf_5 rfl (lv_at hl 3 rfl) ?_
  refine lv_iload_n hx hb dX12_waysOf_6 rfl (lv_at hl 0 rfl) ?_
  refine lv_isub hx hb dX12_waysOf_7 ?_
  refine lv_iload_n hx hb dX12_waysOf_8 rfl (lv_at hl 1 rfl) ?_
  refine lv_iload_n hx hb dX12_waysOf_9 rfl (lv_at hl 2 rfl) ?_
  refine lv_isub hx hb dX12_waysOf_10 ?_
  obtain ⟨r11_6, hc7, h8⟩ := cb1_s h3
  clear h3
  refine kgolE (krunS (rest := [.long r2_1]) X hV4 [] (c_X12_choices l E _ (p4 - p1) (p2 - p3) r11_6 hc7) mw_1289 kb_X12_choices (by decide) rfl rfl hl.1 rfl (Nat.le_of_ble_eq_true rfl) dX12_waysOf_11 (by decide)) X hV4 [] [] rfl rfl rfl (by decide) (fun u H locs hV9 => ?_)
  have hV9 : kV E A s.heap H locs [] := hV9.sub [] rfl rfl
  clear hV4
  refine lv_lmul hx hb dX12_waysOf_14 ?_
  cases h8
  exact hret _ () _ _ _ _ rfl hV9 dX12_waysOf_15
abbrev r_X12_odds : Room := { frames := 2, cells := 0, slots := 0, locals := 47 }
set_option maxHeartbeats 4000000 in
set_option maxRecDepth 100000 in
theorem c_X12_odds (l : Launch) (E : kE) (sz : Nat) (a0 : Nat) (w0_0 w0_1 w0_2 w0_3 w0_4 w0_5 w0_6 w0_7 w0_8 w0_9 w0_10 w0_11 w0_12 w0_13 w0_14 w0_15 w0_16 w0_17 w0_18 w0_19 w0_20 w0_21 w0_22 w0_23 w0_24 w0_25 w0_26 w0_27 w0_28 w0_29 w0_30 w0_31 w0_32 w0_33 w0_34 w0_35 w0_36 w0_37 w0_38 w0_39 w0_40 w0_41 w0_42 w0_43 w0_44 w0_45 w0_46 w0_47 w0_48 w0_49 w0_50 w0_51 w0_52 w0_53 w0_54 w0_55 w0_56 w0_57 w0_58 w0_59 w0_60 w0_61 w0_62 w0_63 w0_64 w0_65 w0_66 : Value) (p1 : Int32) (p2 : Int32) (p3 : Int32) (p4 : Int32) (p5 : Int32) (r : Int64) (h : f_X12_odds p1 p2 p3 p4 p5 = some (r)) : kMl l yX12_odds cX12_odds 12 (some .long) r_X12_odds [.ref a0, .int p1, .int p2, .int p3, .int p4, .int p5] E [(a0, .inr (12, [w0_0, w0_1, w0_2, w0_3, w0_4, w0_5, w0_6, w0_7, w0_8, w0_9, w0_10, w0_11, w0_12, w0_13, w0_14, w0_15, w0_16, w0_17, w0_18, w0_19, w0_20, w0_21, w0_22, w0_23, w0_24, w0_25, w0_26, w0_27, w0_28, w0_29, w0_30, w0_31, w0_32, w0_33, w0_34, w0_35, w0_36, w0_37, w0_38, w0_39, w0_40, w0_41, w0_42, w0_43, w0_44, w0_45, w0_46, w0_47, w0_48, w0_49, w0_50, w0_51, w0_52, w0_53, w0_54, w0_55, w0_56, w0_57, w0_58, w0_59, w0_60, w0_61, w0_62, w0_63, w0_64, w0_65, w0_66]))] sz 0 0 (fun x (_ : Unit) => x = r) (fun _ => [(a0, .inr (12, [w0_0, w0_1, w0_2, w0_3, w0_4, w0_5, w0_6, w0_7, w0_8, w0_9, w0_10, w0_11, w0_12, w0_13, w0_14, w0_15, w0_16, w0_17, w0_18, w0_19, w0_20, w0_21, w0_22, w0_23, w0_24, w0_25, w0_26, w0_27, w0_28, w0_29, w0_30, w0_31, w0_32, w0_33, w0_34, w0_35, w0_36, w0_37, w0_38, w0_39, w0_40, w0_41, w0_42, w0_43, w0_44, w0_45, w0_46, w0_47, w0_48, w0_49, w0_50, w0_51, w0_52, w0_53, w0_54, w0_55, w0_56, w0_57, w0_58, w0_59, w0_60, w0_61, w0_62, w0_63, w0_64, w0_65, w0_66]))]) := by
  refine kmetl rfl (Nat.le_of_ble_eq_true rfl) ?_
  intro p e s m args below meth c ls A Q X hV hret hl
  have X : kC p s m c cX12_odds 12 RX12 args E A := X
  have hx := X.1
  have hb := X.2.1
  have hl : lv_has ls 12 [(0, .ref a0), (1, .int p1), (2, .int p2), (3, .int p3), (4, .int p4), (5, .int p5)] := hl
  rw [f_X12_odds] at h
  refine lv_iload_n hx hb dX12_odds_0 rfl (lv_at hl 1 rfl) ?_
  refine lv_iload_n hx hb dX12_odds_1 rfl (lv_at hl 2 rfl) ?_
  refine lv_iload_n hx hb dX12_odds_2 rfl (lv_at hl 3 rfl) ?_
  obtain ⟨r3_1, hc2, h3⟩ := cb1_s h
  clear h
  refine kgoiE (krunS (rest := []) X hV [] (c_X12_canLook l E _ p1 p2 p3 r3_1 hc2) mw_1282 kb_X12_canLook (by decide) rfl rfl hl.1 rfl (Nat.le_of_ble_eq_true rfl) dX12_odds_3 (by decide)) X hV [] [0] rfl rfl rfl (by decide) (fun u H locs hV4 => ?_)
  have hV4 : kV E A s.heap H locs [(a0, .inr (12, [w0_0, w0_1, w0_2, w0_3, w0_4, w0_5, w0_6, w0_7, w0_8, w0_9, w0_10, w0_11, w0_12, w0_13, w0_14, w0_15, w0_16, w0_17, w0_18, w0_19, w0_20, w0_21, w0_22, w0_23, w0_24, w0_25, w0_26, w0_27, w0_28, w0_29, w0_30, w0_31, w0_32, w0_33, w0_34, w0_35, w0_36, w0_37, w0_38, w0_39, w0_40, w0_41, w0_42, w0_43, w0_44, w0_45, w0_46, w0_47, w0_48, w0_49, w0_50, w0_51, w0_52, w0_53, w0_54, w0_55, w0_56, w0_57, w0_58, w0_59, w0_60, w0_61, w0_62, w0_63, w0_64, w0_65, w0_66]))] := hV4.sub [0] rfl rfl
  clear hV
  refine lv_if_eq (tgt := 38) hx hb dX12_odds_6 (by decide) (fun c6 => ?_) (fun c6 => ?_)
  · have h7 := itS c6 h3
    clear h3 c6
    refine lv_ldc2 (v := (-1)) hx hb X.2.2.2.1 (X.2.2.2.2.1 _ mw_1281) dX12_odds_38 ?_
    cases h7
    exact hret _ () _ _ _ _ rfl hV4 dX12_odds_41
  · have h8 := ieS c6 h3
    clear h3 c6
    refine lv_iload hx hb dX12_odds_9 (lv_at hl 4 rfl) ?_
    refine lv_i2l (v := Int32.toInt64 p4) hx hb dX12_odds_11 rfl ?_
    refine lv_iload_n hx hb dX12_odds_12 rfl (lv_at hl 1 rfl) ?_
    refine lv_iload_n hx hb dX12_odds_13 rfl (lv_at hl 2 rfl) ?_
    refine lv_iadd hx hb dX12_odds_14 ?_
    refine lv_iload_n hx hb dX12_odds_15 rfl (lv_at hl 3 rfl) ?_
    refine lv_isub hx hb dX12_odds_16 ?_
    refine lv_i2l (v := Int32.toInt64 ((p1 + p2) - p3)) hx hb dX12_odds_17 rfl ?_
    refine lv_ldc2 (v := 40) hx hb X.2.2.2.1 (X.2.2.2.2.1 _ mw_1280) dX12_odds_18 ?_
    obtain ⟨r21_9, hc10, h11⟩ := cb1_s h8
    clear h8
    refine kgoiE (krunS (rest := []) X hV4 [] (c_X12_lies l E _ (Int32.toInt64 p4) (Int32.toInt64 ((p1 + p2) - p3)) 40 r21_9 hc10) mw_224 kb_X12_lies (by decide) rfl rfl hl.1 rfl (Nat.le_of_ble_eq_true rfl) dX12_odds_21 (by decide)) X hV4 [] [0] rfl rfl rfl (by decide) (fun u H locs hV12 => ?_)
    have hV12 : kV E A s.heap H locs [(a0, .inr (12, [w0_0, w0_1, w0_2, w0_3, w0_4, w0_5, w0_6, w0_7, w0_8, w0_9, w0_10, w0_11, w0_12, w0_13, w0_14, w0_15, w0_16, w0_17, w0_18, w0_19, w0_20, w0_21, w0_22, w0_23, w0_24, w0_25, w0_26, w0_27, w0_28, w0_29, w0_30, w0_31, w0_32, w0_33, w0_34, w0_35, w0_36, w0_37, w0_38, w0_39, w0_40, w0_41, w0_42, w0_43, w0_44, w0_45, w0_46, w0_47, w0_48, w0_49, w0_50, w0_51, w0_52, w0_53, w0_54, w0_55, w0_56, w0_57, w0_58, w0_59, w0_60, w0_61, w0_62, w0_63, w0_64, w0_65, w0_66]))] := hV12.sub [0] rfl rfl
    clear hV4
    refine lv_if_eq (tgt := 38) hx hb dX12_odds_24 (by decide) (fun c14 => ?_) (fun c14 => ?_)
    · have h15 := itS c14 h11
      clear h11 c14
      refine lv_ldc2 (v := (-1)) hx hb X.2.2.2.1 (X.2.2.2.2.1 _ mw_1281) dX12_odds_38 ?_
      cases h15
      exact hret _ () _ _ _ _ rfl hV12 dX12_odds_41
    · have h16 := ieS c14 h11
      clear h11 c14
      refine lv_iload hx hb dX12_odds_27 (lv_at hl 5 rfl) ?_
      refine lv_i2l (v := Int32.toInt64 p5) hx hb dX12_odds_29 rfl ?_
      refine lv_lconst (v := 0) hx hb dX12_odds_30 (by decide) ?_
      refine lv_lconst (v := 1) hx hb dX12_odds_31 (by decide) ?_
      obtain ⟨r32_17, hc18, h19⟩ := cb1_s h16
      clear h16
      refine kgoiE (krunS (rest := []) X hV12 [] (c_X12_lies l E _ (Int32.toInt64 p5) 0 1 r32_17 hc18) mw_224 kb_X12_lies (by decide) rfl rfl hl.1 rfl (Nat.le_of_ble_eq_true rfl) dX12_odds_32 (by decide)) X hV12 [] [0] rfl rfl rfl (by decide) (fun u H locs hV20 => ?_)
      have hV20 : kV E A s.heap H locs [(a0, .inr (12, [w0_0, w0_1, w0_2, w0_3, w0_4, w0_5, w0_6, w0_7, w0_8, w0_9, w0_10, w0_11, w0_12, w0_13, w0_14, w0_15, w0_16, w0_17, w0_18, w0_19, w0_20, w0_21, w0_22, w0_23, w0_24, w0_25, w0_26, w0_27, w0_28, w0_29, w0_30, w0_31, w0_32, w0_33, w0_34, w0_35, w0_36, w0_37, w0_38, w0_39, w0_40, w0_41, w0_42, w0_43, w0_44, w0_45, w0_46, w0_47, w0_48, w0_49, w0_50, w0_51, w0_52, w0_53, w0_54, w0_55, w0_56, w0_57, w0_58, w0_59, w0_60, w0_61, w0_62, w0_63, w0_64, w0_65, w0_66]))] := hV20.sub [0] rfl rfl
      clear hV12
      refine lv_if_ne (tgt := 42) hx hb dX12_odds_35 (by decide) (fun c22 => ?_) (fun c22 => ?_)
      · have h23 := ieS c22 h19
        clear h19 c22
        refine lv_iload_n hx hb dX12_odds_42 rfl (lv_at hl 1 rfl) ?_
        refine lv_iload_n hx hb dX12_odds_43 rfl (lv_at hl 2 rfl) ?_
        refine lv_iload_n hx hb dX12_odds_44 rfl (lv_at hl 3 rfl) ?_
        refine lv_iload hx hb dX12_odds_45 (lv_at hl 4 rfl) ?_
        obtain ⟨r47_25, hc26, h27⟩ := cb1_s h23
        clear h23
        refine kgolE (krunS (rest := []) X hV20 [] (c_X12_waysOf l E _ p1 p2 p3 p4 r47_25 hc26) mw_1286 kb_X12_waysOf (by decide) rfl rfl hl.1 rfl (Nat.le_of_ble_eq_true rfl) dX12_odds_47 (by decide)) X hV20 [] [0] rfl rfl rfl (by decide) (fun u H locs hV28 => ?_)
        have hV28 : kV E A s.heap H locs [(a0, .inr (12, [w0_0, w0_1, w0_2, w0_3, w0_4, w0_5, w0_6, w0_7, w0_8, w0_9, w0_10, w0_11, w0_12, w0_13, w0_14, w0_15, w0_16, w0_17, w0_18, w0_19, w0_20, w0_21, w0_22, w0_23, w0_24, w0_25, w0_26, w0_27, w0_28, w0_29, w0_30, w0_31, w0_32, w0_33, w0_34, w0_35, w0_36, w0_37, w0_38, w0_39, w0_40, w0_41, w0_42, w0_43, w0_44, w0_45, w0_46, w0_47, w0_48, w0_49, w0_50, w0_51, w0_52, w0_53, w0_54, w0_55, w0_56, w0_57, w0_58, w0_59, w0_60, w0_61, w0_62, w0_63, w0_64, w0_65, w0_66]))] := hV28.sub [0] rfl rfl
        clear hV20
        refine lv_lstore (lv' := [(6, .long r47_25), (0, .ref a0), (1, .int p1), (2, .int p2), (3, .int p3), (4, .int p4), (5, .int p5)]) hx hb dX12_odds_50 hl (by decide) rfl (fun ls hl30 => ?_)
        clear hl
        refine lv_iload hx hb dX12_odds_52 (lv_at hl30 5 rfl) ?_
        refine lv_iload_n hx hb dX12_odds_54 rfl (lv_at hl30 3 rfl) ?_
        obtain ⟨r55_31, hc32, h33⟩ := cb1_s h27
        clear h27
        refine kgolE (krunS (rest := []) X hV28 [] (c_X12_choices l E _ p4 p2 r55_31 hc32) mw_1289 kb_X12_choices (by decide) rfl rfl hl30.1 rfl (Nat.le_of_ble_eq_true rfl) dX12_odds_55 (by decide)) X hV28 [] [0] rfl rfl rfl (by decide) (fun u H locs hV34 => ?_)
        have hV34 : kV E A s.heap H locs [(a0, .inr (12, [w0_0, w0_1, w0_2, w0_3, w0_4, w0_5, w0_6, w0_7, w0_8, w0_9, w0_10, w0_11, w0_12, w0_13, w0_14, w0_15, w0_16, w0_17, w0_18, w0_19, w0_20, w0_21, w0_22, w0_23, w0_24, w0_25, w0_26, w0_27, w0_28, w0_29, w0_30, w0_31, w0_32, w0_33, w0_34, w0_35, w0_36, w0_37, w0_38, w0_39, w0_40, w0_41, w0_42, w0_43, w0_44, w0_45, w0_46, w0_47, w0_48, w0_49, w0_50, w0_51, w0_52, w0_53, w0_54, w0_55, w0_56, w0_57, w0_58, w0_59, w0_60, w0_61, w0_62, w0_63, w0_64, w0_65, w0_66]))] := hV34.sub [0] rfl rfl
        clear hV28
        refine lv_lstore (lv' := [(8, .long r55_31), (6, .long r47_25), (0, .ref a0), (1, .int p1), (2, .int p2), (3, .int p3), (4, .int p4), (5, .int p5)]) hx hb dX12_odds_58 hl30 (by decide) rfl (fun ls hl36 => ?_)
        clear hl30
        refine lv_lload hx hb dX12_odds_60 (lv_at hl36 1 rfl) ?_
        refine lv_lload hx hb dX12_odds_62 (lv_at hl36 0 rfl) ?_
        obtain ⟨r64_37, hc38, h39⟩ := cb1_s h33
        clear h33
        refine kgolE (krunS (rest := []) X hV34 [] (c_X12_divisor l E _ r47_25 r55_31 r64_37 hc38) mw_1292 kb_X12_divisor (by decide) rfl rfl hl36.1 rfl (Nat.le_of_ble_eq_true rfl) dX12_odds_64 (by decide)) X hV34 [] [0] rfl rfl rfl (by decide) (fun u H locs hV40 => ?_)
        have hV40 : kV E A s.heap H locs [(a0, .inr (12, [w0_0, w0_1, w0_2, w0_3, w0_4, w0_5, w0_6, w0_7, w0_8, w0_9, w0_10, w0_11, w0_12, w0_13, w0_14, w0_15, w0_16, w0_17, w0_18, w0_19, w0_20, w0_21, w0_22, w0_23, w0_24, w0_25, w0_26, w0_27, w0_28, w0_29, w0_30, w0_31, w0_32, w0_33, w0_34, w0_35, w0_36, w0_37, w0_38, w0_39, w0_40, w0_41, w0_42, w0_43, w0_44, w0_45, w0_46, w0_47, w0_48, w0_49, w0_50, w0_51, w0_52, w0_53, w0_54, w0_55, w0_56, w0_57, w0_58, w0_59, w0_60, w0_61, w0_62, w0_63, w0_64, w0_65, w0_66]))] := hV40.sub [0] rfl rfl
        clear hV34
        refine lv_lstore (lv' := [(10, .long r64_37), (8, .long r55_31), (6, .long r47_25), (0, .ref a0), (1, .int p1), (2, .int p2), (3, .int p3), (4, .int p4), (5, .int p5)]) hx hb dX12_odds_67 hl36 (by decide) rfl (fun ls hl42 => ?_)
        clear hl36
        refine lv_iload hx hb dX12_odds_69 (lv_at hl42 8 rfl) ?_
        refine lv_if_ne (tgt := 82) hx hb dX12_odds_71 (by decide) (fun c43 => ?_) (fun c43 => ?_)
        · have h44 := ieS c43 h39
          clear h39 c43
          refine lv_lload hx hb dX12_odds_82 (lv_at hl42 1 rfl) ?_
          refine lv_lload hx hb dX12_odds_84 (lv_at hl42 0 rfl) ?_
          obtain ⟨hn46, h47⟩ := dvL_s h44
          clear h44
          refine lv_ldiv hx hb dX12_odds_86 hn46 ?_
          cases h47
          exact hret _ () _ _ _ _ rfl hV40 dX12_odds_87
        · have h45 := itS c43 h39
          clear h39 c43
          refine lv_lload hx hb dX12_odds_74 (lv_at hl42 2 rfl) ?_
          refine lv_lload hx hb dX12_odds_76 (lv_at hl42 0 rfl) ?_
          obtain ⟨hn48, h49⟩ := dvL_s h45
          clear h45
          refine lv_ldiv hx hb dX12_odds_78 hn48 ?_
          refine lv_goto (tgt := 87) hx hb dX12_odds_79 (by decide) ?_
          cases h49
          exact hret _ () _ _ _ _ rfl hV40 dX12_odds_87
      · have h24 := itS c22 h19
        clear h19 c22
        refine lv_ldc2 (v := (-1)) hx hb X.2.2.2.1 (X.2.2.2.2.1 _ mw_1281) dX12_odds_38 ?_
        cases h24
        exact hret _ () _ _ _ _ rfl hV20 dX12_odds_41
abbrev r_X12_more : Room := { frames := 2, cells := 0, slots := 0, locals := 47 }
set_option maxHeartbeats 4000000 in
set_option maxRecDepth 100000 in
theorem c_X12_more (l : Launch) (E : kE) (sz : Nat) (a0 : Nat) (w0_0 w0_1 w0_2 w0_3 w0_4 w0_5 w0_6 w0_7 w0_8 w0_9 w0_10 w0_11 w0_12 w0_13 w0_14 w0_15 w0_16 w0_17 w0_18 w0_19 w0_20 w0_21 w0_22 w0_23 w0_24 w0_25 w0_26 w0_27 w0_28 w0_29 w0_30 w0_31 w0_32 w0_33 w0_34 w0_35 w0_36 w0_37 w0_38 w0_39 w0_40 w0_41 w0_42 w0_43 w0_44 w0_45 w0_46 w0_47 w0_48 w0_49 w0_50 w0_51 w0_52 w0_53 w0_54 w0_55 w0_56 w0_57 w0_58 w0_59 w0_60 w0_61 w0_62 w0_63 w0_64 w0_65 w0_66 : Value) (p1 : Int32) (p2 : Int32) (p3 : Int32) (p4 : Int32) (p5 : Int32) (r : Int32) (h : f_X12_more p1 p2 p3 p4 p5 = some (r)) : kMi l yX12_more cX12_more 8 (some .int) r_X12_more [.ref a0, .int p1, .int p2, .int p3, .int p4, .int p5] E [(a0, .inr (12, [w0_0, w0_1, w0_2, w0_3, w0_4, w0_5, w0_6, w0_7, w0_8, w0_9, w0_10, w0_11, w0_12, w0_13, w0_14, w0_15, w0_16, w0_17, w0_18, w0_19, w0_20, w0_21, w0_22, w0_23, w0_24, w0_25, w0_26, w0_27, w0_28, w0_29, w0_30, w0_31, w0_32, w0_33, w0_34, w0_35, w0_36, w0_37, w0_38, w0_39, w0_40, w0_41, w0_42, w0_43, w0_44, w0_45, w0_46, w0_47, w0_48, w0_49, w0_50, w0_51, w0_52, w0_53, w0_54, w0_55, w0_56, w0_57, w0_58, w0_59, w0_60, w0_61, w0_62, w0_63, w0_64, w0_65, w0_66]))] sz 0 0 (fun x (_ : Unit) => x = r) (fun _ => [(a0, .inr (12, [w0_0, w0_1, w0_2, w0_3, w0_4, w0_5, w0_6, w0_7, w0_8, w0_9, w0_10, w0_11, w0_12, w0_13, w0_14, w0_15, w0_16, w0_17, w0_18, w0_19, w0_20, w0_21, w0_22, w0_23, w0_24, w0_25, w0_26, w0_27, w0_28, w0_29, w0_30, w0_31, w0_32, w0_33, w0_34, w0_35, w0_36, w0_37, w0_38, w0_39, w0_40, w0_41, w0_42, w0_43, w0_44, w0_45, w0_46, w0_47, w0_48, w0_49, w0_50, w0_51, w0_52, w0_53, w0_54, w0_55, w0_56, w0_57, w0_58, w0_59, w0_60, w0_61, w0_62, w0_63, w0_64, w0_65, w0_66]))]) := by
  refine kmeti rfl (Nat.le_of_ble_eq_true rfl) ?_
  intro p e s m args below meth c ls A Q X hV hret hl
  have X : kC p s m c cX12_more 8 RX12 args E A := X
  have hx := X.1
  have hb := X.2.1
  have hl : lv_has ls 8 [(0, .ref a0), (1, .int p1), (2, .int p2), (3, .int p3), (4, .int p4), (5, .int p5)] := hl
  rw [f_X12_more] at h
  refine lv_iload_n hx hb dX12_more_0 rfl (lv_at hl 1 rfl) ?_
  refine lv_iload_n hx hb dX12_more_1 rfl (lv_at hl 2 rfl) ?_
  refine lv_iload_n hx hb dX12_more_2 rfl (lv_at hl 3 rfl) ?_
  obtain ⟨r3_1, hc2, h3⟩ := cb1_s h
  clear h
  refine kgoiE (krunS (rest := []) X hV [] (c_X12_canLook l E _ p1 p2 p3 r3_1 hc2) mw_1282 kb_X12_canLook (by decide) rfl rfl hl.1 rfl (Nat.le_of_ble_eq_true rfl) dX12_more_3 (by decide)) X hV [] [0] rfl rfl rfl (by decide) (fun u H locs hV4 => ?_)
  have hV4 : kV E A s.heap H locs [(a0, .inr (12, [w0_0, w0_1, w0_2, w0_3, w0_4, w0_5, w0_6, w0_7, w0_8, w0_9, w0_10, w0_11, w0_12, w0_13, w0_14, w0_15, w0_16, w0_17, w0_18, w0_19, w0_20, w0_21, w0_22, w0_23, w0_24, w0_25, w0_26, w0_27, w0_28, w0_29, w0_30, w0_31, w0_32, w0_33, w0_34, w0_35, w0_36, w0_37, w0_38, w0_39, w0_40, w0_41, w0_42, w0_43, w0_44, w0_45, w0_46, w0_47, w0_48, w0_49, w0_50, w0_51, w0_52, w0_53, w0_54, w0_55, w0_56, w0_57, w0_58, w0_59, w0_60, w0_61, w0_62, w0_63, w0_64, w0_65, w0_66]))] := hV4.sub [0] rfl rfl
  clear hV
  refine lv_if_eq (tgt := 33) hx hb dX12_more_6 (by decide) (fun c6 => ?_) (fun c6 => ?_)
  · have h7 := itS c6 h3
    clear h3 c6
    refine lv_iconst (v := (-1)) hx hb dX12_more_33 (by decide) ?_
    cases h7
    exact hret _ () _ _ _ _ rfl rfl hV4 dX12_more_34
  · have h8 := ieS c6 h3
    clear h3 c6
    refine lv_iload hx hb dX12_more_9 (lv_at hl 4 rfl) ?_
    refine lv_i2l (v := Int32.toInt64 p4) hx hb dX12_more_11 rfl ?_
    refine lv_lconst (v := 1) hx hb dX12_more_12 (by decide) ?_
    refine lv_ldc2 (v := 1000) hx hb X.2.2.2.1 (X.2.2.2.2.1 _ mw_1010) dX12_more_13 ?_
    obtain ⟨r16_9, hc10, h11⟩ := cb1_s h8
    clear h8
    refine kgoiE (krunS (rest := []) X hV4 [] (c_X12_lies l E _ (Int32.toInt64 p4) 1 1000 r16_9 hc10) mw_224 kb_X12_lies (by decide) rfl rfl hl.1 rfl (Nat.le_of_ble_eq_true rfl) dX12_more_16 (by decide)) X hV4 [] [0] rfl rfl rfl (by decide) (fun u H locs hV12 => ?_)
    have hV12 : kV E A s.heap H locs [(a0, .inr (12, [w0_0, w0_1, w0_2, w0_3, w0_4, w0_5, w0_6, w0_7, w0_8, w0_9, w0_10, w0_11, w0_12, w0_13, w0_14, w0_15, w0_16, w0_17, w0_18, w0_19, w0_20, w0_21, w0_22, w0_23, w0_24, w0_25, w0_26, w0_27, w0_28, w0_29, w0_30, w0_31, w0_32, w0_33, w0_34, w0_35, w0_36, w0_37, w0_38, w0_39, w0_40, w0_41, w0_42, w0_43, w0_44, w0_45, w0_46, w0_47, w0_48, w0_49, w0_50, w0_51, w0_52, w0_53, w0_54, w0_55, w0_56, w0_57, w0_58, w0_59, w0_60, w0_61, w0_62, w0_63, w0_64, w0_65, w0_66]))] := hV12.sub [0] rfl rfl
    clear hV4
    refine lv_if_eq (tgt := 33) hx hb dX12_more_19 (by decide) (fun c14 => ?_) (fun c14 => ?_)
    · have h15 := itS c14 h11
      clear h11 c14
      refine lv_iconst (v := (-1)) hx hb dX12_more_33 (by decide) ?_
      cases h15
      exact hret _ () _ _ _ _ rfl rfl hV12 dX12_more_34
    · have h16 := ieS c14 h11
      clear h11 c14
      refine lv_iload hx hb dX12_more_22 (lv_at hl 5 rfl) ?_
      refine lv_i2l (v := Int32.toInt64 p5) hx hb dX12_more_24 rfl ?_
      refine lv_lconst (v := 0) hx hb dX12_more_25 (by decide) ?_
      refine lv_lconst (v := 1) hx hb dX12_more_26 (by decide) ?_
      obtain ⟨r27_17, hc18, h19⟩ := cb1_s h16
      clear h16
      refine kgoiE (krunS (rest := []) X hV12 [] (c_X12_lies l E _ (Int32.toInt64 p5) 0 1 r27_17 hc18) mw_224 kb_X12_lies (by decide) rfl rfl hl.1 rfl (Nat.le_of_ble_eq_true rfl) dX12_more_27 (by decide)) X hV12 [] [0] rfl rfl rfl (by decide) (fun u H locs hV20 => ?_)
      have hV20 : kV E A s.heap H locs [(a0, .inr (12, [w0_0, w0_1, w0_2, w0_3, w0_4, w0_5, w0_6, w0_7, w0_8, w0_9, w0_10, w0_11, w0_12, w0_13, w0_14, w0_15, w0_16, w0_17, w0_18, w0_19, w0_20, w0_21, w0_22, w0_23, w0_24, w0_25, w0_26, w0_27, w0_28, w0_29, w0_30, w0_31, w0_32, w0_33, w0_34, w0_35, w0_36, w0_37, w0_38, w0_39, w0_40, w0_41, w0_42, w0_43, w0_44, w0_45, w0_46, w0_47, w0_48, w0_49, w0_50, w0_51, w0_52, w0_53, w0_54, w0_55, w0_56, w0_57, w0_58, w0_59, w0_60, w0_61, w0_62, w0_63, w0_64, w0_65, w0_66]))] := hV20.sub [0] rfl rfl
      clear hV12
      refine lv_if_ne (tgt := 35) hx hb dX12_more_30 (by decide) (fun c22 => ?_) (fun c22 => ?_)
      · have h23 := ieS c22 h19
        clear h19 c22
        refine lv_bipush (v := (-2)) hx hb dX12_more_35 (by decide) ?_
        refine lv_istore (lv' := [(6, .int (-2)), (0, .ref a0), (1, .int p1), (2, .int p2), (3, .int p3), (4, .int p4), (5, .int p5)]) hx hb dX12_more_37 hl (by decide) rfl (fun ls hl25 => ?_)
        clear hl
        refine lv_iload_n hx hb dX12_more_39 rfl (lv_at hl25 2 rfl) ?_
        refine lv_iload_n hx hb dX12_more_40 rfl (lv_at hl25 3 rfl) ?_
        refine lv_iadd hx hb dX12_more_41 ?_
        refine lv_iload_n hx hb dX12_more_42 rfl (lv_at hl25 4 rfl) ?_
        refine lv_isub hx hb dX12_more_43 ?_
        obtain ⟨v44_26, e27, h28⟩ := nmI_s h23
        clear h23
        refine ktopi e27 ?_
        clear e27
        refine lv_istore (lv' := [(7, .int v44_26), (6, .int (-2)), (0, .ref a0), (1, .int p1), (2, .int p2), (3, .int p3), (4, .int p4), (5, .int p5)]) hx hb dX12_more_44 hl25 (by decide) rfl (fun ls hl29 => ?_)
        clear hl25
        have L46 : ∀ (n46 : Nat) (x6_30 : Int32) (x7_31 : Int32) (H : Heap) (locs : List Loc) (ls : Array Slot), (f_X12_more_L46 p1 p2 p3 p4 p5  n46) x6_30 x7_31 = some (r) → kV E A s.heap H locs [(a0, .inr (12, [w0_0, w0_1, w0_2, w0_3, w0_4, w0_5, w0_6, w0_7, w0_8, w0_9, w0_10, w0_11, w0_12, w0_13, w0_14, w0_15, w0_16, w0_17, w0_18, w0_19, w0_20, w0_21, w0_22, w0_23, w0_24, w0_25, w0_26, w0_27, w0_28, w0_29, w0_30, w0_31, w0_32, w0_33, w0_34, w0_35, w0_36, w0_37, w0_38, w0_39, w0_40, w0_41, w0_42, w0_43, w0_44, w0_45, w0_46, w0_47, w0_48, w0_49, w0_50, w0_51, w0_52, w0_53, w0_54, w0_55, w0_56, w0_57, w0_58, w0_59, w0_60, w0_61, w0_62, w0_63, w0_64, w0_65, w0_66]))] → lv_has ls 8 [(1, .int p1), (2, .int p2), (3, .int p3), (4, .int p4), (5, .int p5), (6, .int x6_30), (7, .int x7_31)] → W p l e r_X12_more s m args below meth c H locs 0 0 Q (F0 m 46 ls []) := by
          intro n46
          induction n46 with
          | zero =>
            intro x6_30 x7_31 H locs ls hB46 hVB46 hlB46
            rw [f_X12_more_L46] at hB46
            exact nomatch hB46
          | succ n46 ih46 =>
            intro x6_30 x7_31 H locs ls hB46 hVB46 hlB46
            rw [f_X12_more_L46] at hB46
            refine lv_iload hx hb dX12_more_46 (lv_at hlB46 6 rfl) ?_
            refine lv_bipush (v := 40) hx hb dX12_more_48 (by decide) ?_
            refine lv_icmp_gt (tgt := 100) hx hb dX12_more_50 (by decide) (fun c32 => ?_) (fun c32 => ?_)
            · have h33 := itS c32 hB46
              clear hB46 c32
              refine lv_iload hx hb dX12_more_100 (lv_at hlB46 5 rfl) ?_
              cases h33
              exact hret _ () _ _ _ _ rfl rfl hVB46 dX12_more_102
            · have h34 := ieS c32 hB46
              clear hB46 c32
              refine lv_iload_n hx hb dX12_more_53 rfl (lv_at hlB46 0 rfl) ?_
              refine lv_iload_n hx hb dX12_more_54 rfl (lv_at hlB46 1 rfl) ?_
              refine lv_iload_n hx hb dX12_more_55 rfl (lv_at hlB46 2 rfl) ?_
              refine lv_iload hx hb dX12_more_56 (lv_at hlB46 6 rfl) ?_
              obtain ⟨r58_35, hc36, h37⟩ := cb1_s h34
              clear h34
              refine kgolE (krunS (rest := []) X hVB46 [] (c_X12_waysOf l E _ p1 p2 p3 x7_31 r58_35 hc36) mw_1286 kb_X12_waysOf (by decide) rfl rfl hlB46.1 rfl (Nat.le_of_ble_eq_true rfl) dX12_more_58 (by decide)) X hVB46 [] [0] rfl rfl rfl (by decide) (fun u H locs hV38 => ?_)
              have hV38 : kV E A s.heap H locs [(a0, .inr (12, [w0_0, w0_1, w0_2, w0_3, w0_4, w0_5, w0_6, w0_7, w0_8, w0_9, w0_10, w0_11, w0_12, w0_13, w0_14, w0_15, w0_16, w0_17, w0_18, w0_19, w0_20, w0_21, w0_22, w0_23, w0_24, w0_25, w0_26, w0_27, w0_28, w0_29, w0_30, w0_31, w0_32, w0_33, w0_34, w0_35, w0_36, w0_37, w0_38, w0_39, w0_40, w0_41, w0_42, w0_43, w0_44, w0_45, w0_46, w0_47, w0_48, w0_49, w0_50, w0_51, w0_52, w0_53, w0_54, w0_55, w0_56, w0_57, w0_58, w0_59, w0_60, w0_61, w0_62, w0_63, w0_64, w0_65, w0_66]))] := hV38.sub [0] rfl rfl
              clear hVB46
              refine lv_ldc2 (v := 1000) hx hb X.2.2.2.1 (X.2.2.2.2.1 _ mw_1010) dX12_more_61 ?_
              refine lv_lmul hx hb dX12_more_64 ?_
              refine lv_iload hx hb dX12_more_65 (lv_at hlB46 3 rfl) ?_
              refine lv_i2l (v := Int32.toInt64 p4) hx hb dX12_more_67 rfl ?_
              refine lv_iload hx hb dX12_more_68 (lv_at hlB46 6 rfl) ?_
              refine lv_iload_n hx hb dX12_more_70 rfl (lv_at hlB46 1 rfl) ?_
              obtain ⟨r71_40, hc41, h42⟩ := cb1_s h37
              clear h37
              refine kgolE (krunS (rest := [.long (Int32.toInt64 p4), .long (r58_35 * 1000)]) X hV38 [] (c_X12_choices l E _ x7_31 p2 r71_40 hc41) mw_1289 kb_X12_choices (by decide) rfl rfl hlB46.1 rfl (Nat.le_of_ble_eq_true rfl) dX12_more_71 (by decide)) X hV38 [] [0] rfl rfl rfl (by decide) (fun u H locs hV43 => ?_)
              have hV43 : kV E A s.heap H locs [(a0, .inr (12, [w0_0, w0_1, w0_2, w0_3, w0_4, w0_5, w0_6, w0_7, w0_8, w0_9, w0_10, w0_11, w0_12, w0_13, w0_14, w0_15, w0_16, w0_17, w0_18, w0_19, w0_20, w0_21, w0_22, w0_23, w0_24, w0_25, w0_26, w0_27, w0_28, w0_29, w0_30, w0_31, w0_32, w0_33, w0_34, w0_35, w0_36, w0_37, w0_38, w0_39, w0_40, w0_41, w0_42, w0_43, w0_44, w0_45, w0_46, w0_47, w0_48, w0_49, w0_50, w0_51, w0_52, w0_53, w0_54, w0_55, w0_56, w0_57, w0_58, w0_59, w0_60, w0_61, w0_62, w0_63, w0_64, w0_65, w0_66]))] := hV43.sub [0] rfl rfl
              clear hV38
              refine lv_lmul hx hb dX12_more_74 ?_
              refine W.lcmp hx hb dX12_more_75 ?_
              refine lv_if_lt (tgt := 94) hx hb dX12_more_76 (by decide) (fun c45 => ?_) (fun c45 => ?_)
              · have h46 := itS c45 h42
                clear h42 c45
                obtain ⟨v94_48, e49, h50⟩ := nmI_s h46
                clear h46
                refine lv_iinc (v := v94_48) (lv' := [(7, .int v94_48), (1, .int p1), (2, .int p2), (3, .int p3), (4, .int p4), (5, .int p5), (6, .int x6_30)]) hx hb dX12_more_94 hlB46 (k := 6) rfl (by rw [e49]; rfl) (by decide) rfl (fun ls hl51 => ?_)
                clear hlB46 e49
                refine lv_goto (tgt := 46) hx hb dX12_more_97 (by decide) ?_
                exact ih46 x6_30 v94_48 _ _ _ h50 hV43 (lv_sub hl51 [1, 2, 3, 4, 5, 6, 0] rfl)
              · have h47 := ieS c45 h42
                clear h42 c45
                refine lv_iload hx hb dX12_more_79 (lv_at hlB46 4 rfl) ?_
                refine lv_iconst (v := 1) hx hb dX12_more_81 (by decide) ?_
                refine lv_icmp_eq (tgt := 90) hx hb dX12_more_82 (by decide) (fun c52 => ?_) (fun c52 => ?_)
                · have h53 := itS c52 h47
                  clear h47 c52
                  refine lv_iload hx hb dX12_more_90 (lv_at hlB46 6 rfl) ?_
                  refine lv_istore (lv' := [(6, .int x7_31), (1, .int p1), (2, .int p2), (3, .int p3), (4, .int p4), (5, .int p5), (7, .int x7_31)]) hx hb dX12_more_92 hlB46 (by decide) rfl (fun ls hl55 => ?_)
                  clear hlB46
                  obtain ⟨v94_56, e57, h58⟩ := nmI_s h53
                  clear h53
                  refine lv_iinc (v := v94_56) (lv' := [(7, .int v94_56), (6, .int x7_31), (1, .int p1), (2, .int p2), (3, .int p3), (4, .int p4), (5, .int p5)]) hx hb dX12_more_94 hl55 (k := 6) rfl (by rw [e57]; rfl) (by decide) rfl (fun ls hl59 => ?_)
                  clear hl55 e57
                  refine lv_goto (tgt := 46) hx hb dX12_more_97 (by decide) ?_
                  exact ih46 x7_31 v94_56 _ _ _ h58 hV43 (lv_sub hl59 [2, 3, 4, 5, 6, 1, 0] rfl)
                · have h54 := ieS c52 h47
                  clear h47 c52
                  refine lv_iload hx hb dX12_more_85 (lv_at hlB46 5 rfl) ?_
                  refine lv_if_ge (tgt := 94) hx hb dX12_more_87 (by decide) (fun c60 => ?_) (fun c60 => ?_)
                  · have h61 := itS c60 h54
                    clear h54 c60
                    obtain ⟨v94_63, e64, h65⟩ := nmI_s h61
                    clear h61
                    refine lv_iinc (v := v94_63) (lv' := [(7, .int v94_63), (1, .int p1), (2, .int p2), (3, .int p3), (4, .int p4), (5, .int p5), (6, .int x6_30)]) hx hb dX12_more_94 hlB46 (k := 6) rfl (by rw [e64]; rfl) (by decide) rfl (fun ls hl66 => ?_)
                    clear hlB46 e64
                    refine lv_goto (tgt := 46) hx hb dX12_more_97 (by decide) ?_
                    exact ih46 x6_30 v94_63 _ _ _ h65 hV43 (lv_sub hl66 [1, 2, 3, 4, 5, 6, 0] rfl)
                  · have h62 := ieS c60 h54
                    clear h54 c60
                    refine lv_iload hx hb dX12_more_90 (lv_at hlB46 6 rfl) ?_
                    refine lv_istore (lv' := [(6, .int x7_31), (1, .int p1), (2, .int p2), (3, .int p3), (4, .int p4), (5, .int p5), (7, .int x7_31)]) hx hb dX12_more_92 hlB46 (by decide) rfl (fun ls hl67 => ?_)
                    clear hlB46
                    obtain ⟨v94_68, e69, h70⟩ := nmI_s h62
                    clear h62
                    refine lv_iinc (v := v94_68) (lv' := [(7, .int v94_68), (6, .int x7_31), (1, .int p1), (2, .int p2), (3, .int p3), (4, .int p4), (5, .int p5)]) hx hb dX12_more_94 hl67 (k := 6) rfl (by rw [e69]; rfl) (by decide) rfl (fun ls hl71 => ?_)
                    clear hl67 e69
                    refine lv_goto (tgt := 46) hx hb dX12_more_97 (by decide) ?_
                    exact ih46 x7_31 v94_68 _ _ _ h70 hV43 (lv_sub hl71 [2, 3, 4, 5, 6, 1, 0] rfl)
        exact L46 FU (-2) v44_26 _ _ _ h28 hV20 (lv_sub hl29 [3, 4, 5, 6, 7, 1, 0] rfl)
      · have h24 := itS c22 h19
        clear h19 c22
        refine lv_iconst (v := (-1)) hx hb dX12_more_33 (by decide) ?_
        cases h24
        exact hret _ () _ _ _ _ rfl rfl hV20 dX12_more_34
abbrev r_X12_check : Room := { frames := 3, cells := 0, slots := 0, locals := 74 }
set_option maxHeartbeats 4000000 in
set_option maxRecDepth 100000 in
theorem c_X12_check (l : Launch) (E : kE) (sz : Nat) (a0 a1 a2 a3 a4 a5 a6 a7 : Nat) (w0_0 w0_3 w0_4 w0_5 w0_6 w0_8 w0_9 w0_10 w0_11 w0_12 w0_13 w0_14 w0_15 w0_16 w0_17 w0_18 w0_19 w0_20 w0_21 w0_22 w0_23 w0_24 w0_25 w0_26 w0_27 w0_41 w0_42 w0_43 w0_44 w0_45 w0_46 w0_47 w0_56 w0_57 w0_58 w0_59 w0_60 w0_61 w0_62 w0_63 w0_64 w0_65 w0_66 : Value) (s_taped : Int32) (s_sources : Int32) (s_atA : Int32) (s_atB : Int32) (s_atD : Int32) (s_atF : Int32) (s_atG : Int32) (s_atH : Int32) (s_atL : Int32) (s_atM : Int32) (s_atN : Int32) (s_atS : Int32) (s_atT : Int32) (s_atU : Int32) (s_atX : Int32) (s_paperHigh : Int32) (s_paperShape : Int32) (s_first : Nat → Int32) (s_greatest : Nat → Int32) (s_highAt : Nat → Int32) (s_last : Nat → Int32) (s_many : Nat → Int32) (s_marked : Nat → Int32) (s_shapeAt : Nat → Int32) (p1 : Int32) (p2 : Int32) (p3 : Int32) (r : Int32) (o_taped : Int32) (o_atA : Int32) (o_atB : Int32) (o_atD : Int32) (o_atF : Int32) (o_atG : Int32) (o_atH : Int32) (o_atL : Int32) (o_atM : Int32) (o_atN : Int32) (o_atS : Int32) (o_atT : Int32) (o_atU : Int32) (o_atX : Int32) (o_paperHigh : Int32) (o_paperShape : Int32) (o_first : Nat → Int32) (o_greatest : Nat → Int32) (o_highAt : Nat → Int32) (o_last : Nat → Int32) (o_marked : Nat → Int32) (o_shapeAt : Nat → Int32) (h : f_X12_check s_taped s_sources s_atA s_atB s_atD s_atF s_atG s_atH s_atL s_atM s_atN s_atS s_atT s_atU s_atX s_paperHigh s_paperShape s_first s_greatest s_highAt s_last s_many s_marked s_shapeAt p1 p2 p3 = some (r, o_taped, o_atA, o_atB, o_atD, o_atF, o_atG, o_atH, o_atL, o_atM, o_atN, o_atS, o_atT, o_atU, o_atX, o_paperHigh, o_paperShape, o_first, o_greatest, o_highAt, o_last, o_marked, o_shapeAt)) : kMi l yX12_check cX12_check 5 (some .int) r_X12_check [.ref a0, .int p1, .int p2, .int p3] E [(a0, .inr (12, [w0_0, .int s_taped, .int s_sources, w0_3, w0_4, w0_5, w0_6, .ref a5, w0_8, w0_9, w0_10, w0_11, w0_12, w0_13, w0_14, w0_15, w0_16, w0_17, w0_18, w0_19, w0_20, w0_21, w0_22, w0_23, w0_24, w0_25, w0_26, w0_27, .int s_atA, .int s_atB, .int s_atD, .int s_atF, .int s_atG, .int s_atH, .int s_atL, .int s_atM, .int s_atN, .int s_atS, .int s_atT, .int s_atU, .int s_atX, w0_41, w0_42, w0_43, w0_44, w0_45, w0_46, w0_47, .int s_paperHigh, .int s_paperShape, .ref a3, .ref a7, .ref a1, .ref a4, .ref a2, .ref a6, w0_56, w0_57, w0_58, w0_59, w0_60, w0_61, w0_62, w0_63, w0_64, w0_65, w0_66])), (a1, .inl (E.2 0, 1440, .inl s_first)), (a2, .inl (E.2 0, 1440, .inl s_greatest)), (a3, .inl (E.2 0, 1440, .inl s_highAt)), (a4, .inl (E.2 0, 1440, .inl s_last)), (a5, .inl (E.2 0, 20, .inl s_many)), (a6, .inl (E.2 0, 2, .inl s_marked)), (a7, .inl (E.2 0, 1440, .inl s_shapeAt))] sz 0 0 (fun x (_ : Unit) => x = r) (fun _ => [(a0, .inr (12, [w0_0, .int o_taped, .int s_sources, w0_3, w0_4, w0_5, w0_6, .ref a5, w0_8, w0_9, w0_10, w0_11, w0_12, w0_13, w0_14, w0_15, w0_16, w0_17, w0_18, w0_19, w0_20, w0_21, w0_22, w0_23, w0_24, w0_25, w0_26, w0_27, .int o_atA, .int o_atB, .int o_atD, .int o_atF, .int o_atG, .int o_atH, .int o_atL, .int o_atM, .int o_atN, .int o_atS, .int o_atT, .int o_atU, .int o_atX, w0_41, w0_42, w0_43, w0_44, w0_45, w0_46, w0_47, .int o_paperHigh, .int o_paperShape, .ref a3, .ref a7, .ref a1, .ref a4, .ref a2, .ref a6, w0_56, w0_57, w0_58, w0_59, w0_60, w0_61, w0_62, w0_63, w0_64, w0_65, w0_66])), (a1, .inl (E.2 0, 1440, .inl o_first)), (a2, .inl (E.2 0, 1440, .inl o_greatest)), (a3, .inl (E.2 0, 1440, .inl o_highAt)), (a4, .inl (E.2 0, 1440, .inl o_last)), (a5, .inl (E.2 0, 20, .inl s_many)), (a6, .inl (E.2 0, 2, .inl o_marked)), (a7, .inl (E.2 0, 1440, .inl o_shapeAt))]) := by
  refine kmeti rfl (Nat.le_of_ble_eq_true rfl) ?_
  intro p e s m args below meth c ls A Q X hV hret hl
  have X : kC p s m c cX12_check 5 RX12 args E A := X
  have hx := X.1
  have hb := X.2.1
  have hl : lv_has ls 5 [(0, .ref a0), (1, .int p1), (2, .int p2), (3, .int p3)] := hl
  rw [f_X12_check] at h
  refine lv_iload_n hx hb dX12_check_0 rfl (lv_at hl 1 rfl) ?_
  obtain ⟨r1_1, hc2, h3⟩ := cb1_s h
  clear h
  refine kgoiE (krunS (rest := []) X hV [] (c_X12_isReader l E _ p1 r1_1 hc2) mw_595 kb_X12_isReader (by decide) rfl rfl hl.1 rfl (Nat.le_of_ble_eq_true rfl) dX12_check_1 (by decide)) X hV [] [0, 1, 2, 3, 4, 5, 6, 7] rfl rfl rfl (by decide) (fun u H locs hV4 => ?_)
  have hV4 : kV E A s.heap H locs [(a0, .inr (12, [w0_0, .int s_taped, .int s_sources, w0_3, w0_4, w0_5, w0_6, .ref a5, w0_8, w0_9, w0_10, w0_11, w0_12, w0_13, w0_14, w0_15, w0_16, w0_17, w0_18, w0_19, w0_20, w0_21, w0_22, w0_23, w0_24, w0_25, w0_26, w0_27, .int s_atA, .int s_atB, .int s_atD, .int s_atF, .int s_atG, .int s_atH, .int s_atL, .int s_atM, .int s_atN, .int s_atS, .int s_atT, .int s_atU, .int s_atX, w0_41, w0_42, w0_43, w0_44, w0_45, w0_46, w0_47, .int s_paperHigh, .int s_paperShape, .ref a3, .ref a7, .ref a1, .ref a4, .ref a2, .ref a6, w0_56, w0_57, w0_58, w0_59, w0_60, w0_61, w0_62, w0_63, w0_64, w0_65, w0_66])), (a1, .inl (E.2 0, 1440, .inl s_first)), (a2, .inl (E.2 0, 1440, .inl s_greatest)), (a3, .inl (E.2 0, 1440, .inl s_highAt)), (a4, .inl (E.2 0, 1440, .inl s_last)), (a5, .inl (E.2 0, 20, .inl s_many)), (a6, .inl (E.2 0, 2, .inl s_marked)), (a7, .inl (E.2 0, 1440, .inl s_shapeAt))] := hV4.sub [0, 1, 2, 3, 4, 5, 6, 7] rfl rfl
  clear hV
  refine lv_if_eq (tgt := 29) hx hb dX12_check_4 (by decide) (fun c6 => ?_) (fun c6 => ?_)
  · have h7 := itS c6 h3
    clear h3 c6
    refine lv_bipush (v := (-2)) hx hb dX12_check_29 (by decide) ?_
    cases h7
    exact hret _ () _ _ _ _ rfl rfl hV4 dX12_check_31
  · have h8 := ieS c6 h3
    clear h3 c6
    refine lv_iload_n hx hb dX12_check_7 rfl (lv_at hl 2 rfl) ?_
    obtain ⟨r8_9, hc10, h11⟩ := cb1_s h8
    clear h8
    refine kgoiE (krunS (rest := []) X hV4 [] (c_X12_isDay l E _ p2 r8_9 hc10) mw_632 kb_X12_isDay (by decide) rfl rfl hl.1 rfl (Nat.le_of_ble_eq_true rfl) dX12_check_8 (by decide)) X hV4 [] [0, 1, 2, 3, 4, 5, 6, 7] rfl rfl rfl (by decide) (fun u H locs hV12 => ?_)
    have hV12 : kV E A s.heap H locs [(a0, .inr (12, [w0_0, .int s_taped, .int s_sources, w0_3, w0_4, w0_5, w0_6, .ref a5, w0_8, w0_9, w0_10, w0_11, w0_12, w0_13, w0_14, w0_15, w0_16, w0_17, w0_18, w0_19, w0_20, w0_21, w0_22, w0_23, w0_24, w0_25, w0_26, w0_27, .int s_atA, .int s_atB, .int s_atD, .int s_atF, .int s_atG, .int s_atH, .int s_atL, .int s_atM, .int s_atN, .int s_atS, .int s_atT, .int s_atU, .int s_atX, w0_41, w0_42, w0_43, w0_44, w0_45, w0_46, w0_47, .int s_paperHigh, .int s_paperShape, .ref a3, .ref a7, .ref a1, .ref a4, .ref a2, .ref a6, w0_56, w0_57, w0_58, w0_59, w0_60, w0_61, w0_62, w0_63, w0_64, w0_65, w0_66])), (a1, .inl (E.2 0, 1440, .inl s_first)), (a2, .inl (E.2 0, 1440, .inl s_greatest)), (a3, .inl (E.2 0, 1440, .inl s_highAt)), (a4, .inl (E.2 0, 1440, .inl s_last)), (a5, .inl (E.2 0, 20, .inl s_many)), (a6, .inl (E.2 0, 2, .inl s_marked)), (a7, .inl (E.2 0, 1440, .inl s_shapeAt))] := hV12.sub [0, 1, 2, 3, 4, 5, 6, 7] rfl rfl
    clear hV4
    refine lv_if_eq (tgt := 29) hx hb dX12_check_11 (by decide) (fun c14 => ?_) (fun c14 => ?_)
    · have h15 := itS c14 h11
      clear h11 c14
      refine lv_bipush (v := (-2)) hx hb dX12_check_29 (by decide) ?_
      cases h15
      exact hret _ () _ _ _ _ rfl rfl hV12 dX12_check_31
    · have h16 := ieS c14 h11
      clear h11 c14
      refine lv_iload_n hx hb dX12_check_14 rfl (lv_at hl 3 rfl) ?_
      refine lv_if_lt (tgt := 29) hx hb dX12_check_15 (by decide) (fun c17 => ?_) (fun c17 => ?_)
      · have h18 := itS c17 h16
        clear h16 c17
        refine lv_bipush (v := (-2)) hx hb dX12_check_29 (by decide) ?_
        cases h18
        exact hret _ () _ _ _ _ rfl rfl hV12 dX12_check_31
      · have h19 := ieS c17 h16
        clear h16 c17
        refine lv_iload_n hx hb dX12_check_18 rfl (lv_at hl 3 rfl) ?_
        refine lv_aload_n hx hb dX12_check_19 rfl (lv_at hl 0 rfl) ?_
        refine kget X hV12 (ci := 12) inlX12 rfl 0 rfl 1 (by decide) mw_251 rfl dX12_check_20 ?_
        refine lv_bipush (v := 12) hx hb dX12_check_23 (by decide) ?_
        refine lv_idiv hx hb dX12_check_25 (by decide) ?_
        refine lv_icmp_le (tgt := 32) hx hb dX12_check_26 (by decide) (fun c20 => ?_) (fun c20 => ?_)
        · have h21 := itS c20 h19
          clear h19 c20
          refine lv_aload_n hx hb dX12_check_32 rfl (lv_at hl 0 rfl) ?_
          refine lv_iconst (v := 0) hx hb dX12_check_33 (by decide) ?_
          refine kput X hV12 (ci := 12) inlX12 rfl tyX12 tyX12_ok nmX12 0 rfl 1 (by decide) mw_251 rfl rfl rfl (Nat.le_of_ble_eq_true rfl) dX12_check_34 (fun H locs hV23 => ?_)
          have hV23 : kV E A s.heap H locs [(a0, .inr (12, [w0_0, .int 0, .int s_sources, w0_3, w0_4, w0_5, w0_6, .ref a5, w0_8, w0_9, w0_10, w0_11, w0_12, w0_13, w0_14, w0_15, w0_16, w0_17, w0_18, w0_19, w0_20, w0_21, w0_22, w0_23, w0_24, w0_25, w0_26, w0_27, .int s_atA, .int s_atB, .int s_atD, .int s_atF, .int s_atG, .int s_atH, .int s_atL, .int s_atM, .int s_atN, .int s_atS, .int s_atT, .int s_atU, .int s_atX, w0_41, w0_42, w0_43, w0_44, w0_45, w0_46, w0_47, .int s_paperHigh, .int s_paperShape, .ref a3, .ref a7, .ref a1, .ref a4, .ref a2, .ref a6, w0_56, w0_57, w0_58, w0_59, w0_60, w0_61, w0_62, w0_63, w0_64, w0_65, w0_66])), (a1, .inl (E.2 0, 1440, .inl s_first)), (a2, .inl (E.2 0, 1440, .inl s_greatest)), (a3, .inl (E.2 0, 1440, .inl s_highAt)), (a4, .inl (E.2 0, 1440, .inl s_last)), (a5, .inl (E.2 0, 20, .inl s_many)), (a6, .inl (E.2 0, 2, .inl s_marked)), (a7, .inl (E.2 0, 1440, .inl s_shapeAt))] := hV23
          clear hV12
          refine lv_aload_n hx hb dX12_check_37 rfl (lv_at hl 0 rfl) ?_
          refine lv_iload_n hx hb dX12_check_38 rfl (lv_at hl 2 rfl) ?_
          obtain ⟨o_paperHigh39_24, o_paperShape39_25, o_highAt39_26, o_shapeAt39_27, hc28, h29⟩ := cb4_s h21
          clear h21
          refine kgov (krunV (rest := []) X hV23 [0, 3, 7] (c_X12_lays l E _ a0 a3 a7 (w0_0) (.int 0) (w0_3) (w0_4) (w0_5) (w0_6) (.ref a5) (w0_8) (w0_9) (w0_10) (w0_11) (w0_12) (w0_13) (w0_14) (w0_15) (w0_16) (w0_17) (w0_18) (w0_19) (w0_20) (w0_21) (w0_22) (w0_23) (w0_24) (w0_25) (w0_26) (w0_27) (.int s_atA) (.int s_atB) (.int s_atD) (.int s_atF) (.int s_atG) (.int s_atH) (.int s_atL) (.int s_atM) (.int s_atN) (.int s_atS) (.int s_atT) (.int s_atU) (.int s_atX) (w0_41) (w0_42) (w0_43) (w0_44) (w0_45) (w0_46) (w0_47) (.ref a1) (.ref a4) (.ref a2) (.ref a6) (w0_56) (w0_57) (w0_58) (w0_59) (w0_60) (w0_61) (w0_62) (w0_63) (w0_64) (w0_65) (w0_66) s_sources s_paperHigh s_paperShape s_highAt s_shapeAt p2 o_paperHigh39_24 o_paperShape39_25 o_highAt39_26 o_shapeAt39_27 hc28) mw_850 kb_X12_lays (ci := 12) rfl rfl (by decide) rfl rfl hl.1 rfl (Nat.le_of_ble_eq_true rfl) dX12_check_39 (by decide)) X hV23 [0, 3, 7] [1, 2, 4, 5, 6] rfl rfl rfl (by decide) (fun u H locs hp31 hV30 => ?_)
          have hV30 : kV E A s.heap H locs [(a0, .inr (12, [w0_0, .int 0, .int s_sources, w0_3, w0_4, w0_5, w0_6, .ref a5, w0_8, w0_9, w0_10, w0_11, w0_12, w0_13, w0_14, w0_15, w0_16, w0_17, w0_18, w0_19, w0_20, w0_21, w0_22, w0_23, w0_24, w0_25, w0_26, w0_27, .int s_atA, .int s_atB, .int s_atD, .int s_atF, .int s_atG, .int s_atH, .int s_atL, .int s_atM, .int s_atN, .int s_atS, .int s_atT, .int s_atU, .int s_atX, w0_41, w0_42, w0_43, w0_44, w0_45, w0_46, w0_47, .int o_paperHigh39_24, .int o_paperShape39_25, .ref a3, .ref a7, .ref a1, .ref a4, .ref a2, .ref a6, w0_56, w0_57, w0_58, w0_59, w0_60, w0_61, w0_62, w0_63, w0_64, w0_65, w0_66])), (a1, .inl (E.2 0, 1440, .inl s_first)), (a2, .inl (E.2 0, 1440, .inl s_greatest)), (a3, .inl (E.2 0, 1440, .inl o_highAt39_26)), (a4, .inl (E.2 0, 1440, .inl s_last)), (a5, .inl (E.2 0, 20, .inl s_many)), (a6, .inl (E.2 0, 2, .inl s_marked)), (a7, .inl (E.2 0, 1440, .inl o_shapeAt39_27))] := hV30.sub [5, 0, 1, 6, 2, 3, 4, 7] rfl rfl
          clear hV23
          refine lv_aload_n hx hb dX12_check_42 rfl (lv_at hl 0 rfl) ?_
          refine lv_iload_n hx hb dX12_check_43 rfl (lv_at hl 1 rfl) ?_
          refine lv_iload_n hx hb dX12_check_44 rfl (lv_at hl 2 rfl) ?_
          refine lv_iconst (v := 0) hx hb dX12_check_45 (by decide) ?_
          obtain ⟨o_atA46_32, o_atB46_33, o_atD46_34, o_atF46_35, o_atG46_36, o_atH46_37, o_atL46_38, o_atM46_39, o_atN46_40, o_atS46_41, o_atT46_42, o_atU46_43, o_atX46_44, o_first46_45, o_greatest46_46, o_last46_47, o_marked46_48, hc49, h50⟩ := cb17_s h29
          clear h29
          refine kgov (krunV (rest := []) X hV30 [0, 1, 2, 3, 4, 5, 6, 7] (c_X12_goesOver l E _ a0 a1 a2 a3 a4 a5 a6 a7 (w0_0) (.int 0) (.int s_sources) (w0_3) (w0_4) (w0_5) (w0_6) (w0_8) (w0_9) (w0_10) (w0_11) (w0_12) (w0_13) (w0_14) (w0_15) (w0_16) (w0_17) (w0_18) (w0_19) (w0_20) (w0_21) (w0_22) (w0_23) (w0_24) (w0_25) (w0_26) (w0_27) (w0_41) (w0_42) (w0_43) (w0_44) (w0_45) (w0_46) (w0_47) (.int o_paperHigh39_24) (.int o_paperShape39_25) (w0_56) (w0_57) (w0_58) (w0_59) (w0_60) (w0_61) (w0_62) (w0_63) (w0_64) (w0_65) (w0_66) s_atA s_atB s_atD s_atF s_atG s_atH s_atL s_atM s_atN s_atS s_atT s_atU s_atX s_first s_greatest o_highAt39_26 s_last s_many s_marked o_shapeAt39_27 p1 p2 0 o_atA46_32 o_atB46_33 o_atD46_34 o_atF46_35 o_atG46_36 o_atH46_37 o_atL46_38 o_atM46_39 o_atN46_40 o_atS46_41 o_atT46_42 o_atU46_43 o_atX46_44 o_first46_45 o_greatest46_46 o_last46_47 o_marked46_48 hc49) mw_854 kb_X12_goesOver (ci := 12) rfl rfl (by decide) rfl rfl hl.1 rfl (Nat.le_of_ble_eq_true rfl) dX12_check_46 (by decide)) X hV30 [0, 1, 2, 3, 4, 5, 6, 7] [] rfl rfl rfl (by decide) (fun u H locs hp52 hV51 => ?_)
          have hV51 : kV E A s.heap H locs [(a0, .inr (12, [w0_0, .int 0, .int s_sources, w0_3, w0_4, w0_5, w0_6, .ref a5, w0_8, w0_9, w0_10, w0_11, w0_12, w0_13, w0_14, w0_15, w0_16, w0_17, w0_18, w0_19, w0_20, w0_21, w0_22, w0_23, w0_24, w0_25, w0_26, w0_27, .int o_atA46_32, .int o_atB46_33, .int o_atD46_34, .int o_atF46_35, .int o_atG46_36, .int o_atH46_37, .int o_atL46_38, .int o_atM46_39, .int o_atN46_40, .int o_atS46_41, .int o_atT46_42, .int o_atU46_43, .int o_atX46_44, w0_41, w0_42, w0_43, w0_44, w0_45, w0_46, w0_47, .int o_paperHigh39_24, .int o_paperShape39_25, .ref a3, .ref a7, .ref a1, .ref a4, .ref a2, .ref a6, w0_56, w0_57, w0_58, w0_59, w0_60, w0_61, w0_62, w0_63, w0_64, w0_65, w0_66])), (a1, .inl (E.2 0, 1440, .inl o_first46_45)), (a2, .inl (E.2 0, 1440, .inl o_greatest46_46)), (a3, .inl (E.2 0, 1440, .inl o_highAt39_26)), (a4, .inl (E.2 0, 1440, .inl o_last46_47)), (a5, .inl (E.2 0, 20, .inl s_many)), (a6, .inl (E.2 0, 2, .inl o_marked46_48)), (a7, .inl (E.2 0, 1440, .inl o_shapeAt39_27))] := hV51.sub [0, 1, 2, 3, 4, 5, 6, 7] rfl rfl
          clear hV30
          refine lv_iconst (v := 0) hx hb dX12_check_49 (by decide) ?_
          refine lv_istore (lv' := [(4, .int 0), (0, .ref a0), (1, .int p1), (2, .int p2), (3, .int p3)]) hx hb dX12_check_50 hl (by decide) rfl (fun ls hl53 => ?_)
          clear hl
          refine lv_iload hx hb dX12_check_52 (lv_at hl53 0 rfl) ?_
          refine lv_aload_n hx hb dX12_check_54 rfl (lv_at hl53 1 rfl) ?_
          refine kget X hV51 (ci := 12) inlX12 rfl 0 rfl 55 (by decide) mw_167 rfl dX12_check_55 ?_
          refine lv_iconst (v := 0) hx hb dX12_check_58 (by decide) ?_
          obtain ⟨hi55, v59_54, e56, h57⟩ := rdI_s h50
          clear h50
          refine kiald X hV51 6 rfl hi55 e56 dX12_check_59 ?_
          clear hi55 e56
          refine lv_icmp_ge (tgt := 156) hx hb dX12_check_60 (by decide) (fun c58 => ?_) (fun c58 => ?_)
          · have h59 := itS c58 h57
            clear h57 c58
            refine lv_iload_n hx hb dX12_check_156 rfl (lv_at hl53 4 rfl) ?_
            refine lv_aload_n hx hb dX12_check_157 rfl (lv_at hl53 1 rfl) ?_
            refine kget X hV51 (ci := 12) inlX12 rfl 0 rfl 55 (by decide) mw_167 rfl dX12_check_158 ?_
            refine lv_iconst (v := 0) hx hb dX12_check_161 (by decide) ?_
            obtain ⟨hi62, v162_61, e63, h64⟩ := rdI_s h59
            clear h59
            refine kiald X hV51 6 rfl hi62 e63 dX12_check_162 ?_
            clear hi62 e63
            refine lv_icmp_ne (tgt := 170) hx hb dX12_check_163 (by decide) (fun c65 => ?_) (fun c65 => ?_)
            · have h66 := ieS c65 h64
              clear h64 c65
              refine lv_iconst (v := 3) hx hb dX12_check_170 (by decide) ?_
              refine lv_aload_n hx hb dX12_check_171 rfl (lv_at hl53 1 rfl) ?_
              refine kget X hV51 (ci := 12) inlX12 rfl 0 rfl 55 (by decide) mw_167 rfl dX12_check_172 ?_
              refine lv_iconst (v := 0) hx hb dX12_check_175 (by decide) ?_
              obtain ⟨hi69, v176_68, e70, h71⟩ := rdI_s h66
              clear h66
              refine kiald X hV51 6 rfl hi69 e70 dX12_check_176 ?_
              clear hi69 e70
              refine lv_imul hx hb dX12_check_177 ?_
              cases h71
              exact hret _ () _ _ _ _ rfl rfl hV51 dX12_check_178
            · have h67 := itS c65 h64
              clear h64 c65
              refine lv_iconst (v := (-1)) hx hb dX12_check_166 (by decide) ?_
              refine lv_goto (tgt := 178) hx hb dX12_check_167 (by decide) ?_
              cases h67
              exact hret _ () _ _ _ _ rfl rfl hV51 dX12_check_178
          · have h60 := ieS c58 h57
            clear h57 c58
            refine lv_iload hx hb dX12_check_63 (lv_at hl53 0 rfl) ?_
            refine lv_iload_n hx hb dX12_check_65 rfl (lv_at hl53 4 rfl) ?_
            refine lv_icmp_ne (tgt := 73) hx hb dX12_check_66 (by decide) (fun c72 => ?_) (fun c72 => ?_)
            · have h73 := ieS c72 h60
              clear h60 c72
              refine lv_aload_n hx hb dX12_check_73 rfl (lv_at hl53 1 rfl) ?_
              refine lv_iconst (v := 3) hx hb dX12_check_74 (by decide) ?_
              refine lv_iload hx hb dX12_check_75 (lv_at hl53 0 rfl) ?_
              refine lv_imul hx hb dX12_check_77 ?_
              exact nomatch h73
            · have h74 := itS c72 h60
              clear h60 c72
              refine lv_iconst (v := 3) hx hb dX12_check_69 (by decide) ?_
              refine lv_iload_n hx hb dX12_check_70 rfl (lv_at hl53 4 rfl) ?_
              refine lv_imul hx hb dX12_check_71 ?_
              cases h74
              exact hret _ () _ _ _ _ rfl rfl hV51 dX12_check_72
        · have h22 := ieS c20 h19
          clear h19 c20
          refine lv_bipush (v := (-2)) hx hb dX12_check_29 (by decide) ?_
          cases h22
          exact hret _ () _ _ _ _ rfl rfl hV12 dX12_check_31
abbrev r_X12_count : Room := { frames := 2, cells := 0, slots := 0, locals := 46 }
set_option maxHeartbeats 4000000 in
set_option maxRecDepth 100000 in
theorem c_X12_count (l : Launch) (E : kE) (sz : Nat) (a0 a1 : Nat) (w0_0 w0_8 w0_9 w0_10 w0_11 w0_12 w0_13 w0_14 w0_15 w0_16 w0_17 w0_18 w0_19 w0_20 w0_21 w0_22 w0_23 w0_24 w0_25 w0_26 w0_27 w0_28 w0_29 w0_30 w0_31 w0_32 w0_33 w0_34 w0_35 w0_36 w0_37 w0_38 w0_39 w0_40 w0_41 w0_42 w0_43 w0_44 w0_45 w0_46 w0_47 w0_48 w0_49 w0_50 w0_51 w0_52 w0_53 w0_54 w0_55 w0_56 w0_57 w0_58 w0_59 w0_60 w0_61 w0_62 w0_63 w0_64 w0_65 w0_66 : Value) (s_taped : Int32) (s_sources : Int32) (s_seed : Int32) (s_notes : Int32) (s_blips : Int32) (s_nights : Int32) (s_many : Nat → Int32) (p1 : Int32) (r : Int32) (h : f_X12_count s_taped s_sources s_seed s_notes s_blips s_nights s_many p1 = some (r)) : kMi l yX12_count cX12_count 2 (some .int) r_X12_count [.ref a0, .int p1] E [(a0, .inr (12, [w0_0, .int s_taped, .int s_sources, .int s_seed, .int s_notes, .int s_blips, .int s_nights, .ref a1, w0_8, w0_9, w0_10, w0_11, w0_12, w0_13, w0_14, w0_15, w0_16, w0_17, w0_18, w0_19, w0_20, w0_21, w0_22, w0_23, w0_24, w0_25, w0_26, w0_27, w0_28, w0_29, w0_30, w0_31, w0_32, w0_33, w0_34, w0_35, w0_36, w0_37, w0_38, w0_39, w0_40, w0_41, w0_42, w0_43, w0_44, w0_45, w0_46, w0_47, w0_48, w0_49, w0_50, w0_51, w0_52, w0_53, w0_54, w0_55, w0_56, w0_57, w0_58, w0_59, w0_60, w0_61, w0_62, w0_63, w0_64, w0_65, w0_66])), (a1, .inl (E.2 0, 20, .inl s_many))] sz 0 0 (fun x (_ : Unit) => x = r) (fun _ => [(a0, .inr (12, [w0_0, .int s_taped, .int s_sources, .int s_seed, .int s_notes, .int s_blips, .int s_nights, .ref a1, w0_8, w0_9, w0_10, w0_11, w0_12, w0_13, w0_14, w0_15, w0_16, w0_17, w0_18, w0_19, w0_20, w0_21, w0_22, w0_23, w0_24, w0_25, w0_26, w0_27, w0_28, w0_29, w0_30, w0_31, w0_32, w0_33, w0_34, w0_35, w0_36, w0_37, w0_38, w0_39, w0_40, w0_41, w0_42, w0_43, w0_44, w0_45, w0_46, w0_47, w0_48, w0_49, w0_50, w0_51, w0_52, w0_53, w0_54, w0_55, w0_56, w0_57, w0_58, w0_59, w0_60, w0_61, w0_62, w0_63, w0_64, w0_65, w0_66])), (a1, .inl (E.2 0, 20, .inl s_many))]) := by
  refine kmeti rfl (Nat.le_of_ble_eq_true rfl) ?_
  intro p e s m args below meth c ls A Q X hV hret hl
  have X : kC p s m c cX12_count 2 RX12 args E A := X
  have hx := X.1
  have hb := X.2.1
  have hl : lv_has ls 2 [(0, .ref a0), (1, .int p1)] := hl
  rw [f_X12_count] at h
  refine lv_aload_n hx hb dX12_count_0 rfl (lv_at hl 0 rfl) ?_
  refine lv_iload_n hx hb dX12_count_1 rfl (lv_at hl 1 rfl) ?_
  refine lv_bipush (v := 10) hx hb dX12_count_2 (by decide) ?_
  refine lv_isub hx hb dX12_count_4 ?_
  obtain ⟨r5_1, hc2, h3⟩ := cb1_s h
  clear h
  refine kgoiE (krunV (rest := []) X hV [0] (c_X12_isSource l E _ a0 (w0_0) (.int s_taped) (.int s_seed) (.int s_notes) (.int s_blips) (.int s_nights) (.ref a1) (w0_8) (w0_9) (w0_10) (w0_11) (w0_12) (w0_13) (w0_14) (w0_15) (w0_16) (w0_17) (w0_18) (w0_19) (w0_20) (w0_21) (w0_22) (w0_23) (w0_24) (w0_25) (w0_26) (w0_27) (w0_28) (w0_29) (w0_30) (w0_31) (w0_32) (w0_33) (w0_34) (w0_35) (w0_36) (w0_37) (w0_38) (w0_39) (w0_40) (w0_41) (w0_42) (w0_43) (w0_44) (w0_45) (w0_46) (w0_47) (w0_48) (w0_49) (w0_50) (w0_51) (w0_52) (w0_53) (w0_54) (w0_55) (w0_56) (w0_57) (w0_58) (w0_59) (w0_60) (w0_61) (w0_62) (w0_63) (w0_64) (w0_65) (w0_66) s_sources (p1 - 10) r5_1 hc2) mw_461 kb_X12_isSource (ci := 12) rfl rfl (by decide) rfl rfl hl.1 rfl (Nat.le_of_ble_eq_true rfl) dX12_count_5 (by decide)) X hV [0] [1] rfl rfl rfl (by decide) (fun u H locs hV4 => ?_)
  have hV4 : kV E A s.heap H locs [(a0, .inr (12, [w0_0, .int s_taped, .int s_sources, .int s_seed, .int s_notes, .int s_blips, .int s_nights, .ref a1, w0_8, w0_9, w0_10, w0_11, w0_12, w0_13, w0_14, w0_15, w0_16, w0_17, w0_18, w0_19, w0_20, w0_21, w0_22, w0_23, w0_24, w0_25, w0_26, w0_27, w0_28, w0_29, w0_30, w0_31, w0_32, w0_33, w0_34, w0_35, w0_36, w0_37, w0_38, w0_39, w0_40, w0_41, w0_42, w0_43, w0_44, w0_45, w0_46, w0_47, w0_48, w0_49, w0_50, w0_51, w0_52, w0_53, w0_54, w0_55, w0_56, w0_57, w0_58, w0_59, w0_60, w0_61, w0_62, w0_63, w0_64, w0_65, w0_66])), (a1, .inl (E.2 0, 20, .inl s_many))] := hV4.sub [1, 0] rfl rfl
  clear hV
  refine lv_if_eq (tgt := 23) hx hb dX12_count_8 (by decide) (fun c6 => ?_) (fun c6 => ?_)
  · have h7 := itS c6 h3
    clear h3 c6
    refine lv_iload_n hx hb dX12_count_23 rfl (lv_at hl 1 rfl) ?_
    refine lv_bipush (v := 20) hx hb dX12_count_24 (by decide) ?_
    refine lv_isub hx hb dX12_count_26 ?_
    obtain ⟨r27_9, hc10, h11⟩ := cb1_s h7
    clear h7
    refine kgoiE (krunS (rest := []) X hV4 [] (c_X12_isReader l E _ (p1 - 20) r27_9 hc10) mw_595 kb_X12_isReader (by decide) rfl rfl hl.1 rfl (Nat.le_of_ble_eq_true rfl) dX12_count_27 (by decide)) X hV4 [] [0, 1] rfl rfl rfl (by decide) (fun u H locs hV12 => ?_)
    have hV12 : kV E A s.heap H locs [(a0, .inr (12, [w0_0, .int s_taped, .int s_sources, .int s_seed, .int s_notes, .int s_blips, .int s_nights, .ref a1, w0_8, w0_9, w0_10, w0_11, w0_12, w0_13, w0_14, w0_15, w0_16, w0_17, w0_18, w0_19, w0_20, w0_21, w0_22, w0_23, w0_24, w0_25, w0_26, w0_27, w0_28, w0_29, w0_30, w0_31, w0_32, w0_33, w0_34, w0_35, w0_36, w0_37, w0_38, w0_39, w0_40, w0_41, w0_42, w0_43, w0_44, w0_45, w0_46, w0_47, w0_48, w0_49, w0_50, w0_51, w0_52, w0_53, w0_54, w0_55, w0_56, w0_57, w0_58, w0_59, w0_60, w0_61, w0_62, w0_63, w0_64, w0_65, w0_66])), (a1, .inl (E.2 0, 20, .inl s_many))] := hV12.sub [0, 1] rfl rfl
    clear hV4
    refine lv_if_eq (tgt := 46) hx hb dX12_count_30 (by decide) (fun c14 => ?_) (fun c14 => ?_)
    · have h15 := itS c14 h11
      clear h11 c14
      refine lv_iload_n hx hb dX12_count_46 rfl (lv_at hl 1 rfl) ?_
      refine lv_bipush (v := 30) hx hb dX12_count_47 (by decide) ?_
      refine lv_isub hx hb dX12_count_49 ?_
      obtain ⟨r50_17, hc18, h19⟩ := cb1_s h15
      clear h15
      refine kgoiE (krunS (rest := []) X hV12 [] (c_X12_isTale l E _ (p1 - 30) r50_17 hc18) mw_614 kb_X12_isTale (by decide) rfl rfl hl.1 rfl (Nat.le_of_ble_eq_true rfl) dX12_count_50 (by decide)) X hV12 [] [0, 1] rfl rfl rfl (by decide) (fun u H locs hV20 => ?_)
      have hV20 : kV E A s.heap H locs [(a0, .inr (12, [w0_0, .int s_taped, .int s_sources, .int s_seed, .int s_notes, .int s_blips, .int s_nights, .ref a1, w0_8, w0_9, w0_10, w0_11, w0_12, w0_13, w0_14, w0_15, w0_16, w0_17, w0_18, w0_19, w0_20, w0_21, w0_22, w0_23, w0_24, w0_25, w0_26, w0_27, w0_28, w0_29, w0_30, w0_31, w0_32, w0_33, w0_34, w0_35, w0_36, w0_37, w0_38, w0_39, w0_40, w0_41, w0_42, w0_43, w0_44, w0_45, w0_46, w0_47, w0_48, w0_49, w0_50, w0_51, w0_52, w0_53, w0_54, w0_55, w0_56, w0_57, w0_58, w0_59, w0_60, w0_61, w0_62, w0_63, w0_64, w0_65, w0_66])), (a1, .inl (E.2 0, 20, .inl s_many))] := hV20.sub [0, 1] rfl rfl
      clear hV12
      refine lv_if_eq (tgt := 69) hx hb dX12_count_53 (by decide) (fun c22 => ?_) (fun c22 => ?_)
      · have h23 := itS c22 h19
        clear h19 c22
        refine lv_iload_n hx hb dX12_count_69 rfl (lv_at hl 1 rfl) ?_
        by_cases c25 : p1 = 0
        · have h26 := itS c25 h23
          refine lv_tableIn (tgt := 108) (off := 38) hx hb dX12_count_70 (by rw [c25]; decide) (by rw [c25]; decide) (by rw [c25]; decide) (by decide) ?_
          clear h23
          refine lv_aload_n hx hb dX12_count_108 rfl (lv_at hl 0 rfl) ?_
          refine kget X hV20 (ci := 12) inlX12 rfl 0 rfl 2 (by decide) mw_216 rfl dX12_count_109 ?_
          cases h26
          exact hret _ () _ _ _ _ rfl rfl hV20 dX12_count_112
        · have h27 := ieS c25 h23
          clear h23
          by_cases c28 : p1 = 1
          · have h29 := itS c28 h27
            refine lv_tableIn (tgt := 113) (off := 43) hx hb dX12_count_70 (by rw [c28]; decide) (by rw [c28]; decide) (by rw [c28]; decide) (by decide) ?_
            clear h27
            refine lv_aload_n hx hb dX12_count_113 rfl (lv_at hl 0 rfl) ?_
            refine kget X hV20 (ci := 12) inlX12 rfl 0 rfl 4 (by decide) mw_899 rfl dX12_count_114 ?_
            cases h29
            exact hret _ () _ _ _ _ rfl rfl hV20 dX12_count_117
          · have h30 := ieS c28 h27
            clear h27
            by_cases c31 : p1 = 2
            · have h32 := itS c31 h30
              refine lv_tableIn (tgt := 118) (off := 48) hx hb dX12_count_70 (by rw [c31]; decide) (by rw [c31]; decide) (by rw [c31]; decide) (by decide) ?_
              clear h30
              refine lv_aload_n hx hb dX12_count_118 rfl (lv_at hl 0 rfl) ?_
              refine kget X hV20 (ci := 12) inlX12 rfl 0 rfl 5 (by decide) mw_991 rfl dX12_count_119 ?_
              cases h32
              exact hret _ () _ _ _ _ rfl rfl hV20 dX12_count_122
            · have h33 := ieS c31 h30
              clear h30
              by_cases c34 : p1 = 3
              · have h35 := itS c34 h33
                refine lv_tableIn (tgt := 123) (off := 53) hx hb dX12_count_70 (by rw [c34]; decide) (by rw [c34]; decide) (by rw [c34]; decide) (by decide) ?_
                clear h33
                refine lv_aload_n hx hb dX12_count_123 rfl (lv_at hl 0 rfl) ?_
                refine kget X hV20 (ci := 12) inlX12 rfl 0 rfl 6 (by decide) mw_1106 rfl dX12_count_124 ?_
                cases h35
                exact hret _ () _ _ _ _ rfl rfl hV20 dX12_count_127
              · have h36 := ieS c34 h33
                clear h33
                by_cases c37 : p1 = 4
                · have h38 := itS c37 h36
                  refine lv_tableIn (tgt := 128) (off := 58) hx hb dX12_count_70 (by rw [c37]; decide) (by rw [c37]; decide) (by rw [c37]; decide) (by decide) ?_
                  clear h36
                  refine lv_aload_n hx hb dX12_count_128 rfl (lv_at hl 0 rfl) ?_
                  refine kget X hV20 (ci := 12) inlX12 rfl 0 rfl 3 (by decide) mw_237 rfl dX12_count_129 ?_
                  cases h38
                  exact hret _ () _ _ _ _ rfl rfl hV20 dX12_count_132
                · have h39 := ieS c37 h36
                  clear h36
                  by_cases c40 : p1 = 5
                  · have h41 := itS c40 h39
                    refine lv_tableIn (tgt := 133) (off := 63) hx hb dX12_count_70 (by rw [c40]; decide) (by rw [c40]; decide) (by rw [c40]; decide) (by decide) ?_
                    clear h39
                    refine lv_aload_n hx hb dX12_count_133 rfl (lv_at hl 0 rfl) ?_
                    refine kget X hV20 (ci := 12) inlX12 rfl 0 rfl 1 (by decide) mw_251 rfl dX12_count_134 ?_
                    cases h41
                    exact hret _ () _ _ _ _ rfl rfl hV20 dX12_count_137
                  · have h42 := ieS c40 h39
                    clear h39
                    refine lv_tableOut (tgt := 138) hx hb dX12_count_70 (by have ec25 : ¬ p1.toInt = 0 := fun q => c25 (Int32.toInt_inj.mp (q.trans (by decide))); have ec28 : ¬ p1.toInt = 1 := fun q => c28 (Int32.toInt_inj.mp (q.trans (by decide))); have ec31 : ¬ p1.toInt = 2 := fun q => c31 (Int32.toInt_inj.mp (q.trans (by decide))); have ec34 : ¬ p1.toInt = 3 := fun q => c34 (Int32.toInt_inj.mp (q.trans (by decide))); have ec37 : ¬ p1.toInt = 4 := fun q => c37 (Int32.toInt_inj.mp (q.trans (by decide))); have ec40 : ¬ p1.toInt = 5 := fun q => c40 (Int32.toInt_inj.mp (q.trans (by decide))); omega) (by decide) ?_
                    refine lv_iconst (v := (-1)) hx hb dX12_count_138 (by decide) ?_
                    cases h42
                    exact hret _ () _ _ _ _ rfl rfl hV20 dX12_count_139
      · have h24 := ieS c22 h19
        clear h19 c22
        refine lv_aload_n hx hb dX12_count_56 rfl (lv_at hl 0 rfl) ?_
        refine kget X hV20 (ci := 12) inlX12 rfl 0 rfl 7 (by decide) mw_142 rfl dX12_count_57 ?_
        refine lv_bipush (v := 14) hx hb dX12_count_60 (by decide) ?_
        refine lv_iload_n hx hb dX12_count_62 rfl (lv_at hl 1 rfl) ?_
        refine lv_iadd hx hb dX12_count_63 ?_
        refine lv_bipush (v := 30) hx hb dX12_count_64 (by decide) ?_
        refine lv_isub hx hb dX12_count_66 ?_
        obtain ⟨hi44, v67_43, e45, h46⟩ := rdI_s h24
        clear h24
        refine kiald X hV20 1 rfl hi44 e45 dX12_count_67 ?_
        clear hi44 e45
        cases h46
        exact hret _ () _ _ _ _ rfl rfl hV20 dX12_count_68
    · have h16 := ieS c14 h11
      clear h11 c14
      refine lv_aload_n hx hb dX12_count_33 rfl (lv_at hl 0 rfl) ?_
      refine kget X hV12 (ci := 12) inlX12 rfl 0 rfl 7 (by decide) mw_142 rfl dX12_count_34 ?_
      refine lv_bipush (v := 10) hx hb dX12_count_37 (by decide) ?_
      refine lv_iload_n hx hb dX12_count_39 rfl (lv_at hl 1 rfl) ?_
      refine lv_iadd hx hb dX12_count_40 ?_
      refine lv_bipush (v := 20) hx hb dX12_count_41 (by decide) ?_
      refine lv_isub hx hb dX12_count_43 ?_
      obtain ⟨hi48, v44_47, e49, h50⟩ := rdI_s h16
      clear h16
      refine kiald X hV12 1 rfl hi48 e49 dX12_count_44 ?_
      clear hi48 e49
      cases h50
      exact hret _ () _ _ _ _ rfl rfl hV12 dX12_count_45
  · have h8 := ieS c6 h3
    clear h3 c6
    refine lv_aload_n hx hb dX12_count_11 rfl (lv_at hl 0 rfl) ?_
    refine kget X hV4 (ci := 12) inlX12 rfl 0 rfl 7 (by decide) mw_142 rfl dX12_count_12 ?_
    refine lv_iconst (v := 0) hx hb dX12_count_15 (by decide) ?_
    refine lv_iload_n hx hb dX12_count_16 rfl (lv_at hl 1 rfl) ?_
    refine lv_iadd hx hb dX12_count_17 ?_
    refine lv_bipush (v := 10) hx hb dX12_count_18 (by decide) ?_
    refine lv_isub hx hb dX12_count_20 ?_
    obtain ⟨hi52, v21_51, e53, h54⟩ := rdI_s h8
    clear h8
    refine kiald X hV4 1 rfl hi52 e53 dX12_count_21 ?_
    clear hi52 e53
    cases h54
    exact hret _ () _ _ _ _ rfl rfl hV4 dX12_count_22
