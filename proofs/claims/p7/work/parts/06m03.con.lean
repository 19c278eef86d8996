abbrev r_X12_goesBehind : Room := { frames := 3, cells := 0, slots := 0, locals := 63 }
set_option maxHeartbeats 4000000 in
set_option maxRecDepth 100000 in
theorem c_X12_goesBehind (l : Launch) (E : kE) (sz : Nat) (a0 a1 a2 a3 a4 : Nat) (w0_1 w0_2 w0_3 w0_4 w0_5 w0_6 w0_7 w0_8 w0_9 w0_10 w0_11 w0_12 w0_13 w0_14 w0_15 w0_21 w0_26 w0_28 w0_29 w0_30 w0_31 w0_32 w0_33 w0_34 w0_35 w0_36 w0_37 w0_38 w0_39 w0_40 w0_41 w0_42 w0_43 w0_44 w0_45 w0_46 w0_47 w0_48 w0_49 w0_50 w0_51 w0_52 w0_53 w0_54 w0_55 w0_56 w0_57 w0_58 w0_59 w0_60 w0_61 w0_62 w0_63 w0_64 w0_65 w0_66 : Value) (s_place : Int32) (s_end : Int32) (s_bad : Int32) (s_codes : Int32) (s_open : Int32) (s_stacked : Int32) (s_isOver : Int32) (s_newArg : Nat → Int32) (s_newCode : Nat → Int32) (s_stack : Nat → Int32) (s_tape : Nat → Int32) (r : Int32) (o_place : Int32) (o_bad : Int32) (o_codes : Int32) (o_open : Int32) (o_stacked : Int32) (o_isOver : Int32) (o_newArg : Nat → Int32) (o_newCode : Nat → Int32) (o_stack : Nat → Int32) (h : f_X12_goesBehind s_place s_end s_bad s_codes s_open s_stacked s_isOver s_newArg s_newCode s_stack s_tape = some (r, o_place, o_bad, o_codes, o_open, o_stacked, o_isOver, o_newArg, o_newCode, o_stack)) : kMi l yX12_goesBehind cX12_goesBehind 2 (some .boolean) r_X12_goesBehind [.ref a0] E [(a0, .inr (12, [.ref a4, w0_1, w0_2, w0_3, w0_4, w0_5, w0_6, w0_7, w0_8, w0_9, w0_10, w0_11, w0_12, w0_13, w0_14, w0_15, .ref a2, .ref a1, .int s_place, .int s_end, .int s_bad, w0_21, .int s_codes, .int s_open, .int s_stacked, .int s_isOver, w0_26, .ref a3, w0_28, w0_29, w0_30, w0_31, w0_32, w0_33, w0_34, w0_35, w0_36, w0_37, w0_38, w0_39, w0_40, w0_41, w0_42, w0_43, w0_44, w0_45, w0_46, w0_47, w0_48, w0_49, w0_50, w0_51, w0_52, w0_53, w0_54, w0_55, w0_56, w0_57, w0_58, w0_59, w0_60, w0_61, w0_62, w0_63, w0_64, w0_65, w0_66])), (a1, .inl (E.2 0, 120, .inl s_newArg)), (a2, .inl (E.2 0, 120, .inl s_newCode)), (a3, .inl (E.2 0, 160, .inl s_stack)), (a4, .inl (E.2 1, 200, .inl s_tape))] sz 0 0 (fun x (_ : Unit) => x = r) (fun _ => [(a0, .inr (12, [.ref a4, w0_1, w0_2, w0_3, w0_4, w0_5, w0_6, w0_7, w0_8, w0_9, w0_10, w0_11, w0_12, w0_13, w0_14, w0_15, .ref a2, .ref a1, .int o_place, .int s_end, .int o_bad, w0_21, .int o_codes, .int o_open, .int o_stacked, .int o_isOver, w0_26, .ref a3, w0_28, w0_29, w0_30, w0_31, w0_32, w0_33, w0_34, w0_35, w0_36, w0_37, w0_38, w0_39, w0_40, w0_41, w0_42, w0_43, w0_44, w0_45, w0_46, w0_47, w0_48, w0_49, w0_50, w0_51, w0_52, w0_53, w0_54, w0_55, w0_56, w0_57, w0_58, w0_59, w0_60, w0_61, w0_62, w0_63, w0_64, w0_65, w0_66])), (a1, .inl (E.2 0, 120, .inl o_newArg)), (a2, .inl (E.2 0, 120, .inl o_newCode)), (a3, .inl (E.2 0, 160, .inl o_stack)), (a4, .inl (E.2 1, 200, .inl s_tape))]) := by
  refine kmeti rfl (Nat.le_of_ble_eq_true rfl) ?_
  intro p e s m args below meth c ls A Q X hV hret hl
  have X : kC p s m c cX12_goesBehind 2 RX12 args E A := X
  have hx := X.1
  have hb := X.2.1
  have hl : lv_has ls 2 [(0, .ref a0)] := hl
  rw [f_X12_goesBehind] at h
  refine lv_aload_n hx hb dX12_goesBehind_0 rfl (lv_at hl 0 rfl) ?_
  obtain ⟨r1_1, hc2, h3⟩ := cb1_s h
  clear h
  refine kgoiE (krunV (rest := []) X hV [0, 4] (c_X12_here l E _ a0 a4 (w0_1) (w0_2) (w0_3) (w0_4) (w0_5) (w0_6) (w0_7) (w0_8) (w0_9) (w0_10) (w0_11) (w0_12) (w0_13) (w0_14) (w0_15) (.ref a2) (.ref a1) (.int s_bad) (w0_21) (.int s_codes) (.int s_open) (.int s_stacked) (.int s_isOver) (w0_26) (.ref a3) (w0_28) (w0_29) (w0_30) (w0_31) (w0_32) (w0_33) (w0_34) (w0_35) (w0_36) (w0_37) (w0_38) (w0_39) (w0_40) (w0_41) (w0_42) (w0_43) (w0_44) (w0_45) (w0_46) (w0_47) (w0_48) (w0_49) (w0_50) (w0_51) (w0_52) (w0_53) (w0_54) (w0_55) (w0_56) (w0_57) (w0_58) (w0_59) (w0_60) (w0_61) (w0_62) (w0_63) (w0_64) (w0_65) (w0_66) s_place s_end s_tape r1_1 hc2) mw_492 kb_X12_here (ci := 12) rfl rfl (by decide) rfl rfl hl.1 rfl (Nat.le_of_ble_eq_true rfl) dX12_goesBehind_1 (by decide)) X hV [0, 4] [1, 2, 3] rfl rfl rfl (by decide) (fun u H locs hV4 => ?_)
  have hV4 : kV E A s.heap H locs [(a0, .inr (12, [.ref a4, w0_1, w0_2, w0_3, w0_4, w0_5, w0_6, w0_7, w0_8, w0_9, w0_10, w0_11, w0_12, w0_13, w0_14, w0_15, .ref a2, .ref a1, .int s_place, .int s_end, .int s_bad, w0_21, .int s_codes, .int s_open, .int s_stacked, .int s_isOver, w0_26, .ref a3, w0_28, w0_29, w0_30, w0_31, w0_32, w0_33, w0_34, w0_35, w0_36, w0_37, w0_38, w0_39, w0_40, w0_41, w0_42, w0_43, w0_44, w0_45, w0_46, w0_47, w0_48, w0_49, w0_50, w0_51, w0_52, w0_53, w0_54, w0_55, w0_56, w0_57, w0_58, w0_59, w0_60, w0_61, w0_62, w0_63, w0_64, w0_65, w0_66])), (a1, .inl (E.2 0, 120, .inl s_newArg)), (a2, .inl (E.2 0, 120, .inl s_newCode)), (a3, .inl (E.2 0, 160, .inl s_stack)), (a4, .inl (E.2 1, 200, .inl s_tape))] := hV4.sub [3, 0, 1, 2, 4] rfl rfl
  clear hV
  refine lv_istore_n (lv' := [(1, .int r1_1), (0, .ref a0)]) hx hb dX12_goesBehind_4 rfl hl (by decide) rfl (fun ls hl6 => ?_)
  clear hl
  refine lv_iload_n hx hb dX12_goesBehind_5 rfl (lv_at hl6 0 rfl) ?_
  refine lv_bipush (v := 38) hx hb dX12_goesBehind_6 (by decide) ?_
  have J17 : ∀ (bad__7 : Int32) (codes__8 : Int32) (isOver__9 : Int32) (open__10 : Int32) (place__11 : Int32) (stacked__12 : Int32) (newArg__13 : Nat → Int32) (newCode__14 : Nat → Int32) (H : Heap) (locs : List Loc) (ls : Array Slot), (f_X12_goesBehind_J17 s_stack r1_1 ) bad__7 codes__8 isOver__9 open__10 place__11 stacked__12 newArg__13 newCode__14 = some (r, o_place, o_bad, o_codes, o_open, o_stacked, o_isOver, o_newArg, o_newCode, o_stack) → kV E A s.heap H locs [(a0, .inr (12, [.ref a4, w0_1, w0_2, w0_3, w0_4, w0_5, w0_6, w0_7, w0_8, w0_9, w0_10, w0_11, w0_12, w0_13, w0_14, w0_15, .ref a2, .ref a1, .int place__11, .int s_end, .int bad__7, w0_21, .int codes__8, .int open__10, .int stacked__12, .int isOver__9, w0_26, .ref a3, w0_28, w0_29, w0_30, w0_31, w0_32, w0_33, w0_34, w0_35, w0_36, w0_37, w0_38, w0_39, w0_40, w0_41, w0_42, w0_43, w0_44, w0_45, w0_46, w0_47, w0_48, w0_49, w0_50, w0_51, w0_52, w0_53, w0_54, w0_55, w0_56, w0_57, w0_58, w0_59, w0_60, w0_61, w0_62, w0_63, w0_64, w0_65, w0_66])), (a1, .inl (E.2 0, 120, .inl newArg__13)), (a2, .inl (E.2 0, 120, .inl newCode__14)), (a3, .inl (E.2 0, 160, .inl s_stack)), (a4, .inl (E.2 1, 200, .inl s_tape))] → lv_has ls 2 [(0, .ref a0), (1, .int r1_1)] → W p l e r_X12_goesBehind s m args below meth c H locs 0 0 Q (F0 m 17 ls []) := by
    intro bad__7 codes__8 isOver__9 open__10 place__11 stacked__12 newArg__13 newCode__14 H locs ls hB17 hVB17 hlB17
    rw [f_X12_goesBehind_J17] at hB17
    refine lv_aload_n hx hb dX12_goesBehind_17 rfl (lv_at hlB17 0 rfl) ?_
    refine lv_iload_n hx hb dX12_goesBehind_18 rfl (lv_at hlB17 1 rfl) ?_
    refine lv_bipush (v := 124) hx hb dX12_goesBehind_19 (by decide) ?_
    have J29 : ∀ (t1_15 : Int32) (H : Heap) (locs : List Loc) (ls : Array Slot), (f_X12_goesBehind_J29 s_stack r1_1 bad__7 codes__8 isOver__9 open__10 place__11 stacked__12 newArg__13 newCode__14 ) t1_15 = some (r, o_place, o_bad, o_codes, o_open, o_stacked, o_isOver, o_newArg, o_newCode, o_stack) → kV E A s.heap H locs [(a0, .inr (12, [.ref a4, w0_1, w0_2, w0_3, w0_4, w0_5, w0_6, w0_7, w0_8, w0_9, w0_10, w0_11, w0_12, w0_13, w0_14, w0_15, .ref a2, .ref a1, .int place__11, .int s_end, .int bad__7, w0_21, .int codes__8, .int open__10, .int stacked__12, .int isOver__9, w0_26, .ref a3, w0_28, w0_29, w0_30, w0_31, w0_32, w0_33, w0_34, w0_35, w0_36, w0_37, w0_38, w0_39, w0_40, w0_41, w0_42, w0_43, w0_44, w0_45, w0_46, w0_47, w0_48, w0_49, w0_50, w0_51, w0_52, w0_53, w0_54, w0_55, w0_56, w0_57, w0_58, w0_59, w0_60, w0_61, w0_62, w0_63, w0_64, w0_65, w0_66])), (a1, .inl (E.2 0, 120, .inl newArg__13)), (a2, .inl (E.2 0, 120, .inl newCode__14)), (a3, .inl (E.2 0, 160, .inl s_stack)), (a4, .inl (E.2 1, 200, .inl s_tape))] → lv_has ls 2 [(0, .ref a0), (1, .int r1_1)] → W p l e r_X12_goesBehind s m args below meth c H locs 0 0 Q (F0 m 29 ls [.int t1_15, .ref a0]) := by
      intro t1_15 H locs ls hB29 hVB29 hlB29
      rw [f_X12_goesBehind_J29] at hB29
      obtain ⟨o_codes29_16, o_stacked29_17, o_newArg29_18, o_newCode29_19, hc20, h21⟩ := cb4_s hB29
      clear hB29
      refine kgov (krunV (rest := []) X hVB29 [0, 1, 2, 3] (c_X12_joins l E _ a0 a1 a2 a3 (.ref a4) (w0_1) (w0_2) (w0_3) (w0_4) (w0_5) (w0_6) (w0_7) (w0_8) (w0_9) (w0_10) (w0_11) (w0_12) (w0_13) (w0_14) (w0_15) (.int place__11) (.int s_end) (w0_21) (.int open__10) (.int isOver__9) (w0_26) (w0_28) (w0_29) (w0_30) (w0_31) (w0_32) (w0_33) (w0_34) (w0_35) (w0_36) (w0_37) (w0_38) (w0_39) (w0_40) (w0_41) (w0_42) (w0_43) (w0_44) (w0_45) (w0_46) (w0_47) (w0_48) (w0_49) (w0_50) (w0_51) (w0_52) (w0_53) (w0_54) (w0_55) (w0_56) (w0_57) (w0_58) (w0_59) (w0_60) (w0_61) (w0_62) (w0_63) (w0_64) (w0_65) (w0_66) bad__7 codes__8 stacked__12 newArg__13 newCode__14 s_stack t1_15 o_codes29_16 o_stacked29_17 o_newArg29_18 o_newCode29_19 hc20) mw_572 kb_X12_joins (ci := 12) rfl rfl (by decide) rfl rfl hlB29.1 rfl (Nat.le_of_ble_eq_true rfl) dX12_goesBehind_29 (by decide)) X hVB29 [0, 1, 2, 3] [4] rfl rfl rfl (by decide) (fun u H locs hp23 hV22 => ?_)
      have hV22 : kV E A s.heap H locs [(a0, .inr (12, [.ref a4, w0_1, w0_2, w0_3, w0_4, w0_5, w0_6, w0_7, w0_8, w0_9, w0_10, w0_11, w0_12, w0_13, w0_14, w0_15, .ref a2, .ref a1, .int place__11, .int s_end, .int bad__7, w0_21, .int o_codes29_16, .int open__10, .int o_stacked29_17, .int isOver__9, w0_26, .ref a3, w0_28, w0_29, w0_30, w0_31, w0_32, w0_33, w0_34, w0_35, w0_36, w0_37, w0_38, w0_39, w0_40, w0_41, w0_42, w0_43, w0_44, w0_45, w0_46, w0_47, w0_48, w0_49, w0_50, w0_51, w0_52, w0_53, w0_54, w0_55, w0_56, w0_57, w0_58, w0_59, w0_60, w0_61, w0_62, w0_63, w0_64, w0_65, w0_66])), (a1, .inl (E.2 0, 120, .inl o_newArg29_18)), (a2, .inl (E.2 0, 120, .inl o_newCode29_19)), (a3, .inl (E.2 0, 160, .inl s_stack)), (a4, .inl (E.2 1, 200, .inl s_tape))] := hV22.sub [1, 2, 3, 4, 0] rfl rfl
      clear hVB29
      refine lv_aload_n hx hb dX12_goesBehind_32 rfl (lv_at hlB29 0 rfl) ?_
      refine lv_iload_n hx hb dX12_goesBehind_33 rfl (lv_at hlB29 1 rfl) ?_
      obtain ⟨o_place34_24, o_stacked34_25, o_stack34_26, hc27, h28⟩ := cb3_s h21
      clear h21
      refine kgov (krunV (rest := []) X hV22 [0, 3] (c_X12_puts l E _ a0 a3 (.ref a4) (w0_1) (w0_2) (w0_3) (w0_4) (w0_5) (w0_6) (w0_7) (w0_8) (w0_9) (w0_10) (w0_11) (w0_12) (w0_13) (w0_14) (w0_15) (.ref a2) (.ref a1) (.int s_end) (.int bad__7) (w0_21) (.int o_codes29_16) (.int open__10) (.int isOver__9) (w0_26) (w0_28) (w0_29) (w0_30) (w0_31) (w0_32) (w0_33) (w0_34) (w0_35) (w0_36) (w0_37) (w0_38) (w0_39) (w0_40) (w0_41) (w0_42) (w0_43) (w0_44) (w0_45) (w0_46) (w0_47) (w0_48) (w0_49) (w0_50) (w0_51) (w0_52) (w0_53) (w0_54) (w0_55) (w0_56) (w0_57) (w0_58) (w0_59) (w0_60) (w0_61) (w0_62) (w0_63) (w0_64) (w0_65) (w0_66) place__11 o_stacked29_17 s_stack r1_1 o_place34_24 o_stacked34_25 o_stack34_26 hc27) mw_513 kb_X12_puts (ci := 12) rfl rfl (by decide) rfl rfl hlB29.1 rfl (Nat.le_of_ble_eq_true rfl) dX12_goesBehind_34 (by decide)) X hV22 [0, 3] [1, 2, 4] rfl rfl rfl (by decide) (fun u H locs hp30 hV29 => ?_)
      have hV29 : kV E A s.heap H locs [(a0, .inr (12, [.ref a4, w0_1, w0_2, w0_3, w0_4, w0_5, w0_6, w0_7, w0_8, w0_9, w0_10, w0_11, w0_12, w0_13, w0_14, w0_15, .ref a2, .ref a1, .int o_place34_24, .int s_end, .int bad__7, w0_21, .int o_codes29_16, .int open__10, .int o_stacked34_25, .int isOver__9, w0_26, .ref a3, w0_28, w0_29, w0_30, w0_31, w0_32, w0_33, w0_34, w0_35, w0_36, w0_37, w0_38, w0_39, w0_40, w0_41, w0_42, w0_43, w0_44, w0_45, w0_46, w0_47, w0_48, w0_49, w0_50, w0_51, w0_52, w0_53, w0_54, w0_55, w0_56, w0_57, w0_58, w0_59, w0_60, w0_61, w0_62, w0_63, w0_64, w0_65, w0_66])), (a1, .inl (E.2 0, 120, .inl o_newArg29_18)), (a2, .inl (E.2 0, 120, .inl o_newCode29_19)), (a3, .inl (E.2 0, 160, .inl o_stack34_26)), (a4, .inl (E.2 1, 200, .inl s_tape))] := hV29.sub [3, 0, 1, 4, 2] rfl rfl
      clear hV22
      refine lv_iconst (v := 1) hx hb dX12_goesBehind_37 (by decide) ?_
      obtain ⟨q31, q32, q33, q34, q35, q36, q37, q38, q39, q40⟩ := tup10_s h28
      clear h28
      exact hret _ () _ _ _ _ q31 rfl (by rw [← q32, ← q33, ← q34, ← q35, ← q36, ← q37, ← q38, ← q39, ← q40]; exact hV29) dX12_goesBehind_38
    refine lv_icmp_ne (tgt := 28) hx hb dX12_goesBehind_21 (by decide) (fun c41 => ?_) (fun c41 => ?_)
    · have h42 := ieS c41 hB17
      clear hB17 c41
      refine lv_iconst (v := 0) hx hb dX12_goesBehind_28 (by decide) ?_
      exact J29 0 _ _ _ h42 hVB17 (lv_sub hlB17 [0, 1] rfl)
    · have h43 := itS c41 hB17
      clear hB17 c41
      refine lv_iconst (v := 1) hx hb dX12_goesBehind_24 (by decide) ?_
      refine lv_goto (tgt := 29) hx hb dX12_goesBehind_25 (by decide) ?_
      exact J29 1 _ _ _ h43 hVB17 (lv_sub hlB17 [0, 1] rfl)
  refine lv_icmp_eq (tgt := 17) hx hb dX12_goesBehind_8 (by decide) (fun c44 => ?_) (fun c44 => ?_)
  · have h45 := itS c44 h3
    clear h3 c44
    exact J17 s_bad s_codes s_isOver s_open s_place s_stacked s_newArg s_newCode _ _ _ h45 hV4 (lv_sub hl6 [1, 0] rfl)
  · have h46 := ieS c44 h3
    clear h3 c44
    refine lv_iload_n hx hb dX12_goesBehind_11 rfl (lv_at hl6 0 rfl) ?_
    refine lv_bipush (v := 124) hx hb dX12_goesBehind_12 (by decide) ?_
    refine lv_icmp_ne (tgt := 39) hx hb dX12_goesBehind_14 (by decide) (fun c47 => ?_) (fun c47 => ?_)
    · have h48 := ieS c47 h46
      clear h46 c47
      refine lv_iload_n hx hb dX12_goesBehind_39 rfl (lv_at hl6 0 rfl) ?_
      refine lv_bipush (v := 41) hx hb dX12_goesBehind_40 (by decide) ?_
      refine lv_icmp_eq (tgt := 56) hx hb dX12_goesBehind_42 (by decide) (fun c50 => ?_) (fun c50 => ?_)
      · have h51 := itS c50 h48
        clear h48 c50
        refine lv_aload_n hx hb dX12_goesBehind_56 rfl (lv_at hl6 1 rfl) ?_
        refine lv_iconst (v := 1) hx hb dX12_goesBehind_57 (by decide) ?_
        obtain ⟨o_codes58_53, o_stacked58_54, o_newArg58_55, o_newCode58_56, hc57, h58⟩ := cb4_s h51
        clear h51
        refine kgov (krunV (rest := []) X hV4 [0, 1, 2, 3] (c_X12_joins l E _ a0 a1 a2 a3 (.ref a4) (w0_1) (w0_2) (w0_3) (w0_4) (w0_5) (w0_6) (w0_7) (w0_8) (w0_9) (w0_10) (w0_11) (w0_12) (w0_13) (w0_14) (w0_15) (.int s_place) (.int s_end) (w0_21) (.int s_open) (.int s_isOver) (w0_26) (w0_28) (w0_29) (w0_30) (w0_31) (w0_32) (w0_33) (w0_34) (w0_35) (w0_36) (w0_37) (w0_38) (w0_39) (w0_40) (w0_41) (w0_42) (w0_43) (w0_44) (w0_45) (w0_46) (w0_47) (w0_48) (w0_49) (w0_50) (w0_51) (w0_52) (w0_53) (w0_54) (w0_55) (w0_56) (w0_57) (w0_58) (w0_59) (w0_60) (w0_61) (w0_62) (w0_63) (w0_64) (w0_65) (w0_66) s_bad s_codes s_stacked s_newArg s_newCode s_stack 1 o_codes58_53 o_stacked58_54 o_newArg58_55 o_newCode58_56 hc57) mw_572 kb_X12_joins (ci := 12) rfl rfl (by decide) rfl rfl hl6.1 rfl (Nat.le_of_ble_eq_true rfl) dX12_goesBehind_58 (by decide)) X hV4 [0, 1, 2, 3] [4] rfl rfl rfl (by decide) (fun u H locs hp60 hV59 => ?_)
        have hV59 : kV E A s.heap H locs [(a0, .inr (12, [.ref a4, w0_1, w0_2, w0_3, w0_4, w0_5, w0_6, w0_7, w0_8, w0_9, w0_10, w0_11, w0_12, w0_13, w0_14, w0_15, .ref a2, .ref a1, .int s_place, .int s_end, .int s_bad, w0_21, .int o_codes58_53, .int s_open, .int o_stacked58_54, .int s_isOver, w0_26, .ref a3, w0_28, w0_29, w0_30, w0_31, w0_32, w0_33, w0_34, w0_35, w0_36, w0_37, w0_38, w0_39, w0_40, w0_41, w0_42, w0_43, w0_44, w0_45, w0_46, w0_47, w0_48, w0_49, w0_50, w0_51, w0_52, w0_53, w0_54, w0_55, w0_56, w0_57, w0_58, w0_59, w0_60, w0_61, w0_62, w0_63, w0_64, w0_65, w0_66])), (a1, .inl (E.2 0, 120, .inl o_newArg58_55)), (a2, .inl (E.2 0, 120, .inl o_newCode58_56)), (a3, .inl (E.2 0, 160, .inl s_stack)), (a4, .inl (E.2 1, 200, .inl s_tape))] := hV59.sub [1, 2, 3, 4, 0] rfl rfl
        clear hV4
        refine lv_aload_n hx hb dX12_goesBehind_61 rfl (lv_at hl6 1 rfl) ?_
        refine lv_dup hx hb dX12_goesBehind_62 rfl ?_
        refine kget X hV59 (ci := 12) inlX12 rfl 0 rfl 24 (by decide) mw_482 rfl dX12_goesBehind_63 ?_
        refine lv_iconst (v := 1) hx hb dX12_goesBehind_66 (by decide) ?_
        refine lv_isub hx hb dX12_goesBehind_67 ?_
        obtain ⟨v68_61, e62, h63⟩ := nmI_s h58
        clear h58
        refine ktopi e62 ?_
        clear e62
        refine kput X hV59 (ci := 12) inlX12 rfl tyX12 tyX12_ok nmX12 0 rfl 24 (by decide) mw_482 rfl rfl rfl (Nat.le_of_ble_eq_true rfl) dX12_goesBehind_68 (fun H locs hV64 => ?_)
        have hV64 : kV E A s.heap H locs [(a0, .inr (12, [.ref a4, w0_1, w0_2, w0_3, w0_4, w0_5, w0_6, w0_7, w0_8, w0_9, w0_10, w0_11, w0_12, w0_13, w0_14, w0_15, .ref a2, .ref a1, .int s_place, .int s_end, .int s_bad, w0_21, .int o_codes58_53, .int s_open, .int v68_61, .int s_isOver, w0_26, .ref a3, w0_28, w0_29, w0_30, w0_31, w0_32, w0_33, w0_34, w0_35, w0_36, w0_37, w0_38, w0_39, w0_40, w0_41, w0_42, w0_43, w0_44, w0_45, w0_46, w0_47, w0_48, w0_49, w0_50, w0_51, w0_52, w0_53, w0_54, w0_55, w0_56, w0_57, w0_58, w0_59, w0_60, w0_61, w0_62, w0_63, w0_64, w0_65, w0_66])), (a1, .inl (E.2 0, 120, .inl o_newArg58_55)), (a2, .inl (E.2 0, 120, .inl o_newCode58_56)), (a3, .inl (E.2 0, 160, .inl s_stack)), (a4, .inl (E.2 1, 200, .inl s_tape))] := hV64
        clear hV59
        refine lv_aload_n hx hb dX12_goesBehind_71 rfl (lv_at hl6 1 rfl) ?_
        refine lv_dup hx hb dX12_goesBehind_72 rfl ?_
        refine kget X hV64 (ci := 12) inlX12 rfl 0 rfl 23 (by decide) mw_483 rfl dX12_goesBehind_73 ?_
        refine lv_iconst (v := 1) hx hb dX12_goesBehind_76 (by decide) ?_
        refine lv_isub hx hb dX12_goesBehind_77 ?_
        obtain ⟨v78_65, e66, h67⟩ := nmI_s h63
        clear h63
        refine ktopi e66 ?_
        clear e66
        refine kput X hV64 (ci := 12) inlX12 rfl tyX12 tyX12_ok nmX12 0 rfl 23 (by decide) mw_483 rfl rfl rfl (Nat.le_of_ble_eq_true rfl) dX12_goesBehind_78 (fun H locs hV68 => ?_)
        have hV68 : kV E A s.heap H locs [(a0, .inr (12, [.ref a4, w0_1, w0_2, w0_3, w0_4, w0_5, w0_6, w0_7, w0_8, w0_9, w0_10, w0_11, w0_12, w0_13, w0_14, w0_15, .ref a2, .ref a1, .int s_place, .int s_end, .int s_bad, w0_21, .int o_codes58_53, .int v78_65, .int v68_61, .int s_isOver, w0_26, .ref a3, w0_28, w0_29, w0_30, w0_31, w0_32, w0_33, w0_34, w0_35, w0_36, w0_37, w0_38, w0_39, w0_40, w0_41, w0_42, w0_43, w0_44, w0_45, w0_46, w0_47, w0_48, w0_49, w0_50, w0_51, w0_52, w0_53, w0_54, w0_55, w0_56, w0_57, w0_58, w0_59, w0_60, w0_61, w0_62, w0_63, w0_64, w0_65, w0_66])), (a1, .inl (E.2 0, 120, .inl o_newArg58_55)), (a2, .inl (E.2 0, 120, .inl o_newCode58_56)), (a3, .inl (E.2 0, 160, .inl s_stack)), (a4, .inl (E.2 1, 200, .inl s_tape))] := hV68
        clear hV64
        refine lv_aload_n hx hb dX12_goesBehind_81 rfl (lv_at hl6 1 rfl) ?_
        refine lv_dup hx hb dX12_goesBehind_82 rfl ?_
        refine kget X hV68 (ci := 12) inlX12 rfl 0 rfl 18 (by decide) mw_473 rfl dX12_goesBehind_83 ?_
        refine lv_iconst (v := 1) hx hb dX12_goesBehind_86 (by decide) ?_
        refine lv_iadd hx hb dX12_goesBehind_87 ?_
        obtain ⟨v88_69, e70, h71⟩ := nmI_s h67
        clear h67
        refine ktopi e70 ?_
        clear e70
        refine kput X hV68 (ci := 12) inlX12 rfl tyX12 tyX12_ok nmX12 0 rfl 18 (by decide) mw_473 rfl rfl rfl (Nat.le_of_ble_eq_true rfl) dX12_goesBehind_88 (fun H locs hV72 => ?_)
        have hV72 : kV E A s.heap H locs [(a0, .inr (12, [.ref a4, w0_1, w0_2, w0_3, w0_4, w0_5, w0_6, w0_7, w0_8, w0_9, w0_10, w0_11, w0_12, w0_13, w0_14, w0_15, .ref a2, .ref a1, .int v88_69, .int s_end, .int s_bad, w0_21, .int o_codes58_53, .int v78_65, .int v68_61, .int s_isOver, w0_26, .ref a3, w0_28, w0_29, w0_30, w0_31, w0_32, w0_33, w0_34, w0_35, w0_36, w0_37, w0_38, w0_39, w0_40, w0_41, w0_42, w0_43, w0_44, w0_45, w0_46, w0_47, w0_48, w0_49, w0_50, w0_51, w0_52, w0_53, w0_54, w0_55, w0_56, w0_57, w0_58, w0_59, w0_60, w0_61, w0_62, w0_63, w0_64, w0_65, w0_66])), (a1, .inl (E.2 0, 120, .inl o_newArg58_55)), (a2, .inl (E.2 0, 120, .inl o_newCode58_56)), (a3, .inl (E.2 0, 160, .inl s_stack)), (a4, .inl (E.2 1, 200, .inl s_tape))] := hV72
        clear hV68
        refine lv_aload_n hx hb dX12_goesBehind_91 rfl (lv_at hl6 1 rfl) ?_
        refine lv_aload_n hx hb dX12_goesBehind_92 rfl (lv_at hl6 1 rfl) ?_
        refine kget X hV72 (ci := 12) inlX12 rfl 0 rfl 24 (by decide) mw_482 rfl dX12_goesBehind_93 ?_
        have J104 : ∀ (t1_73 : Int32) (H : Heap) (locs : List Loc) (ls : Array Slot), (f_X12_goesBehind_J104 s_bad s_stack o_codes58_53 o_newArg58_55 o_newCode58_56 v68_61 v78_65 v88_69 ) t1_73 = some (r, o_place, o_bad, o_codes, o_open, o_stacked, o_isOver, o_newArg, o_newCode, o_stack) → kV E A s.heap H locs [(a0, .inr (12, [.ref a4, w0_1, w0_2, w0_3, w0_4, w0_5, w0_6, w0_7, w0_8, w0_9, w0_10, w0_11, w0_12, w0_13, w0_14, w0_15, .ref a2, .ref a1, .int v88_69, .int s_end, .int s_bad, w0_21, .int o_codes58_53, .int v78_65, .int v68_61, .int s_isOver, w0_26, .ref a3, w0_28, w0_29, w0_30, w0_31, w0_32, w0_33, w0_34, w0_35, w0_36, w0_37, w0_38, w0_39, w0_40, w0_41, w0_42, w0_43, w0_44, w0_45, w0_46, w0_47, w0_48, w0_49, w0_50, w0_51, w0_52, w0_53, w0_54, w0_55, w0_56, w0_57, w0_58, w0_59, w0_60, w0_61, w0_62, w0_63, w0_64, w0_65, w0_66])), (a1, .inl (E.2 0, 120, .inl o_newArg58_55)), (a2, .inl (E.2 0, 120, .inl o_newCode58_56)), (a3, .inl (E.2 0, 160, .inl s_stack)), (a4, .inl (E.2 1, 200, .inl s_tape))] → lv_has ls 2 [(0, .ref a0)] → W p l e r_X12_goesBehind s m args below meth c H locs 0 0 Q (F0 m 104 ls [.int t1_73, .ref a0]) := by
          intro t1_73 H locs ls hB104 hVB104 hlB104
          rw [f_X12_goesBehind_J104] at hB104
          obtain ⟨hz74, h75⟩ := bo_z hB104
          clear hB104
          refine kput X hVB104 (ci := 12) inlX12 rfl tyX12 tyX12_ok nmX12 0 rfl 25 (by decide) mw_556 rfl (by rcases hz74 with h9 | h9 <;> rw [h9] <;> rfl) (by rcases hz74 with h9 | h9 <;> rw [h9] <;> rfl) (Nat.le_of_ble_eq_true rfl) dX12_goesBehind_104 (fun H locs hV76 => ?_)
          have hV76 : kV E A s.heap H locs [(a0, .inr (12, [.ref a4, w0_1, w0_2, w0_3, w0_4, w0_5, w0_6, w0_7, w0_8, w0_9, w0_10, w0_11, w0_12, w0_13, w0_14, w0_15, .ref a2, .ref a1, .int v88_69, .int s_end, .int s_bad, w0_21, .int o_codes58_53, .int v78_65, .int v68_61, .int t1_73, w0_26, .ref a3, w0_28, w0_29, w0_30, w0_31, w0_32, w0_33, w0_34, w0_35, w0_36, w0_37, w0_38, w0_39, w0_40, w0_41, w0_42, w0_43, w0_44, w0_45, w0_46, w0_47, w0_48, w0_49, w0_50, w0_51, w0_52, w0_53, w0_54, w0_55, w0_56, w0_57, w0_58, w0_59, w0_60, w0_61, w0_62, w0_63, w0_64, w0_65, w0_66])), (a1, .inl (E.2 0, 120, .inl o_newArg58_55)), (a2, .inl (E.2 0, 120, .inl o_newCode58_56)), (a3, .inl (E.2 0, 160, .inl s_stack)), (a4, .inl (E.2 1, 200, .inl s_tape))] := hV76
          clear hVB104
          refine lv_aload_n hx hb dX12_goesBehind_107 rfl (lv_at hlB104 0 rfl) ?_
          refine kget X hV76 (ci := 12) inlX12 rfl 0 rfl 25 (by decide) mw_556 rfl dX12_goesBehind_108 ?_
          refine lv_if_ne (tgt := 118) hx hb dX12_goesBehind_111 (by decide) (fun c77 => ?_) (fun c77 => ?_)
          · have h78 := ieS c77 h75
            clear h75 c77
            refine lv_iconst (v := 0) hx hb dX12_goesBehind_118 (by decide) ?_
            obtain ⟨q80, q81, q82, q83, q84, q85, q86, q87, q88, q89⟩ := tup10_s h78
            clear h78
            exact hret _ () _ _ _ _ q80 rfl (by rw [← q81, ← q82, ← q83, ← q84, ← q85, ← q86, ← q87, ← q88, ← q89]; exact hV76) dX12_goesBehind_119
          · have h79 := itS c77 h75
            clear h75 c77
            refine lv_aload_n hx hb dX12_goesBehind_114 rfl (lv_at hlB104 0 rfl) ?_
            obtain ⟨o_codes115_90, o_open115_91, o_stacked115_92, o_newArg115_93, o_newCode115_94, hc95, h96⟩ := cb5_s h79
            clear h79
            refine kgov (krunV (rest := []) X hV76 [0, 1, 2, 3] (c_X12_ends l E _ a0 a1 a2 a3 (.ref a4) (w0_1) (w0_2) (w0_3) (w0_4) (w0_5) (w0_6) (w0_7) (w0_8) (w0_9) (w0_10) (w0_11) (w0_12) (w0_13) (w0_14) (w0_15) (.int v88_69) (.int s_end) (w0_21) (.int t1_73) (w0_26) (w0_28) (w0_29) (w0_30) (w0_31) (w0_32) (w0_33) (w0_34) (w0_35) (w0_36) (w0_37) (w0_38) (w0_39) (w0_40) (w0_41) (w0_42) (w0_43) (w0_44) (w0_45) (w0_46) (w0_47) (w0_48) (w0_49) (w0_50) (w0_51) (w0_52) (w0_53) (w0_54) (w0_55) (w0_56) (w0_57) (w0_58) (w0_59) (w0_60) (w0_61) (w0_62) (w0_63) (w0_64) (w0_65) (w0_66) s_bad o_codes58_53 v78_65 v68_61 o_newArg58_55 o_newCode58_56 s_stack o_codes115_90 o_open115_91 o_stacked115_92 o_newArg115_93 o_newCode115_94 hc95) mw_564 kb_X12_ends (ci := 12) rfl rfl (by decide) rfl rfl hlB104.1 rfl (Nat.le_of_ble_eq_true rfl) dX12_goesBehind_115 (by decide)) X hV76 [0, 1, 2, 3] [4] rfl rfl rfl (by decide) (fun u H locs hp98 hV97 => ?_)
            have hV97 : kV E A s.heap H locs [(a0, .inr (12, [.ref a4, w0_1, w0_2, w0_3, w0_4, w0_5, w0_6, w0_7, w0_8, w0_9, w0_10, w0_11, w0_12, w0_13, w0_14, w0_15, .ref a2, .ref a1, .int v88_69, .int s_end, .int s_bad, w0_21, .int o_codes115_90, .int o_open115_91, .int o_stacked115_92, .int t1_73, w0_26, .ref a3, w0_28, w0_29, w0_30, w0_31, w0_32, w0_33, w0_34, w0_35, w0_36, w0_37, w0_38, w0_39, w0_40, w0_41, w0_42, w0_43, w0_44, w0_45, w0_46, w0_47, w0_48, w0_49, w0_50, w0_51, w0_52, w0_53, w0_54, w0_55, w0_56, w0_57, w0_58, w0_59, w0_60, w0_61, w0_62, w0_63, w0_64, w0_65, w0_66])), (a1, .inl (E.2 0, 120, .inl o_newArg115_93)), (a2, .inl (E.2 0, 120, .inl o_newCode115_94)), (a3, .inl (E.2 0, 160, .inl s_stack)), (a4, .inl (E.2 1, 200, .inl s_tape))] := hV97.sub [1, 2, 3, 4, 0] rfl rfl
            clear hV76
            refine lv_iconst (v := 0) hx hb dX12_goesBehind_118 (by decide) ?_
            obtain ⟨q99, q100, q101, q102, q103, q104, q105, q106, q107, q108⟩ := tup10_s h96
            clear h96
            exact hret _ () _ _ _ _ q99 rfl (by rw [← q100, ← q101, ← q102, ← q103, ← q104, ← q105, ← q106, ← q107, ← q108]; exact hV97) dX12_goesBehind_119
        refine lv_if_ne (tgt := 103) hx hb dX12_goesBehind_96 (by decide) (fun c109 => ?_) (fun c109 => ?_)
        · have h110 := ieS c109 h71
          clear h71 c109
          refine lv_iconst (v := 0) hx hb dX12_goesBehind_103 (by decide) ?_
          exact J104 0 _ _ _ h110 hV72 (lv_sub hl6 [1] rfl)
        · have h111 := itS c109 h71
          clear h71 c109
          refine lv_iconst (v := 1) hx hb dX12_goesBehind_99 (by decide) ?_
          refine lv_goto (tgt := 104) hx hb dX12_goesBehind_100 (by decide) ?_
          exact J104 1 _ _ _ h111 hV72 (lv_sub hl6 [1] rfl)
      · have h52 := ieS c50 h48
        clear h48 c50
        refine lv_aload_n hx hb dX12_goesBehind_45 rfl (lv_at hl6 1 rfl) ?_
        refine lv_iconst (v := 1) hx hb dX12_goesBehind_46 (by decide) ?_
        refine lv_aload_n hx hb dX12_goesBehind_47 rfl (lv_at hl6 1 rfl) ?_
        refine kget X hV4 (ci := 12) inlX12 rfl 0 rfl 18 (by decide) mw_473 rfl dX12_goesBehind_48 ?_
        obtain ⟨o_bad51_112, hc113, h114⟩ := cb1_s h52
        clear h52
        refine kgov (krunV (rest := []) X hV4 [0] (c_X12_wrongs l E _ a0 (.ref a4) (w0_1) (w0_2) (w0_3) (w0_4) (w0_5) (w0_6) (w0_7) (w0_8) (w0_9) (w0_10) (w0_11) (w0_12) (w0_13) (w0_14) (w0_15) (.ref a2) (.ref a1) (.int s_place) (.int s_end) (w0_21) (.int s_codes) (.int s_open) (.int s_stacked) (.int s_isOver) (w0_26) (.ref a3) (w0_28) (w0_29) (w0_30) (w0_31) (w0_32) (w0_33) (w0_34) (w0_35) (w0_36) (w0_37) (w0_38) (w0_39) (w0_40) (w0_41) (w0_42) (w0_43) (w0_44) (w0_45) (w0_46) (w0_47) (w0_48) (w0_49) (w0_50) (w0_51) (w0_52) (w0_53) (w0_54) (w0_55) (w0_56) (w0_57) (w0_58) (w0_59) (w0_60) (w0_61) (w0_62) (w0_63) (w0_64) (w0_65) (w0_66) s_bad 1 s_place o_bad51_112 hc113) mw_496 kb_X12_wrongs (ci := 12) rfl rfl (by decide) rfl rfl hl6.1 rfl (Nat.le_of_ble_eq_true rfl) dX12_goesBehind_51 (by decide)) X hV4 [0] [1, 2, 3, 4] rfl rfl rfl (by decide) (fun u H locs hp116 hV115 => ?_)
        have hV115 : kV E A s.heap H locs [(a0, .inr (12, [.ref a4, w0_1, w0_2, w0_3, w0_4, w0_5, w0_6, w0_7, w0_8, w0_9, w0_10, w0_11, w0_12, w0_13, w0_14, w0_15, .ref a2, .ref a1, .int s_place, .int s_end, .int o_bad51_112, w0_21, .int s_codes, .int s_open, .int s_stacked, .int s_isOver, w0_26, .ref a3, w0_28, w0_29, w0_30, w0_31, w0_32, w0_33, w0_34, w0_35, w0_36, w0_37, w0_38, w0_39, w0_40, w0_41, w0_42, w0_43, w0_44, w0_45, w0_46, w0_47, w0_48, w0_49, w0_50, w0_51, w0_52, w0_53, w0_54, w0_55, w0_56, w0_57, w0_58, w0_59, w0_60, w0_61, w0_62, w0_63, w0_64, w0_65, w0_66])), (a1, .inl (E.2 0, 120, .inl s_newArg)), (a2, .inl (E.2 0, 120, .inl s_newCode)), (a3, .inl (E.2 0, 160, .inl s_stack)), (a4, .inl (E.2 1, 200, .inl s_tape))] := hV115.sub [4, 0, 1, 2, 3] rfl rfl
        clear hV4
        refine lv_iconst (v := 0) hx hb dX12_goesBehind_54 (by decide) ?_
        obtain ⟨q117, q118, q119, q120, q121, q122, q123, q124, q125, q126⟩ := tup10_s h114
        clear h114
        exact hret _ () _ _ _ _ q117 rfl (by rw [← q118, ← q119, ← q120, ← q121, ← q122, ← q123, ← q124, ← q125, ← q126]; exact hV115) dX12_goesBehind_55
    · have h49 := itS c47 h46
      clear h46 c47
      exact J17 s_bad s_codes s_isOver s_open s_place s_stacked s_newArg s_newCode _ _ _ h49 hV4 (lv_sub hl6 [1, 0] rfl)
abbrev r_X12_condition : Room := { frames := 6, cells := 0, slots := 0, locals := 129 }
set_option maxHeartbeats 4000000 in
set_option maxRecDepth 100000 in
theorem c_X12_condition (l : Launch) (E : kE) (sz : Nat) (a0 a1 a2 a3 a4 : Nat) (w0_1 w0_2 w0_3 w0_4 w0_5 w0_6 w0_7 w0_8 w0_9 w0_10 w0_11 w0_12 w0_13 w0_14 w0_15 w0_21 w0_28 w0_29 w0_30 w0_31 w0_32 w0_33 w0_34 w0_35 w0_36 w0_37 w0_38 w0_39 w0_40 w0_41 w0_42 w0_43 w0_44 w0_45 w0_46 w0_47 w0_48 w0_49 w0_50 w0_51 w0_52 w0_53 w0_54 w0_55 w0_56 w0_57 w0_58 w0_59 w0_60 w0_61 w0_62 w0_63 w0_64 w0_65 w0_66 : Value) (s_place : Int32) (s_end : Int32) (s_bad : Int32) (s_codes : Int32) (s_open : Int32) (s_stacked : Int32) (s_isOver : Int32) (s_isBehind : Int32) (s_newArg : Nat → Int32) (s_newCode : Nat → Int32) (s_stack : Nat → Int32) (s_tape : Nat → Int32) (o_place : Int32) (o_bad : Int32) (o_codes : Int32) (o_open : Int32) (o_stacked : Int32) (o_isOver : Int32) (o_isBehind : Int32) (o_newArg : Nat → Int32) (o_newCode : Nat → Int32) (o_stack : Nat → Int32) (h : f_X12_condition s_place s_end s_bad s_codes s_open s_stacked s_isOver s_isBehind s_newArg s_newCode s_stack s_tape = some (o_place, o_bad, o_codes, o_open, o_stacked, o_isOver, o_isBehind, o_newArg, o_newCode, o_stack)) : kMv l yX12_condition cX12_condition 2 r_X12_condition [.ref a0] E [(a0, .inr (12, [.ref a4, w0_1, w0_2, w0_3, w0_4, w0_5, w0_6, w0_7, w0_8, w0_9, w0_10, w0_11, w0_12, w0_13, w0_14, w0_15, .ref a2, .ref a1, .int s_place, .int s_end, .int s_bad, w0_21, .int s_codes, .int s_open, .int s_stacked, .int s_isOver, .int s_isBehind, .ref a3, w0_28, w0_29, w0_30, w0_31, w0_32, w0_33, w0_34, w0_35, w0_36, w0_37, w0_38, w0_39, w0_40, w0_41, w0_42, w0_43, w0_44, w0_45, w0_46, w0_47, w0_48, w0_49, w0_50, w0_51, w0_52, w0_53, w0_54, w0_55, w0_56, w0_57, w0_58, w0_59, w0_60, w0_61, w0_62, w0_63, w0_64, w0_65, w0_66])), (a1, .inl (E.2 0, 120, .inl s_newArg)), (a2, .inl (E.2 0, 120, .inl s_newCode)), (a3, .inl (E.2 0, 160, .inl s_stack)), (a4, .inl (E.2 1, 200, .inl s_tape))] sz 0 0 (fun (_ : Unit) => True) (fun _ => [(a0, .inr (12, [.ref a4, w0_1, w0_2, w0_3, w0_4, w0_5, w0_6, w0_7, w0_8, w0_9, w0_10, w0_11, w0_12, w0_13, w0_14, w0_15, .ref a2, .ref a1, .int o_place, .int s_end, .int o_bad, w0_21, .int o_codes, .int o_open, .int o_stacked, .int o_isOver, .int o_isBehind, .ref a3, w0_28, w0_29, w0_30, w0_31, w0_32, w0_33, w0_34, w0_35, w0_36, w0_37, w0_38, w0_39, w0_40, w0_41, w0_42, w0_43, w0_44, w0_45, w0_46, w0_47, w0_48, w0_49, w0_50, w0_51, w0_52, w0_53, w0_54, w0_55, w0_56, w0_57, w0_58, w0_59, w0_60, w0_61, w0_62, w0_63, w0_64, w0_65, w0_66])), (a1, .inl (E.2 0, 120, .inl o_newArg)), (a2, .inl (E.2 0, 120, .inl o_newCode)), (a3, .inl (E.2 0, 160, .inl o_stack)), (a4, .inl (E.2 1, 200, .inl s_tape))]) := by
  refine kmetv rfl (Nat.le_of_ble_eq_true rfl) ?_
  intro p e s m args below meth c ls A Q X hnm hV hret hl
  have X : kC p s m c cX12_condition 2 RX12 args E A := X
  have hx := X.1
  have hb := X.2.1
  have hl : lv_has ls 2 [(0, .ref a0)] := hl
  rw [f_X12_condition] at h
  refine lv_aload_n hx hb dX12_condition_0 rfl (lv_at hl 0 rfl) ?_
  refine lv_iconst (v := 0) hx hb dX12_condition_1 (by decide) ?_
  refine kput X hV (ci := 12) inlX12 rfl tyX12 tyX12_ok nmX12 0 rfl 25 (by decide) mw_556 rfl rfl rfl (Nat.le_of_ble_eq_true rfl) dX12_condition_2 (fun H locs hV1 => ?_)
  have hV1 : kV E A s.heap H locs [(a0, .inr (12, [.ref a4, w0_1, w0_2, w0_3, w0_4, w0_5, w0_6, w0_7, w0_8, w0_9, w0_10, w0_11, w0_12, w0_13, w0_14, w0_15, .ref a2, .ref a1, .int s_place, .int s_end, .int s_bad, w0_21, .int s_codes, .int s_open, .int s_stacked, .int 0, .int s_isBehind, .ref a3, w0_28, w0_29, w0_30, w0_31, w0_32, w0_33, w0_34, w0_35, w0_36, w0_37, w0_38, w0_39, w0_40, w0_41, w0_42, w0_43, w0_44, w0_45, w0_46, w0_47, w0_48, w0_49, w0_50, w0_51, w0_52, w0_53, w0_54, w0_55, w0_56, w0_57, w0_58, w0_59, w0_60, w0_61, w0_62, w0_63, w0_64, w0_65, w0_66])), (a1, .inl (E.2 0, 120, .inl s_newArg)), (a2, .inl (E.2 0, 120, .inl s_newCode)), (a3, .inl (E.2 0, 160, .inl s_stack)), (a4, .inl (E.2 1, 200, .inl s_tape))] := hV1
  clear hV
  refine lv_aload_n hx hb dX12_condition_5 rfl (lv_at hl 0 rfl) ?_
  obtain ⟨r6_2, hc3, h4⟩ := cb1_s h
  clear h
  refine kgoiE (krunV (rest := []) X hV1 [0, 4] (c_X12_here l E _ a0 a4 (w0_1) (w0_2) (w0_3) (w0_4) (w0_5) (w0_6) (w0_7) (w0_8) (w0_9) (w0_10) (w0_11) (w0_12) (w0_13) (w0_14) (w0_15) (.ref a2) (.ref a1) (.int s_bad) (w0_21) (.int s_codes) (.int s_open) (.int s_stacked) (.int 0) (.int s_isBehind) (.ref a3) (w0_28) (w0_29) (w0_30) (w0_31) (w0_32) (w0_33) (w0_34) (w0_35) (w0_36) (w0_37) (w0_38) (w0_39) (w0_40) (w0_41) (w0_42) (w0_43) (w0_44) (w0_45) (w0_46) (w0_47) (w0_48) (w0_49) (w0_50) (w0_51) (w0_52) (w0_53) (w0_54) (w0_55) (w0_56) (w0_57) (w0_58) (w0_59) (w0_60) (w0_61) (w0_62) (w0_63) (w0_64) (w0_65) (w0_66) s_place s_end s_tape r6_2 hc3) mw_492 kb_X12_here (ci := 12) rfl rfl (by decide) rfl rfl hl.1 rfl (Nat.le_of_ble_eq_true rfl) dX12_condition_6 (by decide)) X hV1 [0, 4] [1, 2, 3] rfl rfl rfl (by decide) (fun u H locs hV5 => ?_)
  have hV5 : kV E A s.heap H locs [(a0, .inr (12, [.ref a4, w0_1, w0_2, w0_3, w0_4, w0_5, w0_6, w0_7, w0_8, w0_9, w0_10, w0_11, w0_12, w0_13, w0_14, w0_15, .ref a2, .ref a1, .int s_place, .int s_end, .int s_bad, w0_21, .int s_codes, .int s_open, .int s_stacked, .int 0, .int s_isBehind, .ref a3, w0_28, w0_29, w0_30, w0_31, w0_32, w0_33, w0_34, w0_35, w0_36, w0_37, w0_38, w0_39, w0_40, w0_41, w0_42, w0_43, w0_44, w0_45, w0_46, w0_47, w0_48, w0_49, w0_50, w0_51, w0_52, w0_53, w0_54, w0_55, w0_56, w0_57, w0_58, w0_59, w0_60, w0_61, w0_62, w0_63, w0_64, w0_65, w0_66])), (a1, .inl (E.2 0, 120, .inl s_newArg)), (a2, .inl (E.2 0, 120, .inl s_newCode)), (a3, .inl (E.2 0, 160, .inl s_stack)), (a4, .inl (E.2 1, 200, .inl s_tape))] := hV5.sub [3, 0, 1, 2, 4] rfl rfl
  clear hV1
  refine lv_bipush (v := 40) hx hb dX12_condition_9 (by decide) ?_
  have J23 : ∀ (bad__7 : Int32) (H : Heap) (locs : List Loc) (ls : Array Slot), (f_X12_condition_J23 s_place s_end s_codes s_open s_stacked s_isBehind s_newArg s_newCode s_stack s_tape ) bad__7 = some (o_place, o_bad, o_codes, o_open, o_stacked, o_isOver, o_isBehind, o_newArg, o_newCode, o_stack) → kV E A s.heap H locs [(a0, .inr (12, [.ref a4, w0_1, w0_2, w0_3, w0_4, w0_5, w0_6, w0_7, w0_8, w0_9, w0_10, w0_11, w0_12, w0_13, w0_14, w0_15, .ref a2, .ref a1, .int s_place, .int s_end, .int bad__7, w0_21, .int s_codes, .int s_open, .int s_stacked, .int 0, .int s_isBehind, .ref a3, w0_28, w0_29, w0_30, w0_31, w0_32, w0_33, w0_34, w0_35, w0_36, w0_37, w0_38, w0_39, w0_40, w0_41, w0_42, w0_43, w0_44, w0_45, w0_46, w0_47, w0_48, w0_49, w0_50, w0_51, w0_52, w0_53, w0_54, w0_55, w0_56, w0_57, w0_58, w0_59, w0_60, w0_61, w0_62, w0_63, w0_64, w0_65, w0_66])), (a1, .inl (E.2 0, 120, .inl s_newArg)), (a2, .inl (E.2 0, 120, .inl s_newCode)), (a3, .inl (E.2 0, 160, .inl s_stack)), (a4, .inl (E.2 1, 200, .inl s_tape))] → lv_has ls 2 [(0, .ref a0)] → W p l e r_X12_condition s m args below meth c H locs 0 0 Q (F0 m 23 ls []) := by
    intro bad__7 H locs ls hB23 hVB23 hlB23
    rw [f_X12_condition_J23] at hB23
    refine lv_aload_n hx hb dX12_condition_23 rfl (lv_at hlB23 0 rfl) ?_
    obtain ⟨r24_8, hc9, h10⟩ := cb1_s hB23
    clear hB23
    refine kgoiE (krunV (rest := []) X hVB23 [0] (c_X12_isGood l E _ a0 (.ref a4) (w0_1) (w0_2) (w0_3) (w0_4) (w0_5) (w0_6) (w0_7) (w0_8) (w0_9) (w0_10) (w0_11) (w0_12) (w0_13) (w0_14) (w0_15) (.ref a2) (.ref a1) (.int s_place) (.int s_end) (w0_21) (.int s_codes) (.int s_open) (.int s_stacked) (.int 0) (.int s_isBehind) (.ref a3) (w0_28) (w0_29) (w0_30) (w0_31) (w0_32) (w0_33) (w0_34) (w0_35) (w0_36) (w0_37) (w0_38) (w0_39) (w0_40) (w0_41) (w0_42) (w0_43) (w0_44) (w0_45) (w0_46) (w0_47) (w0_48) (w0_49) (w0_50) (w0_51) (w0_52) (w0_53) (w0_54) (w0_55) (w0_56) (w0_57) (w0_58) (w0_59) (w0_60) (w0_61) (w0_62) (w0_63) (w0_64) (w0_65) (w0_66) bad__7 r24_8 hc9) mw_484 kb_X12_isGood (ci := 12) rfl rfl (by decide) rfl rfl hlB23.1 rfl (Nat.le_of_ble_eq_true rfl) dX12_condition_24 (by decide)) X hVB23 [0] [1, 2, 3, 4] rfl rfl rfl (by decide) (fun u H locs hV11 => ?_)
    have hV11 : kV E A s.heap H locs [(a0, .inr (12, [.ref a4, w0_1, w0_2, w0_3, w0_4, w0_5, w0_6, w0_7, w0_8, w0_9, w0_10, w0_11, w0_12, w0_13, w0_14, w0_15, .ref a2, .ref a1, .int s_place, .int s_end, .int bad__7, w0_21, .int s_codes, .int s_open, .int s_stacked, .int 0, .int s_isBehind, .ref a3, w0_28, w0_29, w0_30, w0_31, w0_32, w0_33, w0_34, w0_35, w0_36, w0_37, w0_38, w0_39, w0_40, w0_41, w0_42, w0_43, w0_44, w0_45, w0_46, w0_47, w0_48, w0_49, w0_50, w0_51, w0_52, w0_53, w0_54, w0_55, w0_56, w0_57, w0_58, w0_59, w0_60, w0_61, w0_62, w0_63, w0_64, w0_65, w0_66])), (a1, .inl (E.2 0, 120, .inl s_newArg)), (a2, .inl (E.2 0, 120, .inl s_newCode)), (a3, .inl (E.2 0, 160, .inl s_stack)), (a4, .inl (E.2 1, 200, .inl s_tape))] := hV11.sub [4, 0, 1, 2, 3] rfl rfl
    clear hVB23
    refine lv_if_ne (tgt := 31) hx hb dX12_condition_27 (by decide) (fun c13 => ?_) (fun c13 => ?_)
    · have h14 := ieS c13 h10
      clear h10 c13
      refine lv_aload_n hx hb dX12_condition_31 rfl (lv_at hlB23 0 rfl) ?_
      obtain ⟨o_place32_16, o_bad32_17, o_open32_18, o_stacked32_19, o_stack32_20, hc21, h22⟩ := cb5_s h14
      clear h14
      refine kgov (krunV (rest := []) X hV11 [0, 3, 4] (c_X12_opens l E _ a0 a3 a4 (w0_1) (w0_2) (w0_3) (w0_4) (w0_5) (w0_6) (w0_7) (w0_8) (w0_9) (w0_10) (w0_11) (w0_12) (w0_13) (w0_14) (w0_15) (.ref a2) (.ref a1) (w0_21) (.int s_codes) (.int 0) (.int s_isBehind) (w0_28) (w0_29) (w0_30) (w0_31) (w0_32) (w0_33) (w0_34) (w0_35) (w0_36) (w0_37) (w0_38) (w0_39) (w0_40) (w0_41) (w0_42) (w0_43) (w0_44) (w0_45) (w0_46) (w0_47) (w0_48) (w0_49) (w0_50) (w0_51) (w0_52) (w0_53) (w0_54) (w0_55) (w0_56) (w0_57) (w0_58) (w0_59) (w0_60) (w0_61) (w0_62) (w0_63) (w0_64) (w0_65) (w0_66) s_place s_end bad__7 s_open s_stacked s_stack s_tape o_place32_16 o_bad32_17 o_open32_18 o_stacked32_19 o_stack32_20 hc21) mw_509 kb_X12_opens (ci := 12) rfl rfl (by decide) rfl rfl hlB23.1 rfl (Nat.le_of_ble_eq_true rfl) dX12_condition_32 (by decide)) X hV11 [0, 3, 4] [1, 2] rfl rfl rfl (by decide) (fun u H locs hp24 hV23 => ?_)
      have hV23 : kV E A s.heap H locs [(a0, .inr (12, [.ref a4, w0_1, w0_2, w0_3, w0_4, w0_5, w0_6, w0_7, w0_8, w0_9, w0_10, w0_11, w0_12, w0_13, w0_14, w0_15, .ref a2, .ref a1, .int o_place32_16, .int s_end, .int o_bad32_17, w0_21, .int s_codes, .int o_open32_18, .int o_stacked32_19, .int 0, .int s_isBehind, .ref a3, w0_28, w0_29, w0_30, w0_31, w0_32, w0_33, w0_34, w0_35, w0_36, w0_37, w0_38, w0_39, w0_40, w0_41, w0_42, w0_43, w0_44, w0_45, w0_46, w0_47, w0_48, w0_49, w0_50, w0_51, w0_52, w0_53, w0_54, w0_55, w0_56, w0_57, w0_58, w0_59, w0_60, w0_61, w0_62, w0_63, w0_64, w0_65, w0_66])), (a1, .inl (E.2 0, 120, .inl s_newArg)), (a2, .inl (E.2 0, 120, .inl s_newCode)), (a3, .inl (E.2 0, 160, .inl o_stack32_20)), (a4, .inl (E.2 1, 200, .inl s_tape))] := hV23.sub [2, 0, 1, 3, 4] rfl rfl
      clear hV11
      refine lv_iconst (v := 1) hx hb dX12_condition_35 (by decide) ?_
      refine lv_istore_n (lv' := [(1, .int 1), (0, .ref a0)]) hx hb dX12_condition_36 rfl hlB23 (by decide) rfl (fun ls hl25 => ?_)
      clear hlB23
      have L37 : ∀ (n37 : Nat) (x1_26 : Int32) (bad__27 : Int32) (codes__28 : Int32) (isBehind__29 : Int32) (isOver__30 : Int32) (open__31 : Int32) (place__32 : Int32) (stacked__33 : Int32) (newArg__34 : Nat → Int32) (newCode__35 : Nat → Int32) (stack__36 : Nat → Int32) (H : Heap) (locs : List Loc) (ls : Array Slot), (f_X12_condition_L37 s_end s_tape  n37) x1_26 bad__27 codes__28 isBehind__29 isOver__30 open__31 place__32 stacked__33 newArg__34 newCode__35 stack__36 = some (o_place, o_bad, o_codes, o_open, o_stacked, o_isOver, o_isBehind, o_newArg, o_newCode, o_stack) → kV E A s.heap H locs [(a0, .inr (12, [.ref a4, w0_1, w0_2, w0_3, w0_4, w0_5, w0_6, w0_7, w0_8, w0_9, w0_10, w0_11, w0_12, w0_13, w0_14, w0_15, .ref a2, .ref a1, .int place__32, .int s_end, .int bad__27, w0_21, .int codes__28, .int open__31, .int stacked__33, .int isOver__30, .int isBehind__29, .ref a3, w0_28, w0_29, w0_30, w0_31, w0_32, w0_33, w0_34, w0_35, w0_36, w0_37, w0_38, w0_39, w0_40, w0_41, w0_42, w0_43, w0_44, w0_45, w0_46, w0_47, w0_48, w0_49, w0_50, w0_51, w0_52, w0_53, w0_54, w0_55, w0_56, w0_57, w0_58, w0_59, w0_60, w0_61, w0_62, w0_63, w0_64, w0_65, w0_66])), (a1, .inl (E.2 0, 120, .inl newArg__34)), (a2, .inl (E.2 0, 120, .inl newCode__35)), (a3, .inl (E.2 0, 160, .inl stack__36)), (a4, .inl (E.2 1, 200, .inl s_tape))] → lv_has ls 2 [(0, .ref a0), (1, .int x1_26)] → W p l e r_X12_condition s m args below meth c H locs 0 0 Q (F0 m 37 ls []) := by
        intro n37
        induction n37 with
        | zero =>
          intro x1_26 bad__27 codes__28 isBehind__29 isOver__30 open__31 place__32 stacked__33 newArg__34 newCode__35 stack__36 H locs ls hB37 hVB37 hlB37
          rw [f_X12_condition_L37] at hB37
          exact nomatch hB37
        | succ n37 ih37 =>
          intro x1_26 bad__27 codes__28 isBehind__29 isOver__30 open__31 place__32 stacked__33 newArg__34 newCode__35 stack__36 H locs ls hB37 hVB37 hlB37
          rw [f_X12_condition_L37] at hB37
          refine lv_aload_n hx hb dX12_condition_37 rfl (lv_at hlB37 0 rfl) ?_
          obtain ⟨r38_37, hc38, h39⟩ := cb1_s hB37
          clear hB37
          refine kgoiE (krunV (rest := []) X hVB37 [0] (c_X12_isGood l E _ a0 (.ref a4) (w0_1) (w0_2) (w0_3) (w0_4) (w0_5) (w0_6) (w0_7) (w0_8) (w0_9) (w0_10) (w0_11) (w0_12) (w0_13) (w0_14) (w0_15) (.ref a2) (.ref a1) (.int place__32) (.int s_end) (w0_21) (.int codes__28) (.int open__31) (.int stacked__33) (.int isOver__30) (.int isBehind__29) (.ref a3) (w0_28) (w0_29) (w0_30) (w0_31) (w0_32) (w0_33) (w0_34) (w0_35) (w0_36) (w0_37) (w0_38) (w0_39) (w0_40) (w0_41) (w0_42) (w0_43) (w0_44) (w0_45) (w0_46) (w0_47) (w0_48) (w0_49) (w0_50) (w0_51) (w0_52) (w0_53) (w0_54) (w0_55) (w0_56) (w0_57) (w0_58) (w0_59) (w0_60) (w0_61) (w0_62) (w0_63) (w0_64) (w0_65) (w0_66) bad__27 r38_37 hc38) mw_484 kb_X12_isGood (ci := 12) rfl rfl (by decide) rfl rfl hlB37.1 rfl (Nat.le_of_ble_eq_true rfl) dX12_condition_38 (by decide)) X hVB37 [0] [1, 2, 3, 4] rfl rfl rfl (by decide) (fun u H locs hV40 => ?_)
          have hV40 : kV E A s.heap H locs [(a0, .inr (12, [.ref a4, w0_1, w0_2, w0_3, w0_4, w0_5, w0_6, w0_7, w0_8, w0_9, w0_10, w0_11, w0_12, w0_13, w0_14, w0_15, .ref a2, .ref a1, .int place__32, .int s_end, .int bad__27, w0_21, .int codes__28, .int open__31, .int stacked__33, .int isOver__30, .int isBehind__29, .ref a3, w0_28, w0_29, w0_30, w0_31, w0_32, w0_33, w0_34, w0_35, w0_36, w0_37, w0_38, w0_39, w0_40, w0_41, w0_42, w0_43, w0_44, w0_45, w0_46, w0_47, w0_48, w0_49, w0_50, w0_51, w0_52, w0_53, w0_54, w0_55, w0_56, w0_57, w0_58, w0_59, w0_60, w0_61, w0_62, w0_63, w0_64, w0_65, w0_66])), (a1, .inl (E.2 0, 120, .inl newArg__34)), (a2, .inl (E.2 0, 120, .inl newCode__35)), (a3, .inl (E.2 0, 160, .inl stack__36)), (a4, .inl (E.2 1, 200, .inl s_tape))] := hV40.sub [4, 0, 1, 2, 3] rfl rfl
          clear hVB37
          refine lv_if_eq (tgt := 74) hx hb dX12_condition_41 (by decide) (fun c42 => ?_) (fun c42 => ?_)
          · have h43 := itS c42 h39
            clear h39 c42
            obtain ⟨q45, q46, q47, q48, q49, q50, q51, q52, q53, q54⟩ := tup10_s h43
            clear h43
            exact hret () _ _ _ _ trivial (by rw [← q45, ← q46, ← q47, ← q48, ← q49, ← q50, ← q51, ← q52, ← q53, ← q54]; exact hV40) dX12_condition_74
          · have h44 := ieS c42 h39
            clear h39 c42
            refine lv_aload_n hx hb dX12_condition_44 rfl (lv_at hlB37 0 rfl) ?_
            refine kget X hV40 (ci := 12) inlX12 rfl 0 rfl 25 (by decide) mw_556 rfl dX12_condition_45 ?_
            refine lv_if_ne (tgt := 74) hx hb dX12_condition_48 (by decide) (fun c55 => ?_) (fun c55 => ?_)
            · have h56 := ieS c55 h44
              clear h44 c55
              obtain ⟨q58, q59, q60, q61, q62, q63, q64, q65, q66, q67⟩ := tup10_s h56
              clear h56
              exact hret () _ _ _ _ trivial (by rw [← q58, ← q59, ← q60, ← q61, ← q62, ← q63, ← q64, ← q65, ← q66, ← q67]; exact hV40) dX12_condition_74
            · have h57 := itS c55 h44
              clear h44 c55
              refine lv_iload_n hx hb dX12_condition_51 rfl (lv_at hlB37 1 rfl) ?_
              have J59 : ∀ (bad__68 : Int32) (codes__69 : Int32) (isBehind__70 : Int32) (open__71 : Int32) (place__72 : Int32) (stacked__73 : Int32) (newArg__74 : Nat → Int32) (newCode__75 : Nat → Int32) (stack__76 : Nat → Int32) (H : Heap) (locs : List Loc) (ls : Array Slot), (f_X12_condition_J59 s_end s_tape x1_26 isOver__30 (f_X12_condition_L37 s_end s_tape  n37)) bad__68 codes__69 isBehind__70 open__71 place__72 stacked__73 newArg__74 newCode__75 stack__76 = some (o_place, o_bad, o_codes, o_open, o_stacked, o_isOver, o_isBehind, o_newArg, o_newCode, o_stack) → kV E A s.heap H locs [(a0, .inr (12, [.ref a4, w0_1, w0_2, w0_3, w0_4, w0_5, w0_6, w0_7, w0_8, w0_9, w0_10, w0_11, w0_12, w0_13, w0_14, w0_15, .ref a2, .ref a1, .int place__72, .int s_end, .int bad__68, w0_21, .int codes__69, .int open__71, .int stacked__73, .int isOver__30, .int isBehind__70, .ref a3, w0_28, w0_29, w0_30, w0_31, w0_32, w0_33, w0_34, w0_35, w0_36, w0_37, w0_38, w0_39, w0_40, w0_41, w0_42, w0_43, w0_44, w0_45, w0_46, w0_47, w0_48, w0_49, w0_50, w0_51, w0_52, w0_53, w0_54, w0_55, w0_56, w0_57, w0_58, w0_59, w0_60, w0_61, w0_62, w0_63, w0_64, w0_65, w0_66])), (a1, .inl (E.2 0, 120, .inl newArg__74)), (a2, .inl (E.2 0, 120, .inl newCode__75)), (a3, .inl (E.2 0, 160, .inl stack__76)), (a4, .inl (E.2 1, 200, .inl s_tape))] → lv_has ls 2 [(0, .ref a0), (1, .int x1_26)] → W p l e r_X12_condition s m args below meth c H locs 0 0 Q (F0 m 59 ls []) := by
                intro bad__68 codes__69 isBehind__70 open__71 place__72 stacked__73 newArg__74 newCode__75 stack__76 H locs ls hB59 hVB59 hlB59
                rw [f_X12_condition_J59] at hB59
                refine lv_aload_n hx hb dX12_condition_59 rfl (lv_at hlB59 0 rfl) ?_
                obtain ⟨r60_77, hc78, h79⟩ := cb1_s hB59
                clear hB59
                refine kgoiE (krunV (rest := []) X hVB59 [0] (c_X12_isGood l E _ a0 (.ref a4) (w0_1) (w0_2) (w0_3) (w0_4) (w0_5) (w0_6) (w0_7) (w0_8) (w0_9) (w0_10) (w0_11) (w0_12) (w0_13) (w0_14) (w0_15) (.ref a2) (.ref a1) (.int place__72) (.int s_end) (w0_21) (.int codes__69) (.int open__71) (.int stacked__73) (.int isOver__30) (.int isBehind__70) (.ref a3) (w0_28) (w0_29) (w0_30) (w0_31) (w0_32) (w0_33) (w0_34) (w0_35) (w0_36) (w0_37) (w0_38) (w0_39) (w0_40) (w0_41) (w0_42) (w0_43) (w0_44) (w0_45) (w0_46) (w0_47) (w0_48) (w0_49) (w0_50) (w0_51) (w0_52) (w0_53) (w0_54) (w0_55) (w0_56) (w0_57) (w0_58) (w0_59) (w0_60) (w0_61) (w0_62) (w0_63) (w0_64) (w0_65) (w0_66) bad__68 r60_77 hc78) mw_484 kb_X12_isGood (ci := 12) rfl rfl (by decide) rfl rfl hlB59.1 rfl (Nat.le_of_ble_eq_true rfl) dX12_condition_60 (by decide)) X hVB59 [0] [1, 2, 3, 4] rfl rfl rfl (by decide) (fun u H locs hV80 => ?_)
                have hV80 : kV E A s.heap H locs [(a0, .inr (12, [.ref a4, w0_1, w0_2, w0_3, w0_4, w0_5, w0_6, w0_7, w0_8, w0_9, w0_10, w0_11, w0_12, w0_13, w0_14, w0_15, .ref a2, .ref a1, .int place__72, .int s_end, .int bad__68, w0_21, .int codes__69, .int open__71, .int stacked__73, .int isOver__30, .int isBehind__70, .ref a3, w0_28, w0_29, w0_30, w0_31, w0_32, w0_33, w0_34, w0_35, w0_36, w0_37, w0_38, w0_39, w0_40, w0_41, w0_42, w0_43, w0_44, w0_45, w0_46, w0_47, w0_48, w0_49, w0_50, w0_51, w0_52, w0_53, w0_54, w0_55, w0_56, w0_57, w0_58, w0_59, w0_60, w0_61, w0_62, w0_63, w0_64, w0_65, w0_66])), (a1, .inl (E.2 0, 120, .inl newArg__74)), (a2, .inl (E.2 0, 120, .inl newCode__75)), (a3, .inl (E.2 0, 160, .inl stack__76)), (a4, .inl (E.2 1, 200, .inl s_tape))] := hV80.sub [4, 0, 1, 2, 3] rfl rfl
                clear hVB59
                refine lv_if_eq (tgt := 37) hx hb dX12_condition_63 (by decide) (fun c82 => ?_) (fun c82 => ?_)
                · have h83 := itS c82 h79
                  clear h79 c82
                  exact ih37 x1_26 bad__68 codes__69 isBehind__70 isOver__30 open__71 place__72 stacked__73 newArg__74 newCode__75 stack__76 _ _ _ h83 hV80 (lv_sub hlB59 [0, 1] rfl)
                · have h84 := ieS c82 h79
                  clear h79 c82
                  refine lv_aload_n hx hb dX12_condition_66 rfl (lv_at hlB59 0 rfl) ?_
                  obtain ⟨r67_85, o_place67_86, o_bad67_87, o_codes67_88, o_open67_89, o_stacked67_90, o_isOver67_91, o_newArg67_92, o_newCode67_93, o_stack67_94, hc95, h96⟩ := cb10_s h84
                  clear h84
                  refine kgoiE (krunV (rest := []) X hV80 [0, 1, 2, 3, 4] (c_X12_goesBehind l E _ a0 a1 a2 a3 a4 (w0_1) (w0_2) (w0_3) (w0_4) (w0_5) (w0_6) (w0_7) (w0_8) (w0_9) (w0_10) (w0_11) (w0_12) (w0_13) (w0_14) (w0_15) (w0_21) (.int isBehind__70) (w0_28) (w0_29) (w0_30) (w0_31) (w0_32) (w0_33) (w0_34) (w0_35) (w0_36) (w0_37) (w0_38) (w0_39) (w0_40) (w0_41) (w0_42) (w0_43) (w0_44) (w0_45) (w0_46) (w0_47) (w0_48) (w0_49) (w0_50) (w0_51) (w0_52) (w0_53) (w0_54) (w0_55) (w0_56) (w0_57) (w0_58) (w0_59) (w0_60) (w0_61) (w0_62) (w0_63) (w0_64) (w0_65) (w0_66) place__72 s_end bad__68 codes__69 open__71 stacked__73 isOver__30 newArg__74 newCode__75 stack__76 s_tape r67_85 o_place67_86 o_bad67_87 o_codes67_88 o_open67_89 o_stacked67_90 o_isOver67_91 o_newArg67_92 o_newCode67_93 o_stack67_94 hc95) mw_568 kb_X12_goesBehind (ci := 12) rfl rfl (by decide) rfl rfl hlB59.1 rfl (Nat.le_of_ble_eq_true rfl) dX12_condition_67 (by decide)) X hV80 [0, 1, 2, 3, 4] [] rfl rfl rfl (by decide) (fun u H locs hV97 => ?_)
                  have hV97 : kV E A s.heap H locs [(a0, .inr (12, [.ref a4, w0_1, w0_2, w0_3, w0_4, w0_5, w0_6, w0_7, w0_8, w0_9, w0_10, w0_11, w0_12, w0_13, w0_14, w0_15, .ref a2, .ref a1, .int o_place67_86, .int s_end, .int o_bad67_87, w0_21, .int o_codes67_88, .int o_open67_89, .int o_stacked67_90, .int o_isOver67_91, .int isBehind__70, .ref a3, w0_28, w0_29, w0_30, w0_31, w0_32, w0_33, w0_34, w0_35, w0_36, w0_37, w0_38, w0_39, w0_40, w0_41, w0_42, w0_43, w0_44, w0_45, w0_46, w0_47, w0_48, w0_49, w0_50, w0_51, w0_52, w0_53, w0_54, w0_55, w0_56, w0_57, w0_58, w0_59, w0_60, w0_61, w0_62, w0_63, w0_64, w0_65, w0_66])), (a1, .inl (E.2 0, 120, .inl o_newArg67_92)), (a2, .inl (E.2 0, 120, .inl o_newCode67_93)), (a3, .inl (E.2 0, 160, .inl o_stack67_94)), (a4, .inl (E.2 1, 200, .inl s_tape))] := hV97.sub [0, 1, 2, 3, 4] rfl rfl
                  clear hV80
                  refine lv_istore_n (lv' := [(1, .int r67_85), (0, .ref a0)]) hx hb dX12_condition_70 rfl hlB59 (by decide) rfl (fun ls hl99 => ?_)
                  clear hlB59
                  refine lv_goto (tgt := 37) hx hb dX12_condition_71 (by decide) ?_
                  exact ih37 r67_85 o_bad67_87 o_codes67_88 isBehind__70 o_isOver67_91 o_open67_89 o_place67_86 o_stacked67_90 o_newArg67_92 o_newCode67_93 o_stack67_94 _ _ _ h96 hV97 (lv_sub hl99 [1, 0] rfl)
              refine lv_if_eq (tgt := 59) hx hb dX12_condition_52 (by decide) (fun c100 => ?_) (fun c100 => ?_)
              · have h101 := itS c100 h57
                clear h57 c100
                exact J59 bad__27 codes__28 isBehind__29 open__31 place__32 stacked__33 newArg__34 newCode__35 stack__36 _ _ _ h101 hV40 (lv_sub hlB37 [0, 1] rfl)
              · have h102 := ieS c100 h57
                clear h57 c100
                refine lv_aload_n hx hb dX12_condition_55 rfl (lv_at hlB37 0 rfl) ?_
                obtain ⟨o_place56_103, o_bad56_104, o_codes56_105, o_open56_106, o_stacked56_107, o_isBehind56_108, o_newArg56_109, o_newCode56_110, o_stack56_111, hc112, h113⟩ := cb9_s h102
                clear h102
                refine kgov (krunV (rest := []) X hV40 [0, 1, 2, 3, 4] (c_X12_pieceOfC l E _ a0 a1 a2 a3 a4 (w0_1) (w0_2) (w0_3) (w0_4) (w0_5) (w0_6) (w0_7) (w0_8) (w0_9) (w0_10) (w0_11) (w0_12) (w0_13) (w0_14) (w0_15) (w0_21) (.int isOver__30) (w0_28) (w0_29) (w0_30) (w0_31) (w0_32) (w0_33) (w0_34) (w0_35) (w0_36) (w0_37) (w0_38) (w0_39) (w0_40) (w0_41) (w0_42) (w0_43) (w0_44) (w0_45) (w0_46) (w0_47) (w0_48) (w0_49) (w0_50) (w0_51) (w0_52) (w0_53) (w0_54) (w0_55) (w0_56) (w0_57) (w0_58) (w0_59) (w0_60) (w0_61) (w0_62) (w0_63) (w0_64) (w0_65) (w0_66) place__32 s_end bad__27 codes__28 open__31 stacked__33 isBehind__29 newArg__34 newCode__35 stack__36 s_tape o_place56_103 o_bad56_104 o_codes56_105 o_open56_106 o_stacked56_107 o_isBehind56_108 o_newArg56_109 o_newCode56_110 o_stack56_111 hc112) mw_557 kb_X12_pieceOfC (ci := 12) rfl rfl (by decide) rfl rfl hlB37.1 rfl (Nat.le_of_ble_eq_true rfl) dX12_condition_56 (by decide)) X hV40 [0, 1, 2, 3, 4] [] rfl rfl rfl (by decide) (fun u H locs hp115 hV114 => ?_)
                have hV114 : kV E A s.heap H locs [(a0, .inr (12, [.ref a4, w0_1, w0_2, w0_3, w0_4, w0_5, w0_6, w0_7, w0_8, w0_9, w0_10, w0_11, w0_12, w0_13, w0_14, w0_15, .ref a2, .ref a1, .int o_place56_103, .int s_end, .int o_bad56_104, w0_21, .int o_codes56_105, .int o_open56_106, .int o_stacked56_107, .int isOver__30, .int o_isBehind56_108, .ref a3, w0_28, w0_29, w0_30, w0_31, w0_32, w0_33, w0_34, w0_35, w0_36, w0_37, w0_38, w0_39, w0_40, w0_41, w0_42, w0_43, w0_44, w0_45, w0_46, w0_47, w0_48, w0_49, w0_50, w0_51, w0_52, w0_53, w0_54, w0_55, w0_56, w0_57, w0_58, w0_59, w0_60, w0_61, w0_62, w0_63, w0_64, w0_65, w0_66])), (a1, .inl (E.2 0, 120, .inl o_newArg56_109)), (a2, .inl (E.2 0, 120, .inl o_newCode56_110)), (a3, .inl (E.2 0, 160, .inl o_stack56_111)), (a4, .inl (E.2 1, 200, .inl s_tape))] := hV114.sub [0, 1, 2, 3, 4] rfl rfl
                clear hV40
                exact J59 o_bad56_104 o_codes56_105 o_isBehind56_108 o_open56_106 o_place56_103 o_stacked56_107 o_newArg56_109 o_newCode56_110 o_stack56_111 _ _ _ h113 hV114 (lv_sub hlB37 [0, 1] rfl)
      exact L37 FU 1 o_bad32_17 s_codes s_isBehind 0 o_open32_18 o_place32_16 o_stacked32_19 s_newArg s_newCode o_stack32_20 _ _ _ h22 hV23 (lv_sub hl25 [1, 0] rfl)
    · have h15 := itS c13 h10
      clear h10 c13
      obtain ⟨q116, q117, q118, q119, q120, q121, q122, q123, q124, q125⟩ := tup10_s h15
      clear h15
      exact hret () _ _ _ _ trivial (by rw [← q116, ← q117, ← q118, ← q119, ← q120, ← q121, ← q122, ← q123, ← q124, ← q125]; exact hV11) dX12_condition_30
  refine lv_icmp_eq (tgt := 23) hx hb dX12_condition_11 (by decide) (fun c126 => ?_) (fun c126 => ?_)
  · have h127 := itS c126 h4
    clear h4 c126
    exact J23 s_bad _ _ _ h127 hV5 (lv_sub hl [0] rfl)
  · have h128 := ieS c126 h4
    clear h4 c126
    refine lv_aload_n hx hb dX12_condition_14 rfl (lv_at hl 0 rfl) ?_
    refine lv_iconst (v := 1) hx hb dX12_condition_15 (by decide) ?_
    refine lv_aload_n hx hb dX12_condition_16 rfl (lv_at hl 0 rfl) ?_
    refine kget X hV5 (ci := 12) inlX12 rfl 0 rfl 18 (by decide) mw_473 rfl dX12_condition_17 ?_
    obtain ⟨o_bad20_129, hc130, h131⟩ := cb1_s h128
    clear h128
    refine kgov (krunV (rest := []) X hV5 [0] (c_X12_wrongs l E _ a0 (.ref a4) (w0_1) (w0_2) (w0_3) (w0_4) (w0_5) (w0_6) (w0_7) (w0_8) (w0_9) (w0_10) (w0_11) (w0_12) (w0_13) (w0_14) (w0_15) (.ref a2) (.ref a1) (.int s_place) (.int s_end) (w0_21) (.int s_codes) (.int s_open) (.int s_stacked) (.int 0) (.int s_isBehind) (.ref a3) (w0_28) (w0_29) (w0_30) (w0_31) (w0_32) (w0_33) (w0_34) (w0_35) (w0_36) (w0_37) (w0_38) (w0_39) (w0_40) (w0_41) (w0_42) (w0_43) (w0_44) (w0_45) (w0_46) (w0_47) (w0_48) (w0_49) (w0_50) (w0_51) (w0_52) (w0_53) (w0_54) (w0_55) (w0_56) (w0_57) (w0_58) (w0_59) (w0_60) (w0_61) (w0_62) (w0_63) (w0_64) (w0_65) (w0_66) s_bad 1 s_place o_bad20_129 hc130) mw_496 kb_X12_wrongs (ci := 12) rfl rfl (by decide) rfl rfl hl.1 rfl (Nat.le_of_ble_eq_true rfl) dX12_condition_20 (by decide)) X hV5 [0] [1, 2, 3, 4] rfl rfl rfl (by decide) (fun u H locs hp133 hV132 => ?_)
    have hV132 : kV E A s.heap H locs [(a0, .inr (12, [.ref a4, w0_1, w0_2, w0_3, w0_4, w0_5, w0_6, w0_7, w0_8, w0_9, w0_10, w0_11, w0_12, w0_13, w0_14, w0_15, .ref a2, .ref a1, .int s_place, .int s_end, .int o_bad20_129, w0_21, .int s_codes, .int s_open, .int s_stacked, .int 0, .int s_isBehind, .ref a3, w0_28, w0_29, w0_30, w0_31, w0_32, w0_33, w0_34, w0_35, w0_36, w0_37, w0_38, w0_39, w0_40, w0_41, w0_42, w0_43, w0_44, w0_45, w0_46, w0_47, w0_48, w0_49, w0_50, w0_51, w0_52, w0_53, w0_54, w0_55, w0_56, w0_57, w0_58, w0_59, w0_60, w0_61, w0_62, w0_63, w0_64, w0_65, w0_66])), (a1, .inl (E.2 0, 120, .inl s_newArg)), (a2, .inl (E.2 0, 120, .inl s_newCode)), (a3, .inl (E.2 0, 160, .inl s_stack)), (a4, .inl (E.2 1, 200, .inl s_tape))] := hV132.sub [4, 0, 1, 2, 3] rfl rfl
    clear hV5
    exact J23 o_bad20_129 _ _ _ h131 hV132 (lv_sub hl [0] rfl)
abbrev r_X12_clause : Room := { frames := 7, cells := 0, slots := 0, locals := 150 }
set_option maxHeartbeats 4000000 in
set_option maxRecDepth 100000 in
theorem c_X12_clause (l : Launch) (E : kE) (sz : Nat) (a0 a1 a2 a3 a4 a5 a6 a7 : Nat) (w0_1 w0_2 w0_3 w0_4 w0_5 w0_6 w0_7 w0_8 w0_9 w0_10 w0_11 w0_12 w0_28 w0_29 w0_30 w0_31 w0_32 w0_33 w0_34 w0_35 w0_36 w0_37 w0_38 w0_39 w0_40 w0_41 w0_42 w0_43 w0_44 w0_45 w0_46 w0_47 w0_48 w0_49 w0_50 w0_51 w0_52 w0_53 w0_54 w0_55 w0_56 w0_57 w0_58 w0_59 w0_60 w0_61 w0_62 w0_63 w0_64 w0_65 w0_66 : Value) (s_place : Int32) (s_end : Int32) (s_bad : Int32) (s_clauses : Int32) (s_codes : Int32) (s_open : Int32) (s_stacked : Int32) (s_isOver : Int32) (s_isBehind : Int32) (s_newArg : Nat → Int32) (s_newCode : Nat → Int32) (s_newFrom : Nat → Int32) (s_newSum : Nat → Int32) (s_newTo : Nat → Int32) (s_stack : Nat → Int32) (s_tape : Nat → Int32) (p1 : Int32) (o_place : Int32) (o_bad : Int32) (o_clauses : Int32) (o_codes : Int32) (o_open : Int32) (o_stacked : Int32) (o_isOver : Int32) (o_isBehind : Int32) (o_newArg : Nat → Int32) (o_newCode : Nat → Int32) (o_newFrom : Nat → Int32) (o_newSum : Nat → Int32) (o_newTo : Nat → Int32) (o_stack : Nat → Int32) (h : f_X12_clause s_place s_end s_bad s_clauses s_codes s_open s_stacked s_isOver s_isBehind s_newArg s_newCode s_newFrom s_newSum s_newTo s_stack s_tape p1 = some (o_place, o_bad, o_clauses, o_codes, o_open, o_stacked, o_isOver, o_isBehind, o_newArg, o_newCode, o_newFrom, o_newSum, o_newTo, o_stack)) : kMv l yX12_clause cX12_clause 2 r_X12_clause [.ref a0, .int p1] E [(a0, .inr (12, [.ref a7, w0_1, w0_2, w0_3, w0_4, w0_5, w0_6, w0_7, w0_8, w0_9, w0_10, w0_11, w0_12, .ref a4, .ref a3, .ref a5, .ref a2, .ref a1, .int s_place, .int s_end, .int s_bad, .int s_clauses, .int s_codes, .int s_open, .int s_stacked, .int s_isOver, .int s_isBehind, .ref a6, w0_28, w0_29, w0_30, w0_31, w0_32, w0_33, w0_34, w0_35, w0_36, w0_37, w0_38, w0_39, w0_40, w0_41, w0_42, w0_43, w0_44, w0_45, w0_46, w0_47, w0_48, w0_49, w0_50, w0_51, w0_52, w0_53, w0_54, w0_55, w0_56, w0_57, w0_58, w0_59, w0_60, w0_61, w0_62, w0_63, w0_64, w0_65, w0_66])), (a1, .inl (E.2 0, 120, .inl s_newArg)), (a2, .inl (E.2 0, 120, .inl s_newCode)), (a3, .inl (E.2 0, 12, .inl s_newFrom)), (a4, .inl (E.2 0, 12, .inl s_newSum)), (a5, .inl (E.2 0, 12, .inl s_newTo)), (a6, .inl (E.2 0, 160, .inl s_stack)), (a7, .inl (E.2 1, 200, .inl s_tape))] sz 0 0 (fun (_ : Unit) => True) (fun _ => [(a0, .inr (12, [.ref a7, w0_1, w0_2, w0_3, w0_4, w0_5, w0_6, w0_7, w0_8, w0_9, w0_10, w0_11, w0_12, .ref a4, .ref a3, .ref a5, .ref a2, .ref a1, .int o_place, .int s_end, .int o_bad, .int o_clauses, .int o_codes, .int o_open, .int o_stacked, .int o_isOver, .int o_isBehind, .ref a6, w0_28, w0_29, w0_30, w0_31, w0_32, w0_33, w0_34, w0_35, w0_36, w0_37, w0_38, w0_39, w0_40, w0_41, w0_42, w0_43, w0_44, w0_45, w0_46, w0_47, w0_48, w0_49, w0_50, w0_51, w0_52, w0_53, w0_54, w0_55, w0_56, w0_57, w0_58, w0_59, w0_60, w0_61, w0_62, w0_63, w0_64, w0_65, w0_66])), (a1, .inl (E.2 0, 120, .inl o_newArg)), (a2, .inl (E.2 0, 120, .inl o_newCode)), (a3, .inl (E.2 0, 12, .inl o_newFrom)), (a4, .inl (E.2 0, 12, .inl o_newSum)), (a5, .inl (E.2 0, 12, .inl o_newTo)), (a6, .inl (E.2 0, 160, .inl o_stack)), (a7, .inl (E.2 1, 200, .inl s_tape))]) := by
  refine kmetv rfl (Nat.le_of_ble_eq_true rfl) ?_
  intro p e s m args below meth c ls A Q X hnm hV hret hl
  have X : kC p s m c cX12_clause 2 RX12 args E A := X
  have hx := X.1
  have hb := X.2.1
  have hl : lv_has ls 2 [(0, .ref a0), (1, .int p1)] := hl
  rw [f_X12_clause] at h
  refine lv_aload_n hx hb dX12_clause_0 rfl (lv_at hl 0 rfl) ?_
  obtain ⟨r1_1, hc2, h3⟩ := cb1_s h
  clear h
  refine kgoiE (krunV (rest := []) X hV [0, 7] (c_X12_here l E _ a0 a7 (w0_1) (w0_2) (w0_3) (w0_4) (w0_5) (w0_6) (w0_7) (w0_8) (w0_9) (w0_10) (w0_11) (w0_12) (.ref a4) (.ref a3) (.ref a5) (.ref a2) (.ref a1) (.int s_bad) (.int s_clauses) (.int s_codes) (.int s_open) (.int s_stacked) (.int s_isOver) (.int s_isBehind) (.ref a6) (w0_28) (w0_29) (w0_30) (w0_31) (w0_32) (w0_33) (w0_34) (w0_35) (w0_36) (w0_37) (w0_38) (w0_39) (w0_40) (w0_41) (w0_42) (w0_43) (w0_44) (w0_45) (w0_46) (w0_47) (w0_48) (w0_49) (w0_50) (w0_51) (w0_52) (w0_53) (w0_54) (w0_55) (w0_56) (w0_57) (w0_58) (w0_59) (w0_60) (w0_61) (w0_62) (w0_63) (w0_64) (w0_65) (w0_66) s_place s_end s_tape r1_1 hc2) mw_492 kb_X12_here (ci := 12) rfl rfl (by decide) rfl rfl hl.1 rfl (Nat.le_of_ble_eq_true rfl) dX12_clause_1 (by decide)) X hV [0, 7] [1, 2, 3, 4, 5, 6] rfl rfl rfl (by decide) (fun u H locs hV4 => ?_)
  have hV4 : kV E A s.heap H locs [(a0, .inr (12, [.ref a7, w0_1, w0_2, w0_3, w0_4, w0_5, w0_6, w0_7, w0_8, w0_9, w0_10, w0_11, w0_12, .ref a4, .ref a3, .ref a5, .ref a2, .ref a1, .int s_place, .int s_end, .int s_bad, .int s_clauses, .int s_codes, .int s_open, .int s_stacked, .int s_isOver, .int s_isBehind, .ref a6, w0_28, w0_29, w0_30, w0_31, w0_32, w0_33, w0_34, w0_35, w0_36, w0_37, w0_38, w0_39, w0_40, w0_41, w0_42, w0_43, w0_44, w0_45, w0_46, w0_47, w0_48, w0_49, w0_50, w0_51, w0_52, w0_53, w0_54, w0_55, w0_56, w0_57, w0_58, w0_59, w0_60, w0_61, w0_62, w0_63, w0_64, w0_65, w0_66])), (a1, .inl (E.2 0, 120, .inl s_newArg)), (a2, .inl (E.2 0, 120, .inl s_newCode)), (a3, .inl (E.2 0, 12, .inl s_newFrom)), (a4, .inl (E.2 0, 12, .inl s_newSum)), (a5, .inl (E.2 0, 12, .inl s_newTo)), (a6, .inl (E.2 0, 160, .inl s_stack)), (a7, .inl (E.2 1, 200, .inl s_tape))] := hV4.sub [6, 0, 1, 2, 3, 4, 5, 7] rfl rfl
  clear hV
  refine lv_iload_n hx hb dX12_clause_4 rfl (lv_at hl 1 rfl) ?_
  have J15 : ∀ (t1_6 : Int32) (H : Heap) (locs : List Loc) (ls : Array Slot), (f_X12_clause_J15 s_place s_end s_bad s_clauses s_codes s_open s_stacked s_isOver s_isBehind s_newArg s_newCode s_newFrom s_newSum s_newTo s_stack s_tape p1 r1_1 ) t1_6 = some (o_place, o_bad, o_clauses, o_codes, o_open, o_stacked, o_isOver, o_isBehind, o_newArg, o_newCode, o_newFrom, o_newSum, o_newTo, o_stack) → kV E A s.heap H locs [(a0, .inr (12, [.ref a7, w0_1, w0_2, w0_3, w0_4, w0_5, w0_6, w0_7, w0_8, w0_9, w0_10, w0_11, w0_12, .ref a4, .ref a3, .ref a5, .ref a2, .ref a1, .int s_place, .int s_end, .int s_bad, .int s_clauses, .int s_codes, .int s_open, .int s_stacked, .int s_isOver, .int s_isBehind, .ref a6, w0_28, w0_29, w0_30, w0_31, w0_32, w0_33, w0_34, w0_35, w0_36, w0_37, w0_38, w0_39, w0_40, w0_41, w0_42, w0_43, w0_44, w0_45, w0_46, w0_47, w0_48, w0_49, w0_50, w0_51, w0_52, w0_53, w0_54, w0_55, w0_56, w0_57, w0_58, w0_59, w0_60, w0_61, w0_62, w0_63, w0_64, w0_65, w0_66])), (a1, .inl (E.2 0, 120, .inl s_newArg)), (a2, .inl (E.2 0, 120, .inl s_newCode)), (a3, .inl (E.2 0, 12, .inl s_newFrom)), (a4, .inl (E.2 0, 12, .inl s_newSum)), (a5, .inl (E.2 0, 12, .inl s_newTo)), (a6, .inl (E.2 0, 160, .inl s_stack)), (a7, .inl (E.2 1, 200, .inl s_tape))] → lv_has ls 2 [(0, .ref a0), (1, .int p1)] → W p l e r_X12_clause s m args below meth c H locs 0 0 Q (F0 m 15 ls [.int t1_6, .int r1_1]) := by
    intro t1_6 H locs ls hB15 hVB15 hlB15
    rw [f_X12_clause_J15] at hB15
    have J48 : ∀ (bad__7 : Int32) (H : Heap) (locs : List Loc) (ls : Array Slot), (f_X12_clause_J48 s_place s_end s_clauses s_codes s_open s_stacked s_isOver s_isBehind s_newArg s_newCode s_newFrom s_newSum s_newTo s_stack s_tape p1 ) bad__7 = some (o_place, o_bad, o_clauses, o_codes, o_open, o_stacked, o_isOver, o_isBehind, o_newArg, o_newCode, o_newFrom, o_newSum, o_newTo, o_stack) → kV E A s.heap H locs [(a0, .inr (12, [.ref a7, w0_1, w0_2, w0_3, w0_4, w0_5, w0_6, w0_7, w0_8, w0_9, w0_10, w0_11, w0_12, .ref a4, .ref a3, .ref a5, .ref a2, .ref a1, .int s_place, .int s_end, .int bad__7, .int s_clauses, .int s_codes, .int s_open, .int s_stacked, .int s_isOver, .int s_isBehind, .ref a6, w0_28, w0_29, w0_30, w0_31, w0_32, w0_33, w0_34, w0_35, w0_36, w0_37, w0_38, w0_39, w0_40, w0_41, w0_42, w0_43, w0_44, w0_45, w0_46, w0_47, w0_48, w0_49, w0_50, w0_51, w0_52, w0_53, w0_54, w0_55, w0_56, w0_57, w0_58, w0_59, w0_60, w0_61, w0_62, w0_63, w0_64, w0_65, w0_66])), (a1, .inl (E.2 0, 120, .inl s_newArg)), (a2, .inl (E.2 0, 120, .inl s_newCode)), (a3, .inl (E.2 0, 12, .inl s_newFrom)), (a4, .inl (E.2 0, 12, .inl s_newSum)), (a5, .inl (E.2 0, 12, .inl s_newTo)), (a6, .inl (E.2 0, 160, .inl s_stack)), (a7, .inl (E.2 1, 200, .inl s_tape))] → lv_has ls 2 [(0, .ref a0), (1, .int p1)] → W p l e r_X12_clause s m args below meth c H locs 0 0 Q (F0 m 48 ls []) := by
      intro bad__7 H locs ls hB48 hVB48 hlB48
      rw [f_X12_clause_J48] at hB48
      refine lv_aload_n hx hb dX12_clause_48 rfl (lv_at hlB48 0 rfl) ?_
      obtain ⟨r49_8, hc9, h10⟩ := cb1_s hB48
      clear hB48
      refine kgoiE (krunV (rest := []) X hVB48 [0] (c_X12_isGood l E _ a0 (.ref a7) (w0_1) (w0_2) (w0_3) (w0_4) (w0_5) (w0_6) (w0_7) (w0_8) (w0_9) (w0_10) (w0_11) (w0_12) (.ref a4) (.ref a3) (.ref a5) (.ref a2) (.ref a1) (.int s_place) (.int s_end) (.int s_clauses) (.int s_codes) (.int s_open) (.int s_stacked) (.int s_isOver) (.int s_isBehind) (.ref a6) (w0_28) (w0_29) (w0_30) (w0_31) (w0_32) (w0_33) (w0_34) (w0_35) (w0_36) (w0_37) (w0_38) (w0_39) (w0_40) (w0_41) (w0_42) (w0_43) (w0_44) (w0_45) (w0_46) (w0_47) (w0_48) (w0_49) (w0_50) (w0_51) (w0_52) (w0_53) (w0_54) (w0_55) (w0_56) (w0_57) (w0_58) (w0_59) (w0_60) (w0_61) (w0_62) (w0_63) (w0_64) (w0_65) (w0_66) bad__7 r49_8 hc9) mw_484 kb_X12_isGood (ci := 12) rfl rfl (by decide) rfl rfl hlB48.1 rfl (Nat.le_of_ble_eq_true rfl) dX12_clause_49 (by decide)) X hVB48 [0] [1, 2, 3, 4, 5, 6, 7] rfl rfl rfl (by decide) (fun u H locs hV11 => ?_)
      have hV11 : kV E A s.heap H locs [(a0, .inr (12, [.ref a7, w0_1, w0_2, w0_3, w0_4, w0_5, w0_6, w0_7, w0_8, w0_9, w0_10, w0_11, w0_12, .ref a4, .ref a3, .ref a5, .ref a2, .ref a1, .int s_place, .int s_end, .int bad__7, .int s_clauses, .int s_codes, .int s_open, .int s_stacked, .int s_isOver, .int s_isBehind, .ref a6, w0_28, w0_29, w0_30, w0_31, w0_32, w0_33, w0_34, w0_35, w0_36, w0_37, w0_38, w0_39, w0_40, w0_41, w0_42, w0_43, w0_44, w0_45, w0_46, w0_47, w0_48, w0_49, w0_50, w0_51, w0_52, w0_53, w0_54, w0_55, w0_56, w0_57, w0_58, w0_59, w0_60, w0_61, w0_62, w0_63, w0_64, w0_65, w0_66])), (a1, .inl (E.2 0, 120, .inl s_newArg)), (a2, .inl (E.2 0, 120, .inl s_newCode)), (a3, .inl (E.2 0, 12, .inl s_newFrom)), (a4, .inl (E.2 0, 12, .inl s_newSum)), (a5, .inl (E.2 0, 12, .inl s_newTo)), (a6, .inl (E.2 0, 160, .inl s_stack)), (a7, .inl (E.2 1, 200, .inl s_tape))] := hV11.sub [7, 0, 1, 2, 3, 4, 5, 6] rfl rfl
      clear hVB48
      refine lv_if_ne (tgt := 56) hx hb dX12_clause_52 (by decide) (fun c13 => ?_) (fun c13 => ?_)
      · have h14 := ieS c13 h10
        clear h10 c13
        refine lv_aload_n hx hb dX12_clause_56 rfl (lv_at hlB48 0 rfl) ?_
        refine kget X hV11 (ci := 12) inlX12 rfl 0 rfl 13 (by decide) mw_148 rfl dX12_clause_57 ?_
        refine lv_aload_n hx hb dX12_clause_60 rfl (lv_at hlB48 0 rfl) ?_
        refine kget X hV11 (ci := 12) inlX12 rfl 0 rfl 21 (by decide) mw_476 rfl dX12_clause_61 ?_
        refine lv_aload_n hx hb dX12_clause_64 rfl (lv_at hlB48 0 rfl) ?_
        refine kget X hV11 (ci := 12) inlX12 rfl 0 rfl 22 (by decide) mw_481 rfl dX12_clause_65 ?_
        obtain ⟨hi17, g68_16, e18, h19⟩ := wrI_s h14
        clear h14
        refine kiast X hV11 4 rfl hi17 e18 dX12_clause_68 (fun H locs hV20 => ?_)
        have hV20 : kV E A s.heap H locs [(a0, .inr (12, [.ref a7, w0_1, w0_2, w0_3, w0_4, w0_5, w0_6, w0_7, w0_8, w0_9, w0_10, w0_11, w0_12, .ref a4, .ref a3, .ref a5, .ref a2, .ref a1, .int s_place, .int s_end, .int bad__7, .int s_clauses, .int s_codes, .int s_open, .int s_stacked, .int s_isOver, .int s_isBehind, .ref a6, w0_28, w0_29, w0_30, w0_31, w0_32, w0_33, w0_34, w0_35, w0_36, w0_37, w0_38, w0_39, w0_40, w0_41, w0_42, w0_43, w0_44, w0_45, w0_46, w0_47, w0_48, w0_49, w0_50, w0_51, w0_52, w0_53, w0_54, w0_55, w0_56, w0_57, w0_58, w0_59, w0_60, w0_61, w0_62, w0_63, w0_64, w0_65, w0_66])), (a1, .inl (E.2 0, 120, .inl s_newArg)), (a2, .inl (E.2 0, 120, .inl s_newCode)), (a3, .inl (E.2 0, 12, .inl s_newFrom)), (a4, .inl (E.2 0, 12, .inl g68_16)), (a5, .inl (E.2 0, 12, .inl s_newTo)), (a6, .inl (E.2 0, 160, .inl s_stack)), (a7, .inl (E.2 1, 200, .inl s_tape))] := hV20
        clear hV11 hi17 e18
        refine lv_aload_n hx hb dX12_clause_69 rfl (lv_at hlB48 0 rfl) ?_
        refine lv_dup hx hb dX12_clause_70 rfl ?_
        refine kget X hV20 (ci := 12) inlX12 rfl 0 rfl 18 (by decide) mw_473 rfl dX12_clause_71 ?_
        refine lv_iconst (v := 1) hx hb dX12_clause_74 (by decide) ?_
        refine lv_iadd hx hb dX12_clause_75 ?_
        obtain ⟨v76_21, e22, h23⟩ := nmI_s h19
        clear h19
        refine ktopi e22 ?_
        clear e22
        refine kput X hV20 (ci := 12) inlX12 rfl tyX12 tyX12_ok nmX12 0 rfl 18 (by decide) mw_473 rfl rfl rfl (Nat.le_of_ble_eq_true rfl) dX12_clause_76 (fun H locs hV24 => ?_)
        have hV24 : kV E A s.heap H locs [(a0, .inr (12, [.ref a7, w0_1, w0_2, w0_3, w0_4, w0_5, w0_6, w0_7, w0_8, w0_9, w0_10, w0_11, w0_12, .ref a4, .ref a3, .ref a5, .ref a2, .ref a1, .int v76_21, .int s_end, .int bad__7, .int s_clauses, .int s_codes, .int s_open, .int s_stacked, .int s_isOver, .int s_isBehind, .ref a6, w0_28, w0_29, w0_30, w0_31, w0_32, w0_33, w0_34, w0_35, w0_36, w0_37, w0_38, w0_39, w0_40, w0_41, w0_42, w0_43, w0_44, w0_45, w0_46, w0_47, w0_48, w0_49, w0_50, w0_51, w0_52, w0_53, w0_54, w0_55, w0_56, w0_57, w0_58, w0_59, w0_60, w0_61, w0_62, w0_63, w0_64, w0_65, w0_66])), (a1, .inl (E.2 0, 120, .inl s_newArg)), (a2, .inl (E.2 0, 120, .inl s_newCode)), (a3, .inl (E.2 0, 12, .inl s_newFrom)), (a4, .inl (E.2 0, 12, .inl g68_16)), (a5, .inl (E.2 0, 12, .inl s_newTo)), (a6, .inl (E.2 0, 160, .inl s_stack)), (a7, .inl (E.2 1, 200, .inl s_tape))] := hV24
        clear hV20
        refine lv_aload_n hx hb dX12_clause_79 rfl (lv_at hlB48 0 rfl) ?_
        refine lv_iconst (v := 0) hx hb dX12_clause_80 (by decide) ?_
        refine kput X hV24 (ci := 12) inlX12 rfl tyX12 tyX12_ok nmX12 0 rfl 24 (by decide) mw_482 rfl rfl rfl (Nat.le_of_ble_eq_true rfl) dX12_clause_81 (fun H locs hV25 => ?_)
        have hV25 : kV E A s.heap H locs [(a0, .inr (12, [.ref a7, w0_1, w0_2, w0_3, w0_4, w0_5, w0_6, w0_7, w0_8, w0_9, w0_10, w0_11, w0_12, .ref a4, .ref a3, .ref a5, .ref a2, .ref a1, .int v76_21, .int s_end, .int bad__7, .int s_clauses, .int s_codes, .int s_open, .int 0, .int s_isOver, .int s_isBehind, .ref a6, w0_28, w0_29, w0_30, w0_31, w0_32, w0_33, w0_34, w0_35, w0_36, w0_37, w0_38, w0_39, w0_40, w0_41, w0_42, w0_43, w0_44, w0_45, w0_46, w0_47, w0_48, w0_49, w0_50, w0_51, w0_52, w0_53, w0_54, w0_55, w0_56, w0_57, w0_58, w0_59, w0_60, w0_61, w0_62, w0_63, w0_64, w0_65, w0_66])), (a1, .inl (E.2 0, 120, .inl s_newArg)), (a2, .inl (E.2 0, 120, .inl s_newCode)), (a3, .inl (E.2 0, 12, .inl s_newFrom)), (a4, .inl (E.2 0, 12, .inl g68_16)), (a5, .inl (E.2 0, 12, .inl s_newTo)), (a6, .inl (E.2 0, 160, .inl s_stack)), (a7, .inl (E.2 1, 200, .inl s_tape))] := hV25
        clear hV24
        refine lv_aload_n hx hb dX12_clause_84 rfl (lv_at hlB48 0 rfl) ?_
        refine lv_iconst (v := 0) hx hb dX12_clause_85 (by decide) ?_
        refine kput X hV25 (ci := 12) inlX12 rfl tyX12 tyX12_ok nmX12 0 rfl 23 (by decide) mw_483 rfl rfl rfl (Nat.le_of_ble_eq_true rfl) dX12_clause_86 (fun H locs hV26 => ?_)
        have hV26 : kV E A s.heap H locs [(a0, .inr (12, [.ref a7, w0_1, w0_2, w0_3, w0_4, w0_5, w0_6, w0_7, w0_8, w0_9, w0_10, w0_11, w0_12, .ref a4, .ref a3, .ref a5, .ref a2, .ref a1, .int v76_21, .int s_end, .int bad__7, .int s_clauses, .int s_codes, .int 0, .int 0, .int s_isOver, .int s_isBehind, .ref a6, w0_28, w0_29, w0_30, w0_31, w0_32, w0_33, w0_34, w0_35, w0_36, w0_37, w0_38, w0_39, w0_40, w0_41, w0_42, w0_43, w0_44, w0_45, w0_46, w0_47, w0_48, w0_49, w0_50, w0_51, w0_52, w0_53, w0_54, w0_55, w0_56, w0_57, w0_58, w0_59, w0_60, w0_61, w0_62, w0_63, w0_64, w0_65, w0_66])), (a1, .inl (E.2 0, 120, .inl s_newArg)), (a2, .inl (E.2 0, 120, .inl s_newCode)), (a3, .inl (E.2 0, 12, .inl s_newFrom)), (a4, .inl (E.2 0, 12, .inl g68_16)), (a5, .inl (E.2 0, 12, .inl s_newTo)), (a6, .inl (E.2 0, 160, .inl s_stack)), (a7, .inl (E.2 1, 200, .inl s_tape))] := hV26
        clear hV25
        refine lv_iload_n hx hb dX12_clause_89 rfl (lv_at hlB48 1 rfl) ?_
        have J97 : ∀ (bad__27 : Int32) (codes__28 : Int32) (isBehind__29 : Int32) (open__30 : Int32) (place__31 : Int32) (stacked__32 : Int32) (newArg__33 : Nat → Int32) (newCode__34 : Nat → Int32) (stack__35 : Nat → Int32) (H : Heap) (locs : List Loc) (ls : Array Slot), (f_X12_clause_J97 s_end s_clauses s_isOver s_newFrom s_newTo s_tape g68_16 ) bad__27 codes__28 isBehind__29 open__30 place__31 stacked__32 newArg__33 newCode__34 stack__35 = some (o_place, o_bad, o_clauses, o_codes, o_open, o_stacked, o_isOver, o_isBehind, o_newArg, o_newCode, o_newFrom, o_newSum, o_newTo, o_stack) → kV E A s.heap H locs [(a0, .inr (12, [.ref a7, w0_1, w0_2, w0_3, w0_4, w0_5, w0_6, w0_7, w0_8, w0_9, w0_10, w0_11, w0_12, .ref a4, .ref a3, .ref a5, .ref a2, .ref a1, .int place__31, .int s_end, .int bad__27, .int s_clauses, .int codes__28, .int open__30, .int stacked__32, .int s_isOver, .int isBehind__29, .ref a6, w0_28, w0_29, w0_30, w0_31, w0_32, w0_33, w0_34, w0_35, w0_36, w0_37, w0_38, w0_39, w0_40, w0_41, w0_42, w0_43, w0_44, w0_45, w0_46, w0_47, w0_48, w0_49, w0_50, w0_51, w0_52, w0_53, w0_54, w0_55, w0_56, w0_57, w0_58, w0_59, w0_60, w0_61, w0_62, w0_63, w0_64, w0_65, w0_66])), (a1, .inl (E.2 0, 120, .inl newArg__33)), (a2, .inl (E.2 0, 120, .inl newCode__34)), (a3, .inl (E.2 0, 12, .inl s_newFrom)), (a4, .inl (E.2 0, 12, .inl g68_16)), (a5, .inl (E.2 0, 12, .inl s_newTo)), (a6, .inl (E.2 0, 160, .inl stack__35)), (a7, .inl (E.2 1, 200, .inl s_tape))] → lv_has ls 2 [(0, .ref a0)] → W p l e r_X12_clause s m args below meth c H locs 0 0 Q (F0 m 97 ls []) := by
          intro bad__27 codes__28 isBehind__29 open__30 place__31 stacked__32 newArg__33 newCode__34 stack__35 H locs ls hB97 hVB97 hlB97
          rw [f_X12_clause_J97] at hB97
          refine lv_aload_n hx hb dX12_clause_97 rfl (lv_at hlB97 0 rfl) ?_
          refine kget X hVB97 (ci := 12) inlX12 rfl 0 rfl 14 (by decide) mw_149 rfl dX12_clause_98 ?_
          refine lv_aload_n hx hb dX12_clause_101 rfl (lv_at hlB97 0 rfl) ?_
          refine kget X hVB97 (ci := 12) inlX12 rfl 0 rfl 21 (by decide) mw_476 rfl dX12_clause_102 ?_
          refine lv_aload_n hx hb dX12_clause_105 rfl (lv_at hlB97 0 rfl) ?_
          refine kget X hVB97 (ci := 12) inlX12 rfl 0 rfl 22 (by decide) mw_481 rfl dX12_clause_106 ?_
          obtain ⟨hi37, g109_36, e38, h39⟩ := wrI_s hB97
          clear hB97
          refine kiast X hVB97 3 rfl hi37 e38 dX12_clause_109 (fun H locs hV40 => ?_)
          have hV40 : kV E A s.heap H locs [(a0, .inr (12, [.ref a7, w0_1, w0_2, w0_3, w0_4, w0_5, w0_6, w0_7, w0_8, w0_9, w0_10, w0_11, w0_12, .ref a4, .ref a3, .ref a5, .ref a2, .ref a1, .int place__31, .int s_end, .int bad__27, .int s_clauses, .int codes__28, .int open__30, .int stacked__32, .int s_isOver, .int isBehind__29, .ref a6, w0_28, w0_29, w0_30, w0_31, w0_32, w0_33, w0_34, w0_35, w0_36, w0_37, w0_38, w0_39, w0_40, w0_41, w0_42, w0_43, w0_44, w0_45, w0_46, w0_47, w0_48, w0_49, w0_50, w0_51, w0_52, w0_53, w0_54, w0_55, w0_56, w0_57, w0_58, w0_59, w0_60, w0_61, w0_62, w0_63, w0_64, w0_65, w0_66])), (a1, .inl (E.2 0, 120, .inl newArg__33)), (a2, .inl (E.2 0, 120, .inl newCode__34)), (a3, .inl (E.2 0, 12, .inl g109_36)), (a4, .inl (E.2 0, 12, .inl g68_16)), (a5, .inl (E.2 0, 12, .inl s_newTo)), (a6, .inl (E.2 0, 160, .inl stack__35)), (a7, .inl (E.2 1, 200, .inl s_tape))] := hV40
          clear hVB97 hi37 e38
          refine lv_aload_n hx hb dX12_clause_110 rfl (lv_at hlB97 0 rfl) ?_
          obtain ⟨r111_41, hc42, h43⟩ := cb1_s h39
          clear h39
          refine kgoiE (krunV (rest := []) X hV40 [0] (c_X12_isGood l E _ a0 (.ref a7) (w0_1) (w0_2) (w0_3) (w0_4) (w0_5) (w0_6) (w0_7) (w0_8) (w0_9) (w0_10) (w0_11) (w0_12) (.ref a4) (.ref a3) (.ref a5) (.ref a2) (.ref a1) (.int place__31) (.int s_end) (.int s_clauses) (.int codes__28) (.int open__30) (.int stacked__32) (.int s_isOver) (.int isBehind__29) (.ref a6) (w0_28) (w0_29) (w0_30) (w0_31) (w0_32) (w0_33) (w0_34) (w0_35) (w0_36) (w0_37) (w0_38) (w0_39) (w0_40) (w0_41) (w0_42) (w0_43) (w0_44) (w0_45) (w0_46) (w0_47) (w0_48) (w0_49) (w0_50) (w0_51) (w0_52) (w0_53) (w0_54) (w0_55) (w0_56) (w0_57) (w0_58) (w0_59) (w0_60) (w0_61) (w0_62) (w0_63) (w0_64) (w0_65) (w0_66) bad__27 r111_41 hc42) mw_484 kb_X12_isGood (ci := 12) rfl rfl (by decide) rfl rfl hlB97.1 rfl (Nat.le_of_ble_eq_true rfl) dX12_clause_111 (by decide)) X hV40 [0] [1, 2, 3, 4, 5, 6, 7] rfl rfl rfl (by decide) (fun u H locs hV44 => ?_)
          have hV44 : kV E A s.heap H locs [(a0, .inr (12, [.ref a7, w0_1, w0_2, w0_3, w0_4, w0_5, w0_6, w0_7, w0_8, w0_9, w0_10, w0_11, w0_12, .ref a4, .ref a3, .ref a5, .ref a2, .ref a1, .int place__31, .int s_end, .int bad__27, .int s_clauses, .int codes__28, .int open__30, .int stacked__32, .int s_isOver, .int isBehind__29, .ref a6, w0_28, w0_29, w0_30, w0_31, w0_32, w0_33, w0_34, w0_35, w0_36, w0_37, w0_38, w0_39, w0_40, w0_41, w0_42, w0_43, w0_44, w0_45, w0_46, w0_47, w0_48, w0_49, w0_50, w0_51, w0_52, w0_53, w0_54, w0_55, w0_56, w0_57, w0_58, w0_59, w0_60, w0_61, w0_62, w0_63, w0_64, w0_65, w0_66])), (a1, .inl (E.2 0, 120, .inl newArg__33)), (a2, .inl (E.2 0, 120, .inl newCode__34)), (a3, .inl (E.2 0, 12, .inl g109_36)), (a4, .inl (E.2 0, 12, .inl g68_16)), (a5, .inl (E.2 0, 12, .inl s_newTo)), (a6, .inl (E.2 0, 160, .inl stack__35)), (a7, .inl (E.2 1, 200, .inl s_tape))] := hV44.sub [7, 0, 1, 2, 3, 4, 5, 6] rfl rfl
          clear hV40
          have J121 : ∀ (bad__46 : Int32) (codes__47 : Int32) (isBehind__48 : Int32) (isOver__49 : Int32) (open__50 : Int32) (place__51 : Int32) (stacked__52 : Int32) (newArg__53 : Nat → Int32) (newCode__54 : Nat → Int32) (stack__55 : Nat → Int32) (H : Heap) (locs : List Loc) (ls : Array Slot), (f_X12_clause_J121 s_clauses s_newTo g68_16 g109_36 ) bad__46 codes__47 isBehind__48 isOver__49 open__50 place__51 stacked__52 newArg__53 newCode__54 stack__55 = some (o_place, o_bad, o_clauses, o_codes, o_open, o_stacked, o_isOver, o_isBehind, o_newArg, o_newCode, o_newFrom, o_newSum, o_newTo, o_stack) → kV E A s.heap H locs [(a0, .inr (12, [.ref a7, w0_1, w0_2, w0_3, w0_4, w0_5, w0_6, w0_7, w0_8, w0_9, w0_10, w0_11, w0_12, .ref a4, .ref a3, .ref a5, .ref a2, .ref a1, .int place__51, .int s_end, .int bad__46, .int s_clauses, .int codes__47, .int open__50, .int stacked__52, .int isOver__49, .int isBehind__48, .ref a6, w0_28, w0_29, w0_30, w0_31, w0_32, w0_33, w0_34, w0_35, w0_36, w0_37, w0_38, w0_39, w0_40, w0_41, w0_42, w0_43, w0_44, w0_45, w0_46, w0_47, w0_48, w0_49, w0_50, w0_51, w0_52, w0_53, w0_54, w0_55, w0_56, w0_57, w0_58, w0_59, w0_60, w0_61, w0_62, w0_63, w0_64, w0_65, w0_66])), (a1, .inl (E.2 0, 120, .inl newArg__53)), (a2, .inl (E.2 0, 120, .inl newCode__54)), (a3, .inl (E.2 0, 12, .inl g109_36)), (a4, .inl (E.2 0, 12, .inl g68_16)), (a5, .inl (E.2 0, 12, .inl s_newTo)), (a6, .inl (E.2 0, 160, .inl stack__55)), (a7, .inl (E.2 1, 200, .inl s_tape))] → lv_has ls 2 [(0, .ref a0)] → W p l e r_X12_clause s m args below meth c H locs 0 0 Q (F0 m 121 ls []) := by
            intro bad__46 codes__47 isBehind__48 isOver__49 open__50 place__51 stacked__52 newArg__53 newCode__54 stack__55 H locs ls hB121 hVB121 hlB121
            rw [f_X12_clause_J121] at hB121
            refine lv_aload_n hx hb dX12_clause_121 rfl (lv_at hlB121 0 rfl) ?_
            refine kget X hVB121 (ci := 12) inlX12 rfl 0 rfl 15 (by decide) mw_150 rfl dX12_clause_122 ?_
            refine lv_aload_n hx hb dX12_clause_125 rfl (lv_at hlB121 0 rfl) ?_
            refine kget X hVB121 (ci := 12) inlX12 rfl 0 rfl 21 (by decide) mw_476 rfl dX12_clause_126 ?_
            refine lv_aload_n hx hb dX12_clause_129 rfl (lv_at hlB121 0 rfl) ?_
            refine kget X hVB121 (ci := 12) inlX12 rfl 0 rfl 22 (by decide) mw_481 rfl dX12_clause_130 ?_
            obtain ⟨hi57, g133_56, e58, h59⟩ := wrI_s hB121
            clear hB121
            refine kiast X hVB121 5 rfl hi57 e58 dX12_clause_133 (fun H locs hV60 => ?_)
            have hV60 : kV E A s.heap H locs [(a0, .inr (12, [.ref a7, w0_1, w0_2, w0_3, w0_4, w0_5, w0_6, w0_7, w0_8, w0_9, w0_10, w0_11, w0_12, .ref a4, .ref a3, .ref a5, .ref a2, .ref a1, .int place__51, .int s_end, .int bad__46, .int s_clauses, .int codes__47, .int open__50, .int stacked__52, .int isOver__49, .int isBehind__48, .ref a6, w0_28, w0_29, w0_30, w0_31, w0_32, w0_33, w0_34, w0_35, w0_36, w0_37, w0_38, w0_39, w0_40, w0_41, w0_42, w0_43, w0_44, w0_45, w0_46, w0_47, w0_48, w0_49, w0_50, w0_51, w0_52, w0_53, w0_54, w0_55, w0_56, w0_57, w0_58, w0_59, w0_60, w0_61, w0_62, w0_63, w0_64, w0_65, w0_66])), (a1, .inl (E.2 0, 120, .inl newArg__53)), (a2, .inl (E.2 0, 120, .inl newCode__54)), (a3, .inl (E.2 0, 12, .inl g109_36)), (a4, .inl (E.2 0, 12, .inl g68_16)), (a5, .inl (E.2 0, 12, .inl g133_56)), (a6, .inl (E.2 0, 160, .inl stack__55)), (a7, .inl (E.2 1, 200, .inl s_tape))] := hV60
            clear hVB121 hi57 e58
            refine lv_aload_n hx hb dX12_clause_134 rfl (lv_at hlB121 0 rfl) ?_
            refine lv_dup hx hb dX12_clause_135 rfl ?_
            refine kget X hV60 (ci := 12) inlX12 rfl 0 rfl 21 (by decide) mw_476 rfl dX12_clause_136 ?_
            refine lv_iconst (v := 1) hx hb dX12_clause_139 (by decide) ?_
            refine lv_iadd hx hb dX12_clause_140 ?_
            obtain ⟨v141_61, e62, h63⟩ := nmI_s h59
            clear h59
            refine ktopi e62 ?_
            clear e62
            refine kput X hV60 (ci := 12) inlX12 rfl tyX12 tyX12_ok nmX12 0 rfl 21 (by decide) mw_476 rfl rfl rfl (Nat.le_of_ble_eq_true rfl) dX12_clause_141 (fun H locs hV64 => ?_)
            have hV64 : kV E A s.heap H locs [(a0, .inr (12, [.ref a7, w0_1, w0_2, w0_3, w0_4, w0_5, w0_6, w0_7, w0_8, w0_9, w0_10, w0_11, w0_12, .ref a4, .ref a3, .ref a5, .ref a2, .ref a1, .int place__51, .int s_end, .int bad__46, .int v141_61, .int codes__47, .int open__50, .int stacked__52, .int isOver__49, .int isBehind__48, .ref a6, w0_28, w0_29, w0_30, w0_31, w0_32, w0_33, w0_34, w0_35, w0_36, w0_37, w0_38, w0_39, w0_40, w0_41, w0_42, w0_43, w0_44, w0_45, w0_46, w0_47, w0_48, w0_49, w0_50, w0_51, w0_52, w0_53, w0_54, w0_55, w0_56, w0_57, w0_58, w0_59, w0_60, w0_61, w0_62, w0_63, w0_64, w0_65, w0_66])), (a1, .inl (E.2 0, 120, .inl newArg__53)), (a2, .inl (E.2 0, 120, .inl newCode__54)), (a3, .inl (E.2 0, 12, .inl g109_36)), (a4, .inl (E.2 0, 12, .inl g68_16)), (a5, .inl (E.2 0, 12, .inl g133_56)), (a6, .inl (E.2 0, 160, .inl stack__55)), (a7, .inl (E.2 1, 200, .inl s_tape))] := hV64
            clear hV60
            obtain ⟨q65, q66, q67, q68, q69, q70, q71, q72, q73, q74, q75, q76, q77, q78⟩ := tup14_s h63
            clear h63
            exact hret () _ _ _ _ trivial (by rw [← q65, ← q66, ← q67, ← q68, ← q69, ← q70, ← q71, ← q72, ← q73, ← q74, ← q75, ← q76, ← q77, ← q78]; exact hV64) dX12_clause_144
          refine lv_if_eq (tgt := 121) hx hb dX12_clause_114 (by decide) (fun c79 => ?_) (fun c79 => ?_)
          · have h80 := itS c79 h43
            clear h43 c79
            exact J121 bad__27 codes__28 isBehind__29 s_isOver open__30 place__31 stacked__32 newArg__33 newCode__34 stack__35 _ _ _ h80 hV44 (lv_sub hlB97 [0] rfl)
          · have h81 := ieS c79 h43
            clear h43 c79
            refine lv_aload_n hx hb dX12_clause_117 rfl (lv_at hlB97 0 rfl) ?_
            obtain ⟨o_place118_82, o_bad118_83, o_codes118_84, o_open118_85, o_stacked118_86, o_isOver118_87, o_isBehind118_88, o_newArg118_89, o_newCode118_90, o_stack118_91, hc92, h93⟩ := cb10_s h81
            clear h81
            refine kgov (krunV (rest := []) X hV44 [0, 1, 2, 6, 7] (c_X12_condition l E _ a0 a1 a2 a6 a7 (w0_1) (w0_2) (w0_3) (w0_4) (w0_5) (w0_6) (w0_7) (w0_8) (w0_9) (w0_10) (w0_11) (w0_12) (.ref a4) (.ref a3) (.ref a5) (.int s_clauses) (w0_28) (w0_29) (w0_30) (w0_31) (w0_32) (w0_33) (w0_34) (w0_35) (w0_36) (w0_37) (w0_38) (w0_39) (w0_40) (w0_41) (w0_42) (w0_43) (w0_44) (w0_45) (w0_46) (w0_47) (w0_48) (w0_49) (w0_50) (w0_51) (w0_52) (w0_53) (w0_54) (w0_55) (w0_56) (w0_57) (w0_58) (w0_59) (w0_60) (w0_61) (w0_62) (w0_63) (w0_64) (w0_65) (w0_66) place__31 s_end bad__27 codes__28 open__30 stacked__32 s_isOver isBehind__29 newArg__33 newCode__34 stack__35 s_tape o_place118_82 o_bad118_83 o_codes118_84 o_open118_85 o_stacked118_86 o_isOver118_87 o_isBehind118_88 o_newArg118_89 o_newCode118_90 o_stack118_91 hc92) mw_552 kb_X12_condition (ci := 12) rfl rfl (by decide) rfl rfl hlB97.1 rfl (Nat.le_of_ble_eq_true rfl) dX12_clause_118 (by decide)) X hV44 [0, 1, 2, 6, 7] [3, 4, 5] rfl rfl rfl (by decide) (fun u H locs hp95 hV94 => ?_)
            have hV94 : kV E A s.heap H locs [(a0, .inr (12, [.ref a7, w0_1, w0_2, w0_3, w0_4, w0_5, w0_6, w0_7, w0_8, w0_9, w0_10, w0_11, w0_12, .ref a4, .ref a3, .ref a5, .ref a2, .ref a1, .int o_place118_82, .int s_end, .int o_bad118_83, .int s_clauses, .int o_codes118_84, .int o_open118_85, .int o_stacked118_86, .int o_isOver118_87, .int o_isBehind118_88, .ref a6, w0_28, w0_29, w0_30, w0_31, w0_32, w0_33, w0_34, w0_35, w0_36, w0_37, w0_38, w0_39, w0_40, w0_41, w0_42, w0_43, w0_44, w0_45, w0_46, w0_47, w0_48, w0_49, w0_50, w0_51, w0_52, w0_53, w0_54, w0_55, w0_56, w0_57, w0_58, w0_59, w0_60, w0_61, w0_62, w0_63, w0_64, w0_65, w0_66])), (a1, .inl (E.2 0, 120, .inl o_newArg118_89)), (a2, .inl (E.2 0, 120, .inl o_newCode118_90)), (a3, .inl (E.2 0, 12, .inl g109_36)), (a4, .inl (E.2 0, 12, .inl g68_16)), (a5, .inl (E.2 0, 12, .inl s_newTo)), (a6, .inl (E.2 0, 160, .inl o_stack118_91)), (a7, .inl (E.2 1, 200, .inl s_tape))] := hV94.sub [3, 4, 5, 0, 1, 2, 6, 7] rfl rfl
            clear hV44
            exact J121 o_bad118_83 o_codes118_84 o_isBehind118_88 o_isOver118_87 o_open118_85 o_place118_82 o_stacked118_86 o_newArg118_89 o_newCode118_90 o_stack118_91 _ _ _ h93 hV94 (lv_sub hlB97 [0] rfl)
        refine lv_if_eq (tgt := 97) hx hb dX12_clause_90 (by decide) (fun c96 => ?_) (fun c96 => ?_)
        · have h97 := itS c96 h23
          clear h23 c96
          exact J97 bad__7 s_codes s_isBehind 0 v76_21 0 s_newArg s_newCode s_stack _ _ _ h97 hV26 (lv_sub hlB48 [0] rfl)
        · have h98 := ieS c96 h23
          clear h23 c96
          refine lv_aload_n hx hb dX12_clause_93 rfl (lv_at hlB48 0 rfl) ?_
          obtain ⟨o_place94_99, o_bad94_100, o_codes94_101, o_open94_102, o_stacked94_103, o_isBehind94_104, o_newArg94_105, o_newCode94_106, o_stack94_107, hc108, h109⟩ := cb9_s h98
          clear h98
          refine kgov (krunV (rest := []) X hV26 [0, 1, 2, 6, 7] (c_X12_value l E _ a0 a1 a2 a6 a7 (w0_1) (w0_2) (w0_3) (w0_4) (w0_5) (w0_6) (w0_7) (w0_8) (w0_9) (w0_10) (w0_11) (w0_12) (.ref a4) (.ref a3) (.ref a5) (.int s_clauses) (.int s_isOver) (w0_28) (w0_29) (w0_30) (w0_31) (w0_32) (w0_33) (w0_34) (w0_35) (w0_36) (w0_37) (w0_38) (w0_39) (w0_40) (w0_41) (w0_42) (w0_43) (w0_44) (w0_45) (w0_46) (w0_47) (w0_48) (w0_49) (w0_50) (w0_51) (w0_52) (w0_53) (w0_54) (w0_55) (w0_56) (w0_57) (w0_58) (w0_59) (w0_60) (w0_61) (w0_62) (w0_63) (w0_64) (w0_65) (w0_66) v76_21 s_end bad__7 s_codes 0 0 s_isBehind s_newArg s_newCode s_stack s_tape o_place94_99 o_bad94_100 o_codes94_101 o_open94_102 o_stacked94_103 o_isBehind94_104 o_newArg94_105 o_newCode94_106 o_stack94_107 hc108) mw_500 kb_X12_value (ci := 12) rfl rfl (by decide) rfl rfl hlB48.1 rfl (Nat.le_of_ble_eq_true rfl) dX12_clause_94 (by decide)) X hV26 [0, 1, 2, 6, 7] [3, 4, 5] rfl rfl rfl (by decide) (fun u H locs hp111 hV110 => ?_)
          have hV110 : kV E A s.heap H locs [(a0, .inr (12, [.ref a7, w0_1, w0_2, w0_3, w0_4, w0_5, w0_6, w0_7, w0_8, w0_9, w0_10, w0_11, w0_12, .ref a4, .ref a3, .ref a5, .ref a2, .ref a1, .int o_place94_99, .int s_end, .int o_bad94_100, .int s_clauses, .int o_codes94_101, .int o_open94_102, .int o_stacked94_103, .int s_isOver, .int o_isBehind94_104, .ref a6, w0_28, w0_29, w0_30, w0_31, w0_32, w0_33, w0_34, w0_35, w0_36, w0_37, w0_38, w0_39, w0_40, w0_41, w0_42, w0_43, w0_44, w0_45, w0_46, w0_47, w0_48, w0_49, w0_50, w0_51, w0_52, w0_53, w0_54, w0_55, w0_56, w0_57, w0_58, w0_59, w0_60, w0_61, w0_62, w0_63, w0_64, w0_65, w0_66])), (a1, .inl (E.2 0, 120, .inl o_newArg94_105)), (a2, .inl (E.2 0, 120, .inl o_newCode94_106)), (a3, .inl (E.2 0, 12, .inl s_newFrom)), (a4, .inl (E.2 0, 12, .inl g68_16)), (a5, .inl (E.2 0, 12, .inl s_newTo)), (a6, .inl (E.2 0, 160, .inl o_stack94_107)), (a7, .inl (E.2 1, 200, .inl s_tape))] := hV110.sub [3, 4, 5, 0, 1, 2, 6, 7] rfl rfl
          clear hV26
          exact J97 o_bad94_100 o_codes94_101 o_isBehind94_104 o_open94_102 o_place94_99 o_stacked94_103 o_newArg94_105 o_newCode94_106 o_stack94_107 _ _ _ h109 hV110 (lv_sub hlB48 [0] rfl)
      · have h15 := itS c13 h10
        clear h10 c13
        obtain ⟨q112, q113, q114, q115, q116, q117, q118, q119, q120, q121, q122, q123, q124, q125⟩ := tup14_s h15
        clear h15
        exact hret () _ _ _ _ trivial (by rw [← q112, ← q113, ← q114, ← q115, ← q116, ← q117, ← q118, ← q119, ← q120, ← q121, ← q122, ← q123, ← q124, ← q125]; exact hV11) dX12_clause_55
    refine lv_icmp_eq (tgt := 30) hx hb dX12_clause_15 (by decide) (fun c126 => ?_) (fun c126 => ?_)
    · have h127 := itS c126 hB15
      clear hB15 c126
      refine lv_aload_n hx hb dX12_clause_30 rfl (lv_at hlB15 0 rfl) ?_
      refine kget X hVB15 (ci := 12) inlX12 rfl 0 rfl 21 (by decide) mw_476 rfl dX12_clause_31 ?_
      refine lv_bipush (v := 12) hx hb dX12_clause_34 (by decide) ?_
      refine lv_icmp_ne (tgt := 48) hx hb dX12_clause_36 (by decide) (fun c129 => ?_) (fun c129 => ?_)
      · have h130 := ieS c129 h127
        clear h127 c129
        exact J48 s_bad _ _ _ h130 hVB15 (lv_sub hlB15 [0, 1] rfl)
      · have h131 := itS c129 h127
        clear h127 c129
        refine lv_aload_n hx hb dX12_clause_39 rfl (lv_at hlB15 0 rfl) ?_
        refine lv_iconst (v := 4) hx hb dX12_clause_40 (by decide) ?_
        refine lv_aload_n hx hb dX12_clause_41 rfl (lv_at hlB15 0 rfl) ?_
        refine kget X hVB15 (ci := 12) inlX12 rfl 0 rfl 18 (by decide) mw_473 rfl dX12_clause_42 ?_
        obtain ⟨o_bad45_132, hc133, h134⟩ := cb1_s h131
        clear h131
        refine kgov (krunV (rest := []) X hVB15 [0] (c_X12_wrongs l E _ a0 (.ref a7) (w0_1) (w0_2) (w0_3) (w0_4) (w0_5) (w0_6) (w0_7) (w0_8) (w0_9) (w0_10) (w0_11) (w0_12) (.ref a4) (.ref a3) (.ref a5) (.ref a2) (.ref a1) (.int s_place) (.int s_end) (.int s_clauses) (.int s_codes) (.int s_open) (.int s_stacked) (.int s_isOver) (.int s_isBehind) (.ref a6) (w0_28) (w0_29) (w0_30) (w0_31) (w0_32) (w0_33) (w0_34) (w0_35) (w0_36) (w0_37) (w0_38) (w0_39) (w0_40) (w0_41) (w0_42) (w0_43) (w0_44) (w0_45) (w0_46) (w0_47) (w0_48) (w0_49) (w0_50) (w0_51) (w0_52) (w0_53) (w0_54) (w0_55) (w0_56) (w0_57) (w0_58) (w0_59) (w0_60) (w0_61) (w0_62) (w0_63) (w0_64) (w0_65) (w0_66) s_bad 4 s_place o_bad45_132 hc133) mw_496 kb_X12_wrongs (ci := 12) rfl rfl (by decide) rfl rfl hlB15.1 rfl (Nat.le_of_ble_eq_true rfl) dX12_clause_45 (by decide)) X hVB15 [0] [1, 2, 3, 4, 5, 6, 7] rfl rfl rfl (by decide) (fun u H locs hp136 hV135 => ?_)
        have hV135 : kV E A s.heap H locs [(a0, .inr (12, [.ref a7, w0_1, w0_2, w0_3, w0_4, w0_5, w0_6, w0_7, w0_8, w0_9, w0_10, w0_11, w0_12, .ref a4, .ref a3, .ref a5, .ref a2, .ref a1, .int s_place, .int s_end, .int o_bad45_132, .int s_clauses, .int s_codes, .int s_open, .int s_stacked, .int s_isOver, .int s_isBehind, .ref a6, w0_28, w0_29, w0_30, w0_31, w0_32, w0_33, w0_34, w0_35, w0_36, w0_37, w0_38, w0_39, w0_40, w0_41, w0_42, w0_43, w0_44, w0_45, w0_46, w0_47, w0_48, w0_49, w0_50, w0_51, w0_52, w0_53, w0_54, w0_55, w0_56, w0_57, w0_58, w0_59, w0_60, w0_61, w0_62, w0_63, w0_64, w0_65, w0_66])), (a1, .inl (E.2 0, 120, .inl s_newArg)), (a2, .inl (E.2 0, 120, .inl s_newCode)), (a3, .inl (E.2 0, 12, .inl s_newFrom)), (a4, .inl (E.2 0, 12, .inl s_newSum)), (a5, .inl (E.2 0, 12, .inl s_newTo)), (a6, .inl (E.2 0, 160, .inl s_stack)), (a7, .inl (E.2 1, 200, .inl s_tape))] := hV135.sub [7, 0, 1, 2, 3, 4, 5, 6] rfl rfl
        clear hVB15
        exact J48 o_bad45_132 _ _ _ h134 hV135 (lv_sub hlB15 [0, 1] rfl)
    · have h128 := ieS c126 hB15
      clear hB15 c126
      refine lv_aload_n hx hb dX12_clause_18 rfl (lv_at hlB15 0 rfl) ?_
      refine lv_iconst (v := 1) hx hb dX12_clause_19 (by decide) ?_
      refine lv_aload_n hx hb dX12_clause_20 rfl (lv_at hlB15 0 rfl) ?_
      refine kget X hVB15 (ci := 12) inlX12 rfl 0 rfl 18 (by decide) mw_473 rfl dX12_clause_21 ?_
      obtain ⟨o_bad24_137, hc138, h139⟩ := cb1_s h128
      clear h128
      refine kgov (krunV (rest := []) X hVB15 [0] (c_X12_wrongs l E _ a0 (.ref a7) (w0_1) (w0_2) (w0_3) (w0_4) (w0_5) (w0_6) (w0_7) (w0_8) (w0_9) (w0_10) (w0_11) (w0_12) (.ref a4) (.ref a3) (.ref a5) (.ref a2) (.ref a1) (.int s_place) (.int s_end) (.int s_clauses) (.int s_codes) (.int s_open) (.int s_stacked) (.int s_isOver) (.int s_isBehind) (.ref a6) (w0_28) (w0_29) (w0_30) (w0_31) (w0_32) (w0_33) (w0_34) (w0_35) (w0_36) (w0_37) (w0_38) (w0_39) (w0_40) (w0_41) (w0_42) (w0_43) (w0_44) (w0_45) (w0_46) (w0_47) (w0_48) (w0_49) (w0_50) (w0_51) (w0_52) (w0_53) (w0_54) (w0_55) (w0_56) (w0_57) (w0_58) (w0_59) (w0_60) (w0_61) (w0_62) (w0_63) (w0_64) (w0_65) (w0_66) s_bad 1 s_place o_bad24_137 hc138) mw_496 kb_X12_wrongs (ci := 12) rfl rfl (by decide) rfl rfl hlB15.1 rfl (Nat.le_of_ble_eq_true rfl) dX12_clause_24 (by decide)) X hVB15 [0] [1, 2, 3, 4, 5, 6, 7] rfl rfl rfl (by decide) (fun u H locs hp141 hV140 => ?_)
      have hV140 : kV E A s.heap H locs [(a0, .inr (12, [.ref a7, w0_1, w0_2, w0_3, w0_4, w0_5, w0_6, w0_7, w0_8, w0_9, w0_10, w0_11, w0_12, .ref a4, .ref a3, .ref a5, .ref a2, .ref a1, .int s_place, .int s_end, .int o_bad24_137, .int s_clauses, .int s_codes, .int s_open, .int s_stacked, .int s_isOver, .int s_isBehind, .ref a6, w0_28, w0_29, w0_30, w0_31, w0_32, w0_33, w0_34, w0_35, w0_36, w0_37, w0_38, w0_39, w0_40, w0_41, w0_42, w0_43, w0_44, w0_45, w0_46, w0_47, w0_48, w0_49, w0_50, w0_51, w0_52, w0_53, w0_54, w0_55, w0_56, w0_57, w0_58, w0_59, w0_60, w0_61, w0_62, w0_63, w0_64, w0_65, w0_66])), (a1, .inl (E.2 0, 120, .inl s_newArg)), (a2, .inl (E.2 0, 120, .inl s_newCode)), (a3, .inl (E.2 0, 12, .inl s_newFrom)), (a4, .inl (E.2 0, 12, .inl s_newSum)), (a5, .inl (E.2 0, 12, .inl s_newTo)), (a6, .inl (E.2 0, 160, .inl s_stack)), (a7, .inl (E.2 1, 200, .inl s_tape))] := hV140.sub [7, 0, 1, 2, 3, 4, 5, 6] rfl rfl
      clear hVB15
      refine lv_goto (tgt := 48) hx hb dX12_clause_27 (by decide) ?_
      exact J48 o_bad24_137 _ _ _ h139 hV140 (lv_sub hlB15 [0, 1] rfl)
  refine lv_if_eq (tgt := 13) hx hb dX12_clause_5 (by decide) (fun c142 => ?_) (fun c142 => ?_)
  · have h143 := itS c142 h3
    clear h3 c142
    refine lv_bipush (v := 107) hx hb dX12_clause_13 (by decide) ?_
    exact J15 107 _ _ _ h143 hV4 (lv_sub hl [0, 1] rfl)
  · have h144 := ieS c142 h3
    clear h3 c142
    refine lv_bipush (v := 104) hx hb dX12_clause_8 (by decide) ?_
    refine lv_goto (tgt := 15) hx hb dX12_clause_10 (by decide) ?_
    exact J15 104 _ _ _ h144 hV4 (lv_sub hl [0, 1] rfl)
abbrev r_X12_begins : Room := { frames := 0, cells := 0, slots := 0, locals := 0 }
set_option maxHeartbeats 4000000 in
set_option maxRecDepth 100000 in
theorem c_X12_begins (l : Launch) (E : kE) (sz : Nat) (a0 : Nat) (w0_0 w0_2 w0_3 w0_4 w0_5 w0_6 w0_7 w0_8 w0_9 w0_10 w0_11 w0_12 w0_13 w0_14 w0_15 w0_16 w0_17 w0_25 w0_26 w0_27 w0_28 w0_29 w0_30 w0_31 w0_32 w0_33 w0_34 w0_35 w0_36 w0_37 w0_38 w0_39 w0_40 w0_41 w0_42 w0_43 w0_44 w0_45 w0_46 w0_47 w0_48 w0_49 w0_50 w0_51 w0_52 w0_53 w0_54 w0_55 w0_56 w0_57 w0_58 w0_59 w0_60 w0_61 w0_62 w0_63 w0_64 w0_65 w0_66 : Value) (s_taped : Int32) (s_place : Int32) (s_end : Int32) (s_bad : Int32) (s_clauses : Int32) (s_codes : Int32) (s_open : Int32) (s_stacked : Int32) (p1 : Int32) (o_taped : Int32) (o_place : Int32) (o_end : Int32) (o_bad : Int32) (o_clauses : Int32) (o_codes : Int32) (o_open : Int32) (o_stacked : Int32) (h : f_X12_begins s_taped s_place s_end s_bad s_clauses s_codes s_open s_stacked p1 = some (o_taped, o_place, o_end, o_bad, o_clauses, o_codes, o_open, o_stacked)) : kMv l yX12_begins cX12_begins 2 r_X12_begins [.ref a0, .int p1] E [(a0, .inr (12, [w0_0, .int s_taped, w0_2, w0_3, w0_4, w0_5, w0_6, w0_7, w0_8, w0_9, w0_10, w0_11, w0_12, w0_13, w0_14, w0_15, w0_16, w0_17, .int s_place, .int s_end, .int s_bad, .int s_clauses, .int s_codes, .int s_open, .int s_stacked, w0_25, w0_26, w0_27, w0_28, w0_29, w0_30, w0_31, w0_32, w0_33, w0_34, w0_35, w0_36, w0_37, w0_38, w0_39, w0_40, w0_41, w0_42, w0_43, w0_44, w0_45, w0_46, w0_47, w0_48, w0_49, w0_50, w0_51, w0_52, w0_53, w0_54, w0_55, w0_56, w0_57, w0_58, w0_59, w0_60, w0_61, w0_62, w0_63, w0_64, w0_65, w0_66]))] sz 0 0 (fun (_ : Unit) => True) (fun _ => [(a0, .inr (12, [w0_0, .int o_taped, w0_2, w0_3, w0_4, w0_5, w0_6, w0_7, w0_8, w0_9, w0_10, w0_11, w0_12, w0_13, w0_14, w0_15, w0_16, w0_17, .int o_place, .int o_end, .int o_bad, .int o_clauses, .int o_codes, .int o_open, .int o_stacked, w0_25, w0_26, w0_27, w0_28, w0_29, w0_30, w0_31, w0_32, w0_33, w0_34, w0_35, w0_36, w0_37, w0_38, w0_39, w0_40, w0_41, w0_42, w0_43, w0_44, w0_45, w0_46, w0_47, w0_48, w0_49, w0_50, w0_51, w0_52, w0_53, w0_54, w0_55, w0_56, w0_57, w0_58, w0_59, w0_60, w0_61, w0_62, w0_63, w0_64, w0_65, w0_66]))]) := by
  refine kmetv rfl (Nat.le_of_ble_eq_true rfl) ?_
  intro p e s m args below meth c ls A Q X hnm hV hret hl
  have X : kC p s m c cX12_begins 2 RX12 args E A := X
  have hx := X.1
  have hb := X.2.1
  have hl : lv_has ls 2 [(0, .ref a0), (1, .int p1)] := hl
  rw [f_X12_begins] at h
  refine lv_aload_n hx hb dX12_begins_0 rfl (lv_at hl 0 rfl) ?_
  refine lv_iconst (v := 0) hx hb dX12_begins_1 (by decide) ?_
  refine kput X hV (ci := 12) inlX12 rfl tyX12 tyX12_ok nmX12 0 rfl 1 (by decide) mw_251 rfl rfl rfl (Nat.le_of_ble_eq_true rfl) dX12_begins_2 (fun H locs hV1 => ?_)
  have hV1 : kV E A s.heap H locs [(a0, .inr (12, [w0_0, .int 0, w0_2, w0_3, w0_4, w0_5, w0_6, w0_7, w0_8, w0_9, w0_10, w0_11, w0_12, w0_13, w0_14, w0_15, w0_16, w0_17, .int s_place, .int s_end, .int s_bad, .int s_clauses, .int s_codes, .int s_open, .int s_stacked, w0_25, w0_26, w0_27, w0_28, w0_29, w0_30, w0_31, w0_32, w0_33, w0_34, w0_35, w0_36, w0_37, w0_38, w0_39, w0_40, w0_41, w0_42, w0_43, w0_44, w0_45, w0_46, w0_47, w0_48, w0_49, w0_50, w0_51, w0_52, w0_53, w0_54, w0_55, w0_56, w0_57, w0_58, w0_59, w0_60, w0_61, w0_62, w0_63, w0_64, w0_65, w0_66]))] := hV1
  clear hV
  refine lv_aload_n hx hb dX12_begins_5 rfl (lv_at hl 0 rfl) ?_
  refine lv_iconst (v := 0) hx hb dX12_begins_6 (by decide) ?_
  refine kput X hV1 (ci := 12) inlX12 rfl tyX12 tyX12_ok nmX12 0 rfl 18 (by decide) mw_473 rfl rfl rfl (Nat.le_of_ble_eq_true rfl) dX12_begins_7 (fun H locs hV2 => ?_)
  have hV2 : kV E A s.heap H locs [(a0, .inr (12, [w0_0, .int 0, w0_2, w0_3, w0_4, w0_5, w0_6, w0_7, w0_8, w0_9, w0_10, w0_11, w0_12, w0_13, w0_14, w0_15, w0_16, w0_17, .int 0, .int s_end, .int s_bad, .int s_clauses, .int s_codes, .int s_open, .int s_stacked, w0_25, w0_26, w0_27, w0_28, w0_29, w0_30, w0_31, w0_32, w0_33, w0_34, w0_35, w0_36, w0_37, w0_38, w0_39, w0_40, w0_41, w0_42, w0_43, w0_44, w0_45, w0_46, w0_47, w0_48, w0_49, w0_50, w0_51, w0_52, w0_53, w0_54, w0_55, w0_56, w0_57, w0_58, w0_59, w0_60, w0_61, w0_62, w0_63, w0_64, w0_65, w0_66]))] := hV2
  clear hV1
  refine lv_aload_n hx hb dX12_begins_10 rfl (lv_at hl 0 rfl) ?_
  refine lv_iload_n hx hb dX12_begins_11 rfl (lv_at hl 1 rfl) ?_
  refine kput X hV2 (ci := 12) inlX12 rfl tyX12 tyX12_ok nmX12 0 rfl 19 (by decide) mw_474 rfl rfl rfl (Nat.le_of_ble_eq_true rfl) dX12_begins_12 (fun H locs hV3 => ?_)
  have hV3 : kV E A s.heap H locs [(a0, .inr (12, [w0_0, .int 0, w0_2, w0_3, w0_4, w0_5, w0_6, w0_7, w0_8, w0_9, w0_10, w0_11, w0_12, w0_13, w0_14, w0_15, w0_16, w0_17, .int 0, .int p1, .int s_bad, .int s_clauses, .int s_codes, .int s_open, .int s_stacked, w0_25, w0_26, w0_27, w0_28, w0_29, w0_30, w0_31, w0_32, w0_33, w0_34, w0_35, w0_36, w0_37, w0_38, w0_39, w0_40, w0_41, w0_42, w0_43, w0_44, w0_45, w0_46, w0_47, w0_48, w0_49, w0_50, w0_51, w0_52, w0_53, w0_54, w0_55, w0_56, w0_57, w0_58, w0_59, w0_60, w0_61, w0_62, w0_63, w0_64, w0_65, w0_66]))] := hV3
  clear hV2
  refine lv_aload_n hx hb dX12_begins_15 rfl (lv_at hl 0 rfl) ?_
  refine lv_iconst (v := 0) hx hb dX12_begins_16 (by decide) ?_
  refine kput X hV3 (ci := 12) inlX12 rfl tyX12 tyX12_ok nmX12 0 rfl 20 (by decide) mw_475 rfl rfl rfl (Nat.le_of_ble_eq_true rfl) dX12_begins_17 (fun H locs hV4 => ?_)
  have hV4 : kV E A s.heap H locs [(a0, .inr (12, [w0_0, .int 0, w0_2, w0_3, w0_4, w0_5, w0_6, w0_7, w0_8, w0_9, w0_10, w0_11, w0_12, w0_13, w0_14, w0_15, w0_16, w0_17, .int 0, .int p1, .int 0, .int s_clauses, .int s_codes, .int s_open, .int s_stacked, w0_25, w0_26, w0_27, w0_28, w0_29, w0_30, w0_31, w0_32, w0_33, w0_34, w0_35, w0_36, w0_37, w0_38, w0_39, w0_40, w0_41, w0_42, w0_43, w0_44, w0_45, w0_46, w0_47, w0_48, w0_49, w0_50, w0_51, w0_52, w0_53, w0_54, w0_55, w0_56, w0_57, w0_58, w0_59, w0_60, w0_61, w0_62, w0_63, w0_64, w0_65, w0_66]))] := hV4
  clear hV3
  refine lv_aload_n hx hb dX12_begins_20 rfl (lv_at hl 0 rfl) ?_
  refine lv_iconst (v := 0) hx hb dX12_begins_21 (by decide) ?_
  refine kput X hV4 (ci := 12) inlX12 rfl tyX12 tyX12_ok nmX12 0 rfl 21 (by decide) mw_476 rfl rfl rfl (Nat.le_of_ble_eq_true rfl) dX12_begins_22 (fun H locs hV5 => ?_)
  have hV5 : kV E A s.heap H locs [(a0, .inr (12, [w0_0, .int 0, w0_2, w0_3, w0_4, w0_5, w0_6, w0_7, w0_8, w0_9, w0_10, w0_11, w0_12, w0_13, w0_14, w0_15, w0_16, w0_17, .int 0, .int p1, .int 0, .int 0, .int s_codes, .int s_open, .int s_stacked, w0_25, w0_26, w0_27, w0_28, w0_29, w0_30, w0_31, w0_32, w0_33, w0_34, w0_35, w0_36, w0_37, w0_38, w0_39, w0_40, w0_41, w0_42, w0_43, w0_44, w0_45, w0_46, w0_47, w0_48, w0_49, w0_50, w0_51, w0_52, w0_53, w0_54, w0_55, w0_56, w0_57, w0_58, w0_59, w0_60, w0_61, w0_62, w0_63, w0_64, w0_65, w0_66]))] := hV5
  clear hV4
  refine lv_aload_n hx hb dX12_begins_25 rfl (lv_at hl 0 rfl) ?_
  refine lv_iconst (v := 0) hx hb dX12_begins_26 (by decide) ?_
  refine kput X hV5 (ci := 12) inlX12 rfl tyX12 tyX12_ok nmX12 0 rfl 22 (by decide) mw_481 rfl rfl rfl (Nat.le_of_ble_eq_true rfl) dX12_begins_27 (fun H locs hV6 => ?_)
  have hV6 : kV E A s.heap H locs [(a0, .inr (12, [w0_0, .int 0, w0_2, w0_3, w0_4, w0_5, w0_6, w0_7, w0_8, w0_9, w0_10, w0_11, w0_12, w0_13, w0_14, w0_15, w0_16, w0_17, .int 0, .int p1, .int 0, .int 0, .int 0, .int s_open, .int s_stacked, w0_25, w0_26, w0_27, w0_28, w0_29, w0_30, w0_31, w0_32, w0_33, w0_34, w0_35, w0_36, w0_37, w0_38, w0_39, w0_40, w0_41, w0_42, w0_43, w0_44, w0_45, w0_46, w0_47, w0_48, w0_49, w0_50, w0_51, w0_52, w0_53, w0_54, w0_55, w0_56, w0_57, w0_58, w0_59, w0_60, w0_61, w0_62, w0_63, w0_64, w0_65, w0_66]))] := hV6
  clear hV5
  refine lv_aload_n hx hb dX12_begins_30 rfl (lv_at hl 0 rfl) ?_
  refine lv_iconst (v := 0) hx hb dX12_begins_31 (by decide) ?_
  refine kput X hV6 (ci := 12) inlX12 rfl tyX12 tyX12_ok nmX12 0 rfl 24 (by decide) mw_482 rfl rfl rfl (Nat.le_of_ble_eq_true rfl) dX12_begins_32 (fun H locs hV7 => ?_)
  have hV7 : kV E A s.heap H locs [(a0, .inr (12, [w0_0, .int 0, w0_2, w0_3, w0_4, w0_5, w0_6, w0_7, w0_8, w0_9, w0_10, w0_11, w0_12, w0_13, w0_14, w0_15, w0_16, w0_17, .int 0, .int p1, .int 0, .int 0, .int 0, .int s_open, .int 0, w0_25, w0_26, w0_27, w0_28, w0_29, w0_30, w0_31, w0_32, w0_33, w0_34, w0_35, w0_36, w0_37, w0_38, w0_39, w0_40, w0_41, w0_42, w0_43, w0_44, w0_45, w0_46, w0_47, w0_48, w0_49, w0_50, w0_51, w0_52, w0_53, w0_54, w0_55, w0_56, w0_57, w0_58, w0_59, w0_60, w0_61, w0_62, w0_63, w0_64, w0_65, w0_66]))] := hV7
  clear hV6
  refine lv_aload_n hx hb dX12_begins_35 rfl (lv_at hl 0 rfl) ?_
  refine lv_iconst (v := 0) hx hb dX12_begins_36 (by decide) ?_
  refine kput X hV7 (ci := 12) inlX12 rfl tyX12 tyX12_ok nmX12 0 rfl 23 (by decide) mw_483 rfl rfl rfl (Nat.le_of_ble_eq_true rfl) dX12_begins_37 (fun H locs hV8 => ?_)
  have hV8 : kV E A s.heap H locs [(a0, .inr (12, [w0_0, .int 0, w0_2, w0_3, w0_4, w0_5, w0_6, w0_7, w0_8, w0_9, w0_10, w0_11, w0_12, w0_13, w0_14, w0_15, w0_16, w0_17, .int 0, .int p1, .int 0, .int 0, .int 0, .int 0, .int 0, w0_25, w0_26, w0_27, w0_28, w0_29, w0_30, w0_31, w0_32, w0_33, w0_34, w0_35, w0_36, w0_37, w0_38, w0_39, w0_40, w0_41, w0_42, w0_43, w0_44, w0_45, w0_46, w0_47, w0_48, w0_49, w0_50, w0_51, w0_52, w0_53, w0_54, w0_55, w0_56, w0_57, w0_58, w0_59, w0_60, w0_61, w0_62, w0_63, w0_64, w0_65, w0_66]))] := hV8
  clear hV7
  obtain ⟨q9, q10, q11, q12, q13, q14, q15, q16⟩ := tup8_s h
  clear h
  exact hret () _ _ _ _ trivial (by rw [← q9, ← q10, ← q11, ← q12, ← q13, ← q14, ← q15, ← q16]; exact hV8) dX12_begins_40
abbrev r_X12_keeps : Room := { frames := 0, cells := 0, slots := 0, locals := 0 }
set_option maxHeartbeats 4000000 in
set_option maxRecDepth 100000 in
theorem c_X12_keeps (l : Launch) (E : kE) (sz : Nat) (a0 a1 a2 a3 a4 a5 a6 a7 a8 a9 a10 a11 : Nat) (w0_0 w0_1 w0_2 w0_3 w0_4 w0_5 w0_6 w0_18 w0_19 w0_20 w0_23 w0_24 w0_25 w0_26 w0_27 w0_28 w0_29 w0_30 w0_31 w0_32 w0_33 w0_34 w0_35 w0_36 w0_37 w0_38 w0_39 w0_40 w0_41 w0_42 w0_43 w0_44 w0_45 w0_46 w0_47 w0_48 w0_49 w0_50 w0_51 w0_52 w0_53 w0_54 w0_55 w0_56 w0_57 w0_58 w0_59 w0_60 w0_61 w0_62 w0_63 w0_64 w0_65 w0_66 : Value) (s_clauses : Int32) (s_codes : Int32) (s_code : Nat → Int32) (s_codeArg : Nat → Int32) (s_codeFrom : Nat → Int32) (s_codeTo : Nat → Int32) (s_many : Nat → Int32) (s_newArg : Nat → Int32) (s_newCode : Nat → Int32) (s_newFrom : Nat → Int32) (s_newSum : Nat → Int32) (s_newTo : Nat → Int32) (s_sumFrom : Nat → Int32) (p1 : Int32) (o_code : Nat → Int32) (o_codeArg : Nat → Int32) (o_codeFrom : Nat → Int32) (o_codeTo : Nat → Int32) (o_many : Nat → Int32) (o_sumFrom : Nat → Int32) (h : f_X12_keeps s_clauses s_codes s_code s_codeArg s_codeFrom s_codeTo s_many s_newArg s_newCode s_newFrom s_newSum s_newTo s_sumFrom p1 = some (o_code, o_codeArg, o_codeFrom, o_codeTo, o_many, o_sumFrom)) : kMv l yX12_keeps cX12_keeps 3 r_X12_keeps [.ref a0, .int p1] E [(a0, .inr (12, [w0_0, w0_1, w0_2, w0_3, w0_4, w0_5, w0_6, .ref a5, .ref a11, .ref a3, .ref a4, .ref a1, .ref a2, .ref a9, .ref a8, .ref a10, .ref a7, .ref a6, w0_18, w0_19, w0_20, .int s_clauses, .int s_codes, w0_23, w0_24, w0_25, w0_26, w0_27, w0_28, w0_29, w0_30, w0_31, w0_32, w0_33, w0_34, w0_35, w0_36, w0_37, w0_38, w0_39, w0_40, w0_41, w0_42, w0_43, w0_44, w0_45, w0_46, w0_47, w0_48, w0_49, w0_50, w0_51, w0_52, w0_53, w0_54, w0_55, w0_56, w0_57, w0_58, w0_59, w0_60, w0_61, w0_62, w0_63, w0_64, w0_65, w0_66])), (a1, .inl (E.2 0, 2400, .inl s_code)), (a2, .inl (E.2 0, 2400, .inl s_codeArg)), (a3, .inl (E.2 0, 240, .inl s_codeFrom)), (a4, .inl (E.2 0, 240, .inl s_codeTo)), (a5, .inl (E.2 0, 20, .inl s_many)), (a6, .inl (E.2 0, 120, .inl s_newArg)), (a7, .inl (E.2 0, 120, .inl s_newCode)), (a8, .inl (E.2 0, 12, .inl s_newFrom)), (a9, .inl (E.2 0, 12, .inl s_newSum)), (a10, .inl (E.2 0, 12, .inl s_newTo)), (a11, .inl (E.2 0, 240, .inl s_sumFrom))] sz 0 0 (fun (_ : Unit) => True) (fun _ => [(a0, .inr (12, [w0_0, w0_1, w0_2, w0_3, w0_4, w0_5, w0_6, .ref a5, .ref a11, .ref a3, .ref a4, .ref a1, .ref a2, .ref a9, .ref a8, .ref a10, .ref a7, .ref a6, w0_18, w0_19, w0_20, .int s_clauses, .int s_codes, w0_23, w0_24, w0_25, w0_26, w0_27, w0_28, w0_29, w0_30, w0_31, w0_32, w0_33, w0_34, w0_35, w0_36, w0_37, w0_38, w0_39, w0_40, w0_41, w0_42, w0_43, w0_44, w0_45, w0_46, w0_47, w0_48, w0_49, w0_50, w0_51, w0_52, w0_53, w0_54, w0_55, w0_56, w0_57, w0_58, w0_59, w0_60, w0_61, w0_62, w0_63, w0_64, w0_65, w0_66])), (a1, .inl (E.2 0, 2400, .inl o_code)), (a2, .inl (E.2 0, 2400, .inl o_codeArg)), (a3, .inl (E.2 0, 240, .inl o_codeFrom)), (a4, .inl (E.2 0, 240, .inl o_codeTo)), (a5, .inl (E.2 0, 20, .inl o_many)), (a6, .inl (E.2 0, 120, .inl s_newArg)), (a7, .inl (E.2 0, 120, .inl s_newCode)), (a8, .inl (E.2 0, 12, .inl s_newFrom)), (a9, .inl (E.2 0, 12, .inl s_newSum)), (a10, .inl (E.2 0, 12, .inl s_newTo)), (a11, .inl (E.2 0, 240, .inl o_sumFrom))]) := by
  refine kmetv rfl (Nat.le_of_ble_eq_true rfl) ?_
  intro p e s m args below meth c ls A Q X hnm hV hret hl
  have X : kC p s m c cX12_keeps 3 RX12 args E A := X
  have hx := X.1
  have hb := X.2.1
  have hl : lv_has ls 3 [(0, .ref a0), (1, .int p1)] := hl
  rw [f_X12_keeps] at h
  refine lv_iconst (v := 0) hx hb dX12_keeps_0 (by decide) ?_
  refine lv_istore_n (lv' := [(2, .int 0), (0, .ref a0), (1, .int p1)]) hx hb dX12_keeps_1 rfl hl (by decide) rfl (fun ls hl1 => ?_)
  clear hl
  have J82 : ∀ (codeFrom__2 : Nat → Int32) (codeTo__3 : Nat → Int32) (sumFrom__4 : Nat → Int32) (H : Heap) (locs : List Loc) (ls : Array Slot), (f_X12_keeps_J82 s_clauses s_codes s_code s_codeArg s_many s_newArg s_newCode p1 ) codeFrom__2 codeTo__3 sumFrom__4 = some (o_code, o_codeArg, o_codeFrom, o_codeTo, o_many, o_sumFrom) → kV E A s.heap H locs [(a0, .inr (12, [w0_0, w0_1, w0_2, w0_3, w0_4, w0_5, w0_6, .ref a5, .ref a11, .ref a3, .ref a4, .ref a1, .ref a2, .ref a9, .ref a8, .ref a10, .ref a7, .ref a6, w0_18, w0_19, w0_20, .int s_clauses, .int s_codes, w0_23, w0_24, w0_25, w0_26, w0_27, w0_28, w0_29, w0_30, w0_31, w0_32, w0_33, w0_34, w0_35, w0_36, w0_37, w0_38, w0_39, w0_40, w0_41, w0_42, w0_43, w0_44, w0_45, w0_46, w0_47, w0_48, w0_49, w0_50, w0_51, w0_52, w0_53, w0_54, w0_55, w0_56, w0_57, w0_58, w0_59, w0_60, w0_61, w0_62, w0_63, w0_64, w0_65, w0_66])), (a1, .inl (E.2 0, 2400, .inl s_code)), (a2, .inl (E.2 0, 2400, .inl s_codeArg)), (a3, .inl (E.2 0, 240, .inl codeFrom__2)), (a4, .inl (E.2 0, 240, .inl codeTo__3)), (a5, .inl (E.2 0, 20, .inl s_many)), (a6, .inl (E.2 0, 120, .inl s_newArg)), (a7, .inl (E.2 0, 120, .inl s_newCode)), (a8, .inl (E.2 0, 12, .inl s_newFrom)), (a9, .inl (E.2 0, 12, .inl s_newSum)), (a10, .inl (E.2 0, 12, .inl s_newTo)), (a11, .inl (E.2 0, 240, .inl sumFrom__4))] → lv_has ls 3 [(0, .ref a0), (1, .int p1)] → W p l e r_X12_keeps s m args below meth c H locs 0 0 Q (F0 m 82 ls []) := by
    intro codeFrom__2 codeTo__3 sumFrom__4 H locs ls hB82 hVB82 hlB82
    rw [f_X12_keeps_J82] at hB82
    refine lv_iconst (v := 0) hx hb dX12_keeps_82 (by decide) ?_
    refine lv_istore_n (lv' := [(2, .int 0), (0, .ref a0), (1, .int p1)]) hx hb dX12_keeps_83 rfl hlB82 (by decide) rfl (fun ls hl5 => ?_)
    clear hlB82
    have J132 : ∀ (code__6 : Nat → Int32) (codeArg__7 : Nat → Int32) (H : Heap) (locs : List Loc) (ls : Array Slot), (f_X12_keeps_J132 s_clauses s_many p1 codeFrom__2 codeTo__3 sumFrom__4 ) code__6 codeArg__7 = some (o_code, o_codeArg, o_codeFrom, o_codeTo, o_many, o_sumFrom) → kV E A s.heap H locs [(a0, .inr (12, [w0_0, w0_1, w0_2, w0_3, w0_4, w0_5, w0_6, .ref a5, .ref a11, .ref a3, .ref a4, .ref a1, .ref a2, .ref a9, .ref a8, .ref a10, .ref a7, .ref a6, w0_18, w0_19, w0_20, .int s_clauses, .int s_codes, w0_23, w0_24, w0_25, w0_26, w0_27, w0_28, w0_29, w0_30, w0_31, w0_32, w0_33, w0_34, w0_35, w0_36, w0_37, w0_38, w0_39, w0_40, w0_41, w0_42, w0_43, w0_44, w0_45, w0_46, w0_47, w0_48, w0_49, w0_50, w0_51, w0_52, w0_53, w0_54, w0_55, w0_56, w0_57, w0_58, w0_59, w0_60, w0_61, w0_62, w0_63, w0_64, w0_65, w0_66])), (a1, .inl (E.2 0, 2400, .inl code__6)), (a2, .inl (E.2 0, 2400, .inl codeArg__7)), (a3, .inl (E.2 0, 240, .inl codeFrom__2)), (a4, .inl (E.2 0, 240, .inl codeTo__3)), (a5, .inl (E.2 0, 20, .inl s_many)), (a6, .inl (E.2 0, 120, .inl s_newArg)), (a7, .inl (E.2 0, 120, .inl s_newCode)), (a8, .inl (E.2 0, 12, .inl s_newFrom)), (a9, .inl (E.2 0, 12, .inl s_newSum)), (a10, .inl (E.2 0, 12, .inl s_newTo)), (a11, .inl (E.2 0, 240, .inl sumFrom__4))] → lv_has ls 3 [(0, .ref a0), (1, .int p1)] → W p l e r_X12_keeps s m args below meth c H locs 0 0 Q (F0 m 132 ls []) := by
      intro code__6 codeArg__7 H locs ls hB132 hVB132 hlB132
      rw [f_X12_keeps_J132] at hB132
      refine lv_aload_n hx hb dX12_keeps_132 rfl (lv_at hlB132 0 rfl) ?_
      refine kget X hVB132 (ci := 12) inlX12 rfl 0 rfl 7 (by decide) mw_142 rfl dX12_keeps_133 ?_
      refine lv_iload_n hx hb dX12_keeps_136 rfl (lv_at hlB132 1 rfl) ?_
      refine lv_aload_n hx hb dX12_keeps_137 rfl (lv_at hlB132 0 rfl) ?_
      refine kget X hVB132 (ci := 12) inlX12 rfl 0 rfl 21 (by decide) mw_476 rfl dX12_keeps_138 ?_
      obtain ⟨hi9, g141_8, e10, h11⟩ := wrI_s hB132
      clear hB132
      refine kiast X hVB132 5 rfl hi9 e10 dX12_keeps_141 (fun H locs hV12 => ?_)
      have hV12 : kV E A s.heap H locs [(a0, .inr (12, [w0_0, w0_1, w0_2, w0_3, w0_4, w0_5, w0_6, .ref a5, .ref a11, .ref a3, .ref a4, .ref a1, .ref a2, .ref a9, .ref a8, .ref a10, .ref a7, .ref a6, w0_18, w0_19, w0_20, .int s_clauses, .int s_codes, w0_23, w0_24, w0_25, w0_26, w0_27, w0_28, w0_29, w0_30, w0_31, w0_32, w0_33, w0_34, w0_35, w0_36, w0_37, w0_38, w0_39, w0_40, w0_41, w0_42, w0_43, w0_44, w0_45, w0_46, w0_47, w0_48, w0_49, w0_50, w0_51, w0_52, w0_53, w0_54, w0_55, w0_56, w0_57, w0_58, w0_59, w0_60, w0_61, w0_62, w0_63, w0_64, w0_65, w0_66])), (a1, .inl (E.2 0, 2400, .inl code__6)), (a2, .inl (E.2 0, 2400, .inl codeArg__7)), (a3, .inl (E.2 0, 240, .inl codeFrom__2)), (a4, .inl (E.2 0, 240, .inl codeTo__3)), (a5, .inl (E.2 0, 20, .inl g141_8)), (a6, .inl (E.2 0, 120, .inl s_newArg)), (a7, .inl (E.2 0, 120, .inl s_newCode)), (a8, .inl (E.2 0, 12, .inl s_newFrom)), (a9, .inl (E.2 0, 12, .inl s_newSum)), (a10, .inl (E.2 0, 12, .inl s_newTo)), (a11, .inl (E.2 0, 240, .inl sumFrom__4))] := hV12
      clear hVB132 hi9 e10
      obtain ⟨q13, q14, q15, q16, q17, q18⟩ := tup6_s h11
      clear h11
      exact hret () _ _ _ _ trivial (by rw [← q13, ← q14, ← q15, ← q16, ← q17, ← q18]; exact hV12) dX12_keeps_142
    have L84 : ∀ (n84 : Nat) (x2_19 : Int32) (code__20 : Nat → Int32) (codeArg__21 : Nat → Int32) (H : Heap) (locs : List Loc) (ls : Array Slot), (f_X12_keeps_L84 s_codes s_newArg s_newCode p1 (f_X12_keeps_J132 s_clauses s_many p1 codeFrom__2 codeTo__3 sumFrom__4 ) n84) x2_19 code__20 codeArg__21 = some (o_code, o_codeArg, o_codeFrom, o_codeTo, o_many, o_sumFrom) → kV E A s.heap H locs [(a0, .inr (12, [w0_0, w0_1, w0_2, w0_3, w0_4, w0_5, w0_6, .ref a5, .ref a11, .ref a3, .ref a4, .ref a1, .ref a2, .ref a9, .ref a8, .ref a10, .ref a7, .ref a6, w0_18, w0_19, w0_20, .int s_clauses, .int s_codes, w0_23, w0_24, w0_25, w0_26, w0_27, w0_28, w0_29, w0_30, w0_31, w0_32, w0_33, w0_34, w0_35, w0_36, w0_37, w0_38, w0_39, w0_40, w0_41, w0_42, w0_43, w0_44, w0_45, w0_46, w0_47, w0_48, w0_49, w0_50, w0_51, w0_52, w0_53, w0_54, w0_55, w0_56, w0_57, w0_58, w0_59, w0_60, w0_61, w0_62, w0_63, w0_64, w0_65, w0_66])), (a1, .inl (E.2 0, 2400, .inl code__20)), (a2, .inl (E.2 0, 2400, .inl codeArg__21)), (a3, .inl (E.2 0, 240, .inl codeFrom__2)), (a4, .inl (E.2 0, 240, .inl codeTo__3)), (a5, .inl (E.2 0, 20, .inl s_many)), (a6, .inl (E.2 0, 120, .inl s_newArg)), (a7, .inl (E.2 0, 120, .inl s_newCode)), (a8, .inl (E.2 0, 12, .inl s_newFrom)), (a9, .inl (E.2 0, 12, .inl s_newSum)), (a10, .inl (E.2 0, 12, .inl s_newTo)), (a11, .inl (E.2 0, 240, .inl sumFrom__4))] → lv_has ls 3 [(0, .ref a0), (1, .int p1), (2, .int x2_19)] → W p l e r_X12_keeps s m args below meth c H locs 0 0 Q (F0 m 84 ls []) := by
      intro n84
      induction n84 with
      | zero =>
        intro x2_19 code__20 codeArg__21 H locs ls hB84 hVB84 hlB84
        rw [f_X12_keeps_L84] at hB84
        exact nomatch hB84
      | succ n84 ih84 =>
        intro x2_19 code__20 codeArg__21 H locs ls hB84 hVB84 hlB84
        rw [f_X12_keeps_L84] at hB84
        refine lv_iload_n hx hb dX12_keeps_84 rfl (lv_at hlB84 2 rfl) ?_
        refine lv_aload_n hx hb dX12_keeps_85 rfl (lv_at hlB84 0 rfl) ?_
        refine kget X hVB84 (ci := 12) inlX12 rfl 0 rfl 22 (by decide) mw_481 rfl dX12_keeps_86 ?_
        refine lv_icmp_ge (tgt := 132) hx hb dX12_keeps_89 (by decide) (fun c22 => ?_) (fun c22 => ?_)
        · have h23 := itS c22 hB84
          clear hB84 c22
          exact J132 code__20 codeArg__21 _ _ _ h23 hVB84 (lv_sub hlB84 [0, 1] rfl)
        · have h24 := ieS c22 hB84
          clear hB84 c22
          refine lv_aload_n hx hb dX12_keeps_92 rfl (lv_at hlB84 0 rfl) ?_
          refine kget X hVB84 (ci := 12) inlX12 rfl 0 rfl 11 (by decide) mw_146 rfl dX12_keeps_93 ?_
          refine lv_bipush (v := 120) hx hb dX12_keeps_96 (by decide) ?_
          refine lv_iload_n hx hb dX12_keeps_98 rfl (lv_at hlB84 1 rfl) ?_
          refine lv_imul hx hb dX12_keeps_99 ?_
          refine lv_iload_n hx hb dX12_keeps_100 rfl (lv_at hlB84 2 rfl) ?_
          refine lv_iadd hx hb dX12_keeps_101 ?_
          refine lv_aload_n hx hb dX12_keeps_102 rfl (lv_at hlB84 0 rfl) ?_
          refine kget X hVB84 (ci := 12) inlX12 rfl 0 rfl 16 (by decide) mw_151 rfl dX12_keeps_103 ?_
          refine lv_iload_n hx hb dX12_keeps_106 rfl (lv_at hlB84 2 rfl) ?_
          obtain ⟨hi26, v107_25, e27, h28⟩ := rdI_s h24
          clear h24
          refine kiald X hVB84 7 rfl hi26 e27 dX12_keeps_107 ?_
          clear hi26 e27
          obtain ⟨hi30, g108_29, e31, h32⟩ := wrI_s h28
          clear h28
          refine kiast X hVB84 1 rfl hi30 e31 dX12_keeps_108 (fun H locs hV33 => ?_)
          have hV33 : kV E A s.heap H locs [(a0, .inr (12, [w0_0, w0_1, w0_2, w0_3, w0_4, w0_5, w0_6, .ref a5, .ref a11, .ref a3, .ref a4, .ref a1, .ref a2, .ref a9, .ref a8, .ref a10, .ref a7, .ref a6, w0_18, w0_19, w0_20, .int s_clauses, .int s_codes, w0_23, w0_24, w0_25, w0_26, w0_27, w0_28, w0_29, w0_30, w0_31, w0_32, w0_33, w0_34, w0_35, w0_36, w0_37, w0_38, w0_39, w0_40, w0_41, w0_42, w0_43, w0_44, w0_45, w0_46, w0_47, w0_48, w0_49, w0_50, w0_51, w0_52, w0_53, w0_54, w0_55, w0_56, w0_57, w0_58, w0_59, w0_60, w0_61, w0_62, w0_63, w0_64, w0_65, w0_66])), (a1, .inl (E.2 0, 2400, .inl g108_29)), (a2, .inl (E.2 0, 2400, .inl codeArg__21)), (a3, .inl (E.2 0, 240, .inl codeFrom__2)), (a4, .inl (E.2 0, 240, .inl codeTo__3)), (a5, .inl (E.2 0, 20, .inl s_many)), (a6, .inl (E.2 0, 120, .inl s_newArg)), (a7, .inl (E.2 0, 120, .inl s_newCode)), (a8, .inl (E.2 0, 12, .inl s_newFrom)), (a9, .inl (E.2 0, 12, .inl s_newSum)), (a10, .inl (E.2 0, 12, .inl s_newTo)), (a11, .inl (E.2 0, 240, .inl sumFrom__4))] := hV33
          clear hVB84 hi30 e31
          refine lv_aload_n hx hb dX12_keeps_109 rfl (lv_at hlB84 0 rfl) ?_
          refine kget X hV33 (ci := 12) inlX12 rfl 0 rfl 12 (by decide) mw_147 rfl dX12_keeps_110 ?_
          refine lv_bipush (v := 120) hx hb dX12_keeps_113 (by decide) ?_
          refine lv_iload_n hx hb dX12_keeps_115 rfl (lv_at hlB84 1 rfl) ?_
          refine lv_imul hx hb dX12_keeps_116 ?_
          refine lv_iload_n hx hb dX12_keeps_117 rfl (lv_at hlB84 2 rfl) ?_
          refine lv_iadd hx hb dX12_keeps_118 ?_
          refine lv_aload_n hx hb dX12_keeps_119 rfl (lv_at hlB84 0 rfl) ?_
          refine kget X hV33 (ci := 12) inlX12 rfl 0 rfl 17 (by decide) mw_152 rfl dX12_keeps_120 ?_
          refine lv_iload_n hx hb dX12_keeps_123 rfl (lv_at hlB84 2 rfl) ?_
          obtain ⟨hi35, v124_34, e36, h37⟩ := rdI_s h32
          clear h32
          refine kiald X hV33 6 rfl hi35 e36 dX12_keeps_124 ?_
          clear hi35 e36
          obtain ⟨hi39, g125_38, e40, h41⟩ := wrI_s h37
          clear h37
          refine kiast X hV33 2 rfl hi39 e40 dX12_keeps_125 (fun H locs hV42 => ?_)
          have hV42 : kV E A s.heap H locs [(a0, .inr (12, [w0_0, w0_1, w0_2, w0_3, w0_4, w0_5, w0_6, .ref a5, .ref a11, .ref a3, .ref a4, .ref a1, .ref a2, .ref a9, .ref a8, .ref a10, .ref a7, .ref a6, w0_18, w0_19, w0_20, .int s_clauses, .int s_codes, w0_23, w0_24, w0_25, w0_26, w0_27, w0_28, w0_29, w0_30, w0_31, w0_32, w0_33, w0_34, w0_35, w0_36, w0_37, w0_38, w0_39, w0_40, w0_41, w0_42, w0_43, w0_44, w0_45, w0_46, w0_47, w0_48, w0_49, w0_50, w0_51, w0_52, w0_53, w0_54, w0_55, w0_56, w0_57, w0_58, w0_59, w0_60, w0_61, w0_62, w0_63, w0_64, w0_65, w0_66])), (a1, .inl (E.2 0, 2400, .inl g108_29)), (a2, .inl (E.2 0, 2400, .inl g125_38)), (a3, .inl (E.2 0, 240, .inl codeFrom__2)), (a4, .inl (E.2 0, 240, .inl codeTo__3)), (a5, .inl (E.2 0, 20, .inl s_many)), (a6, .inl (E.2 0, 120, .inl s_newArg)), (a7, .inl (E.2 0, 120, .inl s_newCode)), (a8, .inl (E.2 0, 12, .inl s_newFrom)), (a9, .inl (E.2 0, 12, .inl s_newSum)), (a10, .inl (E.2 0, 12, .inl s_newTo)), (a11, .inl (E.2 0, 240, .inl sumFrom__4))] := hV42
          clear hV33 hi39 e40
          obtain ⟨v126_43, e44, h45⟩ := nmI_s h41
          clear h41
          refine lv_iinc (v := v126_43) (lv' := [(2, .int v126_43), (0, .ref a0), (1, .int p1)]) hx hb dX12_keeps_126 hlB84 (k := 2) rfl (by rw [e44]; rfl) (by decide) rfl (fun ls hl46 => ?_)
          clear hlB84 e44
          refine lv_goto (tgt := 84) hx hb dX12_keeps_129 (by decide) ?_
          exact ih84 v126_43 g108_29 g125_38 _ _ _ h45 hV42 (lv_sub hl46 [1, 2, 0] rfl)
    exact L84 FU 0 s_code s_codeArg _ _ _ hB82 hVB82 (lv_sub hl5 [1, 2, 0] rfl)
  have L2 : ∀ (n2 : Nat) (x2_47 : Int32) (codeFrom__48 : Nat → Int32) (codeTo__49 : Nat → Int32) (sumFrom__50 : Nat → Int32) (H : Heap) (locs : List Loc) (ls : Array Slot), (f_X12_keeps_L2 s_clauses s_newFrom s_newSum s_newTo p1 (f_X12_keeps_J82 s_clauses s_codes s_code s_codeArg s_many s_newArg s_newCode p1 ) n2) x2_47 codeFrom__48 codeTo__49 sumFrom__50 = some (o_code, o_codeArg, o_codeFrom, o_codeTo, o_many, o_sumFrom) → kV E A s.heap H locs [(a0, .inr (12, [w0_0, w0_1, w0_2, w0_3, w0_4, w0_5, w0_6, .ref a5, .ref a11, .ref a3, .ref a4, .ref a1, .ref a2, .ref a9, .ref a8, .ref a10, .ref a7, .ref a6, w0_18, w0_19, w0_20, .int s_clauses, .int s_codes, w0_23, w0_24, w0_25, w0_26, w0_27, w0_28, w0_29, w0_30, w0_31, w0_32, w0_33, w0_34, w0_35, w0_36, w0_37, w0_38, w0_39, w0_40, w0_41, w0_42, w0_43, w0_44, w0_45, w0_46, w0_47, w0_48, w0_49, w0_50, w0_51, w0_52, w0_53, w0_54, w0_55, w0_56, w0_57, w0_58, w0_59, w0_60, w0_61, w0_62, w0_63, w0_64, w0_65, w0_66])), (a1, .inl (E.2 0, 2400, .inl s_code)), (a2, .inl (E.2 0, 2400, .inl s_codeArg)), (a3, .inl (E.2 0, 240, .inl codeFrom__48)), (a4, .inl (E.2 0, 240, .inl codeTo__49)), (a5, .inl (E.2 0, 20, .inl s_many)), (a6, .inl (E.2 0, 120, .inl s_newArg)), (a7, .inl (E.2 0, 120, .inl s_newCode)), (a8, .inl (E.2 0, 12, .inl s_newFrom)), (a9, .inl (E.2 0, 12, .inl s_newSum)), (a10, .inl (E.2 0, 12, .inl s_newTo)), (a11, .inl (E.2 0, 240, .inl sumFrom__50))] → lv_has ls 3 [(0, .ref a0), (1, .int p1), (2, .int x2_47)] → W p l e r_X12_keeps s m args below meth c H locs 0 0 Q (F0 m 2 ls []) := by
    intro n2
    induction n2 with
    | zero =>
      intro x2_47 codeFrom__48 codeTo__49 sumFrom__50 H locs ls hB2 hVB2 hlB2
      rw [f_X12_keeps_L2] at hB2
      exact nomatch hB2
    | succ n2 ih2 =>
      intro x2_47 codeFrom__48 codeTo__49 sumFrom__50 H locs ls hB2 hVB2 hlB2
      rw [f_X12_keeps_L2] at hB2
      refine lv_iload_n hx hb dX12_keeps_2 rfl (lv_at hlB2 2 rfl) ?_
      refine lv_aload_n hx hb dX12_keeps_3 rfl (lv_at hlB2 0 rfl) ?_
      refine kget X hVB2 (ci := 12) inlX12 rfl 0 rfl 21 (by decide) mw_476 rfl dX12_keeps_4 ?_
      refine lv_icmp_ge (tgt := 82) hx hb dX12_keeps_7 (by decide) (fun c51 => ?_) (fun c51 => ?_)
      · have h52 := itS c51 hB2
        clear hB2 c51
        exact J82 codeFrom__48 codeTo__49 sumFrom__50 _ _ _ h52 hVB2 (lv_sub hlB2 [0, 1] rfl)
      · have h53 := ieS c51 hB2
        clear hB2 c51
        refine lv_aload_n hx hb dX12_keeps_10 rfl (lv_at hlB2 0 rfl) ?_
        refine kget X hVB2 (ci := 12) inlX12 rfl 0 rfl 8 (by decide) mw_143 rfl dX12_keeps_11 ?_
        refine lv_bipush (v := 12) hx hb dX12_keeps_14 (by decide) ?_
        refine lv_iload_n hx hb dX12_keeps_16 rfl (lv_at hlB2 1 rfl) ?_
        refine lv_imul hx hb dX12_keeps_17 ?_
        refine lv_iload_n hx hb dX12_keeps_18 rfl (lv_at hlB2 2 rfl) ?_
        refine lv_iadd hx hb dX12_keeps_19 ?_
        refine lv_bipush (v := 120) hx hb dX12_keeps_20 (by decide) ?_
        refine lv_iload_n hx hb dX12_keeps_22 rfl (lv_at hlB2 1 rfl) ?_
        refine lv_imul hx hb dX12_keeps_23 ?_
        refine lv_aload_n hx hb dX12_keeps_24 rfl (lv_at hlB2 0 rfl) ?_
        refine kget X hVB2 (ci := 12) inlX12 rfl 0 rfl 13 (by decide) mw_148 rfl dX12_keeps_25 ?_
        refine lv_iload_n hx hb dX12_keeps_28 rfl (lv_at hlB2 2 rfl) ?_
        obtain ⟨hi55, v29_54, e56, h57⟩ := rdI_s h53
        clear h53
        refine kiald X hVB2 9 rfl hi55 e56 dX12_keeps_29 ?_
        clear hi55 e56
        refine lv_iadd hx hb dX12_keeps_30 ?_
        obtain ⟨v31_58, e59, h60⟩ := nmI_s h57
        clear h57
        refine ktopi e59 ?_
        clear e59
        obtain ⟨hi62, g31_61, e63, h64⟩ := wrI_s h60
        clear h60
        refine kiast X hVB2 11 rfl hi62 e63 dX12_keeps_31 (fun H locs hV65 => ?_)
        have hV65 : kV E A s.heap H locs [(a0, .inr (12, [w0_0, w0_1, w0_2, w0_3, w0_4, w0_5, w0_6, .ref a5, .ref a11, .ref a3, .ref a4, .ref a1, .ref a2, .ref a9, .ref a8, .ref a10, .ref a7, .ref a6, w0_18, w0_19, w0_20, .int s_clauses, .int s_codes, w0_23, w0_24, w0_25, w0_26, w0_27, w0_28, w0_29, w0_30, w0_31, w0_32, w0_33, w0_34, w0_35, w0_36, w0_37, w0_38, w0_39, w0_40, w0_41, w0_42, w0_43, w0_44, w0_45, w0_46, w0_47, w0_48, w0_49, w0_50, w0_51, w0_52, w0_53, w0_54, w0_55, w0_56, w0_57, w0_58, w0_59, w0_60, w0_61, w0_62, w0_63, w0_64, w0_65, w0_66])), (a1, .inl (E.2 0, 2400, .inl s_code)), (a2, .inl (E.2 0, 2400, .inl s_codeArg)), (a3, .inl (E.2 0, 240, .inl codeFrom__48)), (a4, .inl (E.2 0, 240, .inl codeTo__49)), (a5, .inl (E.2 0, 20, .inl s_many)), (a6, .inl (E.2 0, 120, .inl s_newArg)), (a7, .inl (E.2 0, 120, .inl s_newCode)), (a8, .inl (E.2 0, 12, .inl s_newFrom)), (a9, .inl (E.2 0, 12, .inl s_newSum)), (a10, .inl (E.2 0, 12, .inl s_newTo)), (a11, .inl (E.2 0, 240, .inl g31_61))] := hV65
        clear hVB2 hi62 e63
        refine lv_aload_n hx hb dX12_keeps_32 rfl (lv_at hlB2 0 rfl) ?_
        refine kget X hV65 (ci := 12) inlX12 rfl 0 rfl 9 (by decide) mw_144 rfl dX12_keeps_33 ?_
        refine lv_bipush (v := 12) hx hb dX12_keeps_36 (by decide) ?_
        refine lv_iload_n hx hb dX12_keeps_38 rfl (lv_at hlB2 1 rfl) ?_
        refine lv_imul hx hb dX12_keeps_39 ?_
        refine lv_iload_n hx hb dX12_keeps_40 rfl (lv_at hlB2 2 rfl) ?_
        refine lv_iadd hx hb dX12_keeps_41 ?_
        refine lv_bipush (v := 120) hx hb dX12_keeps_42 (by decide) ?_
        refine lv_iload_n hx hb dX12_keeps_44 rfl (lv_at hlB2 1 rfl) ?_
        refine lv_imul hx hb dX12_keeps_45 ?_
        refine lv_aload_n hx hb dX12_keeps_46 rfl (lv_at hlB2 0 rfl) ?_
        refine kget X hV65 (ci := 12) inlX12 rfl 0 rfl 14 (by decide) mw_149 rfl dX12_keeps_47 ?_
        refine lv_iload_n hx hb dX12_keeps_50 rfl (lv_at hlB2 2 rfl) ?_
        obtain ⟨hi67, v51_66, e68, h69⟩ := rdI_s h64
        clear h64
        refine kiald X hV65 8 rfl hi67 e68 dX12_keeps_51 ?_
        clear hi67 e68
        refine lv_iadd hx hb dX12_keeps_52 ?_
        obtain ⟨v53_70, e71, h72⟩ := nmI_s h69
        clear h69
        refine ktopi e71 ?_
        clear e71
        obtain ⟨hi74, g53_73, e75, h76⟩ := wrI_s h72
        clear h72
        refine kiast X hV65 3 rfl hi74 e75 dX12_keeps_53 (fun H locs hV77 => ?_)
        have hV77 : kV E A s.heap H locs [(a0, .inr (12, [w0_0, w0_1, w0_2, w0_3, w0_4, w0_5, w0_6, .ref a5, .ref a11, .ref a3, .ref a4, .ref a1, .ref a2, .ref a9, .ref a8, .ref a10, .ref a7, .ref a6, w0_18, w0_19, w0_20, .int s_clauses, .int s_codes, w0_23, w0_24, w0_25, w0_26, w0_27, w0_28, w0_29, w0_30, w0_31, w0_32, w0_33, w0_34, w0_35, w0_36, w0_37, w0_38, w0_39, w0_40, w0_41, w0_42, w0_43, w0_44, w0_45, w0_46, w0_47, w0_48, w0_49, w0_50, w0_51, w0_52, w0_53, w0_54, w0_55, w0_56, w0_57, w0_58, w0_59, w0_60, w0_61, w0_62, w0_63, w0_64, w0_65, w0_66])), (a1, .inl (E.2 0, 2400, .inl s_code)), (a2, .inl (E.2 0, 2400, .inl s_codeArg)), (a3, .inl (E.2 0, 240, .inl g53_73)), (a4, .inl (E.2 0, 240, .inl codeTo__49)), (a5, .inl (E.2 0, 20, .inl s_many)), (a6, .inl (E.2 0, 120, .inl s_newArg)), (a7, .inl (E.2 0, 120, .inl s_newCode)), (a8, .inl (E.2 0, 12, .inl s_newFrom)), (a9, .inl (E.2 0, 12, .inl s_newSum)), (a10, .inl (E.2 0, 12, .inl s_newTo)), (a11, .inl (E.2 0, 240, .inl g31_61))] := hV77
        clear hV65 hi74 e75
        refine lv_aload_n hx hb dX12_keeps_54 rfl (lv_at hlB2 0 rfl) ?_
        refine kget X hV77 (ci := 12) inlX12 rfl 0 rfl 10 (by decide) mw_145 rfl dX12_keeps_55 ?_
        refine lv_bipush (v := 12) hx hb dX12_keeps_58 (by decide) ?_
        refine lv_iload_n hx hb dX12_keeps_60 rfl (lv_at hlB2 1 rfl) ?_
        refine lv_imul hx hb dX12_keeps_61 ?_
        refine lv_iload_n hx hb dX12_keeps_62 rfl (lv_at hlB2 2 rfl) ?_
        refine lv_iadd hx hb dX12_keeps_63 ?_
        refine lv_bipush (v := 120) hx hb dX12_keeps_64 (by decide) ?_
        refine lv_iload_n hx hb dX12_keeps_66 rfl (lv_at hlB2 1 rfl) ?_
        refine lv_imul hx hb dX12_keeps_67 ?_
        refine lv_aload_n hx hb dX12_keeps_68 rfl (lv_at hlB2 0 rfl) ?_
        refine kget X hV77 (ci := 12) inlX12 rfl 0 rfl 15 (by decide) mw_150 rfl dX12_keeps_69 ?_
        refine lv_iload_n hx hb dX12_keeps_72 rfl (lv_at hlB2 2 rfl) ?_
        obtain ⟨hi79, v73_78, e80, h81⟩ := rdI_s h76
        clear h76
        refine kiald X hV77 10 rfl hi79 e80 dX12_keeps_73 ?_
        clear hi79 e80
        refine lv_iadd hx hb dX12_keeps_74 ?_
        obtain ⟨v75_82, e83, h84⟩ := nmI_s h81
        clear h81
        refine ktopi e83 ?_
        clear e83
        obtain ⟨hi86, g75_85, e87, h88⟩ := wrI_s h84
        clear h84
        refine kiast X hV77 4 rfl hi86 e87 dX12_keeps_75 (fun H locs hV89 => ?_)
        have hV89 : kV E A s.heap H locs [(a0, .inr (12, [w0_0, w0_1, w0_2, w0_3, w0_4, w0_5, w0_6, .ref a5, .ref a11, .ref a3, .ref a4, .ref a1, .ref a2, .ref a9, .ref a8, .ref a10, .ref a7, .ref a6, w0_18, w0_19, w0_20, .int s_clauses, .int s_codes, w0_23, w0_24, w0_25, w0_26, w0_27, w0_28, w0_29, w0_30, w0_31, w0_32, w0_33, w0_34, w0_35, w0_36, w0_37, w0_38, w0_39, w0_40, w0_41, w0_42, w0_43, w0_44, w0_45, w0_46, w0_47, w0_48, w0_49, w0_50, w0_51, w0_52, w0_53, w0_54, w0_55, w0_56, w0_57, w0_58, w0_59, w0_60, w0_61, w0_62, w0_63, w0_64, w0_65, w0_66])), (a1, .inl (E.2 0, 2400, .inl s_code)), (a2, .inl (E.2 0, 2400, .inl s_codeArg)), (a3, .inl (E.2 0, 240, .inl g53_73)), (a4, .inl (E.2 0, 240, .inl g75_85)), (a5, .inl (E.2 0, 20, .inl s_many)), (a6, .inl (E.2 0, 120, .inl s_newArg)), (a7, .inl (E.2 0, 120, .inl s_newCode)), (a8, .inl (E.2 0, 12, .inl s_newFrom)), (a9, .inl (E.2 0, 12, .inl s_newSum)), (a10, .inl (E.2 0, 12, .inl s_newTo)), (a11, .inl (E.2 0, 240, .inl g31_61))] := hV89
        clear hV77 hi86 e87
        obtain ⟨v76_90, e91, h92⟩ := nmI_s h88
        clear h88
        refine lv_iinc (v := v76_90) (lv' := [(2, .int v76_90), (0, .ref a0), (1, .int p1)]) hx hb dX12_keeps_76 hlB2 (k := 2) rfl (by rw [e91]; rfl) (by decide) rfl (fun ls hl93 => ?_)
        clear hlB2 e91
        refine lv_goto (tgt := 2) hx hb dX12_keeps_79 (by decide) ?_
        exact ih2 v76_90 g53_73 g75_85 g31_61 _ _ _ h92 hV89 (lv_sub hl93 [1, 2, 0] rfl)
  exact L2 FU 0 s_codeFrom s_codeTo s_sumFrom _ _ _ h hV (lv_sub hl1 [1, 2, 0] rfl)
