abbrev r_X12_ends : Room := { frames := 2, cells := 0, slots := 0, locals := 42 }
set_option maxHeartbeats 4000000 in
set_option maxRecDepth 100000 in
theorem c_X12_ends (l : Launch) (E : kE) (sz : Nat) (a0 a1 a2 a3 : Nat) (w0_0 w0_1 w0_2 w0_3 w0_4 w0_5 w0_6 w0_7 w0_8 w0_9 w0_10 w0_11 w0_12 w0_13 w0_14 w0_15 w0_18 w0_19 w0_21 w0_25 w0_26 w0_28 w0_29 w0_30 w0_31 w0_32 w0_33 w0_34 w0_35 w0_36 w0_37 w0_38 w0_39 w0_40 w0_41 w0_42 w0_43 w0_44 w0_45 w0_46 w0_47 w0_48 w0_49 w0_50 w0_51 w0_52 w0_53 w0_54 w0_55 w0_56 w0_57 w0_58 w0_59 w0_60 w0_61 w0_62 w0_63 w0_64 w0_65 w0_66 : Value) (s_bad : Int32) (s_codes : Int32) (s_open : Int32) (s_stacked : Int32) (s_newArg : Nat → Int32) (s_newCode : Nat → Int32) (s_stack : Nat → Int32) (o_codes : Int32) (o_open : Int32) (o_stacked : Int32) (o_newArg : Nat → Int32) (o_newCode : Nat → Int32) (h : f_X12_ends s_bad s_codes s_open s_stacked s_newArg s_newCode s_stack = some (o_codes, o_open, o_stacked, o_newArg, o_newCode)) : kMv l yX12_ends cX12_ends 1 r_X12_ends [.ref a0] E [(a0, .inr (12, [w0_0, w0_1, w0_2, w0_3, w0_4, w0_5, w0_6, w0_7, w0_8, w0_9, w0_10, w0_11, w0_12, w0_13, w0_14, w0_15, .ref a2, .ref a1, w0_18, w0_19, .int s_bad, w0_21, .int s_codes, .int s_open, .int s_stacked, w0_25, w0_26, .ref a3, w0_28, w0_29, w0_30, w0_31, w0_32, w0_33, w0_34, w0_35, w0_36, w0_37, w0_38, w0_39, w0_40, w0_41, w0_42, w0_43, w0_44, w0_45, w0_46, w0_47, w0_48, w0_49, w0_50, w0_51, w0_52, w0_53, w0_54, w0_55, w0_56, w0_57, w0_58, w0_59, w0_60, w0_61, w0_62, w0_63, w0_64, w0_65, w0_66])), (a1, .inl (E.2 0, 120, .inl s_newArg)), (a2, .inl (E.2 0, 120, .inl s_newCode)), (a3, .inl (E.2 0, 160, .inl s_stack))] sz 0 0 (fun (_ : Unit) => True) (fun _ => [(a0, .inr (12, [w0_0, w0_1, w0_2, w0_3, w0_4, w0_5, w0_6, w0_7, w0_8, w0_9, w0_10, w0_11, w0_12, w0_13, w0_14, w0_15, .ref a2, .ref a1, w0_18, w0_19, .int s_bad, w0_21, .int o_codes, .int o_open, .int o_stacked, w0_25, w0_26, .ref a3, w0_28, w0_29, w0_30, w0_31, w0_32, w0_33, w0_34, w0_35, w0_36, w0_37, w0_38, w0_39, w0_40, w0_41, w0_42, w0_43, w0_44, w0_45, w0_46, w0_47, w0_48, w0_49, w0_50, w0_51, w0_52, w0_53, w0_54, w0_55, w0_56, w0_57, w0_58, w0_59, w0_60, w0_61, w0_62, w0_63, w0_64, w0_65, w0_66])), (a1, .inl (E.2 0, 120, .inl o_newArg)), (a2, .inl (E.2 0, 120, .inl o_newCode)), (a3, .inl (E.2 0, 160, .inl s_stack))]) := by
  refine kmetv rfl (Nat.le_of_ble_eq_true rfl) ?_
  intro p e s m args below meth c ls A Q X hnm hV hret hl
  have X : kC p s m c cX12_ends 1 RX12 args E A := X
  have hx := X.1
  have hb := X.2.1
  have hl : lv_has ls 1 [(0, .ref a0)] := hl
  rw [f_X12_ends] at h
  have L0 : ∀ (n0 : Nat) (codes__1 : Int32) (open__2 : Int32) (stacked__3 : Int32) (newArg__4 : Nat → Int32) (newCode__5 : Nat → Int32) (H : Heap) (locs : List Loc) (ls : Array Slot), (f_X12_ends_L0 s_bad s_stack  n0) codes__1 open__2 stacked__3 newArg__4 newCode__5 = some (o_codes, o_open, o_stacked, o_newArg, o_newCode) → kV E A s.heap H locs [(a0, .inr (12, [w0_0, w0_1, w0_2, w0_3, w0_4, w0_5, w0_6, w0_7, w0_8, w0_9, w0_10, w0_11, w0_12, w0_13, w0_14, w0_15, .ref a2, .ref a1, w0_18, w0_19, .int s_bad, w0_21, .int codes__1, .int open__2, .int stacked__3, w0_25, w0_26, .ref a3, w0_28, w0_29, w0_30, w0_31, w0_32, w0_33, w0_34, w0_35, w0_36, w0_37, w0_38, w0_39, w0_40, w0_41, w0_42, w0_43, w0_44, w0_45, w0_46, w0_47, w0_48, w0_49, w0_50, w0_51, w0_52, w0_53, w0_54, w0_55, w0_56, w0_57, w0_58, w0_59, w0_60, w0_61, w0_62, w0_63, w0_64, w0_65, w0_66])), (a1, .inl (E.2 0, 120, .inl newArg__4)), (a2, .inl (E.2 0, 120, .inl newCode__5)), (a3, .inl (E.2 0, 160, .inl s_stack))] → lv_has ls 1 [(0, .ref a0)] → W p l e r_X12_ends s m args below meth c H locs 0 0 Q (F0 m 0 ls []) := by
    intro n0
    induction n0 with
    | zero =>
      intro codes__1 open__2 stacked__3 newArg__4 newCode__5 H locs ls hB0 hVB0 hlB0
      rw [f_X12_ends_L0] at hB0
      exact nomatch hB0
    | succ n0 ih0 =>
      intro codes__1 open__2 stacked__3 newArg__4 newCode__5 H locs ls hB0 hVB0 hlB0
      rw [f_X12_ends_L0] at hB0
      refine lv_aload_n hx hb dX12_ends_0 rfl (lv_at hlB0 0 rfl) ?_
      obtain ⟨r1_6, hc7, h8⟩ := cb1_s hB0
      clear hB0
      refine kgoiE (krunV (rest := []) X hVB0 [0, 3] (c_X12_top l E _ a0 a3 (w0_0) (w0_1) (w0_2) (w0_3) (w0_4) (w0_5) (w0_6) (w0_7) (w0_8) (w0_9) (w0_10) (w0_11) (w0_12) (w0_13) (w0_14) (w0_15) (.ref a2) (.ref a1) (w0_18) (w0_19) (.int s_bad) (w0_21) (.int codes__1) (.int open__2) (w0_25) (w0_26) (w0_28) (w0_29) (w0_30) (w0_31) (w0_32) (w0_33) (w0_34) (w0_35) (w0_36) (w0_37) (w0_38) (w0_39) (w0_40) (w0_41) (w0_42) (w0_43) (w0_44) (w0_45) (w0_46) (w0_47) (w0_48) (w0_49) (w0_50) (w0_51) (w0_52) (w0_53) (w0_54) (w0_55) (w0_56) (w0_57) (w0_58) (w0_59) (w0_60) (w0_61) (w0_62) (w0_63) (w0_64) (w0_65) (w0_66) stacked__3 s_stack r1_6 hc7) mw_548 kb_X12_top (ci := 12) rfl rfl (by decide) rfl rfl hlB0.1 rfl (Nat.le_of_ble_eq_true rfl) dX12_ends_1 (by decide)) X hVB0 [0, 3] [1, 2] rfl rfl rfl (by decide) (fun u H locs hV9 => ?_)
      have hV9 : kV E A s.heap H locs [(a0, .inr (12, [w0_0, w0_1, w0_2, w0_3, w0_4, w0_5, w0_6, w0_7, w0_8, w0_9, w0_10, w0_11, w0_12, w0_13, w0_14, w0_15, .ref a2, .ref a1, w0_18, w0_19, .int s_bad, w0_21, .int codes__1, .int open__2, .int stacked__3, w0_25, w0_26, .ref a3, w0_28, w0_29, w0_30, w0_31, w0_32, w0_33, w0_34, w0_35, w0_36, w0_37, w0_38, w0_39, w0_40, w0_41, w0_42, w0_43, w0_44, w0_45, w0_46, w0_47, w0_48, w0_49, w0_50, w0_51, w0_52, w0_53, w0_54, w0_55, w0_56, w0_57, w0_58, w0_59, w0_60, w0_61, w0_62, w0_63, w0_64, w0_65, w0_66])), (a1, .inl (E.2 0, 120, .inl newArg__4)), (a2, .inl (E.2 0, 120, .inl newCode__5)), (a3, .inl (E.2 0, 160, .inl s_stack))] := hV9.sub [2, 0, 1, 3] rfl rfl
      clear hVB0
      refine lv_bipush (v := 33) hx hb dX12_ends_4 (by decide) ?_
      refine lv_icmp_ne (tgt := 38) hx hb dX12_ends_6 (by decide) (fun c11 => ?_) (fun c11 => ?_)
      · have h12 := ieS c11 h8
        clear h8 c11
        obtain ⟨q14, q15, q16, q17, q18⟩ := tup5_s h12
        clear h12
        exact hret () _ _ _ _ trivial (by rw [← q14, ← q15, ← q16, ← q17, ← q18]; exact hV9) dX12_ends_38
      · have h13 := itS c11 h8
        clear h8 c11
        refine lv_aload_n hx hb dX12_ends_9 rfl (lv_at hlB0 0 rfl) ?_
        refine lv_iconst (v := 2) hx hb dX12_ends_10 (by decide) ?_
        refine lv_iconst (v := 0) hx hb dX12_ends_11 (by decide) ?_
        obtain ⟨o_codes12_19, o_newArg12_20, o_newCode12_21, hc22, h23⟩ := cb3_s h13
        clear h13
        refine kgov (krunV (rest := []) X hV9 [0, 1, 2] (c_X12_emit l E _ a0 a1 a2 (w0_0) (w0_1) (w0_2) (w0_3) (w0_4) (w0_5) (w0_6) (w0_7) (w0_8) (w0_9) (w0_10) (w0_11) (w0_12) (w0_13) (w0_14) (w0_15) (w0_18) (w0_19) (w0_21) (.int open__2) (.int stacked__3) (w0_25) (w0_26) (.ref a3) (w0_28) (w0_29) (w0_30) (w0_31) (w0_32) (w0_33) (w0_34) (w0_35) (w0_36) (w0_37) (w0_38) (w0_39) (w0_40) (w0_41) (w0_42) (w0_43) (w0_44) (w0_45) (w0_46) (w0_47) (w0_48) (w0_49) (w0_50) (w0_51) (w0_52) (w0_53) (w0_54) (w0_55) (w0_56) (w0_57) (w0_58) (w0_59) (w0_60) (w0_61) (w0_62) (w0_63) (w0_64) (w0_65) (w0_66) s_bad codes__1 newArg__4 newCode__5 2 0 o_codes12_19 o_newArg12_20 o_newCode12_21 hc22) mw_527 kb_X12_emit (ci := 12) rfl rfl (by decide) rfl rfl hlB0.1 rfl (Nat.le_of_ble_eq_true rfl) dX12_ends_12 (by decide)) X hV9 [0, 1, 2] [3] rfl rfl rfl (by decide) (fun u H locs hp25 hV24 => ?_)
        have hV24 : kV E A s.heap H locs [(a0, .inr (12, [w0_0, w0_1, w0_2, w0_3, w0_4, w0_5, w0_6, w0_7, w0_8, w0_9, w0_10, w0_11, w0_12, w0_13, w0_14, w0_15, .ref a2, .ref a1, w0_18, w0_19, .int s_bad, w0_21, .int o_codes12_19, .int open__2, .int stacked__3, w0_25, w0_26, .ref a3, w0_28, w0_29, w0_30, w0_31, w0_32, w0_33, w0_34, w0_35, w0_36, w0_37, w0_38, w0_39, w0_40, w0_41, w0_42, w0_43, w0_44, w0_45, w0_46, w0_47, w0_48, w0_49, w0_50, w0_51, w0_52, w0_53, w0_54, w0_55, w0_56, w0_57, w0_58, w0_59, w0_60, w0_61, w0_62, w0_63, w0_64, w0_65, w0_66])), (a1, .inl (E.2 0, 120, .inl o_newArg12_20)), (a2, .inl (E.2 0, 120, .inl o_newCode12_21)), (a3, .inl (E.2 0, 160, .inl s_stack))] := hV24.sub [1, 2, 3, 0] rfl rfl
        clear hV9
        refine lv_aload_n hx hb dX12_ends_15 rfl (lv_at hlB0 0 rfl) ?_
        refine lv_dup hx hb dX12_ends_16 rfl ?_
        refine kget X hV24 (ci := 12) inlX12 rfl 0 rfl 24 (by decide) mw_482 rfl dX12_ends_17 ?_
        refine lv_iconst (v := 1) hx hb dX12_ends_20 (by decide) ?_
        refine lv_isub hx hb dX12_ends_21 ?_
        obtain ⟨v22_26, e27, h28⟩ := nmI_s h23
        clear h23
        refine ktopi e27 ?_
        clear e27
        refine kput X hV24 (ci := 12) inlX12 rfl tyX12 tyX12_ok nmX12 0 rfl 24 (by decide) mw_482 rfl rfl rfl (Nat.le_of_ble_eq_true rfl) dX12_ends_22 (fun H locs hV29 => ?_)
        have hV29 : kV E A s.heap H locs [(a0, .inr (12, [w0_0, w0_1, w0_2, w0_3, w0_4, w0_5, w0_6, w0_7, w0_8, w0_9, w0_10, w0_11, w0_12, w0_13, w0_14, w0_15, .ref a2, .ref a1, w0_18, w0_19, .int s_bad, w0_21, .int o_codes12_19, .int open__2, .int v22_26, w0_25, w0_26, .ref a3, w0_28, w0_29, w0_30, w0_31, w0_32, w0_33, w0_34, w0_35, w0_36, w0_37, w0_38, w0_39, w0_40, w0_41, w0_42, w0_43, w0_44, w0_45, w0_46, w0_47, w0_48, w0_49, w0_50, w0_51, w0_52, w0_53, w0_54, w0_55, w0_56, w0_57, w0_58, w0_59, w0_60, w0_61, w0_62, w0_63, w0_64, w0_65, w0_66])), (a1, .inl (E.2 0, 120, .inl o_newArg12_20)), (a2, .inl (E.2 0, 120, .inl o_newCode12_21)), (a3, .inl (E.2 0, 160, .inl s_stack))] := hV29
        clear hV24
        refine lv_aload_n hx hb dX12_ends_25 rfl (lv_at hlB0 0 rfl) ?_
        refine lv_dup hx hb dX12_ends_26 rfl ?_
        refine kget X hV29 (ci := 12) inlX12 rfl 0 rfl 23 (by decide) mw_483 rfl dX12_ends_27 ?_
        refine lv_iconst (v := 1) hx hb dX12_ends_30 (by decide) ?_
        refine lv_isub hx hb dX12_ends_31 ?_
        obtain ⟨v32_30, e31, h32⟩ := nmI_s h28
        clear h28
        refine ktopi e31 ?_
        clear e31
        refine kput X hV29 (ci := 12) inlX12 rfl tyX12 tyX12_ok nmX12 0 rfl 23 (by decide) mw_483 rfl rfl rfl (Nat.le_of_ble_eq_true rfl) dX12_ends_32 (fun H locs hV33 => ?_)
        have hV33 : kV E A s.heap H locs [(a0, .inr (12, [w0_0, w0_1, w0_2, w0_3, w0_4, w0_5, w0_6, w0_7, w0_8, w0_9, w0_10, w0_11, w0_12, w0_13, w0_14, w0_15, .ref a2, .ref a1, w0_18, w0_19, .int s_bad, w0_21, .int o_codes12_19, .int v32_30, .int v22_26, w0_25, w0_26, .ref a3, w0_28, w0_29, w0_30, w0_31, w0_32, w0_33, w0_34, w0_35, w0_36, w0_37, w0_38, w0_39, w0_40, w0_41, w0_42, w0_43, w0_44, w0_45, w0_46, w0_47, w0_48, w0_49, w0_50, w0_51, w0_52, w0_53, w0_54, w0_55, w0_56, w0_57, w0_58, w0_59, w0_60, w0_61, w0_62, w0_63, w0_64, w0_65, w0_66])), (a1, .inl (E.2 0, 120, .inl o_newArg12_20)), (a2, .inl (E.2 0, 120, .inl o_newCode12_21)), (a3, .inl (E.2 0, 160, .inl s_stack))] := hV33
        clear hV29
        refine lv_goto (tgt := 0) hx hb dX12_ends_35 (by decide) ?_
        exact ih0 o_codes12_19 v32_30 v22_26 o_newArg12_20 o_newCode12_21 _ _ _ h32 hV33 (lv_sub hlB0 [0] rfl)
  exact L0 FU s_codes s_open s_stacked s_newArg s_newCode _ _ _ h hV (lv_sub hl [0] rfl)
abbrev r_X12_factor : Room := { frames := 3, cells := 0, slots := 0, locals := 67 }
set_option maxHeartbeats 4000000 in
set_option maxRecDepth 100000 in
theorem c_X12_factor (l : Launch) (E : kE) (sz : Nat) (a0 a1 a2 a3 a4 : Nat) (w0_1 w0_2 w0_3 w0_4 w0_5 w0_6 w0_7 w0_8 w0_9 w0_10 w0_11 w0_12 w0_13 w0_14 w0_15 w0_21 w0_25 w0_26 w0_28 w0_29 w0_30 w0_31 w0_32 w0_33 w0_34 w0_35 w0_36 w0_37 w0_38 w0_39 w0_40 w0_41 w0_42 w0_43 w0_44 w0_45 w0_46 w0_47 w0_48 w0_49 w0_50 w0_51 w0_52 w0_53 w0_54 w0_55 w0_56 w0_57 w0_58 w0_59 w0_60 w0_61 w0_62 w0_63 w0_64 w0_65 w0_66 : Value) (s_place : Int32) (s_end : Int32) (s_bad : Int32) (s_codes : Int32) (s_open : Int32) (s_stacked : Int32) (s_newArg : Nat → Int32) (s_newCode : Nat → Int32) (s_stack : Nat → Int32) (s_tape : Nat → Int32) (o_place : Int32) (o_bad : Int32) (o_codes : Int32) (o_open : Int32) (o_stacked : Int32) (o_newArg : Nat → Int32) (o_newCode : Nat → Int32) (o_stack : Nat → Int32) (h : f_X12_factor s_place s_end s_bad s_codes s_open s_stacked s_newArg s_newCode s_stack s_tape = some (o_place, o_bad, o_codes, o_open, o_stacked, o_newArg, o_newCode, o_stack)) : kMv l yX12_factor cX12_factor 1 r_X12_factor [.ref a0] E [(a0, .inr (12, [.ref a4, w0_1, w0_2, w0_3, w0_4, w0_5, w0_6, w0_7, w0_8, w0_9, w0_10, w0_11, w0_12, w0_13, w0_14, w0_15, .ref a2, .ref a1, .int s_place, .int s_end, .int s_bad, w0_21, .int s_codes, .int s_open, .int s_stacked, w0_25, w0_26, .ref a3, w0_28, w0_29, w0_30, w0_31, w0_32, w0_33, w0_34, w0_35, w0_36, w0_37, w0_38, w0_39, w0_40, w0_41, w0_42, w0_43, w0_44, w0_45, w0_46, w0_47, w0_48, w0_49, w0_50, w0_51, w0_52, w0_53, w0_54, w0_55, w0_56, w0_57, w0_58, w0_59, w0_60, w0_61, w0_62, w0_63, w0_64, w0_65, w0_66])), (a1, .inl (E.2 0, 120, .inl s_newArg)), (a2, .inl (E.2 0, 120, .inl s_newCode)), (a3, .inl (E.2 0, 160, .inl s_stack)), (a4, .inl (E.2 1, 200, .inl s_tape))] sz 0 0 (fun (_ : Unit) => True) (fun _ => [(a0, .inr (12, [.ref a4, w0_1, w0_2, w0_3, w0_4, w0_5, w0_6, w0_7, w0_8, w0_9, w0_10, w0_11, w0_12, w0_13, w0_14, w0_15, .ref a2, .ref a1, .int o_place, .int s_end, .int o_bad, w0_21, .int o_codes, .int o_open, .int o_stacked, w0_25, w0_26, .ref a3, w0_28, w0_29, w0_30, w0_31, w0_32, w0_33, w0_34, w0_35, w0_36, w0_37, w0_38, w0_39, w0_40, w0_41, w0_42, w0_43, w0_44, w0_45, w0_46, w0_47, w0_48, w0_49, w0_50, w0_51, w0_52, w0_53, w0_54, w0_55, w0_56, w0_57, w0_58, w0_59, w0_60, w0_61, w0_62, w0_63, w0_64, w0_65, w0_66])), (a1, .inl (E.2 0, 120, .inl o_newArg)), (a2, .inl (E.2 0, 120, .inl o_newCode)), (a3, .inl (E.2 0, 160, .inl o_stack)), (a4, .inl (E.2 1, 200, .inl s_tape))]) := by
  refine kmetv rfl (Nat.le_of_ble_eq_true rfl) ?_
  intro p e s m args below meth c ls A Q X hnm hV hret hl
  have X : kC p s m c cX12_factor 1 RX12 args E A := X
  have hx := X.1
  have hb := X.2.1
  have hl : lv_has ls 1 [(0, .ref a0)] := hl
  rw [f_X12_factor] at h
  have J23 : ∀ (bad__1 : Int32) (open__2 : Int32) (place__3 : Int32) (stacked__4 : Int32) (stack__5 : Nat → Int32) (H : Heap) (locs : List Loc) (ls : Array Slot), (f_X12_factor_J23 s_end s_codes s_newArg s_newCode s_tape ) bad__1 open__2 place__3 stacked__4 stack__5 = some (o_place, o_bad, o_codes, o_open, o_stacked, o_newArg, o_newCode, o_stack) → kV E A s.heap H locs [(a0, .inr (12, [.ref a4, w0_1, w0_2, w0_3, w0_4, w0_5, w0_6, w0_7, w0_8, w0_9, w0_10, w0_11, w0_12, w0_13, w0_14, w0_15, .ref a2, .ref a1, .int place__3, .int s_end, .int bad__1, w0_21, .int s_codes, .int open__2, .int stacked__4, w0_25, w0_26, .ref a3, w0_28, w0_29, w0_30, w0_31, w0_32, w0_33, w0_34, w0_35, w0_36, w0_37, w0_38, w0_39, w0_40, w0_41, w0_42, w0_43, w0_44, w0_45, w0_46, w0_47, w0_48, w0_49, w0_50, w0_51, w0_52, w0_53, w0_54, w0_55, w0_56, w0_57, w0_58, w0_59, w0_60, w0_61, w0_62, w0_63, w0_64, w0_65, w0_66])), (a1, .inl (E.2 0, 120, .inl s_newArg)), (a2, .inl (E.2 0, 120, .inl s_newCode)), (a3, .inl (E.2 0, 160, .inl stack__5)), (a4, .inl (E.2 1, 200, .inl s_tape))] → lv_has ls 1 [(0, .ref a0)] → W p l e r_X12_factor s m args below meth c H locs 0 0 Q (F0 m 23 ls []) := by
    intro bad__1 open__2 place__3 stacked__4 stack__5 H locs ls hB23 hVB23 hlB23
    rw [f_X12_factor_J23] at hB23
    refine lv_aload_n hx hb dX12_factor_23 rfl (lv_at hlB23 0 rfl) ?_
    obtain ⟨r24_6, hc7, h8⟩ := cb1_s hB23
    clear hB23
    refine kgoiE (krunV (rest := []) X hVB23 [0] (c_X12_isGood l E _ a0 (.ref a4) (w0_1) (w0_2) (w0_3) (w0_4) (w0_5) (w0_6) (w0_7) (w0_8) (w0_9) (w0_10) (w0_11) (w0_12) (w0_13) (w0_14) (w0_15) (.ref a2) (.ref a1) (.int place__3) (.int s_end) (w0_21) (.int s_codes) (.int open__2) (.int stacked__4) (w0_25) (w0_26) (.ref a3) (w0_28) (w0_29) (w0_30) (w0_31) (w0_32) (w0_33) (w0_34) (w0_35) (w0_36) (w0_37) (w0_38) (w0_39) (w0_40) (w0_41) (w0_42) (w0_43) (w0_44) (w0_45) (w0_46) (w0_47) (w0_48) (w0_49) (w0_50) (w0_51) (w0_52) (w0_53) (w0_54) (w0_55) (w0_56) (w0_57) (w0_58) (w0_59) (w0_60) (w0_61) (w0_62) (w0_63) (w0_64) (w0_65) (w0_66) bad__1 r24_6 hc7) mw_484 kb_X12_isGood (ci := 12) rfl rfl (by decide) rfl rfl hlB23.1 rfl (Nat.le_of_ble_eq_true rfl) dX12_factor_24 (by decide)) X hVB23 [0] [1, 2, 3, 4] rfl rfl rfl (by decide) (fun u H locs hV9 => ?_)
    have hV9 : kV E A s.heap H locs [(a0, .inr (12, [.ref a4, w0_1, w0_2, w0_3, w0_4, w0_5, w0_6, w0_7, w0_8, w0_9, w0_10, w0_11, w0_12, w0_13, w0_14, w0_15, .ref a2, .ref a1, .int place__3, .int s_end, .int bad__1, w0_21, .int s_codes, .int open__2, .int stacked__4, w0_25, w0_26, .ref a3, w0_28, w0_29, w0_30, w0_31, w0_32, w0_33, w0_34, w0_35, w0_36, w0_37, w0_38, w0_39, w0_40, w0_41, w0_42, w0_43, w0_44, w0_45, w0_46, w0_47, w0_48, w0_49, w0_50, w0_51, w0_52, w0_53, w0_54, w0_55, w0_56, w0_57, w0_58, w0_59, w0_60, w0_61, w0_62, w0_63, w0_64, w0_65, w0_66])), (a1, .inl (E.2 0, 120, .inl s_newArg)), (a2, .inl (E.2 0, 120, .inl s_newCode)), (a3, .inl (E.2 0, 160, .inl stack__5)), (a4, .inl (E.2 1, 200, .inl s_tape))] := hV9.sub [4, 0, 1, 2, 3] rfl rfl
    clear hVB23
    refine lv_if_ne (tgt := 31) hx hb dX12_factor_27 (by decide) (fun c11 => ?_) (fun c11 => ?_)
    · have h12 := ieS c11 h8
      clear h8 c11
      refine lv_aload_n hx hb dX12_factor_31 rfl (lv_at hlB23 0 rfl) ?_
      obtain ⟨r32_14, hc15, h16⟩ := cb1_s h12
      clear h12
      refine kgoiE (krunV (rest := []) X hV9 [0, 4] (c_X12_seesDigit l E _ a0 a4 (w0_1) (w0_2) (w0_3) (w0_4) (w0_5) (w0_6) (w0_7) (w0_8) (w0_9) (w0_10) (w0_11) (w0_12) (w0_13) (w0_14) (w0_15) (.ref a2) (.ref a1) (.int bad__1) (w0_21) (.int s_codes) (.int open__2) (.int stacked__4) (w0_25) (w0_26) (.ref a3) (w0_28) (w0_29) (w0_30) (w0_31) (w0_32) (w0_33) (w0_34) (w0_35) (w0_36) (w0_37) (w0_38) (w0_39) (w0_40) (w0_41) (w0_42) (w0_43) (w0_44) (w0_45) (w0_46) (w0_47) (w0_48) (w0_49) (w0_50) (w0_51) (w0_52) (w0_53) (w0_54) (w0_55) (w0_56) (w0_57) (w0_58) (w0_59) (w0_60) (w0_61) (w0_62) (w0_63) (w0_64) (w0_65) (w0_66) place__3 s_end s_tape r32_14 hc15) mw_517 kb_X12_seesDigit (ci := 12) rfl rfl (by decide) rfl rfl hlB23.1 rfl (Nat.le_of_ble_eq_true rfl) dX12_factor_32 (by decide)) X hV9 [0, 4] [1, 2, 3] rfl rfl rfl (by decide) (fun u H locs hV17 => ?_)
      have hV17 : kV E A s.heap H locs [(a0, .inr (12, [.ref a4, w0_1, w0_2, w0_3, w0_4, w0_5, w0_6, w0_7, w0_8, w0_9, w0_10, w0_11, w0_12, w0_13, w0_14, w0_15, .ref a2, .ref a1, .int place__3, .int s_end, .int bad__1, w0_21, .int s_codes, .int open__2, .int stacked__4, w0_25, w0_26, .ref a3, w0_28, w0_29, w0_30, w0_31, w0_32, w0_33, w0_34, w0_35, w0_36, w0_37, w0_38, w0_39, w0_40, w0_41, w0_42, w0_43, w0_44, w0_45, w0_46, w0_47, w0_48, w0_49, w0_50, w0_51, w0_52, w0_53, w0_54, w0_55, w0_56, w0_57, w0_58, w0_59, w0_60, w0_61, w0_62, w0_63, w0_64, w0_65, w0_66])), (a1, .inl (E.2 0, 120, .inl s_newArg)), (a2, .inl (E.2 0, 120, .inl s_newCode)), (a3, .inl (E.2 0, 160, .inl stack__5)), (a4, .inl (E.2 1, 200, .inl s_tape))] := hV17.sub [3, 0, 1, 2, 4] rfl rfl
      clear hV9
      refine lv_if_eq (tgt := 50) hx hb dX12_factor_35 (by decide) (fun c19 => ?_) (fun c19 => ?_)
      · have h20 := itS c19 h16
        clear h16 c19
        refine lv_aload_n hx hb dX12_factor_50 rfl (lv_at hlB23 0 rfl) ?_
        obtain ⟨r51_22, hc23, h24⟩ := cb1_s h20
        clear h20
        refine kgoiE (krunV (rest := []) X hV17 [0, 4] (c_X12_here l E _ a0 a4 (w0_1) (w0_2) (w0_3) (w0_4) (w0_5) (w0_6) (w0_7) (w0_8) (w0_9) (w0_10) (w0_11) (w0_12) (w0_13) (w0_14) (w0_15) (.ref a2) (.ref a1) (.int bad__1) (w0_21) (.int s_codes) (.int open__2) (.int stacked__4) (w0_25) (w0_26) (.ref a3) (w0_28) (w0_29) (w0_30) (w0_31) (w0_32) (w0_33) (w0_34) (w0_35) (w0_36) (w0_37) (w0_38) (w0_39) (w0_40) (w0_41) (w0_42) (w0_43) (w0_44) (w0_45) (w0_46) (w0_47) (w0_48) (w0_49) (w0_50) (w0_51) (w0_52) (w0_53) (w0_54) (w0_55) (w0_56) (w0_57) (w0_58) (w0_59) (w0_60) (w0_61) (w0_62) (w0_63) (w0_64) (w0_65) (w0_66) place__3 s_end s_tape r51_22 hc23) mw_492 kb_X12_here (ci := 12) rfl rfl (by decide) rfl rfl hlB23.1 rfl (Nat.le_of_ble_eq_true rfl) dX12_factor_51 (by decide)) X hV17 [0, 4] [1, 2, 3] rfl rfl rfl (by decide) (fun u H locs hV25 => ?_)
        have hV25 : kV E A s.heap H locs [(a0, .inr (12, [.ref a4, w0_1, w0_2, w0_3, w0_4, w0_5, w0_6, w0_7, w0_8, w0_9, w0_10, w0_11, w0_12, w0_13, w0_14, w0_15, .ref a2, .ref a1, .int place__3, .int s_end, .int bad__1, w0_21, .int s_codes, .int open__2, .int stacked__4, w0_25, w0_26, .ref a3, w0_28, w0_29, w0_30, w0_31, w0_32, w0_33, w0_34, w0_35, w0_36, w0_37, w0_38, w0_39, w0_40, w0_41, w0_42, w0_43, w0_44, w0_45, w0_46, w0_47, w0_48, w0_49, w0_50, w0_51, w0_52, w0_53, w0_54, w0_55, w0_56, w0_57, w0_58, w0_59, w0_60, w0_61, w0_62, w0_63, w0_64, w0_65, w0_66])), (a1, .inl (E.2 0, 120, .inl s_newArg)), (a2, .inl (E.2 0, 120, .inl s_newCode)), (a3, .inl (E.2 0, 160, .inl stack__5)), (a4, .inl (E.2 1, 200, .inl s_tape))] := hV25.sub [3, 0, 1, 2, 4] rfl rfl
        clear hV17
        obtain ⟨r54_27, hc28, h29⟩ := cb1_s h24
        clear h24
        refine kgoiE (krunS (rest := []) X hV25 [] (c_X12_isValue l E _ r51_22 r54_27 hc28) mw_531 kb_X12_isValue (by decide) rfl rfl hlB23.1 rfl (Nat.le_of_ble_eq_true rfl) dX12_factor_54 (by decide)) X hV25 [] [0, 1, 2, 3, 4] rfl rfl rfl (by decide) (fun u H locs hV30 => ?_)
        have hV30 : kV E A s.heap H locs [(a0, .inr (12, [.ref a4, w0_1, w0_2, w0_3, w0_4, w0_5, w0_6, w0_7, w0_8, w0_9, w0_10, w0_11, w0_12, w0_13, w0_14, w0_15, .ref a2, .ref a1, .int place__3, .int s_end, .int bad__1, w0_21, .int s_codes, .int open__2, .int stacked__4, w0_25, w0_26, .ref a3, w0_28, w0_29, w0_30, w0_31, w0_32, w0_33, w0_34, w0_35, w0_36, w0_37, w0_38, w0_39, w0_40, w0_41, w0_42, w0_43, w0_44, w0_45, w0_46, w0_47, w0_48, w0_49, w0_50, w0_51, w0_52, w0_53, w0_54, w0_55, w0_56, w0_57, w0_58, w0_59, w0_60, w0_61, w0_62, w0_63, w0_64, w0_65, w0_66])), (a1, .inl (E.2 0, 120, .inl s_newArg)), (a2, .inl (E.2 0, 120, .inl s_newCode)), (a3, .inl (E.2 0, 160, .inl stack__5)), (a4, .inl (E.2 1, 200, .inl s_tape))] := hV30.sub [0, 1, 2, 3, 4] rfl rfl
        clear hV25
        refine lv_if_eq (tgt := 82) hx hb dX12_factor_57 (by decide) (fun c32 => ?_) (fun c32 => ?_)
        · have h33 := itS c32 h29
          clear h29 c32
          refine lv_aload_n hx hb dX12_factor_82 rfl (lv_at hlB23 0 rfl) ?_
          refine lv_iconst (v := 1) hx hb dX12_factor_83 (by decide) ?_
          refine lv_aload_n hx hb dX12_factor_84 rfl (lv_at hlB23 0 rfl) ?_
          refine kget X hV30 (ci := 12) inlX12 rfl 0 rfl 18 (by decide) mw_473 rfl dX12_factor_85 ?_
          obtain ⟨o_bad88_35, hc36, h37⟩ := cb1_s h33
          clear h33
          refine kgov (krunV (rest := []) X hV30 [0] (c_X12_wrongs l E _ a0 (.ref a4) (w0_1) (w0_2) (w0_3) (w0_4) (w0_5) (w0_6) (w0_7) (w0_8) (w0_9) (w0_10) (w0_11) (w0_12) (w0_13) (w0_14) (w0_15) (.ref a2) (.ref a1) (.int place__3) (.int s_end) (w0_21) (.int s_codes) (.int open__2) (.int stacked__4) (w0_25) (w0_26) (.ref a3) (w0_28) (w0_29) (w0_30) (w0_31) (w0_32) (w0_33) (w0_34) (w0_35) (w0_36) (w0_37) (w0_38) (w0_39) (w0_40) (w0_41) (w0_42) (w0_43) (w0_44) (w0_45) (w0_46) (w0_47) (w0_48) (w0_49) (w0_50) (w0_51) (w0_52) (w0_53) (w0_54) (w0_55) (w0_56) (w0_57) (w0_58) (w0_59) (w0_60) (w0_61) (w0_62) (w0_63) (w0_64) (w0_65) (w0_66) bad__1 1 place__3 o_bad88_35 hc36) mw_496 kb_X12_wrongs (ci := 12) rfl rfl (by decide) rfl rfl hlB23.1 rfl (Nat.le_of_ble_eq_true rfl) dX12_factor_88 (by decide)) X hV30 [0] [1, 2, 3, 4] rfl rfl rfl (by decide) (fun u H locs hp39 hV38 => ?_)
          have hV38 : kV E A s.heap H locs [(a0, .inr (12, [.ref a4, w0_1, w0_2, w0_3, w0_4, w0_5, w0_6, w0_7, w0_8, w0_9, w0_10, w0_11, w0_12, w0_13, w0_14, w0_15, .ref a2, .ref a1, .int place__3, .int s_end, .int o_bad88_35, w0_21, .int s_codes, .int open__2, .int stacked__4, w0_25, w0_26, .ref a3, w0_28, w0_29, w0_30, w0_31, w0_32, w0_33, w0_34, w0_35, w0_36, w0_37, w0_38, w0_39, w0_40, w0_41, w0_42, w0_43, w0_44, w0_45, w0_46, w0_47, w0_48, w0_49, w0_50, w0_51, w0_52, w0_53, w0_54, w0_55, w0_56, w0_57, w0_58, w0_59, w0_60, w0_61, w0_62, w0_63, w0_64, w0_65, w0_66])), (a1, .inl (E.2 0, 120, .inl s_newArg)), (a2, .inl (E.2 0, 120, .inl s_newCode)), (a3, .inl (E.2 0, 160, .inl stack__5)), (a4, .inl (E.2 1, 200, .inl s_tape))] := hV38.sub [4, 0, 1, 2, 3] rfl rfl
          clear hV30
          obtain ⟨q40, q41, q42, q43, q44, q45, q46, q47⟩ := tup8_s h37
          clear h37
          exact hret () _ _ _ _ trivial (by rw [← q40, ← q41, ← q42, ← q43, ← q44, ← q45, ← q46, ← q47]; exact hV38) dX12_factor_91
        · have h34 := ieS c32 h29
          clear h29 c32
          refine lv_aload_n hx hb dX12_factor_60 rfl (lv_at hlB23 0 rfl) ?_
          refine lv_iconst (v := 1) hx hb dX12_factor_61 (by decide) ?_
          refine lv_aload_n hx hb dX12_factor_62 rfl (lv_at hlB23 0 rfl) ?_
          obtain ⟨r63_48, hc49, h50⟩ := cb1_s h34
          clear h34
          refine kgoiE (krunV (rest := [.int 1, .ref a0]) X hV30 [0, 4] (c_X12_here l E _ a0 a4 (w0_1) (w0_2) (w0_3) (w0_4) (w0_5) (w0_6) (w0_7) (w0_8) (w0_9) (w0_10) (w0_11) (w0_12) (w0_13) (w0_14) (w0_15) (.ref a2) (.ref a1) (.int bad__1) (w0_21) (.int s_codes) (.int open__2) (.int stacked__4) (w0_25) (w0_26) (.ref a3) (w0_28) (w0_29) (w0_30) (w0_31) (w0_32) (w0_33) (w0_34) (w0_35) (w0_36) (w0_37) (w0_38) (w0_39) (w0_40) (w0_41) (w0_42) (w0_43) (w0_44) (w0_45) (w0_46) (w0_47) (w0_48) (w0_49) (w0_50) (w0_51) (w0_52) (w0_53) (w0_54) (w0_55) (w0_56) (w0_57) (w0_58) (w0_59) (w0_60) (w0_61) (w0_62) (w0_63) (w0_64) (w0_65) (w0_66) place__3 s_end s_tape r63_48 hc49) mw_492 kb_X12_here (ci := 12) rfl rfl (by decide) rfl rfl hlB23.1 rfl (Nat.le_of_ble_eq_true rfl) dX12_factor_63 (by decide)) X hV30 [0, 4] [1, 2, 3] rfl rfl rfl (by decide) (fun u H locs hV51 => ?_)
          have hV51 : kV E A s.heap H locs [(a0, .inr (12, [.ref a4, w0_1, w0_2, w0_3, w0_4, w0_5, w0_6, w0_7, w0_8, w0_9, w0_10, w0_11, w0_12, w0_13, w0_14, w0_15, .ref a2, .ref a1, .int place__3, .int s_end, .int bad__1, w0_21, .int s_codes, .int open__2, .int stacked__4, w0_25, w0_26, .ref a3, w0_28, w0_29, w0_30, w0_31, w0_32, w0_33, w0_34, w0_35, w0_36, w0_37, w0_38, w0_39, w0_40, w0_41, w0_42, w0_43, w0_44, w0_45, w0_46, w0_47, w0_48, w0_49, w0_50, w0_51, w0_52, w0_53, w0_54, w0_55, w0_56, w0_57, w0_58, w0_59, w0_60, w0_61, w0_62, w0_63, w0_64, w0_65, w0_66])), (a1, .inl (E.2 0, 120, .inl s_newArg)), (a2, .inl (E.2 0, 120, .inl s_newCode)), (a3, .inl (E.2 0, 160, .inl stack__5)), (a4, .inl (E.2 1, 200, .inl s_tape))] := hV51.sub [3, 0, 1, 2, 4] rfl rfl
          clear hV30
          obtain ⟨o_codes66_53, o_newArg66_54, o_newCode66_55, hc56, h57⟩ := cb3_s h50
          clear h50
          refine kgov (krunV (rest := []) X hV51 [0, 1, 2] (c_X12_emit l E _ a0 a1 a2 (.ref a4) (w0_1) (w0_2) (w0_3) (w0_4) (w0_5) (w0_6) (w0_7) (w0_8) (w0_9) (w0_10) (w0_11) (w0_12) (w0_13) (w0_14) (w0_15) (.int place__3) (.int s_end) (w0_21) (.int open__2) (.int stacked__4) (w0_25) (w0_26) (.ref a3) (w0_28) (w0_29) (w0_30) (w0_31) (w0_32) (w0_33) (w0_34) (w0_35) (w0_36) (w0_37) (w0_38) (w0_39) (w0_40) (w0_41) (w0_42) (w0_43) (w0_44) (w0_45) (w0_46) (w0_47) (w0_48) (w0_49) (w0_50) (w0_51) (w0_52) (w0_53) (w0_54) (w0_55) (w0_56) (w0_57) (w0_58) (w0_59) (w0_60) (w0_61) (w0_62) (w0_63) (w0_64) (w0_65) (w0_66) bad__1 s_codes s_newArg s_newCode 1 r63_48 o_codes66_53 o_newArg66_54 o_newCode66_55 hc56) mw_527 kb_X12_emit (ci := 12) rfl rfl (by decide) rfl rfl hlB23.1 rfl (Nat.le_of_ble_eq_true rfl) dX12_factor_66 (by decide)) X hV51 [0, 1, 2] [3, 4] rfl rfl rfl (by decide) (fun u H locs hp59 hV58 => ?_)
          have hV58 : kV E A s.heap H locs [(a0, .inr (12, [.ref a4, w0_1, w0_2, w0_3, w0_4, w0_5, w0_6, w0_7, w0_8, w0_9, w0_10, w0_11, w0_12, w0_13, w0_14, w0_15, .ref a2, .ref a1, .int place__3, .int s_end, .int bad__1, w0_21, .int o_codes66_53, .int open__2, .int stacked__4, w0_25, w0_26, .ref a3, w0_28, w0_29, w0_30, w0_31, w0_32, w0_33, w0_34, w0_35, w0_36, w0_37, w0_38, w0_39, w0_40, w0_41, w0_42, w0_43, w0_44, w0_45, w0_46, w0_47, w0_48, w0_49, w0_50, w0_51, w0_52, w0_53, w0_54, w0_55, w0_56, w0_57, w0_58, w0_59, w0_60, w0_61, w0_62, w0_63, w0_64, w0_65, w0_66])), (a1, .inl (E.2 0, 120, .inl o_newArg66_54)), (a2, .inl (E.2 0, 120, .inl o_newCode66_55)), (a3, .inl (E.2 0, 160, .inl stack__5)), (a4, .inl (E.2 1, 200, .inl s_tape))] := hV58.sub [2, 3, 4, 0, 1] rfl rfl
          clear hV51
          refine lv_aload_n hx hb dX12_factor_69 rfl (lv_at hlB23 0 rfl) ?_
          refine lv_dup hx hb dX12_factor_70 rfl ?_
          refine kget X hV58 (ci := 12) inlX12 rfl 0 rfl 18 (by decide) mw_473 rfl dX12_factor_71 ?_
          refine lv_iconst (v := 1) hx hb dX12_factor_74 (by decide) ?_
          refine lv_iadd hx hb dX12_factor_75 ?_
          obtain ⟨v76_60, e61, h62⟩ := nmI_s h57
          clear h57
          refine ktopi e61 ?_
          clear e61
          refine kput X hV58 (ci := 12) inlX12 rfl tyX12 tyX12_ok nmX12 0 rfl 18 (by decide) mw_473 rfl rfl rfl (Nat.le_of_ble_eq_true rfl) dX12_factor_76 (fun H locs hV63 => ?_)
          have hV63 : kV E A s.heap H locs [(a0, .inr (12, [.ref a4, w0_1, w0_2, w0_3, w0_4, w0_5, w0_6, w0_7, w0_8, w0_9, w0_10, w0_11, w0_12, w0_13, w0_14, w0_15, .ref a2, .ref a1, .int v76_60, .int s_end, .int bad__1, w0_21, .int o_codes66_53, .int open__2, .int stacked__4, w0_25, w0_26, .ref a3, w0_28, w0_29, w0_30, w0_31, w0_32, w0_33, w0_34, w0_35, w0_36, w0_37, w0_38, w0_39, w0_40, w0_41, w0_42, w0_43, w0_44, w0_45, w0_46, w0_47, w0_48, w0_49, w0_50, w0_51, w0_52, w0_53, w0_54, w0_55, w0_56, w0_57, w0_58, w0_59, w0_60, w0_61, w0_62, w0_63, w0_64, w0_65, w0_66])), (a1, .inl (E.2 0, 120, .inl o_newArg66_54)), (a2, .inl (E.2 0, 120, .inl o_newCode66_55)), (a3, .inl (E.2 0, 160, .inl stack__5)), (a4, .inl (E.2 1, 200, .inl s_tape))] := hV63
          clear hV58
          refine lv_goto (tgt := 91) hx hb dX12_factor_79 (by decide) ?_
          obtain ⟨q64, q65, q66, q67, q68, q69, q70, q71⟩ := tup8_s h62
          clear h62
          exact hret () _ _ _ _ trivial (by rw [← q64, ← q65, ← q66, ← q67, ← q68, ← q69, ← q70, ← q71]; exact hV63) dX12_factor_91
      · have h21 := ieS c19 h16
        clear h16 c19
        refine lv_aload_n hx hb dX12_factor_38 rfl (lv_at hlB23 0 rfl) ?_
        refine lv_iconst (v := 0) hx hb dX12_factor_39 (by decide) ?_
        refine lv_aload_n hx hb dX12_factor_40 rfl (lv_at hlB23 0 rfl) ?_
        obtain ⟨r41_72, o_place41_73, o_bad41_74, hc75, h76⟩ := cb3_s h21
        clear h21
        refine kgoiE (krunV (rest := [.int 0, .ref a0]) X hV17 [0, 4] (c_X12_reads l E _ a0 a4 (w0_1) (w0_2) (w0_3) (w0_4) (w0_5) (w0_6) (w0_7) (w0_8) (w0_9) (w0_10) (w0_11) (w0_12) (w0_13) (w0_14) (w0_15) (.ref a2) (.ref a1) (w0_21) (.int s_codes) (.int open__2) (.int stacked__4) (w0_25) (w0_26) (.ref a3) (w0_28) (w0_29) (w0_30) (w0_31) (w0_32) (w0_33) (w0_34) (w0_35) (w0_36) (w0_37) (w0_38) (w0_39) (w0_40) (w0_41) (w0_42) (w0_43) (w0_44) (w0_45) (w0_46) (w0_47) (w0_48) (w0_49) (w0_50) (w0_51) (w0_52) (w0_53) (w0_54) (w0_55) (w0_56) (w0_57) (w0_58) (w0_59) (w0_60) (w0_61) (w0_62) (w0_63) (w0_64) (w0_65) (w0_66) place__3 s_end bad__1 s_tape r41_72 o_place41_73 o_bad41_74 hc75) mw_523 kb_X12_reads (ci := 12) rfl rfl (by decide) rfl rfl hlB23.1 rfl (Nat.le_of_ble_eq_true rfl) dX12_factor_41 (by decide)) X hV17 [0, 4] [1, 2, 3] rfl rfl rfl (by decide) (fun u H locs hV77 => ?_)
        have hV77 : kV E A s.heap H locs [(a0, .inr (12, [.ref a4, w0_1, w0_2, w0_3, w0_4, w0_5, w0_6, w0_7, w0_8, w0_9, w0_10, w0_11, w0_12, w0_13, w0_14, w0_15, .ref a2, .ref a1, .int o_place41_73, .int s_end, .int o_bad41_74, w0_21, .int s_codes, .int open__2, .int stacked__4, w0_25, w0_26, .ref a3, w0_28, w0_29, w0_30, w0_31, w0_32, w0_33, w0_34, w0_35, w0_36, w0_37, w0_38, w0_39, w0_40, w0_41, w0_42, w0_43, w0_44, w0_45, w0_46, w0_47, w0_48, w0_49, w0_50, w0_51, w0_52, w0_53, w0_54, w0_55, w0_56, w0_57, w0_58, w0_59, w0_60, w0_61, w0_62, w0_63, w0_64, w0_65, w0_66])), (a1, .inl (E.2 0, 120, .inl s_newArg)), (a2, .inl (E.2 0, 120, .inl s_newCode)), (a3, .inl (E.2 0, 160, .inl stack__5)), (a4, .inl (E.2 1, 200, .inl s_tape))] := hV77.sub [3, 0, 1, 2, 4] rfl rfl
        clear hV17
        obtain ⟨o_codes44_79, o_newArg44_80, o_newCode44_81, hc82, h83⟩ := cb3_s h76
        clear h76
        refine kgov (krunV (rest := []) X hV77 [0, 1, 2] (c_X12_emit l E _ a0 a1 a2 (.ref a4) (w0_1) (w0_2) (w0_3) (w0_4) (w0_5) (w0_6) (w0_7) (w0_8) (w0_9) (w0_10) (w0_11) (w0_12) (w0_13) (w0_14) (w0_15) (.int o_place41_73) (.int s_end) (w0_21) (.int open__2) (.int stacked__4) (w0_25) (w0_26) (.ref a3) (w0_28) (w0_29) (w0_30) (w0_31) (w0_32) (w0_33) (w0_34) (w0_35) (w0_36) (w0_37) (w0_38) (w0_39) (w0_40) (w0_41) (w0_42) (w0_43) (w0_44) (w0_45) (w0_46) (w0_47) (w0_48) (w0_49) (w0_50) (w0_51) (w0_52) (w0_53) (w0_54) (w0_55) (w0_56) (w0_57) (w0_58) (w0_59) (w0_60) (w0_61) (w0_62) (w0_63) (w0_64) (w0_65) (w0_66) o_bad41_74 s_codes s_newArg s_newCode 0 r41_72 o_codes44_79 o_newArg44_80 o_newCode44_81 hc82) mw_527 kb_X12_emit (ci := 12) rfl rfl (by decide) rfl rfl hlB23.1 rfl (Nat.le_of_ble_eq_true rfl) dX12_factor_44 (by decide)) X hV77 [0, 1, 2] [3, 4] rfl rfl rfl (by decide) (fun u H locs hp85 hV84 => ?_)
        have hV84 : kV E A s.heap H locs [(a0, .inr (12, [.ref a4, w0_1, w0_2, w0_3, w0_4, w0_5, w0_6, w0_7, w0_8, w0_9, w0_10, w0_11, w0_12, w0_13, w0_14, w0_15, .ref a2, .ref a1, .int o_place41_73, .int s_end, .int o_bad41_74, w0_21, .int o_codes44_79, .int open__2, .int stacked__4, w0_25, w0_26, .ref a3, w0_28, w0_29, w0_30, w0_31, w0_32, w0_33, w0_34, w0_35, w0_36, w0_37, w0_38, w0_39, w0_40, w0_41, w0_42, w0_43, w0_44, w0_45, w0_46, w0_47, w0_48, w0_49, w0_50, w0_51, w0_52, w0_53, w0_54, w0_55, w0_56, w0_57, w0_58, w0_59, w0_60, w0_61, w0_62, w0_63, w0_64, w0_65, w0_66])), (a1, .inl (E.2 0, 120, .inl o_newArg44_80)), (a2, .inl (E.2 0, 120, .inl o_newCode44_81)), (a3, .inl (E.2 0, 160, .inl stack__5)), (a4, .inl (E.2 1, 200, .inl s_tape))] := hV84.sub [2, 3, 4, 0, 1] rfl rfl
        clear hV77
        refine lv_goto (tgt := 91) hx hb dX12_factor_47 (by decide) ?_
        obtain ⟨q86, q87, q88, q89, q90, q91, q92, q93⟩ := tup8_s h83
        clear h83
        exact hret () _ _ _ _ trivial (by rw [← q86, ← q87, ← q88, ← q89, ← q90, ← q91, ← q92, ← q93]; exact hV84) dX12_factor_91
    · have h13 := itS c11 h8
      clear h8 c11
      obtain ⟨q94, q95, q96, q97, q98, q99, q100, q101⟩ := tup8_s h13
      clear h13
      exact hret () _ _ _ _ trivial (by rw [← q94, ← q95, ← q96, ← q97, ← q98, ← q99, ← q100, ← q101]; exact hV9) dX12_factor_30
  have L0 : ∀ (n0 : Nat) (bad__102 : Int32) (open__103 : Int32) (place__104 : Int32) (stacked__105 : Int32) (stack__106 : Nat → Int32) (H : Heap) (locs : List Loc) (ls : Array Slot), (f_X12_factor_L0 s_end s_tape (f_X12_factor_J23 s_end s_codes s_newArg s_newCode s_tape ) n0) bad__102 open__103 place__104 stacked__105 stack__106 = some (o_place, o_bad, o_codes, o_open, o_stacked, o_newArg, o_newCode, o_stack) → kV E A s.heap H locs [(a0, .inr (12, [.ref a4, w0_1, w0_2, w0_3, w0_4, w0_5, w0_6, w0_7, w0_8, w0_9, w0_10, w0_11, w0_12, w0_13, w0_14, w0_15, .ref a2, .ref a1, .int place__104, .int s_end, .int bad__102, w0_21, .int s_codes, .int open__103, .int stacked__105, w0_25, w0_26, .ref a3, w0_28, w0_29, w0_30, w0_31, w0_32, w0_33, w0_34, w0_35, w0_36, w0_37, w0_38, w0_39, w0_40, w0_41, w0_42, w0_43, w0_44, w0_45, w0_46, w0_47, w0_48, w0_49, w0_50, w0_51, w0_52, w0_53, w0_54, w0_55, w0_56, w0_57, w0_58, w0_59, w0_60, w0_61, w0_62, w0_63, w0_64, w0_65, w0_66])), (a1, .inl (E.2 0, 120, .inl s_newArg)), (a2, .inl (E.2 0, 120, .inl s_newCode)), (a3, .inl (E.2 0, 160, .inl stack__106)), (a4, .inl (E.2 1, 200, .inl s_tape))] → lv_has ls 1 [(0, .ref a0)] → W p l e r_X12_factor s m args below meth c H locs 0 0 Q (F0 m 0 ls []) := by
    intro n0
    induction n0 with
    | zero =>
      intro bad__102 open__103 place__104 stacked__105 stack__106 H locs ls hB0 hVB0 hlB0
      rw [f_X12_factor_L0] at hB0
      exact nomatch hB0
    | succ n0 ih0 =>
      intro bad__102 open__103 place__104 stacked__105 stack__106 H locs ls hB0 hVB0 hlB0
      rw [f_X12_factor_L0] at hB0
      refine lv_aload_n hx hb dX12_factor_0 rfl (lv_at hlB0 0 rfl) ?_
      obtain ⟨r1_107, hc108, h109⟩ := cb1_s hB0
      clear hB0
      refine kgoiE (krunV (rest := []) X hVB0 [0] (c_X12_isGood l E _ a0 (.ref a4) (w0_1) (w0_2) (w0_3) (w0_4) (w0_5) (w0_6) (w0_7) (w0_8) (w0_9) (w0_10) (w0_11) (w0_12) (w0_13) (w0_14) (w0_15) (.ref a2) (.ref a1) (.int place__104) (.int s_end) (w0_21) (.int s_codes) (.int open__103) (.int stacked__105) (w0_25) (w0_26) (.ref a3) (w0_28) (w0_29) (w0_30) (w0_31) (w0_32) (w0_33) (w0_34) (w0_35) (w0_36) (w0_37) (w0_38) (w0_39) (w0_40) (w0_41) (w0_42) (w0_43) (w0_44) (w0_45) (w0_46) (w0_47) (w0_48) (w0_49) (w0_50) (w0_51) (w0_52) (w0_53) (w0_54) (w0_55) (w0_56) (w0_57) (w0_58) (w0_59) (w0_60) (w0_61) (w0_62) (w0_63) (w0_64) (w0_65) (w0_66) bad__102 r1_107 hc108) mw_484 kb_X12_isGood (ci := 12) rfl rfl (by decide) rfl rfl hlB0.1 rfl (Nat.le_of_ble_eq_true rfl) dX12_factor_1 (by decide)) X hVB0 [0] [1, 2, 3, 4] rfl rfl rfl (by decide) (fun u H locs hV110 => ?_)
      have hV110 : kV E A s.heap H locs [(a0, .inr (12, [.ref a4, w0_1, w0_2, w0_3, w0_4, w0_5, w0_6, w0_7, w0_8, w0_9, w0_10, w0_11, w0_12, w0_13, w0_14, w0_15, .ref a2, .ref a1, .int place__104, .int s_end, .int bad__102, w0_21, .int s_codes, .int open__103, .int stacked__105, w0_25, w0_26, .ref a3, w0_28, w0_29, w0_30, w0_31, w0_32, w0_33, w0_34, w0_35, w0_36, w0_37, w0_38, w0_39, w0_40, w0_41, w0_42, w0_43, w0_44, w0_45, w0_46, w0_47, w0_48, w0_49, w0_50, w0_51, w0_52, w0_53, w0_54, w0_55, w0_56, w0_57, w0_58, w0_59, w0_60, w0_61, w0_62, w0_63, w0_64, w0_65, w0_66])), (a1, .inl (E.2 0, 120, .inl s_newArg)), (a2, .inl (E.2 0, 120, .inl s_newCode)), (a3, .inl (E.2 0, 160, .inl stack__106)), (a4, .inl (E.2 1, 200, .inl s_tape))] := hV110.sub [4, 0, 1, 2, 3] rfl rfl
      clear hVB0
      refine lv_if_eq (tgt := 23) hx hb dX12_factor_4 (by decide) (fun c112 => ?_) (fun c112 => ?_)
      · have h113 := itS c112 h109
        clear h109 c112
        exact J23 bad__102 open__103 place__104 stacked__105 stack__106 _ _ _ h113 hV110 (lv_sub hlB0 [0] rfl)
      · have h114 := ieS c112 h109
        clear h109 c112
        refine lv_aload_n hx hb dX12_factor_7 rfl (lv_at hlB0 0 rfl) ?_
        obtain ⟨r8_115, hc116, h117⟩ := cb1_s h114
        clear h114
        refine kgoiE (krunV (rest := []) X hV110 [0, 4] (c_X12_here l E _ a0 a4 (w0_1) (w0_2) (w0_3) (w0_4) (w0_5) (w0_6) (w0_7) (w0_8) (w0_9) (w0_10) (w0_11) (w0_12) (w0_13) (w0_14) (w0_15) (.ref a2) (.ref a1) (.int bad__102) (w0_21) (.int s_codes) (.int open__103) (.int stacked__105) (w0_25) (w0_26) (.ref a3) (w0_28) (w0_29) (w0_30) (w0_31) (w0_32) (w0_33) (w0_34) (w0_35) (w0_36) (w0_37) (w0_38) (w0_39) (w0_40) (w0_41) (w0_42) (w0_43) (w0_44) (w0_45) (w0_46) (w0_47) (w0_48) (w0_49) (w0_50) (w0_51) (w0_52) (w0_53) (w0_54) (w0_55) (w0_56) (w0_57) (w0_58) (w0_59) (w0_60) (w0_61) (w0_62) (w0_63) (w0_64) (w0_65) (w0_66) place__104 s_end s_tape r8_115 hc116) mw_492 kb_X12_here (ci := 12) rfl rfl (by decide) rfl rfl hlB0.1 rfl (Nat.le_of_ble_eq_true rfl) dX12_factor_8 (by decide)) X hV110 [0, 4] [1, 2, 3] rfl rfl rfl (by decide) (fun u H locs hV118 => ?_)
        have hV118 : kV E A s.heap H locs [(a0, .inr (12, [.ref a4, w0_1, w0_2, w0_3, w0_4, w0_5, w0_6, w0_7, w0_8, w0_9, w0_10, w0_11, w0_12, w0_13, w0_14, w0_15, .ref a2, .ref a1, .int place__104, .int s_end, .int bad__102, w0_21, .int s_codes, .int open__103, .int stacked__105, w0_25, w0_26, .ref a3, w0_28, w0_29, w0_30, w0_31, w0_32, w0_33, w0_34, w0_35, w0_36, w0_37, w0_38, w0_39, w0_40, w0_41, w0_42, w0_43, w0_44, w0_45, w0_46, w0_47, w0_48, w0_49, w0_50, w0_51, w0_52, w0_53, w0_54, w0_55, w0_56, w0_57, w0_58, w0_59, w0_60, w0_61, w0_62, w0_63, w0_64, w0_65, w0_66])), (a1, .inl (E.2 0, 120, .inl s_newArg)), (a2, .inl (E.2 0, 120, .inl s_newCode)), (a3, .inl (E.2 0, 160, .inl stack__106)), (a4, .inl (E.2 1, 200, .inl s_tape))] := hV118.sub [3, 0, 1, 2, 4] rfl rfl
        clear hV110
        refine lv_bipush (v := 91) hx hb dX12_factor_11 (by decide) ?_
        refine lv_icmp_ne (tgt := 23) hx hb dX12_factor_13 (by decide) (fun c120 => ?_) (fun c120 => ?_)
        · have h121 := ieS c120 h117
          clear h117 c120
          exact J23 bad__102 open__103 place__104 stacked__105 stack__106 _ _ _ h121 hV118 (lv_sub hlB0 [0] rfl)
        · have h122 := itS c120 h117
          clear h117 c120
          refine lv_aload_n hx hb dX12_factor_16 rfl (lv_at hlB0 0 rfl) ?_
          obtain ⟨o_place17_123, o_bad17_124, o_open17_125, o_stacked17_126, o_stack17_127, hc128, h129⟩ := cb5_s h122
          clear h122
          refine kgov (krunV (rest := []) X hV118 [0, 3, 4] (c_X12_opens l E _ a0 a3 a4 (w0_1) (w0_2) (w0_3) (w0_4) (w0_5) (w0_6) (w0_7) (w0_8) (w0_9) (w0_10) (w0_11) (w0_12) (w0_13) (w0_14) (w0_15) (.ref a2) (.ref a1) (w0_21) (.int s_codes) (w0_25) (w0_26) (w0_28) (w0_29) (w0_30) (w0_31) (w0_32) (w0_33) (w0_34) (w0_35) (w0_36) (w0_37) (w0_38) (w0_39) (w0_40) (w0_41) (w0_42) (w0_43) (w0_44) (w0_45) (w0_46) (w0_47) (w0_48) (w0_49) (w0_50) (w0_51) (w0_52) (w0_53) (w0_54) (w0_55) (w0_56) (w0_57) (w0_58) (w0_59) (w0_60) (w0_61) (w0_62) (w0_63) (w0_64) (w0_65) (w0_66) place__104 s_end bad__102 open__103 stacked__105 stack__106 s_tape o_place17_123 o_bad17_124 o_open17_125 o_stacked17_126 o_stack17_127 hc128) mw_509 kb_X12_opens (ci := 12) rfl rfl (by decide) rfl rfl hlB0.1 rfl (Nat.le_of_ble_eq_true rfl) dX12_factor_17 (by decide)) X hV118 [0, 3, 4] [1, 2] rfl rfl rfl (by decide) (fun u H locs hp131 hV130 => ?_)
          have hV130 : kV E A s.heap H locs [(a0, .inr (12, [.ref a4, w0_1, w0_2, w0_3, w0_4, w0_5, w0_6, w0_7, w0_8, w0_9, w0_10, w0_11, w0_12, w0_13, w0_14, w0_15, .ref a2, .ref a1, .int o_place17_123, .int s_end, .int o_bad17_124, w0_21, .int s_codes, .int o_open17_125, .int o_stacked17_126, w0_25, w0_26, .ref a3, w0_28, w0_29, w0_30, w0_31, w0_32, w0_33, w0_34, w0_35, w0_36, w0_37, w0_38, w0_39, w0_40, w0_41, w0_42, w0_43, w0_44, w0_45, w0_46, w0_47, w0_48, w0_49, w0_50, w0_51, w0_52, w0_53, w0_54, w0_55, w0_56, w0_57, w0_58, w0_59, w0_60, w0_61, w0_62, w0_63, w0_64, w0_65, w0_66])), (a1, .inl (E.2 0, 120, .inl s_newArg)), (a2, .inl (E.2 0, 120, .inl s_newCode)), (a3, .inl (E.2 0, 160, .inl o_stack17_127)), (a4, .inl (E.2 1, 200, .inl s_tape))] := hV130.sub [2, 0, 1, 3, 4] rfl rfl
          clear hV118
          refine lv_goto (tgt := 0) hx hb dX12_factor_20 (by decide) ?_
          exact ih0 o_bad17_124 o_open17_125 o_place17_123 o_stacked17_126 o_stack17_127 _ _ _ h129 hV130 (lv_sub hlB0 [0] rfl)
  exact L0 FU s_bad s_open s_place s_stacked s_stack _ _ _ h hV (lv_sub hl [0] rfl)
abbrev r_X12_stays : Room := { frames := 3, cells := 0, slots := 0, locals := 63 }
set_option maxHeartbeats 4000000 in
set_option maxRecDepth 100000 in
theorem c_X12_stays (l : Launch) (E : kE) (sz : Nat) (a0 a1 a2 a3 a4 : Nat) (w0_1 w0_2 w0_3 w0_4 w0_5 w0_6 w0_7 w0_8 w0_9 w0_10 w0_11 w0_12 w0_13 w0_14 w0_15 w0_21 w0_25 w0_28 w0_29 w0_30 w0_31 w0_32 w0_33 w0_34 w0_35 w0_36 w0_37 w0_38 w0_39 w0_40 w0_41 w0_42 w0_43 w0_44 w0_45 w0_46 w0_47 w0_48 w0_49 w0_50 w0_51 w0_52 w0_53 w0_54 w0_55 w0_56 w0_57 w0_58 w0_59 w0_60 w0_61 w0_62 w0_63 w0_64 w0_65 w0_66 : Value) (s_place : Int32) (s_end : Int32) (s_bad : Int32) (s_codes : Int32) (s_open : Int32) (s_stacked : Int32) (s_isBehind : Int32) (s_newArg : Nat → Int32) (s_newCode : Nat → Int32) (s_stack : Nat → Int32) (s_tape : Nat → Int32) (r : Int32) (o_place : Int32) (o_bad : Int32) (o_codes : Int32) (o_open : Int32) (o_stacked : Int32) (o_isBehind : Int32) (o_newArg : Nat → Int32) (o_newCode : Nat → Int32) (o_stack : Nat → Int32) (h : f_X12_stays s_place s_end s_bad s_codes s_open s_stacked s_isBehind s_newArg s_newCode s_stack s_tape = some (r, o_place, o_bad, o_codes, o_open, o_stacked, o_isBehind, o_newArg, o_newCode, o_stack)) : kMi l yX12_stays cX12_stays 2 (some .boolean) r_X12_stays [.ref a0] E [(a0, .inr (12, [.ref a4, w0_1, w0_2, w0_3, w0_4, w0_5, w0_6, w0_7, w0_8, w0_9, w0_10, w0_11, w0_12, w0_13, w0_14, w0_15, .ref a2, .ref a1, .int s_place, .int s_end, .int s_bad, w0_21, .int s_codes, .int s_open, .int s_stacked, w0_25, .int s_isBehind, .ref a3, w0_28, w0_29, w0_30, w0_31, w0_32, w0_33, w0_34, w0_35, w0_36, w0_37, w0_38, w0_39, w0_40, w0_41, w0_42, w0_43, w0_44, w0_45, w0_46, w0_47, w0_48, w0_49, w0_50, w0_51, w0_52, w0_53, w0_54, w0_55, w0_56, w0_57, w0_58, w0_59, w0_60, w0_61, w0_62, w0_63, w0_64, w0_65, w0_66])), (a1, .inl (E.2 0, 120, .inl s_newArg)), (a2, .inl (E.2 0, 120, .inl s_newCode)), (a3, .inl (E.2 0, 160, .inl s_stack)), (a4, .inl (E.2 1, 200, .inl s_tape))] sz 0 0 (fun x (_ : Unit) => x = r) (fun _ => [(a0, .inr (12, [.ref a4, w0_1, w0_2, w0_3, w0_4, w0_5, w0_6, w0_7, w0_8, w0_9, w0_10, w0_11, w0_12, w0_13, w0_14, w0_15, .ref a2, .ref a1, .int o_place, .int s_end, .int o_bad, w0_21, .int o_codes, .int o_open, .int o_stacked, w0_25, .int o_isBehind, .ref a3, w0_28, w0_29, w0_30, w0_31, w0_32, w0_33, w0_34, w0_35, w0_36, w0_37, w0_38, w0_39, w0_40, w0_41, w0_42, w0_43, w0_44, w0_45, w0_46, w0_47, w0_48, w0_49, w0_50, w0_51, w0_52, w0_53, w0_54, w0_55, w0_56, w0_57, w0_58, w0_59, w0_60, w0_61, w0_62, w0_63, w0_64, w0_65, w0_66])), (a1, .inl (E.2 0, 120, .inl o_newArg)), (a2, .inl (E.2 0, 120, .inl o_newCode)), (a3, .inl (E.2 0, 160, .inl o_stack)), (a4, .inl (E.2 1, 200, .inl s_tape))]) := by
  refine kmeti rfl (Nat.le_of_ble_eq_true rfl) ?_
  intro p e s m args below meth c ls A Q X hV hret hl
  have X : kC p s m c cX12_stays 2 RX12 args E A := X
  have hx := X.1
  have hb := X.2.1
  have hl : lv_has ls 2 [(0, .ref a0)] := hl
  rw [f_X12_stays] at h
  refine lv_aload_n hx hb dX12_stays_0 rfl (lv_at hl 0 rfl) ?_
  obtain ⟨r1_1, hc2, h3⟩ := cb1_s h
  clear h
  refine kgoiE (krunV (rest := []) X hV [0, 4] (c_X12_here l E _ a0 a4 (w0_1) (w0_2) (w0_3) (w0_4) (w0_5) (w0_6) (w0_7) (w0_8) (w0_9) (w0_10) (w0_11) (w0_12) (w0_13) (w0_14) (w0_15) (.ref a2) (.ref a1) (.int s_bad) (w0_21) (.int s_codes) (.int s_open) (.int s_stacked) (w0_25) (.int s_isBehind) (.ref a3) (w0_28) (w0_29) (w0_30) (w0_31) (w0_32) (w0_33) (w0_34) (w0_35) (w0_36) (w0_37) (w0_38) (w0_39) (w0_40) (w0_41) (w0_42) (w0_43) (w0_44) (w0_45) (w0_46) (w0_47) (w0_48) (w0_49) (w0_50) (w0_51) (w0_52) (w0_53) (w0_54) (w0_55) (w0_56) (w0_57) (w0_58) (w0_59) (w0_60) (w0_61) (w0_62) (w0_63) (w0_64) (w0_65) (w0_66) s_place s_end s_tape r1_1 hc2) mw_492 kb_X12_here (ci := 12) rfl rfl (by decide) rfl rfl hl.1 rfl (Nat.le_of_ble_eq_true rfl) dX12_stays_1 (by decide)) X hV [0, 4] [1, 2, 3] rfl rfl rfl (by decide) (fun u H locs hV4 => ?_)
  have hV4 : kV E A s.heap H locs [(a0, .inr (12, [.ref a4, w0_1, w0_2, w0_3, w0_4, w0_5, w0_6, w0_7, w0_8, w0_9, w0_10, w0_11, w0_12, w0_13, w0_14, w0_15, .ref a2, .ref a1, .int s_place, .int s_end, .int s_bad, w0_21, .int s_codes, .int s_open, .int s_stacked, w0_25, .int s_isBehind, .ref a3, w0_28, w0_29, w0_30, w0_31, w0_32, w0_33, w0_34, w0_35, w0_36, w0_37, w0_38, w0_39, w0_40, w0_41, w0_42, w0_43, w0_44, w0_45, w0_46, w0_47, w0_48, w0_49, w0_50, w0_51, w0_52, w0_53, w0_54, w0_55, w0_56, w0_57, w0_58, w0_59, w0_60, w0_61, w0_62, w0_63, w0_64, w0_65, w0_66])), (a1, .inl (E.2 0, 120, .inl s_newArg)), (a2, .inl (E.2 0, 120, .inl s_newCode)), (a3, .inl (E.2 0, 160, .inl s_stack)), (a4, .inl (E.2 1, 200, .inl s_tape))] := hV4.sub [3, 0, 1, 2, 4] rfl rfl
  clear hV
  refine lv_istore_n (lv' := [(1, .int r1_1), (0, .ref a0)]) hx hb dX12_stays_4 rfl hl (by decide) rfl (fun ls hl6 => ?_)
  clear hl
  refine lv_iload_n hx hb dX12_stays_5 rfl (lv_at hl6 0 rfl) ?_
  obtain ⟨r6_7, hc8, h9⟩ := cb1_s h3
  clear h3
  refine kgoiE (krunS (rest := []) X hV4 [] (c_X12_isTimes l E _ r1_1 r6_7 hc8) mw_538 kb_X12_isTimes (by decide) rfl rfl hl6.1 rfl (Nat.le_of_ble_eq_true rfl) dX12_stays_6 (by decide)) X hV4 [] [0, 1, 2, 3, 4] rfl rfl rfl (by decide) (fun u H locs hV10 => ?_)
  have hV10 : kV E A s.heap H locs [(a0, .inr (12, [.ref a4, w0_1, w0_2, w0_3, w0_4, w0_5, w0_6, w0_7, w0_8, w0_9, w0_10, w0_11, w0_12, w0_13, w0_14, w0_15, .ref a2, .ref a1, .int s_place, .int s_end, .int s_bad, w0_21, .int s_codes, .int s_open, .int s_stacked, w0_25, .int s_isBehind, .ref a3, w0_28, w0_29, w0_30, w0_31, w0_32, w0_33, w0_34, w0_35, w0_36, w0_37, w0_38, w0_39, w0_40, w0_41, w0_42, w0_43, w0_44, w0_45, w0_46, w0_47, w0_48, w0_49, w0_50, w0_51, w0_52, w0_53, w0_54, w0_55, w0_56, w0_57, w0_58, w0_59, w0_60, w0_61, w0_62, w0_63, w0_64, w0_65, w0_66])), (a1, .inl (E.2 0, 120, .inl s_newArg)), (a2, .inl (E.2 0, 120, .inl s_newCode)), (a3, .inl (E.2 0, 160, .inl s_stack)), (a4, .inl (E.2 1, 200, .inl s_tape))] := hV10.sub [0, 1, 2, 3, 4] rfl rfl
  clear hV4
  have J19 : ∀ (bad__12 : Int32) (codes__13 : Int32) (isBehind__14 : Int32) (open__15 : Int32) (place__16 : Int32) (stacked__17 : Int32) (newArg__18 : Nat → Int32) (newCode__19 : Nat → Int32) (H : Heap) (locs : List Loc) (ls : Array Slot), (f_X12_stays_J19 s_stack r1_1 ) bad__12 codes__13 isBehind__14 open__15 place__16 stacked__17 newArg__18 newCode__19 = some (r, o_place, o_bad, o_codes, o_open, o_stacked, o_isBehind, o_newArg, o_newCode, o_stack) → kV E A s.heap H locs [(a0, .inr (12, [.ref a4, w0_1, w0_2, w0_3, w0_4, w0_5, w0_6, w0_7, w0_8, w0_9, w0_10, w0_11, w0_12, w0_13, w0_14, w0_15, .ref a2, .ref a1, .int place__16, .int s_end, .int bad__12, w0_21, .int codes__13, .int open__15, .int stacked__17, w0_25, .int isBehind__14, .ref a3, w0_28, w0_29, w0_30, w0_31, w0_32, w0_33, w0_34, w0_35, w0_36, w0_37, w0_38, w0_39, w0_40, w0_41, w0_42, w0_43, w0_44, w0_45, w0_46, w0_47, w0_48, w0_49, w0_50, w0_51, w0_52, w0_53, w0_54, w0_55, w0_56, w0_57, w0_58, w0_59, w0_60, w0_61, w0_62, w0_63, w0_64, w0_65, w0_66])), (a1, .inl (E.2 0, 120, .inl newArg__18)), (a2, .inl (E.2 0, 120, .inl newCode__19)), (a3, .inl (E.2 0, 160, .inl s_stack)), (a4, .inl (E.2 1, 200, .inl s_tape))] → lv_has ls 2 [(0, .ref a0), (1, .int r1_1)] → W p l e r_X12_stays s m args below meth c H locs 0 0 Q (F0 m 19 ls []) := by
    intro bad__12 codes__13 isBehind__14 open__15 place__16 stacked__17 newArg__18 newCode__19 H locs ls hB19 hVB19 hlB19
    rw [f_X12_stays_J19] at hB19
    refine lv_aload_n hx hb dX12_stays_19 rfl (lv_at hlB19 0 rfl) ?_
    refine lv_iload_n hx hb dX12_stays_20 rfl (lv_at hlB19 1 rfl) ?_
    obtain ⟨r21_20, hc21, h22⟩ := cb1_s hB19
    clear hB19
    refine kgoiE (krunS (rest := [.ref a0]) X hVB19 [] (c_X12_isPlus l E _ r1_1 r21_20 hc21) mw_541 kb_X12_isPlus (by decide) rfl rfl hlB19.1 rfl (Nat.le_of_ble_eq_true rfl) dX12_stays_21 (by decide)) X hVB19 [] [0, 1, 2, 3, 4] rfl rfl rfl (by decide) (fun u H locs hV23 => ?_)
    have hV23 : kV E A s.heap H locs [(a0, .inr (12, [.ref a4, w0_1, w0_2, w0_3, w0_4, w0_5, w0_6, w0_7, w0_8, w0_9, w0_10, w0_11, w0_12, w0_13, w0_14, w0_15, .ref a2, .ref a1, .int place__16, .int s_end, .int bad__12, w0_21, .int codes__13, .int open__15, .int stacked__17, w0_25, .int isBehind__14, .ref a3, w0_28, w0_29, w0_30, w0_31, w0_32, w0_33, w0_34, w0_35, w0_36, w0_37, w0_38, w0_39, w0_40, w0_41, w0_42, w0_43, w0_44, w0_45, w0_46, w0_47, w0_48, w0_49, w0_50, w0_51, w0_52, w0_53, w0_54, w0_55, w0_56, w0_57, w0_58, w0_59, w0_60, w0_61, w0_62, w0_63, w0_64, w0_65, w0_66])), (a1, .inl (E.2 0, 120, .inl newArg__18)), (a2, .inl (E.2 0, 120, .inl newCode__19)), (a3, .inl (E.2 0, 160, .inl s_stack)), (a4, .inl (E.2 1, 200, .inl s_tape))] := hV23.sub [0, 1, 2, 3, 4] rfl rfl
    clear hVB19
    obtain ⟨o_codes24_25, o_stacked24_26, o_newArg24_27, o_newCode24_28, hc29, h30⟩ := cb4_s h22
    clear h22
    refine kgov (krunV (rest := []) X hV23 [0, 1, 2, 3] (c_X12_sums l E _ a0 a1 a2 a3 (.ref a4) (w0_1) (w0_2) (w0_3) (w0_4) (w0_5) (w0_6) (w0_7) (w0_8) (w0_9) (w0_10) (w0_11) (w0_12) (w0_13) (w0_14) (w0_15) (.int place__16) (.int s_end) (w0_21) (.int open__15) (w0_25) (.int isBehind__14) (w0_28) (w0_29) (w0_30) (w0_31) (w0_32) (w0_33) (w0_34) (w0_35) (w0_36) (w0_37) (w0_38) (w0_39) (w0_40) (w0_41) (w0_42) (w0_43) (w0_44) (w0_45) (w0_46) (w0_47) (w0_48) (w0_49) (w0_50) (w0_51) (w0_52) (w0_53) (w0_54) (w0_55) (w0_56) (w0_57) (w0_58) (w0_59) (w0_60) (w0_61) (w0_62) (w0_63) (w0_64) (w0_65) (w0_66) bad__12 codes__13 stacked__17 newArg__18 newCode__19 s_stack r21_20 o_codes24_25 o_stacked24_26 o_newArg24_27 o_newCode24_28 hc29) mw_544 kb_X12_sums (ci := 12) rfl rfl (by decide) rfl rfl hlB19.1 rfl (Nat.le_of_ble_eq_true rfl) dX12_stays_24 (by decide)) X hV23 [0, 1, 2, 3] [4] rfl rfl rfl (by decide) (fun u H locs hp32 hV31 => ?_)
    have hV31 : kV E A s.heap H locs [(a0, .inr (12, [.ref a4, w0_1, w0_2, w0_3, w0_4, w0_5, w0_6, w0_7, w0_8, w0_9, w0_10, w0_11, w0_12, w0_13, w0_14, w0_15, .ref a2, .ref a1, .int place__16, .int s_end, .int bad__12, w0_21, .int o_codes24_25, .int open__15, .int o_stacked24_26, w0_25, .int isBehind__14, .ref a3, w0_28, w0_29, w0_30, w0_31, w0_32, w0_33, w0_34, w0_35, w0_36, w0_37, w0_38, w0_39, w0_40, w0_41, w0_42, w0_43, w0_44, w0_45, w0_46, w0_47, w0_48, w0_49, w0_50, w0_51, w0_52, w0_53, w0_54, w0_55, w0_56, w0_57, w0_58, w0_59, w0_60, w0_61, w0_62, w0_63, w0_64, w0_65, w0_66])), (a1, .inl (E.2 0, 120, .inl o_newArg24_27)), (a2, .inl (E.2 0, 120, .inl o_newCode24_28)), (a3, .inl (E.2 0, 160, .inl s_stack)), (a4, .inl (E.2 1, 200, .inl s_tape))] := hV31.sub [1, 2, 3, 4, 0] rfl rfl
    clear hV23
    refine lv_aload_n hx hb dX12_stays_27 rfl (lv_at hlB19 0 rfl) ?_
    refine lv_iload_n hx hb dX12_stays_28 rfl (lv_at hlB19 1 rfl) ?_
    obtain ⟨o_place29_33, o_stacked29_34, o_stack29_35, hc36, h37⟩ := cb3_s h30
    clear h30
    refine kgov (krunV (rest := []) X hV31 [0, 3] (c_X12_puts l E _ a0 a3 (.ref a4) (w0_1) (w0_2) (w0_3) (w0_4) (w0_5) (w0_6) (w0_7) (w0_8) (w0_9) (w0_10) (w0_11) (w0_12) (w0_13) (w0_14) (w0_15) (.ref a2) (.ref a1) (.int s_end) (.int bad__12) (w0_21) (.int o_codes24_25) (.int open__15) (w0_25) (.int isBehind__14) (w0_28) (w0_29) (w0_30) (w0_31) (w0_32) (w0_33) (w0_34) (w0_35) (w0_36) (w0_37) (w0_38) (w0_39) (w0_40) (w0_41) (w0_42) (w0_43) (w0_44) (w0_45) (w0_46) (w0_47) (w0_48) (w0_49) (w0_50) (w0_51) (w0_52) (w0_53) (w0_54) (w0_55) (w0_56) (w0_57) (w0_58) (w0_59) (w0_60) (w0_61) (w0_62) (w0_63) (w0_64) (w0_65) (w0_66) place__16 o_stacked24_26 s_stack r1_1 o_place29_33 o_stacked29_34 o_stack29_35 hc36) mw_513 kb_X12_puts (ci := 12) rfl rfl (by decide) rfl rfl hlB19.1 rfl (Nat.le_of_ble_eq_true rfl) dX12_stays_29 (by decide)) X hV31 [0, 3] [1, 2, 4] rfl rfl rfl (by decide) (fun u H locs hp39 hV38 => ?_)
    have hV38 : kV E A s.heap H locs [(a0, .inr (12, [.ref a4, w0_1, w0_2, w0_3, w0_4, w0_5, w0_6, w0_7, w0_8, w0_9, w0_10, w0_11, w0_12, w0_13, w0_14, w0_15, .ref a2, .ref a1, .int o_place29_33, .int s_end, .int bad__12, w0_21, .int o_codes24_25, .int open__15, .int o_stacked29_34, w0_25, .int isBehind__14, .ref a3, w0_28, w0_29, w0_30, w0_31, w0_32, w0_33, w0_34, w0_35, w0_36, w0_37, w0_38, w0_39, w0_40, w0_41, w0_42, w0_43, w0_44, w0_45, w0_46, w0_47, w0_48, w0_49, w0_50, w0_51, w0_52, w0_53, w0_54, w0_55, w0_56, w0_57, w0_58, w0_59, w0_60, w0_61, w0_62, w0_63, w0_64, w0_65, w0_66])), (a1, .inl (E.2 0, 120, .inl o_newArg24_27)), (a2, .inl (E.2 0, 120, .inl o_newCode24_28)), (a3, .inl (E.2 0, 160, .inl o_stack29_35)), (a4, .inl (E.2 1, 200, .inl s_tape))] := hV38.sub [3, 0, 1, 4, 2] rfl rfl
    clear hV31
    refine lv_iconst (v := 1) hx hb dX12_stays_32 (by decide) ?_
    obtain ⟨q40, q41, q42, q43, q44, q45, q46, q47, q48, q49⟩ := tup10_s h37
    clear h37
    exact hret _ () _ _ _ _ q40 rfl (by rw [← q41, ← q42, ← q43, ← q44, ← q45, ← q46, ← q47, ← q48, ← q49]; exact hV38) dX12_stays_33
  refine lv_if_ne (tgt := 19) hx hb dX12_stays_9 (by decide) (fun c50 => ?_) (fun c50 => ?_)
  · have h51 := ieS c50 h9
    clear h9 c50
    exact J19 s_bad s_codes s_isBehind s_open s_place s_stacked s_newArg s_newCode _ _ _ h51 hV10 (lv_sub hl6 [1, 0] rfl)
  · have h52 := itS c50 h9
    clear h9 c50
    refine lv_iload_n hx hb dX12_stays_12 rfl (lv_at hl6 0 rfl) ?_
    obtain ⟨r13_53, hc54, h55⟩ := cb1_s h52
    clear h52
    refine kgoiE (krunS (rest := []) X hV10 [] (c_X12_isPlus l E _ r1_1 r13_53 hc54) mw_541 kb_X12_isPlus (by decide) rfl rfl hl6.1 rfl (Nat.le_of_ble_eq_true rfl) dX12_stays_13 (by decide)) X hV10 [] [0, 1, 2, 3, 4] rfl rfl rfl (by decide) (fun u H locs hV56 => ?_)
    have hV56 : kV E A s.heap H locs [(a0, .inr (12, [.ref a4, w0_1, w0_2, w0_3, w0_4, w0_5, w0_6, w0_7, w0_8, w0_9, w0_10, w0_11, w0_12, w0_13, w0_14, w0_15, .ref a2, .ref a1, .int s_place, .int s_end, .int s_bad, w0_21, .int s_codes, .int s_open, .int s_stacked, w0_25, .int s_isBehind, .ref a3, w0_28, w0_29, w0_30, w0_31, w0_32, w0_33, w0_34, w0_35, w0_36, w0_37, w0_38, w0_39, w0_40, w0_41, w0_42, w0_43, w0_44, w0_45, w0_46, w0_47, w0_48, w0_49, w0_50, w0_51, w0_52, w0_53, w0_54, w0_55, w0_56, w0_57, w0_58, w0_59, w0_60, w0_61, w0_62, w0_63, w0_64, w0_65, w0_66])), (a1, .inl (E.2 0, 120, .inl s_newArg)), (a2, .inl (E.2 0, 120, .inl s_newCode)), (a3, .inl (E.2 0, 160, .inl s_stack)), (a4, .inl (E.2 1, 200, .inl s_tape))] := hV56.sub [0, 1, 2, 3, 4] rfl rfl
    clear hV10
    refine lv_if_eq (tgt := 34) hx hb dX12_stays_16 (by decide) (fun c58 => ?_) (fun c58 => ?_)
    · have h59 := itS c58 h55
      clear h55 c58
      refine lv_aload_n hx hb dX12_stays_34 rfl (lv_at hl6 1 rfl) ?_
      refine lv_iconst (v := 1) hx hb dX12_stays_35 (by decide) ?_
      obtain ⟨o_codes36_61, o_stacked36_62, o_newArg36_63, o_newCode36_64, hc65, h66⟩ := cb4_s h59
      clear h59
      refine kgov (krunV (rest := []) X hV56 [0, 1, 2, 3] (c_X12_sums l E _ a0 a1 a2 a3 (.ref a4) (w0_1) (w0_2) (w0_3) (w0_4) (w0_5) (w0_6) (w0_7) (w0_8) (w0_9) (w0_10) (w0_11) (w0_12) (w0_13) (w0_14) (w0_15) (.int s_place) (.int s_end) (w0_21) (.int s_open) (w0_25) (.int s_isBehind) (w0_28) (w0_29) (w0_30) (w0_31) (w0_32) (w0_33) (w0_34) (w0_35) (w0_36) (w0_37) (w0_38) (w0_39) (w0_40) (w0_41) (w0_42) (w0_43) (w0_44) (w0_45) (w0_46) (w0_47) (w0_48) (w0_49) (w0_50) (w0_51) (w0_52) (w0_53) (w0_54) (w0_55) (w0_56) (w0_57) (w0_58) (w0_59) (w0_60) (w0_61) (w0_62) (w0_63) (w0_64) (w0_65) (w0_66) s_bad s_codes s_stacked s_newArg s_newCode s_stack 1 o_codes36_61 o_stacked36_62 o_newArg36_63 o_newCode36_64 hc65) mw_544 kb_X12_sums (ci := 12) rfl rfl (by decide) rfl rfl hl6.1 rfl (Nat.le_of_ble_eq_true rfl) dX12_stays_36 (by decide)) X hV56 [0, 1, 2, 3] [4] rfl rfl rfl (by decide) (fun u H locs hp68 hV67 => ?_)
      have hV67 : kV E A s.heap H locs [(a0, .inr (12, [.ref a4, w0_1, w0_2, w0_3, w0_4, w0_5, w0_6, w0_7, w0_8, w0_9, w0_10, w0_11, w0_12, w0_13, w0_14, w0_15, .ref a2, .ref a1, .int s_place, .int s_end, .int s_bad, w0_21, .int o_codes36_61, .int s_open, .int o_stacked36_62, w0_25, .int s_isBehind, .ref a3, w0_28, w0_29, w0_30, w0_31, w0_32, w0_33, w0_34, w0_35, w0_36, w0_37, w0_38, w0_39, w0_40, w0_41, w0_42, w0_43, w0_44, w0_45, w0_46, w0_47, w0_48, w0_49, w0_50, w0_51, w0_52, w0_53, w0_54, w0_55, w0_56, w0_57, w0_58, w0_59, w0_60, w0_61, w0_62, w0_63, w0_64, w0_65, w0_66])), (a1, .inl (E.2 0, 120, .inl o_newArg36_63)), (a2, .inl (E.2 0, 120, .inl o_newCode36_64)), (a3, .inl (E.2 0, 160, .inl s_stack)), (a4, .inl (E.2 1, 200, .inl s_tape))] := hV67.sub [1, 2, 3, 4, 0] rfl rfl
      clear hV56
      refine lv_iload_n hx hb dX12_stays_39 rfl (lv_at hl6 0 rfl) ?_
      refine lv_bipush (v := 93) hx hb dX12_stays_40 (by decide) ?_
      refine lv_icmp_eq (tgt := 47) hx hb dX12_stays_42 (by decide) (fun c69 => ?_) (fun c69 => ?_)
      · have h70 := itS c69 h66
        clear h66 c69
        refine lv_aload_n hx hb dX12_stays_47 rfl (lv_at hl6 1 rfl) ?_
        obtain ⟨r48_72, hc73, h74⟩ := cb1_s h70
        clear h70
        refine kgoiE (krunV (rest := []) X hV67 [0, 3] (c_X12_top l E _ a0 a3 (.ref a4) (w0_1) (w0_2) (w0_3) (w0_4) (w0_5) (w0_6) (w0_7) (w0_8) (w0_9) (w0_10) (w0_11) (w0_12) (w0_13) (w0_14) (w0_15) (.ref a2) (.ref a1) (.int s_place) (.int s_end) (.int s_bad) (w0_21) (.int o_codes36_61) (.int s_open) (w0_25) (.int s_isBehind) (w0_28) (w0_29) (w0_30) (w0_31) (w0_32) (w0_33) (w0_34) (w0_35) (w0_36) (w0_37) (w0_38) (w0_39) (w0_40) (w0_41) (w0_42) (w0_43) (w0_44) (w0_45) (w0_46) (w0_47) (w0_48) (w0_49) (w0_50) (w0_51) (w0_52) (w0_53) (w0_54) (w0_55) (w0_56) (w0_57) (w0_58) (w0_59) (w0_60) (w0_61) (w0_62) (w0_63) (w0_64) (w0_65) (w0_66) o_stacked36_62 s_stack r48_72 hc73) mw_548 kb_X12_top (ci := 12) rfl rfl (by decide) rfl rfl hl6.1 rfl (Nat.le_of_ble_eq_true rfl) dX12_stays_48 (by decide)) X hV67 [0, 3] [1, 2, 4] rfl rfl rfl (by decide) (fun u H locs hV75 => ?_)
        have hV75 : kV E A s.heap H locs [(a0, .inr (12, [.ref a4, w0_1, w0_2, w0_3, w0_4, w0_5, w0_6, w0_7, w0_8, w0_9, w0_10, w0_11, w0_12, w0_13, w0_14, w0_15, .ref a2, .ref a1, .int s_place, .int s_end, .int s_bad, w0_21, .int o_codes36_61, .int s_open, .int o_stacked36_62, w0_25, .int s_isBehind, .ref a3, w0_28, w0_29, w0_30, w0_31, w0_32, w0_33, w0_34, w0_35, w0_36, w0_37, w0_38, w0_39, w0_40, w0_41, w0_42, w0_43, w0_44, w0_45, w0_46, w0_47, w0_48, w0_49, w0_50, w0_51, w0_52, w0_53, w0_54, w0_55, w0_56, w0_57, w0_58, w0_59, w0_60, w0_61, w0_62, w0_63, w0_64, w0_65, w0_66])), (a1, .inl (E.2 0, 120, .inl o_newArg36_63)), (a2, .inl (E.2 0, 120, .inl o_newCode36_64)), (a3, .inl (E.2 0, 160, .inl s_stack)), (a4, .inl (E.2 1, 200, .inl s_tape))] := hV75.sub [3, 0, 1, 4, 2] rfl rfl
        clear hV67
        refine lv_bipush (v := 91) hx hb dX12_stays_51 (by decide) ?_
        refine lv_icmp_eq (tgt := 67) hx hb dX12_stays_53 (by decide) (fun c77 => ?_) (fun c77 => ?_)
        · have h78 := itS c77 h74
          clear h74 c77
          refine lv_aload_n hx hb dX12_stays_67 rfl (lv_at hl6 1 rfl) ?_
          refine lv_dup hx hb dX12_stays_68 rfl ?_
          refine kget X hV75 (ci := 12) inlX12 rfl 0 rfl 24 (by decide) mw_482 rfl dX12_stays_69 ?_
          refine lv_iconst (v := 1) hx hb dX12_stays_72 (by decide) ?_
          refine lv_isub hx hb dX12_stays_73 ?_
          obtain ⟨v74_80, e81, h82⟩ := nmI_s h78
          clear h78
          refine ktopi e81 ?_
          clear e81
          refine kput X hV75 (ci := 12) inlX12 rfl tyX12 tyX12_ok nmX12 0 rfl 24 (by decide) mw_482 rfl rfl rfl (Nat.le_of_ble_eq_true rfl) dX12_stays_74 (fun H locs hV83 => ?_)
          have hV83 : kV E A s.heap H locs [(a0, .inr (12, [.ref a4, w0_1, w0_2, w0_3, w0_4, w0_5, w0_6, w0_7, w0_8, w0_9, w0_10, w0_11, w0_12, w0_13, w0_14, w0_15, .ref a2, .ref a1, .int s_place, .int s_end, .int s_bad, w0_21, .int o_codes36_61, .int s_open, .int v74_80, w0_25, .int s_isBehind, .ref a3, w0_28, w0_29, w0_30, w0_31, w0_32, w0_33, w0_34, w0_35, w0_36, w0_37, w0_38, w0_39, w0_40, w0_41, w0_42, w0_43, w0_44, w0_45, w0_46, w0_47, w0_48, w0_49, w0_50, w0_51, w0_52, w0_53, w0_54, w0_55, w0_56, w0_57, w0_58, w0_59, w0_60, w0_61, w0_62, w0_63, w0_64, w0_65, w0_66])), (a1, .inl (E.2 0, 120, .inl o_newArg36_63)), (a2, .inl (E.2 0, 120, .inl o_newCode36_64)), (a3, .inl (E.2 0, 160, .inl s_stack)), (a4, .inl (E.2 1, 200, .inl s_tape))] := hV83
          clear hV75
          refine lv_aload_n hx hb dX12_stays_77 rfl (lv_at hl6 1 rfl) ?_
          refine lv_dup hx hb dX12_stays_78 rfl ?_
          refine kget X hV83 (ci := 12) inlX12 rfl 0 rfl 23 (by decide) mw_483 rfl dX12_stays_79 ?_
          refine lv_iconst (v := 1) hx hb dX12_stays_82 (by decide) ?_
          refine lv_isub hx hb dX12_stays_83 ?_
          obtain ⟨v84_84, e85, h86⟩ := nmI_s h82
          clear h82
          refine ktopi e85 ?_
          clear e85
          refine kput X hV83 (ci := 12) inlX12 rfl tyX12 tyX12_ok nmX12 0 rfl 23 (by decide) mw_483 rfl rfl rfl (Nat.le_of_ble_eq_true rfl) dX12_stays_84 (fun H locs hV87 => ?_)
          have hV87 : kV E A s.heap H locs [(a0, .inr (12, [.ref a4, w0_1, w0_2, w0_3, w0_4, w0_5, w0_6, w0_7, w0_8, w0_9, w0_10, w0_11, w0_12, w0_13, w0_14, w0_15, .ref a2, .ref a1, .int s_place, .int s_end, .int s_bad, w0_21, .int o_codes36_61, .int v84_84, .int v74_80, w0_25, .int s_isBehind, .ref a3, w0_28, w0_29, w0_30, w0_31, w0_32, w0_33, w0_34, w0_35, w0_36, w0_37, w0_38, w0_39, w0_40, w0_41, w0_42, w0_43, w0_44, w0_45, w0_46, w0_47, w0_48, w0_49, w0_50, w0_51, w0_52, w0_53, w0_54, w0_55, w0_56, w0_57, w0_58, w0_59, w0_60, w0_61, w0_62, w0_63, w0_64, w0_65, w0_66])), (a1, .inl (E.2 0, 120, .inl o_newArg36_63)), (a2, .inl (E.2 0, 120, .inl o_newCode36_64)), (a3, .inl (E.2 0, 160, .inl s_stack)), (a4, .inl (E.2 1, 200, .inl s_tape))] := hV87
          clear hV83
          refine lv_aload_n hx hb dX12_stays_87 rfl (lv_at hl6 1 rfl) ?_
          refine lv_dup hx hb dX12_stays_88 rfl ?_
          refine kget X hV87 (ci := 12) inlX12 rfl 0 rfl 18 (by decide) mw_473 rfl dX12_stays_89 ?_
          refine lv_iconst (v := 1) hx hb dX12_stays_92 (by decide) ?_
          refine lv_iadd hx hb dX12_stays_93 ?_
          obtain ⟨v94_88, e89, h90⟩ := nmI_s h86
          clear h86
          refine ktopi e89 ?_
          clear e89
          refine kput X hV87 (ci := 12) inlX12 rfl tyX12 tyX12_ok nmX12 0 rfl 18 (by decide) mw_473 rfl rfl rfl (Nat.le_of_ble_eq_true rfl) dX12_stays_94 (fun H locs hV91 => ?_)
          have hV91 : kV E A s.heap H locs [(a0, .inr (12, [.ref a4, w0_1, w0_2, w0_3, w0_4, w0_5, w0_6, w0_7, w0_8, w0_9, w0_10, w0_11, w0_12, w0_13, w0_14, w0_15, .ref a2, .ref a1, .int v94_88, .int s_end, .int s_bad, w0_21, .int o_codes36_61, .int v84_84, .int v74_80, w0_25, .int s_isBehind, .ref a3, w0_28, w0_29, w0_30, w0_31, w0_32, w0_33, w0_34, w0_35, w0_36, w0_37, w0_38, w0_39, w0_40, w0_41, w0_42, w0_43, w0_44, w0_45, w0_46, w0_47, w0_48, w0_49, w0_50, w0_51, w0_52, w0_53, w0_54, w0_55, w0_56, w0_57, w0_58, w0_59, w0_60, w0_61, w0_62, w0_63, w0_64, w0_65, w0_66])), (a1, .inl (E.2 0, 120, .inl o_newArg36_63)), (a2, .inl (E.2 0, 120, .inl o_newCode36_64)), (a3, .inl (E.2 0, 160, .inl s_stack)), (a4, .inl (E.2 1, 200, .inl s_tape))] := hV91
          clear hV87
          refine lv_aload_n hx hb dX12_stays_97 rfl (lv_at hl6 1 rfl) ?_
          refine lv_iconst (v := 1) hx hb dX12_stays_98 (by decide) ?_
          refine kput X hV91 (ci := 12) inlX12 rfl tyX12 tyX12_ok nmX12 0 rfl 26 (by decide) mw_504 rfl rfl rfl (Nat.le_of_ble_eq_true rfl) dX12_stays_99 (fun H locs hV92 => ?_)
          have hV92 : kV E A s.heap H locs [(a0, .inr (12, [.ref a4, w0_1, w0_2, w0_3, w0_4, w0_5, w0_6, w0_7, w0_8, w0_9, w0_10, w0_11, w0_12, w0_13, w0_14, w0_15, .ref a2, .ref a1, .int v94_88, .int s_end, .int s_bad, w0_21, .int o_codes36_61, .int v84_84, .int v74_80, w0_25, .int 1, .ref a3, w0_28, w0_29, w0_30, w0_31, w0_32, w0_33, w0_34, w0_35, w0_36, w0_37, w0_38, w0_39, w0_40, w0_41, w0_42, w0_43, w0_44, w0_45, w0_46, w0_47, w0_48, w0_49, w0_50, w0_51, w0_52, w0_53, w0_54, w0_55, w0_56, w0_57, w0_58, w0_59, w0_60, w0_61, w0_62, w0_63, w0_64, w0_65, w0_66])), (a1, .inl (E.2 0, 120, .inl o_newArg36_63)), (a2, .inl (E.2 0, 120, .inl o_newCode36_64)), (a3, .inl (E.2 0, 160, .inl s_stack)), (a4, .inl (E.2 1, 200, .inl s_tape))] := hV92
          clear hV91
          refine lv_iconst (v := 1) hx hb dX12_stays_102 (by decide) ?_
          obtain ⟨q93, q94, q95, q96, q97, q98, q99, q100, q101, q102⟩ := tup10_s h90
          clear h90
          exact hret _ () _ _ _ _ q93 rfl (by rw [← q94, ← q95, ← q96, ← q97, ← q98, ← q99, ← q100, ← q101, ← q102]; exact hV92) dX12_stays_103
        · have h79 := ieS c77 h74
          clear h74 c77
          refine lv_aload_n hx hb dX12_stays_56 rfl (lv_at hl6 1 rfl) ?_
          refine lv_iconst (v := 1) hx hb dX12_stays_57 (by decide) ?_
          refine lv_aload_n hx hb dX12_stays_58 rfl (lv_at hl6 1 rfl) ?_
          refine kget X hV75 (ci := 12) inlX12 rfl 0 rfl 18 (by decide) mw_473 rfl dX12_stays_59 ?_
          obtain ⟨o_bad62_103, hc104, h105⟩ := cb1_s h79
          clear h79
          refine kgov (krunV (rest := []) X hV75 [0] (c_X12_wrongs l E _ a0 (.ref a4) (w0_1) (w0_2) (w0_3) (w0_4) (w0_5) (w0_6) (w0_7) (w0_8) (w0_9) (w0_10) (w0_11) (w0_12) (w0_13) (w0_14) (w0_15) (.ref a2) (.ref a1) (.int s_place) (.int s_end) (w0_21) (.int o_codes36_61) (.int s_open) (.int o_stacked36_62) (w0_25) (.int s_isBehind) (.ref a3) (w0_28) (w0_29) (w0_30) (w0_31) (w0_32) (w0_33) (w0_34) (w0_35) (w0_36) (w0_37) (w0_38) (w0_39) (w0_40) (w0_41) (w0_42) (w0_43) (w0_44) (w0_45) (w0_46) (w0_47) (w0_48) (w0_49) (w0_50) (w0_51) (w0_52) (w0_53) (w0_54) (w0_55) (w0_56) (w0_57) (w0_58) (w0_59) (w0_60) (w0_61) (w0_62) (w0_63) (w0_64) (w0_65) (w0_66) s_bad 1 s_place o_bad62_103 hc104) mw_496 kb_X12_wrongs (ci := 12) rfl rfl (by decide) rfl rfl hl6.1 rfl (Nat.le_of_ble_eq_true rfl) dX12_stays_62 (by decide)) X hV75 [0] [1, 2, 3, 4] rfl rfl rfl (by decide) (fun u H locs hp107 hV106 => ?_)
          have hV106 : kV E A s.heap H locs [(a0, .inr (12, [.ref a4, w0_1, w0_2, w0_3, w0_4, w0_5, w0_6, w0_7, w0_8, w0_9, w0_10, w0_11, w0_12, w0_13, w0_14, w0_15, .ref a2, .ref a1, .int s_place, .int s_end, .int o_bad62_103, w0_21, .int o_codes36_61, .int s_open, .int o_stacked36_62, w0_25, .int s_isBehind, .ref a3, w0_28, w0_29, w0_30, w0_31, w0_32, w0_33, w0_34, w0_35, w0_36, w0_37, w0_38, w0_39, w0_40, w0_41, w0_42, w0_43, w0_44, w0_45, w0_46, w0_47, w0_48, w0_49, w0_50, w0_51, w0_52, w0_53, w0_54, w0_55, w0_56, w0_57, w0_58, w0_59, w0_60, w0_61, w0_62, w0_63, w0_64, w0_65, w0_66])), (a1, .inl (E.2 0, 120, .inl o_newArg36_63)), (a2, .inl (E.2 0, 120, .inl o_newCode36_64)), (a3, .inl (E.2 0, 160, .inl s_stack)), (a4, .inl (E.2 1, 200, .inl s_tape))] := hV106.sub [4, 0, 1, 2, 3] rfl rfl
          clear hV75
          refine lv_iconst (v := 0) hx hb dX12_stays_65 (by decide) ?_
          obtain ⟨q108, q109, q110, q111, q112, q113, q114, q115, q116, q117⟩ := tup10_s h105
          clear h105
          exact hret _ () _ _ _ _ q108 rfl (by rw [← q109, ← q110, ← q111, ← q112, ← q113, ← q114, ← q115, ← q116, ← q117]; exact hV106) dX12_stays_66
      · have h71 := ieS c69 h66
        clear h66 c69
        refine lv_iconst (v := 0) hx hb dX12_stays_45 (by decide) ?_
        obtain ⟨q118, q119, q120, q121, q122, q123, q124, q125, q126, q127⟩ := tup10_s h71
        clear h71
        exact hret _ () _ _ _ _ q118 rfl (by rw [← q119, ← q120, ← q121, ← q122, ← q123, ← q124, ← q125, ← q126, ← q127]; exact hV67) dX12_stays_46
    · have h60 := ieS c58 h55
      clear h55 c58
      exact J19 s_bad s_codes s_isBehind s_open s_place s_stacked s_newArg s_newCode _ _ _ h60 hV56 (lv_sub hl6 [1, 0] rfl)
abbrev r_X12_value : Room := { frames := 4, cells := 0, slots := 0, locals := 87 }
set_option maxHeartbeats 4000000 in
set_option maxRecDepth 100000 in
theorem c_X12_value (l : Launch) (E : kE) (sz : Nat) (a0 a1 a2 a3 a4 : Nat) (w0_1 w0_2 w0_3 w0_4 w0_5 w0_6 w0_7 w0_8 w0_9 w0_10 w0_11 w0_12 w0_13 w0_14 w0_15 w0_21 w0_25 w0_28 w0_29 w0_30 w0_31 w0_32 w0_33 w0_34 w0_35 w0_36 w0_37 w0_38 w0_39 w0_40 w0_41 w0_42 w0_43 w0_44 w0_45 w0_46 w0_47 w0_48 w0_49 w0_50 w0_51 w0_52 w0_53 w0_54 w0_55 w0_56 w0_57 w0_58 w0_59 w0_60 w0_61 w0_62 w0_63 w0_64 w0_65 w0_66 : Value) (s_place : Int32) (s_end : Int32) (s_bad : Int32) (s_codes : Int32) (s_open : Int32) (s_stacked : Int32) (s_isBehind : Int32) (s_newArg : Nat → Int32) (s_newCode : Nat → Int32) (s_stack : Nat → Int32) (s_tape : Nat → Int32) (o_place : Int32) (o_bad : Int32) (o_codes : Int32) (o_open : Int32) (o_stacked : Int32) (o_isBehind : Int32) (o_newArg : Nat → Int32) (o_newCode : Nat → Int32) (o_stack : Nat → Int32) (h : f_X12_value s_place s_end s_bad s_codes s_open s_stacked s_isBehind s_newArg s_newCode s_stack s_tape = some (o_place, o_bad, o_codes, o_open, o_stacked, o_isBehind, o_newArg, o_newCode, o_stack)) : kMv l yX12_value cX12_value 2 r_X12_value [.ref a0] E [(a0, .inr (12, [.ref a4, w0_1, w0_2, w0_3, w0_4, w0_5, w0_6, w0_7, w0_8, w0_9, w0_10, w0_11, w0_12, w0_13, w0_14, w0_15, .ref a2, .ref a1, .int s_place, .int s_end, .int s_bad, w0_21, .int s_codes, .int s_open, .int s_stacked, w0_25, .int s_isBehind, .ref a3, w0_28, w0_29, w0_30, w0_31, w0_32, w0_33, w0_34, w0_35, w0_36, w0_37, w0_38, w0_39, w0_40, w0_41, w0_42, w0_43, w0_44, w0_45, w0_46, w0_47, w0_48, w0_49, w0_50, w0_51, w0_52, w0_53, w0_54, w0_55, w0_56, w0_57, w0_58, w0_59, w0_60, w0_61, w0_62, w0_63, w0_64, w0_65, w0_66])), (a1, .inl (E.2 0, 120, .inl s_newArg)), (a2, .inl (E.2 0, 120, .inl s_newCode)), (a3, .inl (E.2 0, 160, .inl s_stack)), (a4, .inl (E.2 1, 200, .inl s_tape))] sz 0 0 (fun (_ : Unit) => True) (fun _ => [(a0, .inr (12, [.ref a4, w0_1, w0_2, w0_3, w0_4, w0_5, w0_6, w0_7, w0_8, w0_9, w0_10, w0_11, w0_12, w0_13, w0_14, w0_15, .ref a2, .ref a1, .int o_place, .int s_end, .int o_bad, w0_21, .int o_codes, .int o_open, .int o_stacked, w0_25, .int o_isBehind, .ref a3, w0_28, w0_29, w0_30, w0_31, w0_32, w0_33, w0_34, w0_35, w0_36, w0_37, w0_38, w0_39, w0_40, w0_41, w0_42, w0_43, w0_44, w0_45, w0_46, w0_47, w0_48, w0_49, w0_50, w0_51, w0_52, w0_53, w0_54, w0_55, w0_56, w0_57, w0_58, w0_59, w0_60, w0_61, w0_62, w0_63, w0_64, w0_65, w0_66])), (a1, .inl (E.2 0, 120, .inl o_newArg)), (a2, .inl (E.2 0, 120, .inl o_newCode)), (a3, .inl (E.2 0, 160, .inl o_stack)), (a4, .inl (E.2 1, 200, .inl s_tape))]) := by
  refine kmetv rfl (Nat.le_of_ble_eq_true rfl) ?_
  intro p e s m args below meth c ls A Q X hnm hV hret hl
  have X : kC p s m c cX12_value 2 RX12 args E A := X
  have hx := X.1
  have hb := X.2.1
  have hl : lv_has ls 2 [(0, .ref a0)] := hl
  rw [f_X12_value] at h
  refine lv_iconst (v := 1) hx hb dX12_value_0 (by decide) ?_
  refine lv_istore_n (lv' := [(1, .int 1), (0, .ref a0)]) hx hb dX12_value_1 rfl hl (by decide) rfl (fun ls hl1 => ?_)
  clear hl
  refine lv_aload_n hx hb dX12_value_2 rfl (lv_at hl1 1 rfl) ?_
  refine lv_iconst (v := 0) hx hb dX12_value_3 (by decide) ?_
  refine kput X hV (ci := 12) inlX12 rfl tyX12 tyX12_ok nmX12 0 rfl 26 (by decide) mw_504 rfl rfl rfl (Nat.le_of_ble_eq_true rfl) dX12_value_4 (fun H locs hV2 => ?_)
  have hV2 : kV E A s.heap H locs [(a0, .inr (12, [.ref a4, w0_1, w0_2, w0_3, w0_4, w0_5, w0_6, w0_7, w0_8, w0_9, w0_10, w0_11, w0_12, w0_13, w0_14, w0_15, .ref a2, .ref a1, .int s_place, .int s_end, .int s_bad, w0_21, .int s_codes, .int s_open, .int s_stacked, w0_25, .int 0, .ref a3, w0_28, w0_29, w0_30, w0_31, w0_32, w0_33, w0_34, w0_35, w0_36, w0_37, w0_38, w0_39, w0_40, w0_41, w0_42, w0_43, w0_44, w0_45, w0_46, w0_47, w0_48, w0_49, w0_50, w0_51, w0_52, w0_53, w0_54, w0_55, w0_56, w0_57, w0_58, w0_59, w0_60, w0_61, w0_62, w0_63, w0_64, w0_65, w0_66])), (a1, .inl (E.2 0, 120, .inl s_newArg)), (a2, .inl (E.2 0, 120, .inl s_newCode)), (a3, .inl (E.2 0, 160, .inl s_stack)), (a4, .inl (E.2 1, 200, .inl s_tape))] := hV2
  clear hV
  have J57 : ∀ (bad__3 : Int32) (codes__4 : Int32) (isBehind__5 : Int32) (open__6 : Int32) (place__7 : Int32) (stacked__8 : Int32) (newArg__9 : Nat → Int32) (newCode__10 : Nat → Int32) (stack__11 : Nat → Int32) (H : Heap) (locs : List Loc) (ls : Array Slot), (f_X12_value_J57  ) bad__3 codes__4 isBehind__5 open__6 place__7 stacked__8 newArg__9 newCode__10 stack__11 = some (o_place, o_bad, o_codes, o_open, o_stacked, o_isBehind, o_newArg, o_newCode, o_stack) → kV E A s.heap H locs [(a0, .inr (12, [.ref a4, w0_1, w0_2, w0_3, w0_4, w0_5, w0_6, w0_7, w0_8, w0_9, w0_10, w0_11, w0_12, w0_13, w0_14, w0_15, .ref a2, .ref a1, .int place__7, .int s_end, .int bad__3, w0_21, .int codes__4, .int open__6, .int stacked__8, w0_25, .int isBehind__5, .ref a3, w0_28, w0_29, w0_30, w0_31, w0_32, w0_33, w0_34, w0_35, w0_36, w0_37, w0_38, w0_39, w0_40, w0_41, w0_42, w0_43, w0_44, w0_45, w0_46, w0_47, w0_48, w0_49, w0_50, w0_51, w0_52, w0_53, w0_54, w0_55, w0_56, w0_57, w0_58, w0_59, w0_60, w0_61, w0_62, w0_63, w0_64, w0_65, w0_66])), (a1, .inl (E.2 0, 120, .inl newArg__9)), (a2, .inl (E.2 0, 120, .inl newCode__10)), (a3, .inl (E.2 0, 160, .inl stack__11)), (a4, .inl (E.2 1, 200, .inl s_tape))] → lv_has ls 2 [(0, .ref a0)] → W p l e r_X12_value s m args below meth c H locs 0 0 Q (F0 m 57 ls []) := by
    intro bad__3 codes__4 isBehind__5 open__6 place__7 stacked__8 newArg__9 newCode__10 stack__11 H locs ls hB57 hVB57 hlB57
    rw [f_X12_value_J57] at hB57
    refine lv_aload_n hx hb dX12_value_57 rfl (lv_at hlB57 0 rfl) ?_
    obtain ⟨r58_12, hc13, h14⟩ := cb1_s hB57
    clear hB57
    refine kgoiE (krunV (rest := []) X hVB57 [0] (c_X12_isGood l E _ a0 (.ref a4) (w0_1) (w0_2) (w0_3) (w0_4) (w0_5) (w0_6) (w0_7) (w0_8) (w0_9) (w0_10) (w0_11) (w0_12) (w0_13) (w0_14) (w0_15) (.ref a2) (.ref a1) (.int place__7) (.int s_end) (w0_21) (.int codes__4) (.int open__6) (.int stacked__8) (w0_25) (.int isBehind__5) (.ref a3) (w0_28) (w0_29) (w0_30) (w0_31) (w0_32) (w0_33) (w0_34) (w0_35) (w0_36) (w0_37) (w0_38) (w0_39) (w0_40) (w0_41) (w0_42) (w0_43) (w0_44) (w0_45) (w0_46) (w0_47) (w0_48) (w0_49) (w0_50) (w0_51) (w0_52) (w0_53) (w0_54) (w0_55) (w0_56) (w0_57) (w0_58) (w0_59) (w0_60) (w0_61) (w0_62) (w0_63) (w0_64) (w0_65) (w0_66) bad__3 r58_12 hc13) mw_484 kb_X12_isGood (ci := 12) rfl rfl (by decide) rfl rfl hlB57.1 rfl (Nat.le_of_ble_eq_true rfl) dX12_value_58 (by decide)) X hVB57 [0] [1, 2, 3, 4] rfl rfl rfl (by decide) (fun u H locs hV15 => ?_)
    have hV15 : kV E A s.heap H locs [(a0, .inr (12, [.ref a4, w0_1, w0_2, w0_3, w0_4, w0_5, w0_6, w0_7, w0_8, w0_9, w0_10, w0_11, w0_12, w0_13, w0_14, w0_15, .ref a2, .ref a1, .int place__7, .int s_end, .int bad__3, w0_21, .int codes__4, .int open__6, .int stacked__8, w0_25, .int isBehind__5, .ref a3, w0_28, w0_29, w0_30, w0_31, w0_32, w0_33, w0_34, w0_35, w0_36, w0_37, w0_38, w0_39, w0_40, w0_41, w0_42, w0_43, w0_44, w0_45, w0_46, w0_47, w0_48, w0_49, w0_50, w0_51, w0_52, w0_53, w0_54, w0_55, w0_56, w0_57, w0_58, w0_59, w0_60, w0_61, w0_62, w0_63, w0_64, w0_65, w0_66])), (a1, .inl (E.2 0, 120, .inl newArg__9)), (a2, .inl (E.2 0, 120, .inl newCode__10)), (a3, .inl (E.2 0, 160, .inl stack__11)), (a4, .inl (E.2 1, 200, .inl s_tape))] := hV15.sub [4, 0, 1, 2, 3] rfl rfl
    clear hVB57
    refine lv_if_eq (tgt := 82) hx hb dX12_value_61 (by decide) (fun c17 => ?_) (fun c17 => ?_)
    · have h18 := itS c17 h14
      clear h14 c17
      obtain ⟨q20, q21, q22, q23, q24, q25, q26, q27, q28⟩ := tup9_s h18
      clear h18
      exact hret () _ _ _ _ trivial (by rw [← q20, ← q21, ← q22, ← q23, ← q24, ← q25, ← q26, ← q27, ← q28]; exact hV15) dX12_value_82
    · have h19 := ieS c17 h14
      clear h14 c17
      refine lv_aload_n hx hb dX12_value_64 rfl (lv_at hlB57 0 rfl) ?_
      obtain ⟨r65_29, hc30, h31⟩ := cb1_s h19
      clear h19
      refine kgoiE (krunV (rest := []) X hV15 [0, 3] (c_X12_top l E _ a0 a3 (.ref a4) (w0_1) (w0_2) (w0_3) (w0_4) (w0_5) (w0_6) (w0_7) (w0_8) (w0_9) (w0_10) (w0_11) (w0_12) (w0_13) (w0_14) (w0_15) (.ref a2) (.ref a1) (.int place__7) (.int s_end) (.int bad__3) (w0_21) (.int codes__4) (.int open__6) (w0_25) (.int isBehind__5) (w0_28) (w0_29) (w0_30) (w0_31) (w0_32) (w0_33) (w0_34) (w0_35) (w0_36) (w0_37) (w0_38) (w0_39) (w0_40) (w0_41) (w0_42) (w0_43) (w0_44) (w0_45) (w0_46) (w0_47) (w0_48) (w0_49) (w0_50) (w0_51) (w0_52) (w0_53) (w0_54) (w0_55) (w0_56) (w0_57) (w0_58) (w0_59) (w0_60) (w0_61) (w0_62) (w0_63) (w0_64) (w0_65) (w0_66) stacked__8 stack__11 r65_29 hc30) mw_548 kb_X12_top (ci := 12) rfl rfl (by decide) rfl rfl hlB57.1 rfl (Nat.le_of_ble_eq_true rfl) dX12_value_65 (by decide)) X hV15 [0, 3] [1, 2, 4] rfl rfl rfl (by decide) (fun u H locs hV32 => ?_)
      have hV32 : kV E A s.heap H locs [(a0, .inr (12, [.ref a4, w0_1, w0_2, w0_3, w0_4, w0_5, w0_6, w0_7, w0_8, w0_9, w0_10, w0_11, w0_12, w0_13, w0_14, w0_15, .ref a2, .ref a1, .int place__7, .int s_end, .int bad__3, w0_21, .int codes__4, .int open__6, .int stacked__8, w0_25, .int isBehind__5, .ref a3, w0_28, w0_29, w0_30, w0_31, w0_32, w0_33, w0_34, w0_35, w0_36, w0_37, w0_38, w0_39, w0_40, w0_41, w0_42, w0_43, w0_44, w0_45, w0_46, w0_47, w0_48, w0_49, w0_50, w0_51, w0_52, w0_53, w0_54, w0_55, w0_56, w0_57, w0_58, w0_59, w0_60, w0_61, w0_62, w0_63, w0_64, w0_65, w0_66])), (a1, .inl (E.2 0, 120, .inl newArg__9)), (a2, .inl (E.2 0, 120, .inl newCode__10)), (a3, .inl (E.2 0, 160, .inl stack__11)), (a4, .inl (E.2 1, 200, .inl s_tape))] := hV32.sub [3, 0, 1, 4, 2] rfl rfl
      clear hV15
      refine lv_bipush (v := 91) hx hb dX12_value_68 (by decide) ?_
      refine lv_icmp_ne (tgt := 82) hx hb dX12_value_70 (by decide) (fun c34 => ?_) (fun c34 => ?_)
      · have h35 := ieS c34 h31
        clear h31 c34
        obtain ⟨q37, q38, q39, q40, q41, q42, q43, q44, q45⟩ := tup9_s h35
        clear h35
        exact hret () _ _ _ _ trivial (by rw [← q37, ← q38, ← q39, ← q40, ← q41, ← q42, ← q43, ← q44, ← q45]; exact hV32) dX12_value_82
      · have h36 := itS c34 h31
        clear h31 c34
        refine lv_aload_n hx hb dX12_value_73 rfl (lv_at hlB57 0 rfl) ?_
        refine lv_iconst (v := 1) hx hb dX12_value_74 (by decide) ?_
        refine lv_aload_n hx hb dX12_value_75 rfl (lv_at hlB57 0 rfl) ?_
        refine kget X hV32 (ci := 12) inlX12 rfl 0 rfl 18 (by decide) mw_473 rfl dX12_value_76 ?_
        obtain ⟨o_bad79_46, hc47, h48⟩ := cb1_s h36
        clear h36
        refine kgov (krunV (rest := []) X hV32 [0] (c_X12_wrongs l E _ a0 (.ref a4) (w0_1) (w0_2) (w0_3) (w0_4) (w0_5) (w0_6) (w0_7) (w0_8) (w0_9) (w0_10) (w0_11) (w0_12) (w0_13) (w0_14) (w0_15) (.ref a2) (.ref a1) (.int place__7) (.int s_end) (w0_21) (.int codes__4) (.int open__6) (.int stacked__8) (w0_25) (.int isBehind__5) (.ref a3) (w0_28) (w0_29) (w0_30) (w0_31) (w0_32) (w0_33) (w0_34) (w0_35) (w0_36) (w0_37) (w0_38) (w0_39) (w0_40) (w0_41) (w0_42) (w0_43) (w0_44) (w0_45) (w0_46) (w0_47) (w0_48) (w0_49) (w0_50) (w0_51) (w0_52) (w0_53) (w0_54) (w0_55) (w0_56) (w0_57) (w0_58) (w0_59) (w0_60) (w0_61) (w0_62) (w0_63) (w0_64) (w0_65) (w0_66) bad__3 1 place__7 o_bad79_46 hc47) mw_496 kb_X12_wrongs (ci := 12) rfl rfl (by decide) rfl rfl hlB57.1 rfl (Nat.le_of_ble_eq_true rfl) dX12_value_79 (by decide)) X hV32 [0] [1, 2, 3, 4] rfl rfl rfl (by decide) (fun u H locs hp50 hV49 => ?_)
        have hV49 : kV E A s.heap H locs [(a0, .inr (12, [.ref a4, w0_1, w0_2, w0_3, w0_4, w0_5, w0_6, w0_7, w0_8, w0_9, w0_10, w0_11, w0_12, w0_13, w0_14, w0_15, .ref a2, .ref a1, .int place__7, .int s_end, .int o_bad79_46, w0_21, .int codes__4, .int open__6, .int stacked__8, w0_25, .int isBehind__5, .ref a3, w0_28, w0_29, w0_30, w0_31, w0_32, w0_33, w0_34, w0_35, w0_36, w0_37, w0_38, w0_39, w0_40, w0_41, w0_42, w0_43, w0_44, w0_45, w0_46, w0_47, w0_48, w0_49, w0_50, w0_51, w0_52, w0_53, w0_54, w0_55, w0_56, w0_57, w0_58, w0_59, w0_60, w0_61, w0_62, w0_63, w0_64, w0_65, w0_66])), (a1, .inl (E.2 0, 120, .inl newArg__9)), (a2, .inl (E.2 0, 120, .inl newCode__10)), (a3, .inl (E.2 0, 160, .inl stack__11)), (a4, .inl (E.2 1, 200, .inl s_tape))] := hV49.sub [4, 0, 1, 2, 3] rfl rfl
        clear hV32
        obtain ⟨q51, q52, q53, q54, q55, q56, q57, q58, q59⟩ := tup9_s h48
        clear h48
        exact hret () _ _ _ _ trivial (by rw [← q51, ← q52, ← q53, ← q54, ← q55, ← q56, ← q57, ← q58, ← q59]; exact hV49) dX12_value_82
  have L7 : ∀ (n7 : Nat) (x1_60 : Int32) (bad__61 : Int32) (codes__62 : Int32) (isBehind__63 : Int32) (open__64 : Int32) (place__65 : Int32) (stacked__66 : Int32) (newArg__67 : Nat → Int32) (newCode__68 : Nat → Int32) (stack__69 : Nat → Int32) (H : Heap) (locs : List Loc) (ls : Array Slot), (f_X12_value_L7 s_end s_tape (f_X12_value_J57  ) n7) x1_60 bad__61 codes__62 isBehind__63 open__64 place__65 stacked__66 newArg__67 newCode__68 stack__69 = some (o_place, o_bad, o_codes, o_open, o_stacked, o_isBehind, o_newArg, o_newCode, o_stack) → kV E A s.heap H locs [(a0, .inr (12, [.ref a4, w0_1, w0_2, w0_3, w0_4, w0_5, w0_6, w0_7, w0_8, w0_9, w0_10, w0_11, w0_12, w0_13, w0_14, w0_15, .ref a2, .ref a1, .int place__65, .int s_end, .int bad__61, w0_21, .int codes__62, .int open__64, .int stacked__66, w0_25, .int isBehind__63, .ref a3, w0_28, w0_29, w0_30, w0_31, w0_32, w0_33, w0_34, w0_35, w0_36, w0_37, w0_38, w0_39, w0_40, w0_41, w0_42, w0_43, w0_44, w0_45, w0_46, w0_47, w0_48, w0_49, w0_50, w0_51, w0_52, w0_53, w0_54, w0_55, w0_56, w0_57, w0_58, w0_59, w0_60, w0_61, w0_62, w0_63, w0_64, w0_65, w0_66])), (a1, .inl (E.2 0, 120, .inl newArg__67)), (a2, .inl (E.2 0, 120, .inl newCode__68)), (a3, .inl (E.2 0, 160, .inl stack__69)), (a4, .inl (E.2 1, 200, .inl s_tape))] → lv_has ls 2 [(0, .ref a0), (1, .int x1_60)] → W p l e r_X12_value s m args below meth c H locs 0 0 Q (F0 m 7 ls []) := by
    intro n7
    induction n7 with
    | zero =>
      intro x1_60 bad__61 codes__62 isBehind__63 open__64 place__65 stacked__66 newArg__67 newCode__68 stack__69 H locs ls hB7 hVB7 hlB7
      rw [f_X12_value_L7] at hB7
      exact nomatch hB7
    | succ n7 ih7 =>
      intro x1_60 bad__61 codes__62 isBehind__63 open__64 place__65 stacked__66 newArg__67 newCode__68 stack__69 H locs ls hB7 hVB7 hlB7
      rw [f_X12_value_L7] at hB7
      refine lv_iload_n hx hb dX12_value_7 rfl (lv_at hlB7 1 rfl) ?_
      refine lv_if_eq (tgt := 57) hx hb dX12_value_8 (by decide) (fun c70 => ?_) (fun c70 => ?_)
      · have h71 := itS c70 hB7
        clear hB7 c70
        exact J57 bad__61 codes__62 isBehind__63 open__64 place__65 stacked__66 newArg__67 newCode__68 stack__69 _ _ _ h71 hVB7 (lv_sub hlB7 [0] rfl)
      · have h72 := ieS c70 hB7
        clear hB7 c70
        refine lv_aload_n hx hb dX12_value_11 rfl (lv_at hlB7 0 rfl) ?_
        obtain ⟨r12_73, hc74, h75⟩ := cb1_s h72
        clear h72
        refine kgoiE (krunV (rest := []) X hVB7 [0] (c_X12_isGood l E _ a0 (.ref a4) (w0_1) (w0_2) (w0_3) (w0_4) (w0_5) (w0_6) (w0_7) (w0_8) (w0_9) (w0_10) (w0_11) (w0_12) (w0_13) (w0_14) (w0_15) (.ref a2) (.ref a1) (.int place__65) (.int s_end) (w0_21) (.int codes__62) (.int open__64) (.int stacked__66) (w0_25) (.int isBehind__63) (.ref a3) (w0_28) (w0_29) (w0_30) (w0_31) (w0_32) (w0_33) (w0_34) (w0_35) (w0_36) (w0_37) (w0_38) (w0_39) (w0_40) (w0_41) (w0_42) (w0_43) (w0_44) (w0_45) (w0_46) (w0_47) (w0_48) (w0_49) (w0_50) (w0_51) (w0_52) (w0_53) (w0_54) (w0_55) (w0_56) (w0_57) (w0_58) (w0_59) (w0_60) (w0_61) (w0_62) (w0_63) (w0_64) (w0_65) (w0_66) bad__61 r12_73 hc74) mw_484 kb_X12_isGood (ci := 12) rfl rfl (by decide) rfl rfl hlB7.1 rfl (Nat.le_of_ble_eq_true rfl) dX12_value_12 (by decide)) X hVB7 [0] [1, 2, 3, 4] rfl rfl rfl (by decide) (fun u H locs hV76 => ?_)
        have hV76 : kV E A s.heap H locs [(a0, .inr (12, [.ref a4, w0_1, w0_2, w0_3, w0_4, w0_5, w0_6, w0_7, w0_8, w0_9, w0_10, w0_11, w0_12, w0_13, w0_14, w0_15, .ref a2, .ref a1, .int place__65, .int s_end, .int bad__61, w0_21, .int codes__62, .int open__64, .int stacked__66, w0_25, .int isBehind__63, .ref a3, w0_28, w0_29, w0_30, w0_31, w0_32, w0_33, w0_34, w0_35, w0_36, w0_37, w0_38, w0_39, w0_40, w0_41, w0_42, w0_43, w0_44, w0_45, w0_46, w0_47, w0_48, w0_49, w0_50, w0_51, w0_52, w0_53, w0_54, w0_55, w0_56, w0_57, w0_58, w0_59, w0_60, w0_61, w0_62, w0_63, w0_64, w0_65, w0_66])), (a1, .inl (E.2 0, 120, .inl newArg__67)), (a2, .inl (E.2 0, 120, .inl newCode__68)), (a3, .inl (E.2 0, 160, .inl stack__69)), (a4, .inl (E.2 1, 200, .inl s_tape))] := hV76.sub [4, 0, 1, 2, 3] rfl rfl
        clear hVB7
        refine lv_if_eq (tgt := 57) hx hb dX12_value_15 (by decide) (fun c78 => ?_) (fun c78 => ?_)
        · have h79 := itS c78 h75
          clear h75 c78
          exact J57 bad__61 codes__62 isBehind__63 open__64 place__65 stacked__66 newArg__67 newCode__68 stack__69 _ _ _ h79 hV76 (lv_sub hlB7 [0] rfl)
        · have h80 := ieS c78 h75
          clear h75 c78
          refine lv_aload_n hx hb dX12_value_18 rfl (lv_at hlB7 0 rfl) ?_
          refine kget X hV76 (ci := 12) inlX12 rfl 0 rfl 26 (by decide) mw_504 rfl dX12_value_19 ?_
          have J29 : ∀ (bad__81 : Int32) (codes__82 : Int32) (open__83 : Int32) (place__84 : Int32) (stacked__85 : Int32) (newArg__86 : Nat → Int32) (newCode__87 : Nat → Int32) (stack__88 : Nat → Int32) (H : Heap) (locs : List Loc) (ls : Array Slot), (f_X12_value_J29 s_end s_tape (f_X12_value_L7 s_end s_tape (f_X12_value_J57  ) n7)) bad__81 codes__82 open__83 place__84 stacked__85 newArg__86 newCode__87 stack__88 = some (o_place, o_bad, o_codes, o_open, o_stacked, o_isBehind, o_newArg, o_newCode, o_stack) → kV E A s.heap H locs [(a0, .inr (12, [.ref a4, w0_1, w0_2, w0_3, w0_4, w0_5, w0_6, w0_7, w0_8, w0_9, w0_10, w0_11, w0_12, w0_13, w0_14, w0_15, .ref a2, .ref a1, .int place__84, .int s_end, .int bad__81, w0_21, .int codes__82, .int open__83, .int stacked__85, w0_25, .int isBehind__63, .ref a3, w0_28, w0_29, w0_30, w0_31, w0_32, w0_33, w0_34, w0_35, w0_36, w0_37, w0_38, w0_39, w0_40, w0_41, w0_42, w0_43, w0_44, w0_45, w0_46, w0_47, w0_48, w0_49, w0_50, w0_51, w0_52, w0_53, w0_54, w0_55, w0_56, w0_57, w0_58, w0_59, w0_60, w0_61, w0_62, w0_63, w0_64, w0_65, w0_66])), (a1, .inl (E.2 0, 120, .inl newArg__86)), (a2, .inl (E.2 0, 120, .inl newCode__87)), (a3, .inl (E.2 0, 160, .inl stack__88)), (a4, .inl (E.2 1, 200, .inl s_tape))] → lv_has ls 2 [(0, .ref a0)] → W p l e r_X12_value s m args below meth c H locs 0 0 Q (F0 m 29 ls []) := by
            intro bad__81 codes__82 open__83 place__84 stacked__85 newArg__86 newCode__87 stack__88 H locs ls hB29 hVB29 hlB29
            rw [f_X12_value_J29] at hB29
            refine lv_aload_n hx hb dX12_value_29 rfl (lv_at hlB29 0 rfl) ?_
            refine lv_iconst (v := 0) hx hb dX12_value_30 (by decide) ?_
            refine kput X hVB29 (ci := 12) inlX12 rfl tyX12 tyX12_ok nmX12 0 rfl 26 (by decide) mw_504 rfl rfl rfl (Nat.le_of_ble_eq_true rfl) dX12_value_31 (fun H locs hV89 => ?_)
            have hV89 : kV E A s.heap H locs [(a0, .inr (12, [.ref a4, w0_1, w0_2, w0_3, w0_4, w0_5, w0_6, w0_7, w0_8, w0_9, w0_10, w0_11, w0_12, w0_13, w0_14, w0_15, .ref a2, .ref a1, .int place__84, .int s_end, .int bad__81, w0_21, .int codes__82, .int open__83, .int stacked__85, w0_25, .int 0, .ref a3, w0_28, w0_29, w0_30, w0_31, w0_32, w0_33, w0_34, w0_35, w0_36, w0_37, w0_38, w0_39, w0_40, w0_41, w0_42, w0_43, w0_44, w0_45, w0_46, w0_47, w0_48, w0_49, w0_50, w0_51, w0_52, w0_53, w0_54, w0_55, w0_56, w0_57, w0_58, w0_59, w0_60, w0_61, w0_62, w0_63, w0_64, w0_65, w0_66])), (a1, .inl (E.2 0, 120, .inl newArg__86)), (a2, .inl (E.2 0, 120, .inl newCode__87)), (a3, .inl (E.2 0, 160, .inl stack__88)), (a4, .inl (E.2 1, 200, .inl s_tape))] := hV89
            clear hVB29
            refine lv_aload_n hx hb dX12_value_34 rfl (lv_at hlB29 0 rfl) ?_
            obtain ⟨r35_90, hc91, h92⟩ := cb1_s hB29
            clear hB29
            refine kgoiE (krunV (rest := []) X hV89 [0] (c_X12_isGood l E _ a0 (.ref a4) (w0_1) (w0_2) (w0_3) (w0_4) (w0_5) (w0_6) (w0_7) (w0_8) (w0_9) (w0_10) (w0_11) (w0_12) (w0_13) (w0_14) (w0_15) (.ref a2) (.ref a1) (.int place__84) (.int s_end) (w0_21) (.int codes__82) (.int open__83) (.int stacked__85) (w0_25) (.int 0) (.ref a3) (w0_28) (w0_29) (w0_30) (w0_31) (w0_32) (w0_33) (w0_34) (w0_35) (w0_36) (w0_37) (w0_38) (w0_39) (w0_40) (w0_41) (w0_42) (w0_43) (w0_44) (w0_45) (w0_46) (w0_47) (w0_48) (w0_49) (w0_50) (w0_51) (w0_52) (w0_53) (w0_54) (w0_55) (w0_56) (w0_57) (w0_58) (w0_59) (w0_60) (w0_61) (w0_62) (w0_63) (w0_64) (w0_65) (w0_66) bad__81 r35_90 hc91) mw_484 kb_X12_isGood (ci := 12) rfl rfl (by decide) rfl rfl hlB29.1 rfl (Nat.le_of_ble_eq_true rfl) dX12_value_35 (by decide)) X hV89 [0] [1, 2, 3, 4] rfl rfl rfl (by decide) (fun u H locs hV93 => ?_)
            have hV93 : kV E A s.heap H locs [(a0, .inr (12, [.ref a4, w0_1, w0_2, w0_3, w0_4, w0_5, w0_6, w0_7, w0_8, w0_9, w0_10, w0_11, w0_12, w0_13, w0_14, w0_15, .ref a2, .ref a1, .int place__84, .int s_end, .int bad__81, w0_21, .int codes__82, .int open__83, .int stacked__85, w0_25, .int 0, .ref a3, w0_28, w0_29, w0_30, w0_31, w0_32, w0_33, w0_34, w0_35, w0_36, w0_37, w0_38, w0_39, w0_40, w0_41, w0_42, w0_43, w0_44, w0_45, w0_46, w0_47, w0_48, w0_49, w0_50, w0_51, w0_52, w0_53, w0_54, w0_55, w0_56, w0_57, w0_58, w0_59, w0_60, w0_61, w0_62, w0_63, w0_64, w0_65, w0_66])), (a1, .inl (E.2 0, 120, .inl newArg__86)), (a2, .inl (E.2 0, 120, .inl newCode__87)), (a3, .inl (E.2 0, 160, .inl stack__88)), (a4, .inl (E.2 1, 200, .inl s_tape))] := hV93.sub [4, 0, 1, 2, 3] rfl rfl
            clear hV89
            refine lv_if_eq (tgt := 52) hx hb dX12_value_38 (by decide) (fun c95 => ?_) (fun c95 => ?_)
            · have h96 := itS c95 h92
              clear h92 c95
              refine lv_iconst (v := 0) hx hb dX12_value_52 (by decide) ?_
              refine lv_istore_n (lv' := [(1, .int 0), (0, .ref a0)]) hx hb dX12_value_53 rfl hlB29 (by decide) rfl (fun ls hl98 => ?_)
              clear hlB29
              refine lv_goto (tgt := 7) hx hb dX12_value_54 (by decide) ?_
              exact ih7 0 bad__81 codes__82 0 open__83 place__84 stacked__85 newArg__86 newCode__87 stack__88 _ _ _ h96 hV93 (lv_sub hl98 [1, 0] rfl)
            · have h97 := ieS c95 h92
              clear h92 c95
              refine lv_aload_n hx hb dX12_value_41 rfl (lv_at hlB29 0 rfl) ?_
              obtain ⟨r42_99, o_place42_100, o_bad42_101, o_codes42_102, o_open42_103, o_stacked42_104, o_isBehind42_105, o_newArg42_106, o_newCode42_107, o_stack42_108, hc109, h110⟩ := cb10_s h97
              clear h97
              refine kgoiE (krunV (rest := []) X hV93 [0, 1, 2, 3, 4] (c_X12_stays l E _ a0 a1 a2 a3 a4 (w0_1) (w0_2) (w0_3) (w0_4) (w0_5) (w0_6) (w0_7) (w0_8) (w0_9) (w0_10) (w0_11) (w0_12) (w0_13) (w0_14) (w0_15) (w0_21) (w0_25) (w0_28) (w0_29) (w0_30) (w0_31) (w0_32) (w0_33) (w0_34) (w0_35) (w0_36) (w0_37) (w0_38) (w0_39) (w0_40) (w0_41) (w0_42) (w0_43) (w0_44) (w0_45) (w0_46) (w0_47) (w0_48) (w0_49) (w0_50) (w0_51) (w0_52) (w0_53) (w0_54) (w0_55) (w0_56) (w0_57) (w0_58) (w0_59) (w0_60) (w0_61) (w0_62) (w0_63) (w0_64) (w0_65) (w0_66) place__84 s_end bad__81 codes__82 open__83 stacked__85 0 newArg__86 newCode__87 stack__88 s_tape r42_99 o_place42_100 o_bad42_101 o_codes42_102 o_open42_103 o_stacked42_104 o_isBehind42_105 o_newArg42_106 o_newCode42_107 o_stack42_108 hc109) mw_534 kb_X12_stays (ci := 12) rfl rfl (by decide) rfl rfl hlB29.1 rfl (Nat.le_of_ble_eq_true rfl) dX12_value_42 (by decide)) X hV93 [0, 1, 2, 3, 4] [] rfl rfl rfl (by decide) (fun u H locs hV111 => ?_)
              have hV111 : kV E A s.heap H locs [(a0, .inr (12, [.ref a4, w0_1, w0_2, w0_3, w0_4, w0_5, w0_6, w0_7, w0_8, w0_9, w0_10, w0_11, w0_12, w0_13, w0_14, w0_15, .ref a2, .ref a1, .int o_place42_100, .int s_end, .int o_bad42_101, w0_21, .int o_codes42_102, .int o_open42_103, .int o_stacked42_104, w0_25, .int o_isBehind42_105, .ref a3, w0_28, w0_29, w0_30, w0_31, w0_32, w0_33, w0_34, w0_35, w0_36, w0_37, w0_38, w0_39, w0_40, w0_41, w0_42, w0_43, w0_44, w0_45, w0_46, w0_47, w0_48, w0_49, w0_50, w0_51, w0_52, w0_53, w0_54, w0_55, w0_56, w0_57, w0_58, w0_59, w0_60, w0_61, w0_62, w0_63, w0_64, w0_65, w0_66])), (a1, .inl (E.2 0, 120, .inl o_newArg42_106)), (a2, .inl (E.2 0, 120, .inl o_newCode42_107)), (a3, .inl (E.2 0, 160, .inl o_stack42_108)), (a4, .inl (E.2 1, 200, .inl s_tape))] := hV111.sub [0, 1, 2, 3, 4] rfl rfl
              clear hV93
              refine lv_if_eq (tgt := 52) hx hb dX12_value_45 (by decide) (fun c113 => ?_) (fun c113 => ?_)
              · have h114 := itS c113 h110
                clear h110 c113
                refine lv_iconst (v := 0) hx hb dX12_value_52 (by decide) ?_
                refine lv_istore_n (lv' := [(1, .int 0), (0, .ref a0)]) hx hb dX12_value_53 rfl hlB29 (by decide) rfl (fun ls hl116 => ?_)
                clear hlB29
                refine lv_goto (tgt := 7) hx hb dX12_value_54 (by decide) ?_
                exact ih7 0 o_bad42_101 o_codes42_102 o_isBehind42_105 o_open42_103 o_place42_100 o_stacked42_104 o_newArg42_106 o_newCode42_107 o_stack42_108 _ _ _ h114 hV111 (lv_sub hl116 [1, 0] rfl)
              · have h115 := ieS c113 h110
                clear h110 c113
                refine lv_iconst (v := 1) hx hb dX12_value_48 (by decide) ?_
                refine lv_goto (tgt := 53) hx hb dX12_value_49 (by decide) ?_
                refine lv_istore_n (lv' := [(1, .int 1), (0, .ref a0)]) hx hb dX12_value_53 rfl hlB29 (by decide) rfl (fun ls hl117 => ?_)
                clear hlB29
                refine lv_goto (tgt := 7) hx hb dX12_value_54 (by decide) ?_
                exact ih7 1 o_bad42_101 o_codes42_102 o_isBehind42_105 o_open42_103 o_place42_100 o_stacked42_104 o_newArg42_106 o_newCode42_107 o_stack42_108 _ _ _ h115 hV111 (lv_sub hl117 [1, 0] rfl)
          refine lv_if_ne (tgt := 29) hx hb dX12_value_22 (by decide) (fun c118 => ?_) (fun c118 => ?_)
          · have h119 := ieS c118 h80
            clear h80 c118
            exact J29 bad__61 codes__62 open__64 place__65 stacked__66 newArg__67 newCode__68 stack__69 _ _ _ h119 hV76 (lv_sub hlB7 [0] rfl)
          · have h120 := itS c118 h80
            clear h80 c118
            refine lv_aload_n hx hb dX12_value_25 rfl (lv_at hlB7 0 rfl) ?_
            obtain ⟨o_place26_121, o_bad26_122, o_codes26_123, o_open26_124, o_stacked26_125, o_newArg26_126, o_newCode26_127, o_stack26_128, hc129, h130⟩ := cb8_s h120
            clear h120
            refine kgov (krunV (rest := []) X hV76 [0, 1, 2, 3, 4] (c_X12_factor l E _ a0 a1 a2 a3 a4 (w0_1) (w0_2) (w0_3) (w0_4) (w0_5) (w0_6) (w0_7) (w0_8) (w0_9) (w0_10) (w0_11) (w0_12) (w0_13) (w0_14) (w0_15) (w0_21) (w0_25) (.int isBehind__63) (w0_28) (w0_29) (w0_30) (w0_31) (w0_32) (w0_33) (w0_34) (w0_35) (w0_36) (w0_37) (w0_38) (w0_39) (w0_40) (w0_41) (w0_42) (w0_43) (w0_44) (w0_45) (w0_46) (w0_47) (w0_48) (w0_49) (w0_50) (w0_51) (w0_52) (w0_53) (w0_54) (w0_55) (w0_56) (w0_57) (w0_58) (w0_59) (w0_60) (w0_61) (w0_62) (w0_63) (w0_64) (w0_65) (w0_66) place__65 s_end bad__61 codes__62 open__64 stacked__66 newArg__67 newCode__68 stack__69 s_tape o_place26_121 o_bad26_122 o_codes26_123 o_open26_124 o_stacked26_125 o_newArg26_126 o_newCode26_127 o_stack26_128 hc129) mw_505 kb_X12_factor (ci := 12) rfl rfl (by decide) rfl rfl hlB7.1 rfl (Nat.le_of_ble_eq_true rfl) dX12_value_26 (by decide)) X hV76 [0, 1, 2, 3, 4] [] rfl rfl rfl (by decide) (fun u H locs hp132 hV131 => ?_)
            have hV131 : kV E A s.heap H locs [(a0, .inr (12, [.ref a4, w0_1, w0_2, w0_3, w0_4, w0_5, w0_6, w0_7, w0_8, w0_9, w0_10, w0_11, w0_12, w0_13, w0_14, w0_15, .ref a2, .ref a1, .int o_place26_121, .int s_end, .int o_bad26_122, w0_21, .int o_codes26_123, .int o_open26_124, .int o_stacked26_125, w0_25, .int isBehind__63, .ref a3, w0_28, w0_29, w0_30, w0_31, w0_32, w0_33, w0_34, w0_35, w0_36, w0_37, w0_38, w0_39, w0_40, w0_41, w0_42, w0_43, w0_44, w0_45, w0_46, w0_47, w0_48, w0_49, w0_50, w0_51, w0_52, w0_53, w0_54, w0_55, w0_56, w0_57, w0_58, w0_59, w0_60, w0_61, w0_62, w0_63, w0_64, w0_65, w0_66])), (a1, .inl (E.2 0, 120, .inl o_newArg26_126)), (a2, .inl (E.2 0, 120, .inl o_newCode26_127)), (a3, .inl (E.2 0, 160, .inl o_stack26_128)), (a4, .inl (E.2 1, 200, .inl s_tape))] := hV131.sub [0, 1, 2, 3, 4] rfl rfl
            clear hV76
            exact J29 o_bad26_122 o_codes26_123 o_open26_124 o_place26_121 o_stacked26_125 o_newArg26_126 o_newCode26_127 o_stack26_128 _ _ _ h130 hV131 (lv_sub hlB7 [0] rfl)
  exact L7 FU 1 s_bad s_codes 0 s_open s_place s_stacked s_newArg s_newCode s_stack _ _ _ h hV2 (lv_sub hl1 [1, 0] rfl)
abbrev r_X12_pieceOfC : Room := { frames := 5, cells := 0, slots := 0, locals := 108 }
set_option maxHeartbeats 4000000 in
set_option maxRecDepth 100000 in
theorem c_X12_pieceOfC (l : Launch) (E : kE) (sz : Nat) (a0 a1 a2 a3 a4 : Nat) (w0_1 w0_2 w0_3 w0_4 w0_5 w0_6 w0_7 w0_8 w0_9 w0_10 w0_11 w0_12 w0_13 w0_14 w0_15 w0_21 w0_25 w0_28 w0_29 w0_30 w0_31 w0_32 w0_33 w0_34 w0_35 w0_36 w0_37 w0_38 w0_39 w0_40 w0_41 w0_42 w0_43 w0_44 w0_45 w0_46 w0_47 w0_48 w0_49 w0_50 w0_51 w0_52 w0_53 w0_54 w0_55 w0_56 w0_57 w0_58 w0_59 w0_60 w0_61 w0_62 w0_63 w0_64 w0_65 w0_66 : Value) (s_place : Int32) (s_end : Int32) (s_bad : Int32) (s_codes : Int32) (s_open : Int32) (s_stacked : Int32) (s_isBehind : Int32) (s_newArg : Nat → Int32) (s_newCode : Nat → Int32) (s_stack : Nat → Int32) (s_tape : Nat → Int32) (o_place : Int32) (o_bad : Int32) (o_codes : Int32) (o_open : Int32) (o_stacked : Int32) (o_isBehind : Int32) (o_newArg : Nat → Int32) (o_newCode : Nat → Int32) (o_stack : Nat → Int32) (h : f_X12_pieceOfC s_place s_end s_bad s_codes s_open s_stacked s_isBehind s_newArg s_newCode s_stack s_tape = some (o_place, o_bad, o_codes, o_open, o_stacked, o_isBehind, o_newArg, o_newCode, o_stack)) : kMv l yX12_pieceOfC cX12_pieceOfC 2 r_X12_pieceOfC [.ref a0] E [(a0, .inr (12, [.ref a4, w0_1, w0_2, w0_3, w0_4, w0_5, w0_6, w0_7, w0_8, w0_9, w0_10, w0_11, w0_12, w0_13, w0_14, w0_15, .ref a2, .ref a1, .int s_place, .int s_end, .int s_bad, w0_21, .int s_codes, .int s_open, .int s_stacked, w0_25, .int s_isBehind, .ref a3, w0_28, w0_29, w0_30, w0_31, w0_32, w0_33, w0_34, w0_35, w0_36, w0_37, w0_38, w0_39, w0_40, w0_41, w0_42, w0_43, w0_44, w0_45, w0_46, w0_47, w0_48, w0_49, w0_50, w0_51, w0_52, w0_53, w0_54, w0_55, w0_56, w0_57, w0_58, w0_59, w0_60, w0_61, w0_62, w0_63, w0_64, w0_65, w0_66])), (a1, .inl (E.2 0, 120, .inl s_newArg)), (a2, .inl (E.2 0, 120, .inl s_newCode)), (a3, .inl (E.2 0, 160, .inl s_stack)), (a4, .inl (E.2 1, 200, .inl s_tape))] sz 0 0 (fun (_ : Unit) => True) (fun _ => [(a0, .inr (12, [.ref a4, w0_1, w0_2, w0_3, w0_4, w0_5, w0_6, w0_7, w0_8, w0_9, w0_10, w0_11, w0_12, w0_13, w0_14, w0_15, .ref a2, .ref a1, .int o_place, .int s_end, .int o_bad, w0_21, .int o_codes, .int o_open, .int o_stacked, w0_25, .int o_isBehind, .ref a3, w0_28, w0_29, w0_30, w0_31, w0_32, w0_33, w0_34, w0_35, w0_36, w0_37, w0_38, w0_39, w0_40, w0_41, w0_42, w0_43, w0_44, w0_45, w0_46, w0_47, w0_48, w0_49, w0_50, w0_51, w0_52, w0_53, w0_54, w0_55, w0_56, w0_57, w0_58, w0_59, w0_60, w0_61, w0_62, w0_63, w0_64, w0_65, w0_66])), (a1, .inl (E.2 0, 120, .inl o_newArg)), (a2, .inl (E.2 0, 120, .inl o_newCode)), (a3, .inl (E.2 0, 160, .inl o_stack)), (a4, .inl (E.2 1, 200, .inl s_tape))]) := by
  refine kmetv rfl (Nat.le_of_ble_eq_true rfl) ?_
  intro p e s m args below meth c ls A Q X hnm hV hret hl
  have X : kC p s m c cX12_pieceOfC 2 RX12 args E A := X
  have hx := X.1
  have hb := X.2.1
  have hl : lv_has ls 2 [(0, .ref a0)] := hl
  rw [f_X12_pieceOfC] at h
  have J32 : ∀ (bad__1 : Int32) (open__2 : Int32) (place__3 : Int32) (stacked__4 : Int32) (stack__5 : Nat → Int32) (H : Heap) (locs : List Loc) (ls : Array Slot), (f_X12_pieceOfC_J32 s_end s_codes s_isBehind s_newArg s_newCode s_tape ) bad__1 open__2 place__3 stacked__4 stack__5 = some (o_place, o_bad, o_codes, o_open, o_stacked, o_isBehind, o_newArg, o_newCode, o_stack) → kV E A s.heap H locs [(a0, .inr (12, [.ref a4, w0_1, w0_2, w0_3, w0_4, w0_5, w0_6, w0_7, w0_8, w0_9, w0_10, w0_11, w0_12, w0_13, w0_14, w0_15, .ref a2, .ref a1, .int place__3, .int s_end, .int bad__1, w0_21, .int s_codes, .int open__2, .int stacked__4, w0_25, .int s_isBehind, .ref a3, w0_28, w0_29, w0_30, w0_31, w0_32, w0_33, w0_34, w0_35, w0_36, w0_37, w0_38, w0_39, w0_40, w0_41, w0_42, w0_43, w0_44, w0_45, w0_46, w0_47, w0_48, w0_49, w0_50, w0_51, w0_52, w0_53, w0_54, w0_55, w0_56, w0_57, w0_58, w0_59, w0_60, w0_61, w0_62, w0_63, w0_64, w0_65, w0_66])), (a1, .inl (E.2 0, 120, .inl s_newArg)), (a2, .inl (E.2 0, 120, .inl s_newCode)), (a3, .inl (E.2 0, 160, .inl stack__5)), (a4, .inl (E.2 1, 200, .inl s_tape))] → lv_has ls 2 [(0, .ref a0)] → W p l e r_X12_pieceOfC s m args below meth c H locs 0 0 Q (F0 m 32 ls []) := by
    intro bad__1 open__2 place__3 stacked__4 stack__5 H locs ls hB32 hVB32 hlB32
    rw [f_X12_pieceOfC_J32] at hB32
    refine lv_aload_n hx hb dX12_pieceOfC_32 rfl (lv_at hlB32 0 rfl) ?_
    obtain ⟨r33_6, hc7, h8⟩ := cb1_s hB32
    clear hB32
    refine kgoiE (krunV (rest := []) X hVB32 [0] (c_X12_isGood l E _ a0 (.ref a4) (w0_1) (w0_2) (w0_3) (w0_4) (w0_5) (w0_6) (w0_7) (w0_8) (w0_9) (w0_10) (w0_11) (w0_12) (w0_13) (w0_14) (w0_15) (.ref a2) (.ref a1) (.int place__3) (.int s_end) (w0_21) (.int s_codes) (.int open__2) (.int stacked__4) (w0_25) (.int s_isBehind) (.ref a3) (w0_28) (w0_29) (w0_30) (w0_31) (w0_32) (w0_33) (w0_34) (w0_35) (w0_36) (w0_37) (w0_38) (w0_39) (w0_40) (w0_41) (w0_42) (w0_43) (w0_44) (w0_45) (w0_46) (w0_47) (w0_48) (w0_49) (w0_50) (w0_51) (w0_52) (w0_53) (w0_54) (w0_55) (w0_56) (w0_57) (w0_58) (w0_59) (w0_60) (w0_61) (w0_62) (w0_63) (w0_64) (w0_65) (w0_66) bad__1 r33_6 hc7) mw_484 kb_X12_isGood (ci := 12) rfl rfl (by decide) rfl rfl hlB32.1 rfl (Nat.le_of_ble_eq_true rfl) dX12_pieceOfC_33 (by decide)) X hVB32 [0] [1, 2, 3, 4] rfl rfl rfl (by decide) (fun u H locs hV9 => ?_)
    have hV9 : kV E A s.heap H locs [(a0, .inr (12, [.ref a4, w0_1, w0_2, w0_3, w0_4, w0_5, w0_6, w0_7, w0_8, w0_9, w0_10, w0_11, w0_12, w0_13, w0_14, w0_15, .ref a2, .ref a1, .int place__3, .int s_end, .int bad__1, w0_21, .int s_codes, .int open__2, .int stacked__4, w0_25, .int s_isBehind, .ref a3, w0_28, w0_29, w0_30, w0_31, w0_32, w0_33, w0_34, w0_35, w0_36, w0_37, w0_38, w0_39, w0_40, w0_41, w0_42, w0_43, w0_44, w0_45, w0_46, w0_47, w0_48, w0_49, w0_50, w0_51, w0_52, w0_53, w0_54, w0_55, w0_56, w0_57, w0_58, w0_59, w0_60, w0_61, w0_62, w0_63, w0_64, w0_65, w0_66])), (a1, .inl (E.2 0, 120, .inl s_newArg)), (a2, .inl (E.2 0, 120, .inl s_newCode)), (a3, .inl (E.2 0, 160, .inl stack__5)), (a4, .inl (E.2 1, 200, .inl s_tape))] := hV9.sub [4, 0, 1, 2, 3] rfl rfl
    clear hVB32
    have J43 : ∀ (bad__11 : Int32) (codes__12 : Int32) (isBehind__13 : Int32) (open__14 : Int32) (place__15 : Int32) (stacked__16 : Int32) (newArg__17 : Nat → Int32) (newCode__18 : Nat → Int32) (stack__19 : Nat → Int32) (H : Heap) (locs : List Loc) (ls : Array Slot), (f_X12_pieceOfC_J43 s_end s_tape ) bad__11 codes__12 isBehind__13 open__14 place__15 stacked__16 newArg__17 newCode__18 stack__19 = some (o_place, o_bad, o_codes, o_open, o_stacked, o_isBehind, o_newArg, o_newCode, o_stack) → kV E A s.heap H locs [(a0, .inr (12, [.ref a4, w0_1, w0_2, w0_3, w0_4, w0_5, w0_6, w0_7, w0_8, w0_9, w0_10, w0_11, w0_12, w0_13, w0_14, w0_15, .ref a2, .ref a1, .int place__15, .int s_end, .int bad__11, w0_21, .int codes__12, .int open__14, .int stacked__16, w0_25, .int isBehind__13, .ref a3, w0_28, w0_29, w0_30, w0_31, w0_32, w0_33, w0_34, w0_35, w0_36, w0_37, w0_38, w0_39, w0_40, w0_41, w0_42, w0_43, w0_44, w0_45, w0_46, w0_47, w0_48, w0_49, w0_50, w0_51, w0_52, w0_53, w0_54, w0_55, w0_56, w0_57, w0_58, w0_59, w0_60, w0_61, w0_62, w0_63, w0_64, w0_65, w0_66])), (a1, .inl (E.2 0, 120, .inl newArg__17)), (a2, .inl (E.2 0, 120, .inl newCode__18)), (a3, .inl (E.2 0, 160, .inl stack__19)), (a4, .inl (E.2 1, 200, .inl s_tape))] → lv_has ls 2 [(0, .ref a0)] → W p l e r_X12_pieceOfC s m args below meth c H locs 0 0 Q (F0 m 43 ls []) := by
      intro bad__11 codes__12 isBehind__13 open__14 place__15 stacked__16 newArg__17 newCode__18 stack__19 H locs ls hB43 hVB43 hlB43
      rw [f_X12_pieceOfC_J43] at hB43
      refine lv_aload_n hx hb dX12_pieceOfC_43 rfl (lv_at hlB43 0 rfl) ?_
      obtain ⟨r44_20, hc21, h22⟩ := cb1_s hB43
      clear hB43
      refine kgoiE (krunV (rest := []) X hVB43 [0] (c_X12_isGood l E _ a0 (.ref a4) (w0_1) (w0_2) (w0_3) (w0_4) (w0_5) (w0_6) (w0_7) (w0_8) (w0_9) (w0_10) (w0_11) (w0_12) (w0_13) (w0_14) (w0_15) (.ref a2) (.ref a1) (.int place__15) (.int s_end) (w0_21) (.int codes__12) (.int open__14) (.int stacked__16) (w0_25) (.int isBehind__13) (.ref a3) (w0_28) (w0_29) (w0_30) (w0_31) (w0_32) (w0_33) (w0_34) (w0_35) (w0_36) (w0_37) (w0_38) (w0_39) (w0_40) (w0_41) (w0_42) (w0_43) (w0_44) (w0_45) (w0_46) (w0_47) (w0_48) (w0_49) (w0_50) (w0_51) (w0_52) (w0_53) (w0_54) (w0_55) (w0_56) (w0_57) (w0_58) (w0_59) (w0_60) (w0_61) (w0_62) (w0_63) (w0_64) (w0_65) (w0_66) bad__11 r44_20 hc21) mw_484 kb_X12_isGood (ci := 12) rfl rfl (by decide) rfl rfl hlB43.1 rfl (Nat.le_of_ble_eq_true rfl) dX12_pieceOfC_44 (by decide)) X hVB43 [0] [1, 2, 3, 4] rfl rfl rfl (by decide) (fun u H locs hV23 => ?_)
      have hV23 : kV E A s.heap H locs [(a0, .inr (12, [.ref a4, w0_1, w0_2, w0_3, w0_4, w0_5, w0_6, w0_7, w0_8, w0_9, w0_10, w0_11, w0_12, w0_13, w0_14, w0_15, .ref a2, .ref a1, .int place__15, .int s_end, .int bad__11, w0_21, .int codes__12, .int open__14, .int stacked__16, w0_25, .int isBehind__13, .ref a3, w0_28, w0_29, w0_30, w0_31, w0_32, w0_33, w0_34, w0_35, w0_36, w0_37, w0_38, w0_39, w0_40, w0_41, w0_42, w0_43, w0_44, w0_45, w0_46, w0_47, w0_48, w0_49, w0_50, w0_51, w0_52, w0_53, w0_54, w0_55, w0_56, w0_57, w0_58, w0_59, w0_60, w0_61, w0_62, w0_63, w0_64, w0_65, w0_66])), (a1, .inl (E.2 0, 120, .inl newArg__17)), (a2, .inl (E.2 0, 120, .inl newCode__18)), (a3, .inl (E.2 0, 160, .inl stack__19)), (a4, .inl (E.2 1, 200, .inl s_tape))] := hV23.sub [4, 0, 1, 2, 3] rfl rfl
      clear hVB43
      refine lv_if_ne (tgt := 51) hx hb dX12_pieceOfC_47 (by decide) (fun c25 => ?_) (fun c25 => ?_)
      · have h26 := ieS c25 h22
        clear h22 c25
        refine lv_aload_n hx hb dX12_pieceOfC_51 rfl (lv_at hlB43 0 rfl) ?_
        obtain ⟨r52_28, hc29, h30⟩ := cb1_s h26
        clear h26
        refine kgoiE (krunV (rest := []) X hV23 [0, 4] (c_X12_here l E _ a0 a4 (w0_1) (w0_2) (w0_3) (w0_4) (w0_5) (w0_6) (w0_7) (w0_8) (w0_9) (w0_10) (w0_11) (w0_12) (w0_13) (w0_14) (w0_15) (.ref a2) (.ref a1) (.int bad__11) (w0_21) (.int codes__12) (.int open__14) (.int stacked__16) (w0_25) (.int isBehind__13) (.ref a3) (w0_28) (w0_29) (w0_30) (w0_31) (w0_32) (w0_33) (w0_34) (w0_35) (w0_36) (w0_37) (w0_38) (w0_39) (w0_40) (w0_41) (w0_42) (w0_43) (w0_44) (w0_45) (w0_46) (w0_47) (w0_48) (w0_49) (w0_50) (w0_51) (w0_52) (w0_53) (w0_54) (w0_55) (w0_56) (w0_57) (w0_58) (w0_59) (w0_60) (w0_61) (w0_62) (w0_63) (w0_64) (w0_65) (w0_66) place__15 s_end s_tape r52_28 hc29) mw_492 kb_X12_here (ci := 12) rfl rfl (by decide) rfl rfl hlB43.1 rfl (Nat.le_of_ble_eq_true rfl) dX12_pieceOfC_52 (by decide)) X hV23 [0, 4] [1, 2, 3] rfl rfl rfl (by decide) (fun u H locs hV31 => ?_)
        have hV31 : kV E A s.heap H locs [(a0, .inr (12, [.ref a4, w0_1, w0_2, w0_3, w0_4, w0_5, w0_6, w0_7, w0_8, w0_9, w0_10, w0_11, w0_12, w0_13, w0_14, w0_15, .ref a2, .ref a1, .int place__15, .int s_end, .int bad__11, w0_21, .int codes__12, .int open__14, .int stacked__16, w0_25, .int isBehind__13, .ref a3, w0_28, w0_29, w0_30, w0_31, w0_32, w0_33, w0_34, w0_35, w0_36, w0_37, w0_38, w0_39, w0_40, w0_41, w0_42, w0_43, w0_44, w0_45, w0_46, w0_47, w0_48, w0_49, w0_50, w0_51, w0_52, w0_53, w0_54, w0_55, w0_56, w0_57, w0_58, w0_59, w0_60, w0_61, w0_62, w0_63, w0_64, w0_65, w0_66])), (a1, .inl (E.2 0, 120, .inl newArg__17)), (a2, .inl (E.2 0, 120, .inl newCode__18)), (a3, .inl (E.2 0, 160, .inl stack__19)), (a4, .inl (E.2 1, 200, .inl s_tape))] := hV31.sub [3, 0, 1, 2, 4] rfl rfl
        clear hV23
        refine lv_istore_n (lv' := [(1, .int r52_28), (0, .ref a0)]) hx hb dX12_pieceOfC_55 rfl hlB43 (by decide) rfl (fun ls hl33 => ?_)
        clear hlB43
        refine lv_iload_n hx hb dX12_pieceOfC_56 rfl (lv_at hl33 0 rfl) ?_
        obtain ⟨r57_34, hc35, h36⟩ := cb1_s h30
        clear h30
        refine kgoiE (krunS (rest := []) X hV31 [] (c_X12_isSign l E _ r52_28 r57_34 hc35) mw_561 kb_X12_isSign (by decide) rfl rfl hl33.1 rfl (Nat.le_of_ble_eq_true rfl) dX12_pieceOfC_57 (by decide)) X hV31 [] [0, 1, 2, 3, 4] rfl rfl rfl (by decide) (fun u H locs hV37 => ?_)
        have hV37 : kV E A s.heap H locs [(a0, .inr (12, [.ref a4, w0_1, w0_2, w0_3, w0_4, w0_5, w0_6, w0_7, w0_8, w0_9, w0_10, w0_11, w0_12, w0_13, w0_14, w0_15, .ref a2, .ref a1, .int place__15, .int s_end, .int bad__11, w0_21, .int codes__12, .int open__14, .int stacked__16, w0_25, .int isBehind__13, .ref a3, w0_28, w0_29, w0_30, w0_31, w0_32, w0_33, w0_34, w0_35, w0_36, w0_37, w0_38, w0_39, w0_40, w0_41, w0_42, w0_43, w0_44, w0_45, w0_46, w0_47, w0_48, w0_49, w0_50, w0_51, w0_52, w0_53, w0_54, w0_55, w0_56, w0_57, w0_58, w0_59, w0_60, w0_61, w0_62, w0_63, w0_64, w0_65, w0_66])), (a1, .inl (E.2 0, 120, .inl newArg__17)), (a2, .inl (E.2 0, 120, .inl newCode__18)), (a3, .inl (E.2 0, 160, .inl stack__19)), (a4, .inl (E.2 1, 200, .inl s_tape))] := hV37.sub [0, 1, 2, 3, 4] rfl rfl
        clear hV31
        refine lv_if_ne (tgt := 73) hx hb dX12_pieceOfC_60 (by decide) (fun c39 => ?_) (fun c39 => ?_)
        · have h40 := ieS c39 h36
          clear h36 c39
          refine lv_aload_n hx hb dX12_pieceOfC_73 rfl (lv_at hl33 1 rfl) ?_
          refine lv_iload_n hx hb dX12_pieceOfC_74 rfl (lv_at hl33 0 rfl) ?_
          obtain ⟨o_place75_42, o_stacked75_43, o_stack75_44, hc45, h46⟩ := cb3_s h40
          clear h40
          refine kgov (krunV (rest := []) X hV37 [0, 3] (c_X12_puts l E _ a0 a3 (.ref a4) (w0_1) (w0_2) (w0_3) (w0_4) (w0_5) (w0_6) (w0_7) (w0_8) (w0_9) (w0_10) (w0_11) (w0_12) (w0_13) (w0_14) (w0_15) (.ref a2) (.ref a1) (.int s_end) (.int bad__11) (w0_21) (.int codes__12) (.int open__14) (w0_25) (.int isBehind__13) (w0_28) (w0_29) (w0_30) (w0_31) (w0_32) (w0_33) (w0_34) (w0_35) (w0_36) (w0_37) (w0_38) (w0_39) (w0_40) (w0_41) (w0_42) (w0_43) (w0_44) (w0_45) (w0_46) (w0_47) (w0_48) (w0_49) (w0_50) (w0_51) (w0_52) (w0_53) (w0_54) (w0_55) (w0_56) (w0_57) (w0_58) (w0_59) (w0_60) (w0_61) (w0_62) (w0_63) (w0_64) (w0_65) (w0_66) place__15 stacked__16 stack__19 r52_28 o_place75_42 o_stacked75_43 o_stack75_44 hc45) mw_513 kb_X12_puts (ci := 12) rfl rfl (by decide) rfl rfl hl33.1 rfl (Nat.le_of_ble_eq_true rfl) dX12_pieceOfC_75 (by decide)) X hV37 [0, 3] [1, 2, 4] rfl rfl rfl (by decide) (fun u H locs hp48 hV47 => ?_)
          have hV47 : kV E A s.heap H locs [(a0, .inr (12, [.ref a4, w0_1, w0_2, w0_3, w0_4, w0_5, w0_6, w0_7, w0_8, w0_9, w0_10, w0_11, w0_12, w0_13, w0_14, w0_15, .ref a2, .ref a1, .int o_place75_42, .int s_end, .int bad__11, w0_21, .int codes__12, .int open__14, .int o_stacked75_43, w0_25, .int isBehind__13, .ref a3, w0_28, w0_29, w0_30, w0_31, w0_32, w0_33, w0_34, w0_35, w0_36, w0_37, w0_38, w0_39, w0_40, w0_41, w0_42, w0_43, w0_44, w0_45, w0_46, w0_47, w0_48, w0_49, w0_50, w0_51, w0_52, w0_53, w0_54, w0_55, w0_56, w0_57, w0_58, w0_59, w0_60, w0_61, w0_62, w0_63, w0_64, w0_65, w0_66])), (a1, .inl (E.2 0, 120, .inl newArg__17)), (a2, .inl (E.2 0, 120, .inl newCode__18)), (a3, .inl (E.2 0, 160, .inl o_stack75_44)), (a4, .inl (E.2 1, 200, .inl s_tape))] := hV47.sub [3, 0, 1, 4, 2] rfl rfl
          clear hV37
          refine lv_aload_n hx hb dX12_pieceOfC_78 rfl (lv_at hl33 1 rfl) ?_
          obtain ⟨o_place79_49, o_bad79_50, o_codes79_51, o_open79_52, o_stacked79_53, o_isBehind79_54, o_newArg79_55, o_newCode79_56, o_stack79_57, hc58, h59⟩ := cb9_s h46
          clear h46
          refine kgov (krunV (rest := []) X hV47 [0, 1, 2, 3, 4] (c_X12_value l E _ a0 a1 a2 a3 a4 (w0_1) (w0_2) (w0_3) (w0_4) (w0_5) (w0_6) (w0_7) (w0_8) (w0_9) (w0_10) (w0_11) (w0_12) (w0_13) (w0_14) (w0_15) (w0_21) (w0_25) (w0_28) (w0_29) (w0_30) (w0_31) (w0_32) (w0_33) (w0_34) (w0_35) (w0_36) (w0_37) (w0_38) (w0_39) (w0_40) (w0_41) (w0_42) (w0_43) (w0_44) (w0_45) (w0_46) (w0_47) (w0_48) (w0_49) (w0_50) (w0_51) (w0_52) (w0_53) (w0_54) (w0_55) (w0_56) (w0_57) (w0_58) (w0_59) (w0_60) (w0_61) (w0_62) (w0_63) (w0_64) (w0_65) (w0_66) o_place75_42 s_end bad__11 codes__12 open__14 o_stacked75_43 isBehind__13 newArg__17 newCode__18 o_stack75_44 s_tape o_place79_49 o_bad79_50 o_codes79_51 o_open79_52 o_stacked79_53 o_isBehind79_54 o_newArg79_55 o_newCode79_56 o_stack79_57 hc58) mw_500 kb_X12_value (ci := 12) rfl rfl (by decide) rfl rfl hl33.1 rfl (Nat.le_of_ble_eq_true rfl) dX12_pieceOfC_79 (by decide)) X hV47 [0, 1, 2, 3, 4] [] rfl rfl rfl (by decide) (fun u H locs hp61 hV60 => ?_)
          have hV60 : kV E A s.heap H locs [(a0, .inr (12, [.ref a4, w0_1, w0_2, w0_3, w0_4, w0_5, w0_6, w0_7, w0_8, w0_9, w0_10, w0_11, w0_12, w0_13, w0_14, w0_15, .ref a2, .ref a1, .int o_place79_49, .int s_end, .int o_bad79_50, w0_21, .int o_codes79_51, .int o_open79_52, .int o_stacked79_53, w0_25, .int o_isBehind79_54, .ref a3, w0_28, w0_29, w0_30, w0_31, w0_32, w0_33, w0_34, w0_35, w0_36, w0_37, w0_38, w0_39, w0_40, w0_41, w0_42, w0_43, w0_44, w0_45, w0_46, w0_47, w0_48, w0_49, w0_50, w0_51, w0_52, w0_53, w0_54, w0_55, w0_56, w0_57, w0_58, w0_59, w0_60, w0_61, w0_62, w0_63, w0_64, w0_65, w0_66])), (a1, .inl (E.2 0, 120, .inl o_newArg79_55)), (a2, .inl (E.2 0, 120, .inl o_newCode79_56)), (a3, .inl (E.2 0, 160, .inl o_stack79_57)), (a4, .inl (E.2 1, 200, .inl s_tape))] := hV60.sub [0, 1, 2, 3, 4] rfl rfl
          clear hV47
          refine lv_aload_n hx hb dX12_pieceOfC_82 rfl (lv_at hl33 1 rfl) ?_
          obtain ⟨r83_62, hc63, h64⟩ := cb1_s h59
          clear h59
          refine kgoiE (krunV (rest := []) X hV60 [0] (c_X12_isGood l E _ a0 (.ref a4) (w0_1) (w0_2) (w0_3) (w0_4) (w0_5) (w0_6) (w0_7) (w0_8) (w0_9) (w0_10) (w0_11) (w0_12) (w0_13) (w0_14) (w0_15) (.ref a2) (.ref a1) (.int o_place79_49) (.int s_end) (w0_21) (.int o_codes79_51) (.int o_open79_52) (.int o_stacked79_53) (w0_25) (.int o_isBehind79_54) (.ref a3) (w0_28) (w0_29) (w0_30) (w0_31) (w0_32) (w0_33) (w0_34) (w0_35) (w0_36) (w0_37) (w0_38) (w0_39) (w0_40) (w0_41) (w0_42) (w0_43) (w0_44) (w0_45) (w0_46) (w0_47) (w0_48) (w0_49) (w0_50) (w0_51) (w0_52) (w0_53) (w0_54) (w0_55) (w0_56) (w0_57) (w0_58) (w0_59) (w0_60) (w0_61) (w0_62) (w0_63) (w0_64) (w0_65) (w0_66) o_bad79_50 r83_62 hc63) mw_484 kb_X12_isGood (ci := 12) rfl rfl (by decide) rfl rfl hl33.1 rfl (Nat.le_of_ble_eq_true rfl) dX12_pieceOfC_83 (by decide)) X hV60 [0] [1, 2, 3, 4] rfl rfl rfl (by decide) (fun u H locs hV65 => ?_)
          have hV65 : kV E A s.heap H locs [(a0, .inr (12, [.ref a4, w0_1, w0_2, w0_3, w0_4, w0_5, w0_6, w0_7, w0_8, w0_9, w0_10, w0_11, w0_12, w0_13, w0_14, w0_15, .ref a2, .ref a1, .int o_place79_49, .int s_end, .int o_bad79_50, w0_21, .int o_codes79_51, .int o_open79_52, .int o_stacked79_53, w0_25, .int o_isBehind79_54, .ref a3, w0_28, w0_29, w0_30, w0_31, w0_32, w0_33, w0_34, w0_35, w0_36, w0_37, w0_38, w0_39, w0_40, w0_41, w0_42, w0_43, w0_44, w0_45, w0_46, w0_47, w0_48, w0_49, w0_50, w0_51, w0_52, w0_53, w0_54, w0_55, w0_56, w0_57, w0_58, w0_59, w0_60, w0_61, w0_62, w0_63, w0_64, w0_65, w0_66])), (a1, .inl (E.2 0, 120, .inl o_newArg79_55)), (a2, .inl (E.2 0, 120, .inl o_newCode79_56)), (a3, .inl (E.2 0, 160, .inl o_stack79_57)), (a4, .inl (E.2 1, 200, .inl s_tape))] := hV65.sub [4, 0, 1, 2, 3] rfl rfl
          clear hV60
          refine lv_if_ne (tgt := 90) hx hb dX12_pieceOfC_86 (by decide) (fun c67 => ?_) (fun c67 => ?_)
          · have h68 := ieS c67 h64
            clear h64 c67
            refine lv_aload_n hx hb dX12_pieceOfC_90 rfl (lv_at hl33 1 rfl) ?_
            refine lv_aload_n hx hb dX12_pieceOfC_91 rfl (lv_at hl33 1 rfl) ?_
            obtain ⟨r92_70, hc71, h72⟩ := cb1_s h68
            clear h68
            refine kgoiE (krunV (rest := [.ref a0]) X hV65 [0, 3] (c_X12_top l E _ a0 a3 (.ref a4) (w0_1) (w0_2) (w0_3) (w0_4) (w0_5) (w0_6) (w0_7) (w0_8) (w0_9) (w0_10) (w0_11) (w0_12) (w0_13) (w0_14) (w0_15) (.ref a2) (.ref a1) (.int o_place79_49) (.int s_end) (.int o_bad79_50) (w0_21) (.int o_codes79_51) (.int o_open79_52) (w0_25) (.int o_isBehind79_54) (w0_28) (w0_29) (w0_30) (w0_31) (w0_32) (w0_33) (w0_34) (w0_35) (w0_36) (w0_37) (w0_38) (w0_39) (w0_40) (w0_41) (w0_42) (w0_43) (w0_44) (w0_45) (w0_46) (w0_47) (w0_48) (w0_49) (w0_50) (w0_51) (w0_52) (w0_53) (w0_54) (w0_55) (w0_56) (w0_57) (w0_58) (w0_59) (w0_60) (w0_61) (w0_62) (w0_63) (w0_64) (w0_65) (w0_66) o_stacked79_53 o_stack79_57 r92_70 hc71) mw_548 kb_X12_top (ci := 12) rfl rfl (by decide) rfl rfl hl33.1 rfl (Nat.le_of_ble_eq_true rfl) dX12_pieceOfC_92 (by decide)) X hV65 [0, 3] [1, 2, 4] rfl rfl rfl (by decide) (fun u H locs hV73 => ?_)
            have hV73 : kV E A s.heap H locs [(a0, .inr (12, [.ref a4, w0_1, w0_2, w0_3, w0_4, w0_5, w0_6, w0_7, w0_8, w0_9, w0_10, w0_11, w0_12, w0_13, w0_14, w0_15, .ref a2, .ref a1, .int o_place79_49, .int s_end, .int o_bad79_50, w0_21, .int o_codes79_51, .int o_open79_52, .int o_stacked79_53, w0_25, .int o_isBehind79_54, .ref a3, w0_28, w0_29, w0_30, w0_31, w0_32, w0_33, w0_34, w0_35, w0_36, w0_37, w0_38, w0_39, w0_40, w0_41, w0_42, w0_43, w0_44, w0_45, w0_46, w0_47, w0_48, w0_49, w0_50, w0_51, w0_52, w0_53, w0_54, w0_55, w0_56, w0_57, w0_58, w0_59, w0_60, w0_61, w0_62, w0_63, w0_64, w0_65, w0_66])), (a1, .inl (E.2 0, 120, .inl o_newArg79_55)), (a2, .inl (E.2 0, 120, .inl o_newCode79_56)), (a3, .inl (E.2 0, 160, .inl o_stack79_57)), (a4, .inl (E.2 1, 200, .inl s_tape))] := hV73.sub [3, 0, 1, 4, 2] rfl rfl
            clear hV65
            refine lv_iconst (v := 0) hx hb dX12_pieceOfC_95 (by decide) ?_
            obtain ⟨o_codes96_75, o_newArg96_76, o_newCode96_77, hc78, h79⟩ := cb3_s h72
            clear h72
            refine kgov (krunV (rest := []) X hV73 [0, 1, 2] (c_X12_emit l E _ a0 a1 a2 (.ref a4) (w0_1) (w0_2) (w0_3) (w0_4) (w0_5) (w0_6) (w0_7) (w0_8) (w0_9) (w0_10) (w0_11) (w0_12) (w0_13) (w0_14) (w0_15) (.int o_place79_49) (.int s_end) (w0_21) (.int o_open79_52) (.int o_stacked79_53) (w0_25) (.int o_isBehind79_54) (.ref a3) (w0_28) (w0_29) (w0_30) (w0_31) (w0_32) (w0_33) (w0_34) (w0_35) (w0_36) (w0_37) (w0_38) (w0_39) (w0_40) (w0_41) (w0_42) (w0_43) (w0_44) (w0_45) (w0_46) (w0_47) (w0_48) (w0_49) (w0_50) (w0_51) (w0_52) (w0_53) (w0_54) (w0_55) (w0_56) (w0_57) (w0_58) (w0_59) (w0_60) (w0_61) (w0_62) (w0_63) (w0_64) (w0_65) (w0_66) o_bad79_50 o_codes79_51 o_newArg79_55 o_newCode79_56 r92_70 0 o_codes96_75 o_newArg96_76 o_newCode96_77 hc78) mw_527 kb_X12_emit (ci := 12) rfl rfl (by decide) rfl rfl hl33.1 rfl (Nat.le_of_ble_eq_true rfl) dX12_pieceOfC_96 (by decide)) X hV73 [0, 1, 2] [3, 4] rfl rfl rfl (by decide) (fun u H locs hp81 hV80 => ?_)
            have hV80 : kV E A s.heap H locs [(a0, .inr (12, [.ref a4, w0_1, w0_2, w0_3, w0_4, w0_5, w0_6, w0_7, w0_8, w0_9, w0_10, w0_11, w0_12, w0_13, w0_14, w0_15, .ref a2, .ref a1, .int o_place79_49, .int s_end, .int o_bad79_50, w0_21, .int o_codes96_75, .int o_open79_52, .int o_stacked79_53, w0_25, .int o_isBehind79_54, .ref a3, w0_28, w0_29, w0_30, w0_31, w0_32, w0_33, w0_34, w0_35, w0_36, w0_37, w0_38, w0_39, w0_40, w0_41, w0_42, w0_43, w0_44, w0_45, w0_46, w0_47, w0_48, w0_49, w0_50, w0_51, w0_52, w0_53, w0_54, w0_55, w0_56, w0_57, w0_58, w0_59, w0_60, w0_61, w0_62, w0_63, w0_64, w0_65, w0_66])), (a1, .inl (E.2 0, 120, .inl o_newArg96_76)), (a2, .inl (E.2 0, 120, .inl o_newCode96_77)), (a3, .inl (E.2 0, 160, .inl o_stack79_57)), (a4, .inl (E.2 1, 200, .inl s_tape))] := hV80.sub [2, 3, 4, 0, 1] rfl rfl
            clear hV73
            refine lv_aload_n hx hb dX12_pieceOfC_99 rfl (lv_at hl33 1 rfl) ?_
            refine lv_dup hx hb dX12_pieceOfC_100 rfl ?_
            refine kget X hV80 (ci := 12) inlX12 rfl 0 rfl 24 (by decide) mw_482 rfl dX12_pieceOfC_101 ?_
            refine lv_iconst (v := 1) hx hb dX12_pieceOfC_104 (by decide) ?_
            refine lv_isub hx hb dX12_pieceOfC_105 ?_
            obtain ⟨v106_82, e83, h84⟩ := nmI_s h79
            clear h79
            refine ktopi e83 ?_
            clear e83
            refine kput X hV80 (ci := 12) inlX12 rfl tyX12 tyX12_ok nmX12 0 rfl 24 (by decide) mw_482 rfl rfl rfl (Nat.le_of_ble_eq_true rfl) dX12_pieceOfC_106 (fun H locs hV85 => ?_)
            have hV85 : kV E A s.heap H locs [(a0, .inr (12, [.ref a4, w0_1, w0_2, w0_3, w0_4, w0_5, w0_6, w0_7, w0_8, w0_9, w0_10, w0_11, w0_12, w0_13, w0_14, w0_15, .ref a2, .ref a1, .int o_place79_49, .int s_end, .int o_bad79_50, w0_21, .int o_codes96_75, .int o_open79_52, .int v106_82, w0_25, .int o_isBehind79_54, .ref a3, w0_28, w0_29, w0_30, w0_31, w0_32, w0_33, w0_34, w0_35, w0_36, w0_37, w0_38, w0_39, w0_40, w0_41, w0_42, w0_43, w0_44, w0_45, w0_46, w0_47, w0_48, w0_49, w0_50, w0_51, w0_52, w0_53, w0_54, w0_55, w0_56, w0_57, w0_58, w0_59, w0_60, w0_61, w0_62, w0_63, w0_64, w0_65, w0_66])), (a1, .inl (E.2 0, 120, .inl o_newArg96_76)), (a2, .inl (E.2 0, 120, .inl o_newCode96_77)), (a3, .inl (E.2 0, 160, .inl o_stack79_57)), (a4, .inl (E.2 1, 200, .inl s_tape))] := hV85
            clear hV80
            refine lv_aload_n hx hb dX12_pieceOfC_109 rfl (lv_at hl33 1 rfl) ?_
            obtain ⟨o_codes110_86, o_open110_87, o_stacked110_88, o_newArg110_89, o_newCode110_90, hc91, h92⟩ := cb5_s h84
            clear h84
            refine kgov (krunV (rest := []) X hV85 [0, 1, 2, 3] (c_X12_ends l E _ a0 a1 a2 a3 (.ref a4) (w0_1) (w0_2) (w0_3) (w0_4) (w0_5) (w0_6) (w0_7) (w0_8) (w0_9) (w0_10) (w0_11) (w0_12) (w0_13) (w0_14) (w0_15) (.int o_place79_49) (.int s_end) (w0_21) (w0_25) (.int o_isBehind79_54) (w0_28) (w0_29) (w0_30) (w0_31) (w0_32) (w0_33) (w0_34) (w0_35) (w0_36) (w0_37) (w0_38) (w0_39) (w0_40) (w0_41) (w0_42) (w0_43) (w0_44) (w0_45) (w0_46) (w0_47) (w0_48) (w0_49) (w0_50) (w0_51) (w0_52) (w0_53) (w0_54) (w0_55) (w0_56) (w0_57) (w0_58) (w0_59) (w0_60) (w0_61) (w0_62) (w0_63) (w0_64) (w0_65) (w0_66) o_bad79_50 o_codes96_75 o_open79_52 v106_82 o_newArg96_76 o_newCode96_77 o_stack79_57 o_codes110_86 o_open110_87 o_stacked110_88 o_newArg110_89 o_newCode110_90 hc91) mw_564 kb_X12_ends (ci := 12) rfl rfl (by decide) rfl rfl hl33.1 rfl (Nat.le_of_ble_eq_true rfl) dX12_pieceOfC_110 (by decide)) X hV85 [0, 1, 2, 3] [4] rfl rfl rfl (by decide) (fun u H locs hp94 hV93 => ?_)
            have hV93 : kV E A s.heap H locs [(a0, .inr (12, [.ref a4, w0_1, w0_2, w0_3, w0_4, w0_5, w0_6, w0_7, w0_8, w0_9, w0_10, w0_11, w0_12, w0_13, w0_14, w0_15, .ref a2, .ref a1, .int o_place79_49, .int s_end, .int o_bad79_50, w0_21, .int o_codes110_86, .int o_open110_87, .int o_stacked110_88, w0_25, .int o_isBehind79_54, .ref a3, w0_28, w0_29, w0_30, w0_31, w0_32, w0_33, w0_34, w0_35, w0_36, w0_37, w0_38, w0_39, w0_40, w0_41, w0_42, w0_43, w0_44, w0_45, w0_46, w0_47, w0_48, w0_49, w0_50, w0_51, w0_52, w0_53, w0_54, w0_55, w0_56, w0_57, w0_58, w0_59, w0_60, w0_61, w0_62, w0_63, w0_64, w0_65, w0_66])), (a1, .inl (E.2 0, 120, .inl o_newArg110_89)), (a2, .inl (E.2 0, 120, .inl o_newCode110_90)), (a3, .inl (E.2 0, 160, .inl o_stack79_57)), (a4, .inl (E.2 1, 200, .inl s_tape))] := hV93.sub [1, 2, 3, 4, 0] rfl rfl
            clear hV85
            obtain ⟨q95, q96, q97, q98, q99, q100, q101, q102, q103⟩ := tup9_s h92
            clear h92
            exact hret () _ _ _ _ trivial (by rw [← q95, ← q96, ← q97, ← q98, ← q99, ← q100, ← q101, ← q102, ← q103]; exact hV93) dX12_pieceOfC_113
          · have h69 := itS c67 h64
            clear h64 c67
            obtain ⟨q104, q105, q106, q107, q108, q109, q110, q111, q112⟩ := tup9_s h69
            clear h69
            exact hret () _ _ _ _ trivial (by rw [← q104, ← q105, ← q106, ← q107, ← q108, ← q109, ← q110, ← q111, ← q112]; exact hV65) dX12_pieceOfC_89
        · have h41 := itS c39 h36
          clear h36 c39
          refine lv_aload_n hx hb dX12_pieceOfC_63 rfl (lv_at hl33 1 rfl) ?_
          refine lv_iconst (v := 1) hx hb dX12_pieceOfC_64 (by decide) ?_
          refine lv_aload_n hx hb dX12_pieceOfC_65 rfl (lv_at hl33 1 rfl) ?_
          refine kget X hV37 (ci := 12) inlX12 rfl 0 rfl 18 (by decide) mw_473 rfl dX12_pieceOfC_66 ?_
          obtain ⟨o_bad69_113, hc114, h115⟩ := cb1_s h41
          clear h41
          refine kgov (krunV (rest := []) X hV37 [0] (c_X12_wrongs l E _ a0 (.ref a4) (w0_1) (w0_2) (w0_3) (w0_4) (w0_5) (w0_6) (w0_7) (w0_8) (w0_9) (w0_10) (w0_11) (w0_12) (w0_13) (w0_14) (w0_15) (.ref a2) (.ref a1) (.int place__15) (.int s_end) (w0_21) (.int codes__12) (.int open__14) (.int stacked__16) (w0_25) (.int isBehind__13) (.ref a3) (w0_28) (w0_29) (w0_30) (w0_31) (w0_32) (w0_33) (w0_34) (w0_35) (w0_36) (w0_37) (w0_38) (w0_39) (w0_40) (w0_41) (w0_42) (w0_43) (w0_44) (w0_45) (w0_46) (w0_47) (w0_48) (w0_49) (w0_50) (w0_51) (w0_52) (w0_53) (w0_54) (w0_55) (w0_56) (w0_57) (w0_58) (w0_59) (w0_60) (w0_61) (w0_62) (w0_63) (w0_64) (w0_65) (w0_66) bad__11 1 place__15 o_bad69_113 hc114) mw_496 kb_X12_wrongs (ci := 12) rfl rfl (by decide) rfl rfl hl33.1 rfl (Nat.le_of_ble_eq_true rfl) dX12_pieceOfC_69 (by decide)) X hV37 [0] [1, 2, 3, 4] rfl rfl rfl (by decide) (fun u H locs hp117 hV116 => ?_)
          have hV116 : kV E A s.heap H locs [(a0, .inr (12, [.ref a4, w0_1, w0_2, w0_3, w0_4, w0_5, w0_6, w0_7, w0_8, w0_9, w0_10, w0_11, w0_12, w0_13, w0_14, w0_15, .ref a2, .ref a1, .int place__15, .int s_end, .int o_bad69_113, w0_21, .int codes__12, .int open__14, .int stacked__16, w0_25, .int isBehind__13, .ref a3, w0_28, w0_29, w0_30, w0_31, w0_32, w0_33, w0_34, w0_35, w0_36, w0_37, w0_38, w0_39, w0_40, w0_41, w0_42, w0_43, w0_44, w0_45, w0_46, w0_47, w0_48, w0_49, w0_50, w0_51, w0_52, w0_53, w0_54, w0_55, w0_56, w0_57, w0_58, w0_59, w0_60, w0_61, w0_62, w0_63, w0_64, w0_65, w0_66])), (a1, .inl (E.2 0, 120, .inl newArg__17)), (a2, .inl (E.2 0, 120, .inl newCode__18)), (a3, .inl (E.2 0, 160, .inl stack__19)), (a4, .inl (E.2 1, 200, .inl s_tape))] := hV116.sub [4, 0, 1, 2, 3] rfl rfl
          clear hV37
          obtain ⟨q118, q119, q120, q121, q122, q123, q124, q125, q126⟩ := tup9_s h115
          clear h115
          exact hret () _ _ _ _ trivial (by rw [← q118, ← q119, ← q120, ← q121, ← q122, ← q123, ← q124, ← q125, ← q126]; exact hV116) dX12_pieceOfC_72
      · have h27 := itS c25 h22
        clear h22 c25
        obtain ⟨q127, q128, q129, q130, q131, q132, q133, q134, q135⟩ := tup9_s h27
        clear h27
        exact hret () _ _ _ _ trivial (by rw [← q127, ← q128, ← q129, ← q130, ← q131, ← q132, ← q133, ← q134, ← q135]; exact hV23) dX12_pieceOfC_50
    refine lv_if_eq (tgt := 43) hx hb dX12_pieceOfC_36 (by decide) (fun c136 => ?_) (fun c136 => ?_)
    · have h137 := itS c136 h8
      clear h8 c136
      exact J43 bad__1 s_codes s_isBehind open__2 place__3 stacked__4 s_newArg s_newCode stack__5 _ _ _ h137 hV9 (lv_sub hlB32 [0] rfl)
    · have h138 := ieS c136 h8
      clear h8 c136
      refine lv_aload_n hx hb dX12_pieceOfC_39 rfl (lv_at hlB32 0 rfl) ?_
      obtain ⟨o_place40_139, o_bad40_140, o_codes40_141, o_open40_142, o_stacked40_143, o_isBehind40_144, o_newArg40_145, o_newCode40_146, o_stack40_147, hc148, h149⟩ := cb9_s h138
      clear h138
      refine kgov (krunV (rest := []) X hV9 [0, 1, 2, 3, 4] (c_X12_value l E _ a0 a1 a2 a3 a4 (w0_1) (w0_2) (w0_3) (w0_4) (w0_5) (w0_6) (w0_7) (w0_8) (w0_9) (w0_10) (w0_11) (w0_12) (w0_13) (w0_14) (w0_15) (w0_21) (w0_25) (w0_28) (w0_29) (w0_30) (w0_31) (w0_32) (w0_33) (w0_34) (w0_35) (w0_36) (w0_37) (w0_38) (w0_39) (w0_40) (w0_41) (w0_42) (w0_43) (w0_44) (w0_45) (w0_46) (w0_47) (w0_48) (w0_49) (w0_50) (w0_51) (w0_52) (w0_53) (w0_54) (w0_55) (w0_56) (w0_57) (w0_58) (w0_59) (w0_60) (w0_61) (w0_62) (w0_63) (w0_64) (w0_65) (w0_66) place__3 s_end bad__1 s_codes open__2 stacked__4 s_isBehind s_newArg s_newCode stack__5 s_tape o_place40_139 o_bad40_140 o_codes40_141 o_open40_142 o_stacked40_143 o_isBehind40_144 o_newArg40_145 o_newCode40_146 o_stack40_147 hc148) mw_500 kb_X12_value (ci := 12) rfl rfl (by decide) rfl rfl hlB32.1 rfl (Nat.le_of_ble_eq_true rfl) dX12_pieceOfC_40 (by decide)) X hV9 [0, 1, 2, 3, 4] [] rfl rfl rfl (by decide) (fun u H locs hp151 hV150 => ?_)
      have hV150 : kV E A s.heap H locs [(a0, .inr (12, [.ref a4, w0_1, w0_2, w0_3, w0_4, w0_5, w0_6, w0_7, w0_8, w0_9, w0_10, w0_11, w0_12, w0_13, w0_14, w0_15, .ref a2, .ref a1, .int o_place40_139, .int s_end, .int o_bad40_140, w0_21, .int o_codes40_141, .int o_open40_142, .int o_stacked40_143, w0_25, .int o_isBehind40_144, .ref a3, w0_28, w0_29, w0_30, w0_31, w0_32, w0_33, w0_34, w0_35, w0_36, w0_37, w0_38, w0_39, w0_40, w0_41, w0_42, w0_43, w0_44, w0_45, w0_46, w0_47, w0_48, w0_49, w0_50, w0_51, w0_52, w0_53, w0_54, w0_55, w0_56, w0_57, w0_58, w0_59, w0_60, w0_61, w0_62, w0_63, w0_64, w0_65, w0_66])), (a1, .inl (E.2 0, 120, .inl o_newArg40_145)), (a2, .inl (E.2 0, 120, .inl o_newCode40_146)), (a3, .inl (E.2 0, 160, .inl o_stack40_147)), (a4, .inl (E.2 1, 200, .inl s_tape))] := hV150.sub [0, 1, 2, 3, 4] rfl rfl
      clear hV9
      exact J43 o_bad40_140 o_codes40_141 o_isBehind40_144 o_open40_142 o_place40_139 o_stacked40_143 o_newArg40_145 o_newCode40_146 o_stack40_147 _ _ _ h149 hV150 (lv_sub hlB32 [0] rfl)
  have L0 : ∀ (n0 : Nat) (bad__152 : Int32) (open__153 : Int32) (place__154 : Int32) (stacked__155 : Int32) (stack__156 : Nat → Int32) (H : Heap) (locs : List Loc) (ls : Array Slot), (f_X12_pieceOfC_L0 s_end s_tape (f_X12_pieceOfC_J32 s_end s_codes s_isBehind s_newArg s_newCode s_tape ) n0) bad__152 open__153 place__154 stacked__155 stack__156 = some (o_place, o_bad, o_codes, o_open, o_stacked, o_isBehind, o_newArg, o_newCode, o_stack) → kV E A s.heap H locs [(a0, .inr (12, [.ref a4, w0_1, w0_2, w0_3, w0_4, w0_5, w0_6, w0_7, w0_8, w0_9, w0_10, w0_11, w0_12, w0_13, w0_14, w0_15, .ref a2, .ref a1, .int place__154, .int s_end, .int bad__152, w0_21, .int s_codes, .int open__153, .int stacked__155, w0_25, .int s_isBehind, .ref a3, w0_28, w0_29, w0_30, w0_31, w0_32, w0_33, w0_34, w0_35, w0_36, w0_37, w0_38, w0_39, w0_40, w0_41, w0_42, w0_43, w0_44, w0_45, w0_46, w0_47, w0_48, w0_49, w0_50, w0_51, w0_52, w0_53, w0_54, w0_55, w0_56, w0_57, w0_58, w0_59, w0_60, w0_61, w0_62, w0_63, w0_64, w0_65, w0_66])), (a1, .inl (E.2 0, 120, .inl s_newArg)), (a2, .inl (E.2 0, 120, .inl s_newCode)), (a3, .inl (E.2 0, 160, .inl stack__156)), (a4, .inl (E.2 1, 200, .inl s_tape))] → lv_has ls 2 [(0, .ref a0)] → W p l e r_X12_pieceOfC s m args below meth c H locs 0 0 Q (F0 m 0 ls []) := by
    intro n0
    induction n0 with
    | zero =>
      intro bad__152 open__153 place__154 stacked__155 stack__156 H locs ls hB0 hVB0 hlB0
      rw [f_X12_pieceOfC_L0] at hB0
      exact nomatch hB0
    | succ n0 ih0 =>
      intro bad__152 open__153 place__154 stacked__155 stack__156 H locs ls hB0 hVB0 hlB0
      rw [f_X12_pieceOfC_L0] at hB0
      refine lv_aload_n hx hb dX12_pieceOfC_0 rfl (lv_at hlB0 0 rfl) ?_
      obtain ⟨r1_157, hc158, h159⟩ := cb1_s hB0
      clear hB0
      refine kgoiE (krunV (rest := []) X hVB0 [0] (c_X12_isGood l E _ a0 (.ref a4) (w0_1) (w0_2) (w0_3) (w0_4) (w0_5) (w0_6) (w0_7) (w0_8) (w0_9) (w0_10) (w0_11) (w0_12) (w0_13) (w0_14) (w0_15) (.ref a2) (.ref a1) (.int place__154) (.int s_end) (w0_21) (.int s_codes) (.int open__153) (.int stacked__155) (w0_25) (.int s_isBehind) (.ref a3) (w0_28) (w0_29) (w0_30) (w0_31) (w0_32) (w0_33) (w0_34) (w0_35) (w0_36) (w0_37) (w0_38) (w0_39) (w0_40) (w0_41) (w0_42) (w0_43) (w0_44) (w0_45) (w0_46) (w0_47) (w0_48) (w0_49) (w0_50) (w0_51) (w0_52) (w0_53) (w0_54) (w0_55) (w0_56) (w0_57) (w0_58) (w0_59) (w0_60) (w0_61) (w0_62) (w0_63) (w0_64) (w0_65) (w0_66) bad__152 r1_157 hc158) mw_484 kb_X12_isGood (ci := 12) rfl rfl (by decide) rfl rfl hlB0.1 rfl (Nat.le_of_ble_eq_true rfl) dX12_pieceOfC_1 (by decide)) X hVB0 [0] [1, 2, 3, 4] rfl rfl rfl (by decide) (fun u H locs hV160 => ?_)
      have hV160 : kV E A s.heap H locs [(a0, .inr (12, [.ref a4, w0_1, w0_2, w0_3, w0_4, w0_5, w0_6, w0_7, w0_8, w0_9, w0_10, w0_11, w0_12, w0_13, w0_14, w0_15, .ref a2, .ref a1, .int place__154, .int s_end, .int bad__152, w0_21, .int s_codes, .int open__153, .int stacked__155, w0_25, .int s_isBehind, .ref a3, w0_28, w0_29, w0_30, w0_31, w0_32, w0_33, w0_34, w0_35, w0_36, w0_37, w0_38, w0_39, w0_40, w0_41, w0_42, w0_43, w0_44, w0_45, w0_46, w0_47, w0_48, w0_49, w0_50, w0_51, w0_52, w0_53, w0_54, w0_55, w0_56, w0_57, w0_58, w0_59, w0_60, w0_61, w0_62, w0_63, w0_64, w0_65, w0_66])), (a1, .inl (E.2 0, 120, .inl s_newArg)), (a2, .inl (E.2 0, 120, .inl s_newCode)), (a3, .inl (E.2 0, 160, .inl stack__156)), (a4, .inl (E.2 1, 200, .inl s_tape))] := hV160.sub [4, 0, 1, 2, 3] rfl rfl
      clear hVB0
      refine lv_if_eq (tgt := 32) hx hb dX12_pieceOfC_4 (by decide) (fun c162 => ?_) (fun c162 => ?_)
      · have h163 := itS c162 h159
        clear h159 c162
        exact J32 bad__152 open__153 place__154 stacked__155 stack__156 _ _ _ h163 hV160 (lv_sub hlB0 [0] rfl)
      · have h164 := ieS c162 h159
        clear h159 c162
        refine lv_aload_n hx hb dX12_pieceOfC_7 rfl (lv_at hlB0 0 rfl) ?_
        obtain ⟨r8_165, hc166, h167⟩ := cb1_s h164
        clear h164
        refine kgoiE (krunV (rest := []) X hV160 [0, 4] (c_X12_here l E _ a0 a4 (w0_1) (w0_2) (w0_3) (w0_4) (w0_5) (w0_6) (w0_7) (w0_8) (w0_9) (w0_10) (w0_11) (w0_12) (w0_13) (w0_14) (w0_15) (.ref a2) (.ref a1) (.int bad__152) (w0_21) (.int s_codes) (.int open__153) (.int stacked__155) (w0_25) (.int s_isBehind) (.ref a3) (w0_28) (w0_29) (w0_30) (w0_31) (w0_32) (w0_33) (w0_34) (w0_35) (w0_36) (w0_37) (w0_38) (w0_39) (w0_40) (w0_41) (w0_42) (w0_43) (w0_44) (w0_45) (w0_46) (w0_47) (w0_48) (w0_49) (w0_50) (w0_51) (w0_52) (w0_53) (w0_54) (w0_55) (w0_56) (w0_57) (w0_58) (w0_59) (w0_60) (w0_61) (w0_62) (w0_63) (w0_64) (w0_65) (w0_66) place__154 s_end s_tape r8_165 hc166) mw_492 kb_X12_here (ci := 12) rfl rfl (by decide) rfl rfl hlB0.1 rfl (Nat.le_of_ble_eq_true rfl) dX12_pieceOfC_8 (by decide)) X hV160 [0, 4] [1, 2, 3] rfl rfl rfl (by decide) (fun u H locs hV168 => ?_)
        have hV168 : kV E A s.heap H locs [(a0, .inr (12, [.ref a4, w0_1, w0_2, w0_3, w0_4, w0_5, w0_6, w0_7, w0_8, w0_9, w0_10, w0_11, w0_12, w0_13, w0_14, w0_15, .ref a2, .ref a1, .int place__154, .int s_end, .int bad__152, w0_21, .int s_codes, .int open__153, .int stacked__155, w0_25, .int s_isBehind, .ref a3, w0_28, w0_29, w0_30, w0_31, w0_32, w0_33, w0_34, w0_35, w0_36, w0_37, w0_38, w0_39, w0_40, w0_41, w0_42, w0_43, w0_44, w0_45, w0_46, w0_47, w0_48, w0_49, w0_50, w0_51, w0_52, w0_53, w0_54, w0_55, w0_56, w0_57, w0_58, w0_59, w0_60, w0_61, w0_62, w0_63, w0_64, w0_65, w0_66])), (a1, .inl (E.2 0, 120, .inl s_newArg)), (a2, .inl (E.2 0, 120, .inl s_newCode)), (a3, .inl (E.2 0, 160, .inl stack__156)), (a4, .inl (E.2 1, 200, .inl s_tape))] := hV168.sub [3, 0, 1, 2, 4] rfl rfl
        clear hV160
        refine lv_bipush (v := 33) hx hb dX12_pieceOfC_11 (by decide) ?_
        have J25 : ∀  (H : Heap) (locs : List Loc) (ls : Array Slot), (f_X12_pieceOfC_J25 s_end s_tape bad__152 open__153 place__154 stacked__155 stack__156 (f_X12_pieceOfC_L0 s_end s_tape (f_X12_pieceOfC_J32 s_end s_codes s_isBehind s_newArg s_newCode s_tape ) n0)) = some (o_place, o_bad, o_codes, o_open, o_stacked, o_isBehind, o_newArg, o_newCode, o_stack) → kV E A s.heap H locs [(a0, .inr (12, [.ref a4, w0_1, w0_2, w0_3, w0_4, w0_5, w0_6, w0_7, w0_8, w0_9, w0_10, w0_11, w0_12, w0_13, w0_14, w0_15, .ref a2, .ref a1, .int place__154, .int s_end, .int bad__152, w0_21, .int s_codes, .int open__153, .int stacked__155, w0_25, .int s_isBehind, .ref a3, w0_28, w0_29, w0_30, w0_31, w0_32, w0_33, w0_34, w0_35, w0_36, w0_37, w0_38, w0_39, w0_40, w0_41, w0_42, w0_43, w0_44, w0_45, w0_46, w0_47, w0_48, w0_49, w0_50, w0_51, w0_52, w0_53, w0_54, w0_55, w0_56, w0_57, w0_58, w0_59, w0_60, w0_61, w0_62, w0_63, w0_64, w0_65, w0_66])), (a1, .inl (E.2 0, 120, .inl s_newArg)), (a2, .inl (E.2 0, 120, .inl s_newCode)), (a3, .inl (E.2 0, 160, .inl stack__156)), (a4, .inl (E.2 1, 200, .inl s_tape))] → lv_has ls 2 [(0, .ref a0)] → W p l e r_X12_pieceOfC s m args below meth c H locs 0 0 Q (F0 m 25 ls []) := by
          intro  H locs ls hB25 hVB25 hlB25
          rw [f_X12_pieceOfC_J25] at hB25
          refine lv_aload_n hx hb dX12_pieceOfC_25 rfl (lv_at hlB25 0 rfl) ?_
          obtain ⟨o_place26_170, o_bad26_171, o_open26_172, o_stacked26_173, o_stack26_174, hc175, h176⟩ := cb5_s hB25
          clear hB25
          refine kgov (krunV (rest := []) X hVB25 [0, 3, 4] (c_X12_opens l E _ a0 a3 a4 (w0_1) (w0_2) (w0_3) (w0_4) (w0_5) (w0_6) (w0_7) (w0_8) (w0_9) (w0_10) (w0_11) (w0_12) (w0_13) (w0_14) (w0_15) (.ref a2) (.ref a1) (w0_21) (.int s_codes) (w0_25) (.int s_isBehind) (w0_28) (w0_29) (w0_30) (w0_31) (w0_32) (w0_33) (w0_34) (w0_35) (w0_36) (w0_37) (w0_38) (w0_39) (w0_40) (w0_41) (w0_42) (w0_43) (w0_44) (w0_45) (w0_46) (w0_47) (w0_48) (w0_49) (w0_50) (w0_51) (w0_52) (w0_53) (w0_54) (w0_55) (w0_56) (w0_57) (w0_58) (w0_59) (w0_60) (w0_61) (w0_62) (w0_63) (w0_64) (w0_65) (w0_66) place__154 s_end bad__152 open__153 stacked__155 stack__156 s_tape o_place26_170 o_bad26_171 o_open26_172 o_stacked26_173 o_stack26_174 hc175) mw_509 kb_X12_opens (ci := 12) rfl rfl (by decide) rfl rfl hlB25.1 rfl (Nat.le_of_ble_eq_true rfl) dX12_pieceOfC_26 (by decide)) X hVB25 [0, 3, 4] [1, 2] rfl rfl rfl (by decide) (fun u H locs hp178 hV177 => ?_)
          have hV177 : kV E A s.heap H locs [(a0, .inr (12, [.ref a4, w0_1, w0_2, w0_3, w0_4, w0_5, w0_6, w0_7, w0_8, w0_9, w0_10, w0_11, w0_12, w0_13, w0_14, w0_15, .ref a2, .ref a1, .int o_place26_170, .int s_end, .int o_bad26_171, w0_21, .int s_codes, .int o_open26_172, .int o_stacked26_173, w0_25, .int s_isBehind, .ref a3, w0_28, w0_29, w0_30, w0_31, w0_32, w0_33, w0_34, w0_35, w0_36, w0_37, w0_38, w0_39, w0_40, w0_41, w0_42, w0_43, w0_44, w0_45, w0_46, w0_47, w0_48, w0_49, w0_50, w0_51, w0_52, w0_53, w0_54, w0_55, w0_56, w0_57, w0_58, w0_59, w0_60, w0_61, w0_62, w0_63, w0_64, w0_65, w0_66])), (a1, .inl (E.2 0, 120, .inl s_newArg)), (a2, .inl (E.2 0, 120, .inl s_newCode)), (a3, .inl (E.2 0, 160, .inl o_stack26_174)), (a4, .inl (E.2 1, 200, .inl s_tape))] := hV177.sub [2, 0, 1, 3, 4] rfl rfl
          clear hVB25
          refine lv_goto (tgt := 0) hx hb dX12_pieceOfC_29 (by decide) ?_
          exact ih0 o_bad26_171 o_open26_172 o_place26_170 o_stacked26_173 o_stack26_174 _ _ _ h176 hV177 (lv_sub hlB25 [0] rfl)
        refine lv_icmp_eq (tgt := 25) hx hb dX12_pieceOfC_13 (by decide) (fun c179 => ?_) (fun c179 => ?_)
        · have h180 := itS c179 h167
          clear h167 c179
          exact J25  _ _ _ h180 hV168 (lv_sub hlB0 [0] rfl)
        · have h181 := ieS c179 h167
          clear h167 c179
          refine lv_aload_n hx hb dX12_pieceOfC_16 rfl (lv_at hlB0 0 rfl) ?_
          obtain ⟨r17_182, hc183, h184⟩ := cb1_s h181
          clear h181
          refine kgoiE (krunV (rest := []) X hV168 [0, 4] (c_X12_here l E _ a0 a4 (w0_1) (w0_2) (w0_3) (w0_4) (w0_5) (w0_6) (w0_7) (w0_8) (w0_9) (w0_10) (w0_11) (w0_12) (w0_13) (w0_14) (w0_15) (.ref a2) (.ref a1) (.int bad__152) (w0_21) (.int s_codes) (.int open__153) (.int stacked__155) (w0_25) (.int s_isBehind) (.ref a3) (w0_28) (w0_29) (w0_30) (w0_31) (w0_32) (w0_33) (w0_34) (w0_35) (w0_36) (w0_37) (w0_38) (w0_39) (w0_40) (w0_41) (w0_42) (w0_43) (w0_44) (w0_45) (w0_46) (w0_47) (w0_48) (w0_49) (w0_50) (w0_51) (w0_52) (w0_53) (w0_54) (w0_55) (w0_56) (w0_57) (w0_58) (w0_59) (w0_60) (w0_61) (w0_62) (w0_63) (w0_64) (w0_65) (w0_66) place__154 s_end s_tape r17_182 hc183) mw_492 kb_X12_here (ci := 12) rfl rfl (by decide) rfl rfl hlB0.1 rfl (Nat.le_of_ble_eq_true rfl) dX12_pieceOfC_17 (by decide)) X hV168 [0, 4] [1, 2, 3] rfl rfl rfl (by decide) (fun u H locs hV185 => ?_)
          have hV185 : kV E A s.heap H locs [(a0, .inr (12, [.ref a4, w0_1, w0_2, w0_3, w0_4, w0_5, w0_6, w0_7, w0_8, w0_9, w0_10, w0_11, w0_12, w0_13, w0_14, w0_15, .ref a2, .ref a1, .int place__154, .int s_end, .int bad__152, w0_21, .int s_codes, .int open__153, .int stacked__155, w0_25, .int s_isBehind, .ref a3, w0_28, w0_29, w0_30, w0_31, w0_32, w0_33, w0_34, w0_35, w0_36, w0_37, w0_38, w0_39, w0_40, w0_41, w0_42, w0_43, w0_44, w0_45, w0_46, w0_47, w0_48, w0_49, w0_50, w0_51, w0_52, w0_53, w0_54, w0_55, w0_56, w0_57, w0_58, w0_59, w0_60, w0_61, w0_62, w0_63, w0_64, w0_65, w0_66])), (a1, .inl (E.2 0, 120, .inl s_newArg)), (a2, .inl (E.2 0, 120, .inl s_newCode)), (a3, .inl (E.2 0, 160, .inl stack__156)), (a4, .inl (E.2 1, 200, .inl s_tape))] := hV185.sub [3, 0, 1, 2, 4] rfl rfl
          clear hV168
          refine lv_bipush (v := 40) hx hb dX12_pieceOfC_20 (by decide) ?_
          refine lv_icmp_ne (tgt := 32) hx hb dX12_pieceOfC_22 (by decide) (fun c187 => ?_) (fun c187 => ?_)
          · have h188 := ieS c187 h184
            clear h184 c187
            exact J32 bad__152 open__153 place__154 stacked__155 stack__156 _ _ _ h188 hV185 (lv_sub hlB0 [0] rfl)
          · have h189 := itS c187 h184
            clear h184 c187
            exact J25  _ _ _ h189 hV185 (lv_sub hlB0 [0] rfl)
  exact L0 FU s_bad s_open s_place s_stacked s_stack _ _ _ h hV (lv_sub hl [0] rfl)
