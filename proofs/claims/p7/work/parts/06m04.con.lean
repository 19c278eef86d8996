abbrev r_X12_readsText : Room := { frames := 8, cells := 0, slots := 0, locals := 171 }
set_option maxHeartbeats 4000000 in
set_option maxRecDepth 100000 in
theorem c_X12_readsText (l : Launch) (E : kE) (sz : Nat) (a0 a1 a2 a3 a4 a5 a6 a7 a8 a9 a10 a11 a12 a13 : Nat) (w0_2 w0_3 w0_4 w0_5 w0_6 w0_28 w0_29 w0_30 w0_31 w0_32 w0_33 w0_34 w0_35 w0_36 w0_37 w0_38 w0_39 w0_40 w0_41 w0_42 w0_43 w0_44 w0_45 w0_46 w0_47 w0_48 w0_49 w0_50 w0_51 w0_52 w0_53 w0_54 w0_55 w0_56 w0_57 w0_58 w0_59 w0_60 w0_61 w0_62 w0_63 w0_64 w0_65 w0_66 : Value) (s_taped : Int32) (s_place : Int32) (s_end : Int32) (s_bad : Int32) (s_clauses : Int32) (s_codes : Int32) (s_open : Int32) (s_stacked : Int32) (s_isOver : Int32) (s_isBehind : Int32) (s_code : Nat → Int32) (s_codeArg : Nat → Int32) (s_codeFrom : Nat → Int32) (s_codeTo : Nat → Int32) (s_many : Nat → Int32) (s_newArg : Nat → Int32) (s_newCode : Nat → Int32) (s_newFrom : Nat → Int32) (s_newSum : Nat → Int32) (s_newTo : Nat → Int32) (s_stack : Nat → Int32) (s_sumFrom : Nat → Int32) (s_tape : Nat → Int32) (p1 : Int32) (p2 : Int32) (p3 : Int32) (r : Int32) (o_taped : Int32) (o_place : Int32) (o_end : Int32) (o_bad : Int32) (o_clauses : Int32) (o_codes : Int32) (o_open : Int32) (o_stacked : Int32) (o_isOver : Int32) (o_isBehind : Int32) (o_code : Nat → Int32) (o_codeArg : Nat → Int32) (o_codeFrom : Nat → Int32) (o_codeTo : Nat → Int32) (o_many : Nat → Int32) (o_newArg : Nat → Int32) (o_newCode : Nat → Int32) (o_newFrom : Nat → Int32) (o_newSum : Nat → Int32) (o_newTo : Nat → Int32) (o_stack : Nat → Int32) (o_sumFrom : Nat → Int32) (h : f_X12_readsText s_taped s_place s_end s_bad s_clauses s_codes s_open s_stacked s_isOver s_isBehind s_code s_codeArg s_codeFrom s_codeTo s_many s_newArg s_newCode s_newFrom s_newSum s_newTo s_stack s_sumFrom s_tape p1 p2 p3 = some (r, o_taped, o_place, o_end, o_bad, o_clauses, o_codes, o_open, o_stacked, o_isOver, o_isBehind, o_code, o_codeArg, o_codeFrom, o_codeTo, o_many, o_newArg, o_newCode, o_newFrom, o_newSum, o_newTo, o_stack, o_sumFrom)) : kMi l yX12_readsText cX12_readsText 5 (some .int) r_X12_readsText [.ref a0, .int p1, .int p2, .int p3] E [(a0, .inr (12, [.ref a13, .int s_taped, w0_2, w0_3, w0_4, w0_5, w0_6, .ref a5, .ref a12, .ref a3, .ref a4, .ref a1, .ref a2, .ref a9, .ref a8, .ref a10, .ref a7, .ref a6, .int s_place, .int s_end, .int s_bad, .int s_clauses, .int s_codes, .int s_open, .int s_stacked, .int s_isOver, .int s_isBehind, .ref a11, w0_28, w0_29, w0_30, w0_31, w0_32, w0_33, w0_34, w0_35, w0_36, w0_37, w0_38, w0_39, w0_40, w0_41, w0_42, w0_43, w0_44, w0_45, w0_46, w0_47, w0_48, w0_49, w0_50, w0_51, w0_52, w0_53, w0_54, w0_55, w0_56, w0_57, w0_58, w0_59, w0_60, w0_61, w0_62, w0_63, w0_64, w0_65, w0_66])), (a1, .inl (E.2 0, 2400, .inl s_code)), (a2, .inl (E.2 0, 2400, .inl s_codeArg)), (a3, .inl (E.2 0, 240, .inl s_codeFrom)), (a4, .inl (E.2 0, 240, .inl s_codeTo)), (a5, .inl (E.2 0, 20, .inl s_many)), (a6, .inl (E.2 0, 120, .inl s_newArg)), (a7, .inl (E.2 0, 120, .inl s_newCode)), (a8, .inl (E.2 0, 12, .inl s_newFrom)), (a9, .inl (E.2 0, 12, .inl s_newSum)), (a10, .inl (E.2 0, 12, .inl s_newTo)), (a11, .inl (E.2 0, 160, .inl s_stack)), (a12, .inl (E.2 0, 240, .inl s_sumFrom)), (a13, .inl (E.2 1, 200, .inl s_tape))] sz 0 0 (fun x (_ : Unit) => x = r) (fun _ => [(a0, .inr (12, [.ref a13, .int o_taped, w0_2, w0_3, w0_4, w0_5, w0_6, .ref a5, .ref a12, .ref a3, .ref a4, .ref a1, .ref a2, .ref a9, .ref a8, .ref a10, .ref a7, .ref a6, .int o_place, .int o_end, .int o_bad, .int o_clauses, .int o_codes, .int o_open, .int o_stacked, .int o_isOver, .int o_isBehind, .ref a11, w0_28, w0_29, w0_30, w0_31, w0_32, w0_33, w0_34, w0_35, w0_36, w0_37, w0_38, w0_39, w0_40, w0_41, w0_42, w0_43, w0_44, w0_45, w0_46, w0_47, w0_48, w0_49, w0_50, w0_51, w0_52, w0_53, w0_54, w0_55, w0_56, w0_57, w0_58, w0_59, w0_60, w0_61, w0_62, w0_63, w0_64, w0_65, w0_66])), (a1, .inl (E.2 0, 2400, .inl o_code)), (a2, .inl (E.2 0, 2400, .inl o_codeArg)), (a3, .inl (E.2 0, 240, .inl o_codeFrom)), (a4, .inl (E.2 0, 240, .inl o_codeTo)), (a5, .inl (E.2 0, 20, .inl o_many)), (a6, .inl (E.2 0, 120, .inl o_newArg)), (a7, .inl (E.2 0, 120, .inl o_newCode)), (a8, .inl (E.2 0, 12, .inl o_newFrom)), (a9, .inl (E.2 0, 12, .inl o_newSum)), (a10, .inl (E.2 0, 12, .inl o_newTo)), (a11, .inl (E.2 0, 160, .inl o_stack)), (a12, .inl (E.2 0, 240, .inl o_sumFrom)), (a13, .inl (E.2 1, 200, .inl s_tape))]) := by
  refine kmeti rfl (Nat.le_of_ble_eq_true rfl) ?_
  intro p e s m args below meth c ls A Q X hV hret hl
  have X : kC p s m c cX12_readsText 5 RX12 args E A := X
  have hx := X.1
  have hb := X.2.1
  have hl : lv_has ls 5 [(0, .ref a0), (1, .int p1), (2, .int p2), (3, .int p3)] := hl
  rw [f_X12_readsText] at h
  refine lv_aload_n hx hb dX12_readsText_0 rfl (lv_at hl 0 rfl) ?_
  refine lv_iload_n hx hb dX12_readsText_1 rfl (lv_at hl 2 rfl) ?_
  obtain ⟨o_taped2_1, o_place2_2, o_end2_3, o_bad2_4, o_clauses2_5, o_codes2_6, o_open2_7, o_stacked2_8, hc9, h10⟩ := cb8_s h
  clear h
  refine kgov (krunV (rest := []) X hV [0] (c_X12_begins l E _ a0 (.ref a13) (w0_2) (w0_3) (w0_4) (w0_5) (w0_6) (.ref a5) (.ref a12) (.ref a3) (.ref a4) (.ref a1) (.ref a2) (.ref a9) (.ref a8) (.ref a10) (.ref a7) (.ref a6) (.int s_isOver) (.int s_isBehind) (.ref a11) (w0_28) (w0_29) (w0_30) (w0_31) (w0_32) (w0_33) (w0_34) (w0_35) (w0_36) (w0_37) (w0_38) (w0_39) (w0_40) (w0_41) (w0_42) (w0_43) (w0_44) (w0_45) (w0_46) (w0_47) (w0_48) (w0_49) (w0_50) (w0_51) (w0_52) (w0_53) (w0_54) (w0_55) (w0_56) (w0_57) (w0_58) (w0_59) (w0_60) (w0_61) (w0_62) (w0_63) (w0_64) (w0_65) (w0_66) s_taped s_place s_end s_bad s_clauses s_codes s_open s_stacked p2 o_taped2_1 o_place2_2 o_end2_3 o_bad2_4 o_clauses2_5 o_codes2_6 o_open2_7 o_stacked2_8 hc9) mw_477 kb_X12_begins (ci := 12) rfl rfl (by decide) rfl rfl hl.1 rfl (Nat.le_of_ble_eq_true rfl) dX12_readsText_2 (by decide)) X hV [0] [1, 2, 3, 4, 5, 6, 7, 8, 9, 10, 11, 12, 13] rfl rfl rfl (by decide) (fun u H locs hp12 hV11 => ?_)
  have hV11 : kV E A s.heap H locs [(a0, .inr (12, [.ref a13, .int o_taped2_1, w0_2, w0_3, w0_4, w0_5, w0_6, .ref a5, .ref a12, .ref a3, .ref a4, .ref a1, .ref a2, .ref a9, .ref a8, .ref a10, .ref a7, .ref a6, .int o_place2_2, .int o_end2_3, .int o_bad2_4, .int o_clauses2_5, .int o_codes2_6, .int o_open2_7, .int o_stacked2_8, .int s_isOver, .int s_isBehind, .ref a11, w0_28, w0_29, w0_30, w0_31, w0_32, w0_33, w0_34, w0_35, w0_36, w0_37, w0_38, w0_39, w0_40, w0_41, w0_42, w0_43, w0_44, w0_45, w0_46, w0_47, w0_48, w0_49, w0_50, w0_51, w0_52, w0_53, w0_54, w0_55, w0_56, w0_57, w0_58, w0_59, w0_60, w0_61, w0_62, w0_63, w0_64, w0_65, w0_66])), (a1, .inl (E.2 0, 2400, .inl s_code)), (a2, .inl (E.2 0, 2400, .inl s_codeArg)), (a3, .inl (E.2 0, 240, .inl s_codeFrom)), (a4, .inl (E.2 0, 240, .inl s_codeTo)), (a5, .inl (E.2 0, 20, .inl s_many)), (a6, .inl (E.2 0, 120, .inl s_newArg)), (a7, .inl (E.2 0, 120, .inl s_newCode)), (a8, .inl (E.2 0, 12, .inl s_newFrom)), (a9, .inl (E.2 0, 12, .inl s_newSum)), (a10, .inl (E.2 0, 12, .inl s_newTo)), (a11, .inl (E.2 0, 160, .inl s_stack)), (a12, .inl (E.2 0, 240, .inl s_sumFrom)), (a13, .inl (E.2 1, 200, .inl s_tape))] := hV11.sub [13, 0, 1, 2, 3, 4, 5, 6, 7, 8, 9, 10, 11, 12] rfl rfl
  clear hV
  refine lv_iconst (v := 1) hx hb dX12_readsText_5 (by decide) ?_
  refine lv_istore (lv' := [(4, .int 1), (0, .ref a0), (1, .int p1), (2, .int p2), (3, .int p3)]) hx hb dX12_readsText_6 hl (by decide) rfl (fun ls hl13 => ?_)
  clear hl
  have J86 : ∀ (bad__14 : Int32) (clauses__15 : Int32) (codes__16 : Int32) (isBehind__17 : Int32) (isOver__18 : Int32) (open__19 : Int32) (place__20 : Int32) (stacked__21 : Int32) (newArg__22 : Nat → Int32) (newCode__23 : Nat → Int32) (newFrom__24 : Nat → Int32) (newSum__25 : Nat → Int32) (newTo__26 : Nat → Int32) (stack__27 : Nat → Int32) (H : Heap) (locs : List Loc) (ls : Array Slot), (f_X12_readsText_J86 s_code s_codeArg s_codeFrom s_codeTo s_many s_sumFrom p1 o_taped2_1 o_end2_3 ) bad__14 clauses__15 codes__16 isBehind__17 isOver__18 open__19 place__20 stacked__21 newArg__22 newCode__23 newFrom__24 newSum__25 newTo__26 stack__27 = some (r, o_taped, o_place, o_end, o_bad, o_clauses, o_codes, o_open, o_stacked, o_isOver, o_isBehind, o_code, o_codeArg, o_codeFrom, o_codeTo, o_many, o_newArg, o_newCode, o_newFrom, o_newSum, o_newTo, o_stack, o_sumFrom) → kV E A s.heap H locs [(a0, .inr (12, [.ref a13, .int o_taped2_1, w0_2, w0_3, w0_4, w0_5, w0_6, .ref a5, .ref a12, .ref a3, .ref a4, .ref a1, .ref a2, .ref a9, .ref a8, .ref a10, .ref a7, .ref a6, .int place__20, .int o_end2_3, .int bad__14, .int clauses__15, .int codes__16, .int open__19, .int stacked__21, .int isOver__18, .int isBehind__17, .ref a11, w0_28, w0_29, w0_30, w0_31, w0_32, w0_33, w0_34, w0_35, w0_36, w0_37, w0_38, w0_39, w0_40, w0_41, w0_42, w0_43, w0_44, w0_45, w0_46, w0_47, w0_48, w0_49, w0_50, w0_51, w0_52, w0_53, w0_54, w0_55, w0_56, w0_57, w0_58, w0_59, w0_60, w0_61, w0_62, w0_63, w0_64, w0_65, w0_66])), (a1, .inl (E.2 0, 2400, .inl s_code)), (a2, .inl (E.2 0, 2400, .inl s_codeArg)), (a3, .inl (E.2 0, 240, .inl s_codeFrom)), (a4, .inl (E.2 0, 240, .inl s_codeTo)), (a5, .inl (E.2 0, 20, .inl s_many)), (a6, .inl (E.2 0, 120, .inl newArg__22)), (a7, .inl (E.2 0, 120, .inl newCode__23)), (a8, .inl (E.2 0, 12, .inl newFrom__24)), (a9, .inl (E.2 0, 12, .inl newSum__25)), (a10, .inl (E.2 0, 12, .inl newTo__26)), (a11, .inl (E.2 0, 160, .inl stack__27)), (a12, .inl (E.2 0, 240, .inl s_sumFrom)), (a13, .inl (E.2 1, 200, .inl s_tape))] → lv_has ls 5 [(0, .ref a0), (1, .int p1)] → W p l e r_X12_readsText s m args below meth c H locs 0 0 Q (F0 m 86 ls []) := by
    intro bad__14 clauses__15 codes__16 isBehind__17 isOver__18 open__19 place__20 stacked__21 newArg__22 newCode__23 newFrom__24 newSum__25 newTo__26 stack__27 H locs ls hB86 hVB86 hlB86
    rw [f_X12_readsText_J86] at hB86
    refine lv_aload_n hx hb dX12_readsText_86 rfl (lv_at hlB86 0 rfl) ?_
    refine kget X hVB86 (ci := 12) inlX12 rfl 0 rfl 20 (by decide) mw_475 rfl dX12_readsText_87 ?_
    refine lv_if_ge (tgt := 98) hx hb dX12_readsText_90 (by decide) (fun c28 => ?_) (fun c28 => ?_)
    · have h29 := itS c28 hB86
      clear hB86 c28
      refine lv_aload_n hx hb dX12_readsText_98 rfl (lv_at hlB86 0 rfl) ?_
      refine lv_iload_n hx hb dX12_readsText_99 rfl (lv_at hlB86 1 rfl) ?_
      obtain ⟨o_code100_31, o_codeArg100_32, o_codeFrom100_33, o_codeTo100_34, o_many100_35, o_sumFrom100_36, hc37, h38⟩ := cb6_s h29
      clear h29
      refine kgov (krunV (rest := []) X hVB86 [0, 1, 2, 3, 4, 5, 6, 7, 8, 9, 10, 12] (c_X12_keeps l E _ a0 a1 a2 a3 a4 a5 a6 a7 a8 a9 a10 a12 (.ref a13) (.int o_taped2_1) (w0_2) (w0_3) (w0_4) (w0_5) (w0_6) (.int place__20) (.int o_end2_3) (.int bad__14) (.int open__19) (.int stacked__21) (.int isOver__18) (.int isBehind__17) (.ref a11) (w0_28) (w0_29) (w0_30) (w0_31) (w0_32) (w0_33) (w0_34) (w0_35) (w0_36) (w0_37) (w0_38) (w0_39) (w0_40) (w0_41) (w0_42) (w0_43) (w0_44) (w0_45) (w0_46) (w0_47) (w0_48) (w0_49) (w0_50) (w0_51) (w0_52) (w0_53) (w0_54) (w0_55) (w0_56) (w0_57) (w0_58) (w0_59) (w0_60) (w0_61) (w0_62) (w0_63) (w0_64) (w0_65) (w0_66) clauses__15 codes__16 s_code s_codeArg s_codeFrom s_codeTo s_many newArg__22 newCode__23 newFrom__24 newSum__25 newTo__26 s_sumFrom p1 o_code100_31 o_codeArg100_32 o_codeFrom100_33 o_codeTo100_34 o_many100_35 o_sumFrom100_36 hc37) mw_576 kb_X12_keeps (ci := 12) rfl rfl (by decide) rfl rfl hlB86.1 rfl (Nat.le_of_ble_eq_true rfl) dX12_readsText_100 (by decide)) X hVB86 [0, 1, 2, 3, 4, 5, 6, 7, 8, 9, 10, 12] [11, 13] rfl rfl rfl (by decide) (fun u H locs hp40 hV39 => ?_)
      have hV39 : kV E A s.heap H locs [(a0, .inr (12, [.ref a13, .int o_taped2_1, w0_2, w0_3, w0_4, w0_5, w0_6, .ref a5, .ref a12, .ref a3, .ref a4, .ref a1, .ref a2, .ref a9, .ref a8, .ref a10, .ref a7, .ref a6, .int place__20, .int o_end2_3, .int bad__14, .int clauses__15, .int codes__16, .int open__19, .int stacked__21, .int isOver__18, .int isBehind__17, .ref a11, w0_28, w0_29, w0_30, w0_31, w0_32, w0_33, w0_34, w0_35, w0_36, w0_37, w0_38, w0_39, w0_40, w0_41, w0_42, w0_43, w0_44, w0_45, w0_46, w0_47, w0_48, w0_49, w0_50, w0_51, w0_52, w0_53, w0_54, w0_55, w0_56, w0_57, w0_58, w0_59, w0_60, w0_61, w0_62, w0_63, w0_64, w0_65, w0_66])), (a1, .inl (E.2 0, 2400, .inl o_code100_31)), (a2, .inl (E.2 0, 2400, .inl o_codeArg100_32)), (a3, .inl (E.2 0, 240, .inl o_codeFrom100_33)), (a4, .inl (E.2 0, 240, .inl o_codeTo100_34)), (a5, .inl (E.2 0, 20, .inl o_many100_35)), (a6, .inl (E.2 0, 120, .inl newArg__22)), (a7, .inl (E.2 0, 120, .inl newCode__23)), (a8, .inl (E.2 0, 12, .inl newFrom__24)), (a9, .inl (E.2 0, 12, .inl newSum__25)), (a10, .inl (E.2 0, 12, .inl newTo__26)), (a11, .inl (E.2 0, 160, .inl stack__27)), (a12, .inl (E.2 0, 240, .inl o_sumFrom100_36)), (a13, .inl (E.2 1, 200, .inl s_tape))] := hV39.sub [2, 3, 4, 5, 6, 7, 8, 9, 10, 11, 12, 0, 13, 1] rfl rfl
      clear hVB86
      refine lv_aload_n hx hb dX12_readsText_103 rfl (lv_at hlB86 0 rfl) ?_
      refine kget X hV39 (ci := 12) inlX12 rfl 0 rfl 21 (by decide) mw_476 rfl dX12_readsText_104 ?_
      obtain ⟨q41, q42, q43, q44, q45, q46, q47, q48, q49, q50, q51, q52, q53, q54, q55, q56, q57, q58, q59, q60, q61, q62, q63⟩ := tup23_s h38
      clear h38
      exact hret _ () _ _ _ _ q41 rfl (by rw [← q42, ← q43, ← q44, ← q45, ← q46, ← q47, ← q48, ← q49, ← q50, ← q51, ← q52, ← q53, ← q54, ← q55, ← q56, ← q57, ← q58, ← q59, ← q60, ← q61, ← q62, ← q63]; exact hV39) dX12_readsText_107
    · have h30 := ieS c28 hB86
      clear hB86 c28
      refine lv_aload_n hx hb dX12_readsText_93 rfl (lv_at hlB86 0 rfl) ?_
      refine kget X hVB86 (ci := 12) inlX12 rfl 0 rfl 20 (by decide) mw_475 rfl dX12_readsText_94 ?_
      obtain ⟨q64, q65, q66, q67, q68, q69, q70, q71, q72, q73, q74, q75, q76, q77, q78, q79, q80, q81, q82, q83, q84, q85, q86⟩ := tup23_s h30
      clear h30
      exact hret _ () _ _ _ _ q64 rfl (by rw [← q65, ← q66, ← q67, ← q68, ← q69, ← q70, ← q71, ← q72, ← q73, ← q74, ← q75, ← q76, ← q77, ← q78, ← q79, ← q80, ← q81, ← q82, ← q83, ← q84, ← q85, ← q86]; exact hVB86) dX12_readsText_97
  have L8 : ∀ (n8 : Nat) (x4_87 : Int32) (bad__88 : Int32) (clauses__89 : Int32) (codes__90 : Int32) (isBehind__91 : Int32) (isOver__92 : Int32) (open__93 : Int32) (place__94 : Int32) (stacked__95 : Int32) (newArg__96 : Nat → Int32) (newCode__97 : Nat → Int32) (newFrom__98 : Nat → Int32) (newSum__99 : Nat → Int32) (newTo__100 : Nat → Int32) (stack__101 : Nat → Int32) (H : Heap) (locs : List Loc) (ls : Array Slot), (f_X12_readsText_L8 s_tape p3 o_end2_3 (f_X12_readsText_J86 s_code s_codeArg s_codeFrom s_codeTo s_many s_sumFrom p1 o_taped2_1 o_end2_3 ) n8) x4_87 bad__88 clauses__89 codes__90 isBehind__91 isOver__92 open__93 place__94 stacked__95 newArg__96 newCode__97 newFrom__98 newSum__99 newTo__100 stack__101 = some (r, o_taped, o_place, o_end, o_bad, o_clauses, o_codes, o_open, o_stacked, o_isOver, o_isBehind, o_code, o_codeArg, o_codeFrom, o_codeTo, o_many, o_newArg, o_newCode, o_newFrom, o_newSum, o_newTo, o_stack, o_sumFrom) → kV E A s.heap H locs [(a0, .inr (12, [.ref a13, .int o_taped2_1, w0_2, w0_3, w0_4, w0_5, w0_6, .ref a5, .ref a12, .ref a3, .ref a4, .ref a1, .ref a2, .ref a9, .ref a8, .ref a10, .ref a7, .ref a6, .int place__94, .int o_end2_3, .int bad__88, .int clauses__89, .int codes__90, .int open__93, .int stacked__95, .int isOver__92, .int isBehind__91, .ref a11, w0_28, w0_29, w0_30, w0_31, w0_32, w0_33, w0_34, w0_35, w0_36, w0_37, w0_38, w0_39, w0_40, w0_41, w0_42, w0_43, w0_44, w0_45, w0_46, w0_47, w0_48, w0_49, w0_50, w0_51, w0_52, w0_53, w0_54, w0_55, w0_56, w0_57, w0_58, w0_59, w0_60, w0_61, w0_62, w0_63, w0_64, w0_65, w0_66])), (a1, .inl (E.2 0, 2400, .inl s_code)), (a2, .inl (E.2 0, 2400, .inl s_codeArg)), (a3, .inl (E.2 0, 240, .inl s_codeFrom)), (a4, .inl (E.2 0, 240, .inl s_codeTo)), (a5, .inl (E.2 0, 20, .inl s_many)), (a6, .inl (E.2 0, 120, .inl newArg__96)), (a7, .inl (E.2 0, 120, .inl newCode__97)), (a8, .inl (E.2 0, 12, .inl newFrom__98)), (a9, .inl (E.2 0, 12, .inl newSum__99)), (a10, .inl (E.2 0, 12, .inl newTo__100)), (a11, .inl (E.2 0, 160, .inl stack__101)), (a12, .inl (E.2 0, 240, .inl s_sumFrom)), (a13, .inl (E.2 1, 200, .inl s_tape))] → lv_has ls 5 [(0, .ref a0), (1, .int p1), (3, .int p3), (4, .int x4_87)] → W p l e r_X12_readsText s m args below meth c H locs 0 0 Q (F0 m 8 ls []) := by
    intro n8
    induction n8 with
    | zero =>
      intro x4_87 bad__88 clauses__89 codes__90 isBehind__91 isOver__92 open__93 place__94 stacked__95 newArg__96 newCode__97 newFrom__98 newSum__99 newTo__100 stack__101 H locs ls hB8 hVB8 hlB8
      rw [f_X12_readsText_L8] at hB8
      exact nomatch hB8
    | succ n8 ih8 =>
      intro x4_87 bad__88 clauses__89 codes__90 isBehind__91 isOver__92 open__93 place__94 stacked__95 newArg__96 newCode__97 newFrom__98 newSum__99 newTo__100 stack__101 H locs ls hB8 hVB8 hlB8
      rw [f_X12_readsText_L8] at hB8
      refine lv_iload hx hb dX12_readsText_8 (lv_at hlB8 3 rfl) ?_
      refine lv_if_eq (tgt := 86) hx hb dX12_readsText_10 (by decide) (fun c102 => ?_) (fun c102 => ?_)
      · have h103 := itS c102 hB8
        clear hB8 c102
        exact J86 bad__88 clauses__89 codes__90 isBehind__91 isOver__92 open__93 place__94 stacked__95 newArg__96 newCode__97 newFrom__98 newSum__99 newTo__100 stack__101 _ _ _ h103 hVB8 (lv_sub hlB8 [0, 1] rfl)
      · have h104 := ieS c102 hB8
        clear hB8 c102
        refine lv_aload_n hx hb dX12_readsText_13 rfl (lv_at hlB8 0 rfl) ?_
        obtain ⟨r14_105, hc106, h107⟩ := cb1_s h104
        clear h104
        refine kgoiE (krunV (rest := []) X hVB8 [0] (c_X12_isGood l E _ a0 (.ref a13) (.int o_taped2_1) (w0_2) (w0_3) (w0_4) (w0_5) (w0_6) (.ref a5) (.ref a12) (.ref a3) (.ref a4) (.ref a1) (.ref a2) (.ref a9) (.ref a8) (.ref a10) (.ref a7) (.ref a6) (.int place__94) (.int o_end2_3) (.int clauses__89) (.int codes__90) (.int open__93) (.int stacked__95) (.int isOver__92) (.int isBehind__91) (.ref a11) (w0_28) (w0_29) (w0_30) (w0_31) (w0_32) (w0_33) (w0_34) (w0_35) (w0_36) (w0_37) (w0_38) (w0_39) (w0_40) (w0_41) (w0_42) (w0_43) (w0_44) (w0_45) (w0_46) (w0_47) (w0_48) (w0_49) (w0_50) (w0_51) (w0_52) (w0_53) (w0_54) (w0_55) (w0_56) (w0_57) (w0_58) (w0_59) (w0_60) (w0_61) (w0_62) (w0_63) (w0_64) (w0_65) (w0_66) bad__88 r14_105 hc106) mw_484 kb_X12_isGood (ci := 12) rfl rfl (by decide) rfl rfl hlB8.1 rfl (Nat.le_of_ble_eq_true rfl) dX12_readsText_14 (by decide)) X hVB8 [0] [1, 2, 3, 4, 5, 6, 7, 8, 9, 10, 11, 12, 13] rfl rfl rfl (by decide) (fun u H locs hV108 => ?_)
        have hV108 : kV E A s.heap H locs [(a0, .inr (12, [.ref a13, .int o_taped2_1, w0_2, w0_3, w0_4, w0_5, w0_6, .ref a5, .ref a12, .ref a3, .ref a4, .ref a1, .ref a2, .ref a9, .ref a8, .ref a10, .ref a7, .ref a6, .int place__94, .int o_end2_3, .int bad__88, .int clauses__89, .int codes__90, .int open__93, .int stacked__95, .int isOver__92, .int isBehind__91, .ref a11, w0_28, w0_29, w0_30, w0_31, w0_32, w0_33, w0_34, w0_35, w0_36, w0_37, w0_38, w0_39, w0_40, w0_41, w0_42, w0_43, w0_44, w0_45, w0_46, w0_47, w0_48, w0_49, w0_50, w0_51, w0_52, w0_53, w0_54, w0_55, w0_56, w0_57, w0_58, w0_59, w0_60, w0_61, w0_62, w0_63, w0_64, w0_65, w0_66])), (a1, .inl (E.2 0, 2400, .inl s_code)), (a2, .inl (E.2 0, 2400, .inl s_codeArg)), (a3, .inl (E.2 0, 240, .inl s_codeFrom)), (a4, .inl (E.2 0, 240, .inl s_codeTo)), (a5, .inl (E.2 0, 20, .inl s_many)), (a6, .inl (E.2 0, 120, .inl newArg__96)), (a7, .inl (E.2 0, 120, .inl newCode__97)), (a8, .inl (E.2 0, 12, .inl newFrom__98)), (a9, .inl (E.2 0, 12, .inl newSum__99)), (a10, .inl (E.2 0, 12, .inl newTo__100)), (a11, .inl (E.2 0, 160, .inl stack__101)), (a12, .inl (E.2 0, 240, .inl s_sumFrom)), (a13, .inl (E.2 1, 200, .inl s_tape))] := hV108.sub [13, 0, 1, 2, 3, 4, 5, 6, 7, 8, 9, 10, 11, 12] rfl rfl
        clear hVB8
        refine lv_if_eq (tgt := 86) hx hb dX12_readsText_17 (by decide) (fun c110 => ?_) (fun c110 => ?_)
        · have h111 := itS c110 h107
          clear h107 c110
          exact J86 bad__88 clauses__89 codes__90 isBehind__91 isOver__92 open__93 place__94 stacked__95 newArg__96 newCode__97 newFrom__98 newSum__99 newTo__100 stack__101 _ _ _ h111 hV108 (lv_sub hlB8 [0, 1] rfl)
        · have h112 := ieS c110 h107
          clear h107 c110
          refine lv_aload_n hx hb dX12_readsText_20 rfl (lv_at hlB8 0 rfl) ?_
          refine lv_iload_n hx hb dX12_readsText_21 rfl (lv_at hlB8 2 rfl) ?_
          obtain ⟨o_place22_113, o_bad22_114, o_clauses22_115, o_codes22_116, o_open22_117, o_stacked22_118, o_isOver22_119, o_isBehind22_120, o_newArg22_121, o_newCode22_122, o_newFrom22_123, o_newSum22_124, o_newTo22_125, o_stack22_126, hc127, h128⟩ := cb14_s h112
          clear h112
          refine kgov (krunV (rest := []) X hV108 [0, 6, 7, 8, 9, 10, 11, 13] (c_X12_clause l E _ a0 a6 a7 a8 a9 a10 a11 a13 (.int o_taped2_1) (w0_2) (w0_3) (w0_4) (w0_5) (w0_6) (.ref a5) (.ref a12) (.ref a3) (.ref a4) (.ref a1) (.ref a2) (w0_28) (w0_29) (w0_30) (w0_31) (w0_32) (w0_33) (w0_34) (w0_35) (w0_36) (w0_37) (w0_38) (w0_39) (w0_40) (w0_41) (w0_42) (w0_43) (w0_44) (w0_45) (w0_46) (w0_47) (w0_48) (w0_49) (w0_50) (w0_51) (w0_52) (w0_53) (w0_54) (w0_55) (w0_56) (w0_57) (w0_58) (w0_59) (w0_60) (w0_61) (w0_62) (w0_63) (w0_64) (w0_65) (w0_66) place__94 o_end2_3 bad__88 clauses__89 codes__90 open__93 stacked__95 isOver__92 isBehind__91 newArg__96 newCode__97 newFrom__98 newSum__99 newTo__100 stack__101 s_tape p3 o_place22_113 o_bad22_114 o_clauses22_115 o_codes22_116 o_open22_117 o_stacked22_118 o_isOver22_119 o_isBehind22_120 o_newArg22_121 o_newCode22_122 o_newFrom22_123 o_newSum22_124 o_newTo22_125 o_stack22_126 hc127) mw_488 kb_X12_clause (ci := 12) rfl rfl (by decide) rfl rfl hlB8.1 rfl (Nat.le_of_ble_eq_true rfl) dX12_readsText_22 (by decide)) X hV108 [0, 6, 7, 8, 9, 10, 11, 13] [1, 2, 3, 4, 5, 12] rfl rfl rfl (by decide) (fun u H locs hp130 hV129 => ?_)
          have hV129 : kV E A s.heap H locs [(a0, .inr (12, [.ref a13, .int o_taped2_1, w0_2, w0_3, w0_4, w0_5, w0_6, .ref a5, .ref a12, .ref a3, .ref a4, .ref a1, .ref a2, .ref a9, .ref a8, .ref a10, .ref a7, .ref a6, .int o_place22_113, .int o_end2_3, .int o_bad22_114, .int o_clauses22_115, .int o_codes22_116, .int o_open22_117, .int o_stacked22_118, .int o_isOver22_119, .int o_isBehind22_120, .ref a11, w0_28, w0_29, w0_30, w0_31, w0_32, w0_33, w0_34, w0_35, w0_36, w0_37, w0_38, w0_39, w0_40, w0_41, w0_42, w0_43, w0_44, w0_45, w0_46, w0_47, w0_48, w0_49, w0_50, w0_51, w0_52, w0_53, w0_54, w0_55, w0_56, w0_57, w0_58, w0_59, w0_60, w0_61, w0_62, w0_63, w0_64, w0_65, w0_66])), (a1, .inl (E.2 0, 2400, .inl s_code)), (a2, .inl (E.2 0, 2400, .inl s_codeArg)), (a3, .inl (E.2 0, 240, .inl s_codeFrom)), (a4, .inl (E.2 0, 240, .inl s_codeTo)), (a5, .inl (E.2 0, 20, .inl s_many)), (a6, .inl (E.2 0, 120, .inl o_newArg22_121)), (a7, .inl (E.2 0, 120, .inl o_newCode22_122)), (a8, .inl (E.2 0, 12, .inl o_newFrom22_123)), (a9, .inl (E.2 0, 12, .inl o_newSum22_124)), (a10, .inl (E.2 0, 12, .inl o_newTo22_125)), (a11, .inl (E.2 0, 160, .inl o_stack22_126)), (a12, .inl (E.2 0, 240, .inl s_sumFrom)), (a13, .inl (E.2 1, 200, .inl s_tape))] := hV129.sub [6, 0, 1, 2, 3, 4, 7, 8, 9, 10, 11, 12, 5, 13] rfl rfl
          clear hV108
          refine lv_aload_n hx hb dX12_readsText_25 rfl (lv_at hlB8 0 rfl) ?_
          obtain ⟨r26_131, hc132, h133⟩ := cb1_s h128
          clear h128
          refine kgoiE (krunV (rest := []) X hV129 [0] (c_X12_isGood l E _ a0 (.ref a13) (.int o_taped2_1) (w0_2) (w0_3) (w0_4) (w0_5) (w0_6) (.ref a5) (.ref a12) (.ref a3) (.ref a4) (.ref a1) (.ref a2) (.ref a9) (.ref a8) (.ref a10) (.ref a7) (.ref a6) (.int o_place22_113) (.int o_end2_3) (.int o_clauses22_115) (.int o_codes22_116) (.int o_open22_117) (.int o_stacked22_118) (.int o_isOver22_119) (.int o_isBehind22_120) (.ref a11) (w0_28) (w0_29) (w0_30) (w0_31) (w0_32) (w0_33) (w0_34) (w0_35) (w0_36) (w0_37) (w0_38) (w0_39) (w0_40) (w0_41) (w0_42) (w0_43) (w0_44) (w0_45) (w0_46) (w0_47) (w0_48) (w0_49) (w0_50) (w0_51) (w0_52) (w0_53) (w0_54) (w0_55) (w0_56) (w0_57) (w0_58) (w0_59) (w0_60) (w0_61) (w0_62) (w0_63) (w0_64) (w0_65) (w0_66) o_bad22_114 r26_131 hc132) mw_484 kb_X12_isGood (ci := 12) rfl rfl (by decide) rfl rfl hlB8.1 rfl (Nat.le_of_ble_eq_true rfl) dX12_readsText_26 (by decide)) X hV129 [0] [1, 2, 3, 4, 5, 6, 7, 8, 9, 10, 11, 12, 13] rfl rfl rfl (by decide) (fun u H locs hV134 => ?_)
          have hV134 : kV E A s.heap H locs [(a0, .inr (12, [.ref a13, .int o_taped2_1, w0_2, w0_3, w0_4, w0_5, w0_6, .ref a5, .ref a12, .ref a3, .ref a4, .ref a1, .ref a2, .ref a9, .ref a8, .ref a10, .ref a7, .ref a6, .int o_place22_113, .int o_end2_3, .int o_bad22_114, .int o_clauses22_115, .int o_codes22_116, .int o_open22_117, .int o_stacked22_118, .int o_isOver22_119, .int o_isBehind22_120, .ref a11, w0_28, w0_29, w0_30, w0_31, w0_32, w0_33, w0_34, w0_35, w0_36, w0_37, w0_38, w0_39, w0_40, w0_41, w0_42, w0_43, w0_44, w0_45, w0_46, w0_47, w0_48, w0_49, w0_50, w0_51, w0_52, w0_53, w0_54, w0_55, w0_56, w0_57, w0_58, w0_59, w0_60, w0_61, w0_62, w0_63, w0_64, w0_65, w0_66])), (a1, .inl (E.2 0, 2400, .inl s_code)), (a2, .inl (E.2 0, 2400, .inl s_codeArg)), (a3, .inl (E.2 0, 240, .inl s_codeFrom)), (a4, .inl (E.2 0, 240, .inl s_codeTo)), (a5, .inl (E.2 0, 20, .inl s_many)), (a6, .inl (E.2 0, 120, .inl o_newArg22_121)), (a7, .inl (E.2 0, 120, .inl o_newCode22_122)), (a8, .inl (E.2 0, 12, .inl o_newFrom22_123)), (a9, .inl (E.2 0, 12, .inl o_newSum22_124)), (a10, .inl (E.2 0, 12, .inl o_newTo22_125)), (a11, .inl (E.2 0, 160, .inl o_stack22_126)), (a12, .inl (E.2 0, 240, .inl s_sumFrom)), (a13, .inl (E.2 1, 200, .inl s_tape))] := hV134.sub [13, 0, 1, 2, 3, 4, 5, 6, 7, 8, 9, 10, 11, 12] rfl rfl
          clear hV129
          have J48 : ∀ (t0_136 : Int32) (H : Heap) (locs : List Loc) (ls : Array Slot), (f_X12_readsText_J48 s_tape o_end2_3 o_place22_113 o_bad22_114 o_clauses22_115 o_codes22_116 o_open22_117 o_stacked22_118 o_isOver22_119 o_isBehind22_120 o_newArg22_121 o_newCode22_122 o_newFrom22_123 o_newSum22_124 o_newTo22_125 o_stack22_126 (f_X12_readsText_L8 s_tape p3 o_end2_3 (f_X12_readsText_J86 s_code s_codeArg s_codeFrom s_codeTo s_many s_sumFrom p1 o_taped2_1 o_end2_3 ) n8)) t0_136 = some (r, o_taped, o_place, o_end, o_bad, o_clauses, o_codes, o_open, o_stacked, o_isOver, o_isBehind, o_code, o_codeArg, o_codeFrom, o_codeTo, o_many, o_newArg, o_newCode, o_newFrom, o_newSum, o_newTo, o_stack, o_sumFrom) → kV E A s.heap H locs [(a0, .inr (12, [.ref a13, .int o_taped2_1, w0_2, w0_3, w0_4, w0_5, w0_6, .ref a5, .ref a12, .ref a3, .ref a4, .ref a1, .ref a2, .ref a9, .ref a8, .ref a10, .ref a7, .ref a6, .int o_place22_113, .int o_end2_3, .int o_bad22_114, .int o_clauses22_115, .int o_codes22_116, .int o_open22_117, .int o_stacked22_118, .int o_isOver22_119, .int o_isBehind22_120, .ref a11, w0_28, w0_29, w0_30, w0_31, w0_32, w0_33, w0_34, w0_35, w0_36, w0_37, w0_38, w0_39, w0_40, w0_41, w0_42, w0_43, w0_44, w0_45, w0_46, w0_47, w0_48, w0_49, w0_50, w0_51, w0_52, w0_53, w0_54, w0_55, w0_56, w0_57, w0_58, w0_59, w0_60, w0_61, w0_62, w0_63, w0_64, w0_65, w0_66])), (a1, .inl (E.2 0, 2400, .inl s_code)), (a2, .inl (E.2 0, 2400, .inl s_codeArg)), (a3, .inl (E.2 0, 240, .inl s_codeFrom)), (a4, .inl (E.2 0, 240, .inl s_codeTo)), (a5, .inl (E.2 0, 20, .inl s_many)), (a6, .inl (E.2 0, 120, .inl o_newArg22_121)), (a7, .inl (E.2 0, 120, .inl o_newCode22_122)), (a8, .inl (E.2 0, 12, .inl o_newFrom22_123)), (a9, .inl (E.2 0, 12, .inl o_newSum22_124)), (a10, .inl (E.2 0, 12, .inl o_newTo22_125)), (a11, .inl (E.2 0, 160, .inl o_stack22_126)), (a12, .inl (E.2 0, 240, .inl s_sumFrom)), (a13, .inl (E.2 1, 200, .inl s_tape))] → lv_has ls 5 [(0, .ref a0), (1, .int p1), (3, .int p3)] → W p l e r_X12_readsText s m args below meth c H locs 0 0 Q (F0 m 48 ls [.int t0_136]) := by
            intro t0_136 H locs ls hB48 hVB48 hlB48
            rw [f_X12_readsText_J48] at hB48
            refine lv_istore (lv' := [(4, .int t0_136), (0, .ref a0), (1, .int p1), (3, .int p3)]) hx hb dX12_readsText_48 hlB48 (by decide) rfl (fun ls hl137 => ?_)
            clear hlB48
            refine lv_iload hx hb dX12_readsText_50 (lv_at hl137 0 rfl) ?_
            refine lv_if_eq (tgt := 8) hx hb dX12_readsText_52 (by decide) (fun c138 => ?_) (fun c138 => ?_)
            · have h139 := itS c138 hB48
              clear hB48 c138
              exact ih8 t0_136 o_bad22_114 o_clauses22_115 o_codes22_116 o_isBehind22_120 o_isOver22_119 o_open22_117 o_place22_113 o_stacked22_118 o_newArg22_121 o_newCode22_122 o_newFrom22_123 o_newSum22_124 o_newTo22_125 o_stack22_126 _ _ _ h139 hVB48 (lv_sub hl137 [1, 2, 3, 0] rfl)
            · have h140 := ieS c138 hB48
              clear hB48 c138
              refine lv_aload_n hx hb dX12_readsText_55 rfl (lv_at hl137 1 rfl) ?_
              obtain ⟨r56_141, hc142, h143⟩ := cb1_s h140
              clear h140
              refine kgoiE (krunV (rest := []) X hVB48 [0, 13] (c_X12_here l E _ a0 a13 (.int o_taped2_1) (w0_2) (w0_3) (w0_4) (w0_5) (w0_6) (.ref a5) (.ref a12) (.ref a3) (.ref a4) (.ref a1) (.ref a2) (.ref a9) (.ref a8) (.ref a10) (.ref a7) (.ref a6) (.int o_bad22_114) (.int o_clauses22_115) (.int o_codes22_116) (.int o_open22_117) (.int o_stacked22_118) (.int o_isOver22_119) (.int o_isBehind22_120) (.ref a11) (w0_28) (w0_29) (w0_30) (w0_31) (w0_32) (w0_33) (w0_34) (w0_35) (w0_36) (w0_37) (w0_38) (w0_39) (w0_40) (w0_41) (w0_42) (w0_43) (w0_44) (w0_45) (w0_46) (w0_47) (w0_48) (w0_49) (w0_50) (w0_51) (w0_52) (w0_53) (w0_54) (w0_55) (w0_56) (w0_57) (w0_58) (w0_59) (w0_60) (w0_61) (w0_62) (w0_63) (w0_64) (w0_65) (w0_66) o_place22_113 o_end2_3 s_tape r56_141 hc142) mw_492 kb_X12_here (ci := 12) rfl rfl (by decide) rfl rfl hl137.1 rfl (Nat.le_of_ble_eq_true rfl) dX12_readsText_56 (by decide)) X hVB48 [0, 13] [1, 2, 3, 4, 5, 6, 7, 8, 9, 10, 11, 12] rfl rfl rfl (by decide) (fun u H locs hV144 => ?_)
              have hV144 : kV E A s.heap H locs [(a0, .inr (12, [.ref a13, .int o_taped2_1, w0_2, w0_3, w0_4, w0_5, w0_6, .ref a5, .ref a12, .ref a3, .ref a4, .ref a1, .ref a2, .ref a9, .ref a8, .ref a10, .ref a7, .ref a6, .int o_place22_113, .int o_end2_3, .int o_bad22_114, .int o_clauses22_115, .int o_codes22_116, .int o_open22_117, .int o_stacked22_118, .int o_isOver22_119, .int o_isBehind22_120, .ref a11, w0_28, w0_29, w0_30, w0_31, w0_32, w0_33, w0_34, w0_35, w0_36, w0_37, w0_38, w0_39, w0_40, w0_41, w0_42, w0_43, w0_44, w0_45, w0_46, w0_47, w0_48, w0_49, w0_50, w0_51, w0_52, w0_53, w0_54, w0_55, w0_56, w0_57, w0_58, w0_59, w0_60, w0_61, w0_62, w0_63, w0_64, w0_65, w0_66])), (a1, .inl (E.2 0, 2400, .inl s_code)), (a2, .inl (E.2 0, 2400, .inl s_codeArg)), (a3, .inl (E.2 0, 240, .inl s_codeFrom)), (a4, .inl (E.2 0, 240, .inl s_codeTo)), (a5, .inl (E.2 0, 20, .inl s_many)), (a6, .inl (E.2 0, 120, .inl o_newArg22_121)), (a7, .inl (E.2 0, 120, .inl o_newCode22_122)), (a8, .inl (E.2 0, 12, .inl o_newFrom22_123)), (a9, .inl (E.2 0, 12, .inl o_newSum22_124)), (a10, .inl (E.2 0, 12, .inl o_newTo22_125)), (a11, .inl (E.2 0, 160, .inl o_stack22_126)), (a12, .inl (E.2 0, 240, .inl s_sumFrom)), (a13, .inl (E.2 1, 200, .inl s_tape))] := hV144.sub [12, 0, 1, 2, 3, 4, 5, 6, 7, 8, 9, 10, 11, 13] rfl rfl
              clear hVB48
              refine lv_bipush (v := 59) hx hb dX12_readsText_59 (by decide) ?_
              have J73 : ∀ (bad__146 : Int32) (H : Heap) (locs : List Loc) (ls : Array Slot), (f_X12_readsText_J73 o_place22_113 o_clauses22_115 o_codes22_116 o_open22_117 o_stacked22_118 o_isOver22_119 o_isBehind22_120 o_newArg22_121 o_newCode22_122 o_newFrom22_123 o_newSum22_124 o_newTo22_125 o_stack22_126 t0_136 (f_X12_readsText_L8 s_tape p3 o_end2_3 (f_X12_readsText_J86 s_code s_codeArg s_codeFrom s_codeTo s_many s_sumFrom p1 o_taped2_1 o_end2_3 ) n8)) bad__146 = some (r, o_taped, o_place, o_end, o_bad, o_clauses, o_codes, o_open, o_stacked, o_isOver, o_isBehind, o_code, o_codeArg, o_codeFrom, o_codeTo, o_many, o_newArg, o_newCode, o_newFrom, o_newSum, o_newTo, o_stack, o_sumFrom) → kV E A s.heap H locs [(a0, .inr (12, [.ref a13, .int o_taped2_1, w0_2, w0_3, w0_4, w0_5, w0_6, .ref a5, .ref a12, .ref a3, .ref a4, .ref a1, .ref a2, .ref a9, .ref a8, .ref a10, .ref a7, .ref a6, .int o_place22_113, .int o_end2_3, .int bad__146, .int o_clauses22_115, .int o_codes22_116, .int o_open22_117, .int o_stacked22_118, .int o_isOver22_119, .int o_isBehind22_120, .ref a11, w0_28, w0_29, w0_30, w0_31, w0_32, w0_33, w0_34, w0_35, w0_36, w0_37, w0_38, w0_39, w0_40, w0_41, w0_42, w0_43, w0_44, w0_45, w0_46, w0_47, w0_48, w0_49, w0_50, w0_51, w0_52, w0_53, w0_54, w0_55, w0_56, w0_57, w0_58, w0_59, w0_60, w0_61, w0_62, w0_63, w0_64, w0_65, w0_66])), (a1, .inl (E.2 0, 2400, .inl s_code)), (a2, .inl (E.2 0, 2400, .inl s_codeArg)), (a3, .inl (E.2 0, 240, .inl s_codeFrom)), (a4, .inl (E.2 0, 240, .inl s_codeTo)), (a5, .inl (E.2 0, 20, .inl s_many)), (a6, .inl (E.2 0, 120, .inl o_newArg22_121)), (a7, .inl (E.2 0, 120, .inl o_newCode22_122)), (a8, .inl (E.2 0, 12, .inl o_newFrom22_123)), (a9, .inl (E.2 0, 12, .inl o_newSum22_124)), (a10, .inl (E.2 0, 12, .inl o_newTo22_125)), (a11, .inl (E.2 0, 160, .inl o_stack22_126)), (a12, .inl (E.2 0, 240, .inl s_sumFrom)), (a13, .inl (E.2 1, 200, .inl s_tape))] → lv_has ls 5 [(0, .ref a0), (1, .int p1), (3, .int p3), (4, .int t0_136)] → W p l e r_X12_readsText s m args below meth c H locs 0 0 Q (F0 m 73 ls []) := by
                intro bad__146 H locs ls hB73 hVB73 hlB73
                rw [f_X12_readsText_J73] at hB73
                refine lv_aload_n hx hb dX12_readsText_73 rfl (lv_at hlB73 0 rfl) ?_
                refine lv_dup hx hb dX12_readsText_74 rfl ?_
                refine kget X hVB73 (ci := 12) inlX12 rfl 0 rfl 18 (by decide) mw_473 rfl dX12_readsText_75 ?_
                refine lv_iconst (v := 1) hx hb dX12_readsText_78 (by decide) ?_
                refine lv_iadd hx hb dX12_readsText_79 ?_
                obtain ⟨v80_147, e148, h149⟩ := nmI_s hB73
                clear hB73
                refine ktopi e148 ?_
                clear e148
                refine kput X hVB73 (ci := 12) inlX12 rfl tyX12 tyX12_ok nmX12 0 rfl 18 (by decide) mw_473 rfl rfl rfl (Nat.le_of_ble_eq_true rfl) dX12_readsText_80 (fun H locs hV150 => ?_)
                have hV150 : kV E A s.heap H locs [(a0, .inr (12, [.ref a13, .int o_taped2_1, w0_2, w0_3, w0_4, w0_5, w0_6, .ref a5, .ref a12, .ref a3, .ref a4, .ref a1, .ref a2, .ref a9, .ref a8, .ref a10, .ref a7, .ref a6, .int v80_147, .int o_end2_3, .int bad__146, .int o_clauses22_115, .int o_codes22_116, .int o_open22_117, .int o_stacked22_118, .int o_isOver22_119, .int o_isBehind22_120, .ref a11, w0_28, w0_29, w0_30, w0_31, w0_32, w0_33, w0_34, w0_35, w0_36, w0_37, w0_38, w0_39, w0_40, w0_41, w0_42, w0_43, w0_44, w0_45, w0_46, w0_47, w0_48, w0_49, w0_50, w0_51, w0_52, w0_53, w0_54, w0_55, w0_56, w0_57, w0_58, w0_59, w0_60, w0_61, w0_62, w0_63, w0_64, w0_65, w0_66])), (a1, .inl (E.2 0, 2400, .inl s_code)), (a2, .inl (E.2 0, 2400, .inl s_codeArg)), (a3, .inl (E.2 0, 240, .inl s_codeFrom)), (a4, .inl (E.2 0, 240, .inl s_codeTo)), (a5, .inl (E.2 0, 20, .inl s_many)), (a6, .inl (E.2 0, 120, .inl o_newArg22_121)), (a7, .inl (E.2 0, 120, .inl o_newCode22_122)), (a8, .inl (E.2 0, 12, .inl o_newFrom22_123)), (a9, .inl (E.2 0, 12, .inl o_newSum22_124)), (a10, .inl (E.2 0, 12, .inl o_newTo22_125)), (a11, .inl (E.2 0, 160, .inl o_stack22_126)), (a12, .inl (E.2 0, 240, .inl s_sumFrom)), (a13, .inl (E.2 1, 200, .inl s_tape))] := hV150
                clear hVB73
                refine lv_goto (tgt := 8) hx hb dX12_readsText_83 (by decide) ?_
                exact ih8 t0_136 bad__146 o_clauses22_115 o_codes22_116 o_isBehind22_120 o_isOver22_119 o_open22_117 v80_147 o_stacked22_118 o_newArg22_121 o_newCode22_122 o_newFrom22_123 o_newSum22_124 o_newTo22_125 o_stack22_126 _ _ _ h149 hV150 (lv_sub hlB73 [0, 1, 2, 3] rfl)
              refine lv_icmp_eq (tgt := 73) hx hb dX12_readsText_61 (by decide) (fun c151 => ?_) (fun c151 => ?_)
              · have h152 := itS c151 h143
                clear h143 c151
                exact J73 o_bad22_114 _ _ _ h152 hV144 (lv_sub hl137 [1, 2, 3, 0] rfl)
              · have h153 := ieS c151 h143
                clear h143 c151
                refine lv_aload_n hx hb dX12_readsText_64 rfl (lv_at hl137 1 rfl) ?_
                refine lv_iconst (v := 1) hx hb dX12_readsText_65 (by decide) ?_
                refine lv_aload_n hx hb dX12_readsText_66 rfl (lv_at hl137 1 rfl) ?_
                refine kget X hV144 (ci := 12) inlX12 rfl 0 rfl 18 (by decide) mw_473 rfl dX12_readsText_67 ?_
                obtain ⟨o_bad70_154, hc155, h156⟩ := cb1_s h153
                clear h153
                refine kgov (krunV (rest := []) X hV144 [0] (c_X12_wrongs l E _ a0 (.ref a13) (.int o_taped2_1) (w0_2) (w0_3) (w0_4) (w0_5) (w0_6) (.ref a5) (.ref a12) (.ref a3) (.ref a4) (.ref a1) (.ref a2) (.ref a9) (.ref a8) (.ref a10) (.ref a7) (.ref a6) (.int o_place22_113) (.int o_end2_3) (.int o_clauses22_115) (.int o_codes22_116) (.int o_open22_117) (.int o_stacked22_118) (.int o_isOver22_119) (.int o_isBehind22_120) (.ref a11) (w0_28) (w0_29) (w0_30) (w0_31) (w0_32) (w0_33) (w0_34) (w0_35) (w0_36) (w0_37) (w0_38) (w0_39) (w0_40) (w0_41) (w0_42) (w0_43) (w0_44) (w0_45) (w0_46) (w0_47) (w0_48) (w0_49) (w0_50) (w0_51) (w0_52) (w0_53) (w0_54) (w0_55) (w0_56) (w0_57) (w0_58) (w0_59) (w0_60) (w0_61) (w0_62) (w0_63) (w0_64) (w0_65) (w0_66) o_bad22_114 1 o_place22_113 o_bad70_154 hc155) mw_496 kb_X12_wrongs (ci := 12) rfl rfl (by decide) rfl rfl hl137.1 rfl (Nat.le_of_ble_eq_true rfl) dX12_readsText_70 (by decide)) X hV144 [0] [1, 2, 3, 4, 5, 6, 7, 8, 9, 10, 11, 12, 13] rfl rfl rfl (by decide) (fun u H locs hp158 hV157 => ?_)
                have hV157 : kV E A s.heap H locs [(a0, .inr (12, [.ref a13, .int o_taped2_1, w0_2, w0_3, w0_4, w0_5, w0_6, .ref a5, .ref a12, .ref a3, .ref a4, .ref a1, .ref a2, .ref a9, .ref a8, .ref a10, .ref a7, .ref a6, .int o_place22_113, .int o_end2_3, .int o_bad70_154, .int o_clauses22_115, .int o_codes22_116, .int o_open22_117, .int o_stacked22_118, .int o_isOver22_119, .int o_isBehind22_120, .ref a11, w0_28, w0_29, w0_30, w0_31, w0_32, w0_33, w0_34, w0_35, w0_36, w0_37, w0_38, w0_39, w0_40, w0_41, w0_42, w0_43, w0_44, w0_45, w0_46, w0_47, w0_48, w0_49, w0_50, w0_51, w0_52, w0_53, w0_54, w0_55, w0_56, w0_57, w0_58, w0_59, w0_60, w0_61, w0_62, w0_63, w0_64, w0_65, w0_66])), (a1, .inl (E.2 0, 2400, .inl s_code)), (a2, .inl (E.2 0, 2400, .inl s_codeArg)), (a3, .inl (E.2 0, 240, .inl s_codeFrom)), (a4, .inl (E.2 0, 240, .inl s_codeTo)), (a5, .inl (E.2 0, 20, .inl s_many)), (a6, .inl (E.2 0, 120, .inl o_newArg22_121)), (a7, .inl (E.2 0, 120, .inl o_newCode22_122)), (a8, .inl (E.2 0, 12, .inl o_newFrom22_123)), (a9, .inl (E.2 0, 12, .inl o_newSum22_124)), (a10, .inl (E.2 0, 12, .inl o_newTo22_125)), (a11, .inl (E.2 0, 160, .inl o_stack22_126)), (a12, .inl (E.2 0, 240, .inl s_sumFrom)), (a13, .inl (E.2 1, 200, .inl s_tape))] := hV157.sub [13, 0, 1, 2, 3, 4, 5, 6, 7, 8, 9, 10, 11, 12] rfl rfl
                clear hV144
                exact J73 o_bad70_154 _ _ _ h156 hV157 (lv_sub hl137 [1, 2, 3, 0] rfl)
          refine lv_if_eq (tgt := 47) hx hb dX12_readsText_29 (by decide) (fun c159 => ?_) (fun c159 => ?_)
          · have h160 := itS c159 h133
            clear h133 c159
            refine lv_iconst (v := 0) hx hb dX12_readsText_47 (by decide) ?_
            exact J48 0 _ _ _ h160 hV134 (lv_sub hlB8 [0, 1, 2] rfl)
          · have h161 := ieS c159 h133
            clear h133 c159
            refine lv_aload_n hx hb dX12_readsText_32 rfl (lv_at hlB8 0 rfl) ?_
            refine kget X hV134 (ci := 12) inlX12 rfl 0 rfl 18 (by decide) mw_473 rfl dX12_readsText_33 ?_
            refine lv_aload_n hx hb dX12_readsText_36 rfl (lv_at hlB8 0 rfl) ?_
            refine kget X hV134 (ci := 12) inlX12 rfl 0 rfl 19 (by decide) mw_474 rfl dX12_readsText_37 ?_
            refine lv_icmp_ge (tgt := 47) hx hb dX12_readsText_40 (by decide) (fun c162 => ?_) (fun c162 => ?_)
            · have h163 := itS c162 h161
              clear h161 c162
              refine lv_iconst (v := 0) hx hb dX12_readsText_47 (by decide) ?_
              exact J48 0 _ _ _ h163 hV134 (lv_sub hlB8 [0, 1, 2] rfl)
            · have h164 := ieS c162 h161
              clear h161 c162
              refine lv_iconst (v := 1) hx hb dX12_readsText_43 (by decide) ?_
              refine lv_goto (tgt := 48) hx hb dX12_readsText_44 (by decide) ?_
              exact J48 1 _ _ _ h164 hV134 (lv_sub hlB8 [0, 1, 2] rfl)
  exact L8 FU 1 o_bad2_4 o_clauses2_5 o_codes2_6 s_isBehind s_isOver o_open2_7 o_place2_2 o_stacked2_8 s_newArg s_newCode s_newFrom s_newSum s_newTo s_stack _ _ _ h10 hV11 (lv_sub hl13 [1, 2, 4, 0] rfl)
abbrev r_X12_isSource : Room := { frames := 1, cells := 0, slots := 0, locals := 25 }
set_option maxHeartbeats 4000000 in
set_option maxRecDepth 100000 in
theorem c_X12_isSource (l : Launch) (E : kE) (sz : Nat) (a0 : Nat) (w0_0 w0_1 w0_3 w0_4 w0_5 w0_6 w0_7 w0_8 w0_9 w0_10 w0_11 w0_12 w0_13 w0_14 w0_15 w0_16 w0_17 w0_18 w0_19 w0_20 w0_21 w0_22 w0_23 w0_24 w0_25 w0_26 w0_27 w0_28 w0_29 w0_30 w0_31 w0_32 w0_33 w0_34 w0_35 w0_36 w0_37 w0_38 w0_39 w0_40 w0_41 w0_42 w0_43 w0_44 w0_45 w0_46 w0_47 w0_48 w0_49 w0_50 w0_51 w0_52 w0_53 w0_54 w0_55 w0_56 w0_57 w0_58 w0_59 w0_60 w0_61 w0_62 w0_63 w0_64 w0_65 w0_66 : Value) (s_sources : Int32) (p1 : Int32) (r : Int32) (h : f_X12_isSource s_sources p1 = some (r)) : kMi l yX12_isSource cX12_isSource 2 (some .boolean) r_X12_isSource [.ref a0, .int p1] E [(a0, .inr (12, [w0_0, w0_1, .int s_sources, w0_3, w0_4, w0_5, w0_6, w0_7, w0_8, w0_9, w0_10, w0_11, w0_12, w0_13, w0_14, w0_15, w0_16, w0_17, w0_18, w0_19, w0_20, w0_21, w0_22, w0_23, w0_24, w0_25, w0_26, w0_27, w0_28, w0_29, w0_30, w0_31, w0_32, w0_33, w0_34, w0_35, w0_36, w0_37, w0_38, w0_39, w0_40, w0_41, w0_42, w0_43, w0_44, w0_45, w0_46, w0_47, w0_48, w0_49, w0_50, w0_51, w0_52, w0_53, w0_54, w0_55, w0_56, w0_57, w0_58, w0_59, w0_60, w0_61, w0_62, w0_63, w0_64, w0_65, w0_66]))] sz 0 0 (fun x (_ : Unit) => x = r) (fun _ => [(a0, .inr (12, [w0_0, w0_1, .int s_sources, w0_3, w0_4, w0_5, w0_6, w0_7, w0_8, w0_9, w0_10, w0_11, w0_12, w0_13, w0_14, w0_15, w0_16, w0_17, w0_18, w0_19, w0_20, w0_21, w0_22, w0_23, w0_24, w0_25, w0_26, w0_27, w0_28, w0_29, w0_30, w0_31, w0_32, w0_33, w0_34, w0_35, w0_36, w0_37, w0_38, w0_39, w0_40, w0_41, w0_42, w0_43, w0_44, w0_45, w0_46, w0_47, w0_48, w0_49, w0_50, w0_51, w0_52, w0_53, w0_54, w0_55, w0_56, w0_57, w0_58, w0_59, w0_60, w0_61, w0_62, w0_63, w0_64, w0_65, w0_66]))]) := by
  refine kmeti rfl (Nat.le_of_ble_eq_true rfl) ?_
  intro p e s m args below meth c ls A Q X hV hret hl
  have X : kC p s m c cX12_isSource 2 RX12 args E A := X
  have hx := X.1
  have hb := X.2.1
  have hl : lv_has ls 2 [(0, .ref a0), (1, .int p1)] := hl
  rw [f_X12_isSource] at h
  refine lv_iload_n hx hb dX12_isSource_0 rfl (lv_at hl 1 rfl) ?_
  refine lv_i2l (v := Int32.toInt64 p1) hx hb dX12_isSource_1 rfl ?_
  refine lv_lconst (v := 0) hx hb dX12_isSource_2 (by decide) ?_
  refine lv_aload_n hx hb dX12_isSource_3 rfl (lv_at hl 0 rfl) ?_
  refine kget X hV (ci := 12) inlX12 rfl 0 rfl 2 (by decide) mw_216 rfl dX12_isSource_4 ?_
  refine lv_iconst (v := 1) hx hb dX12_isSource_7 (by decide) ?_
  refine lv_isub hx hb dX12_isSource_8 ?_
  refine lv_i2l (v := Int32.toInt64 (s_sources - 1)) hx hb dX12_isSource_9 rfl ?_
  obtain ⟨r10_1, hc2, h3⟩ := cb1_s h
  clear h
  refine kgoiE (krunS (rest := []) X hV [] (c_X12_lies l E _ (Int32.toInt64 p1) 0 (Int32.toInt64 (s_sources - 1)) r10_1 hc2) mw_224 kb_X12_lies (by decide) rfl rfl hl.1 rfl (Nat.le_of_ble_eq_true rfl) dX12_isSource_10 (by decide)) X hV [] [0] rfl rfl rfl (by decide) (fun u H locs hV4 => ?_)
  have hV4 : kV E A s.heap H locs [(a0, .inr (12, [w0_0, w0_1, .int s_sources, w0_3, w0_4, w0_5, w0_6, w0_7, w0_8, w0_9, w0_10, w0_11, w0_12, w0_13, w0_14, w0_15, w0_16, w0_17, w0_18, w0_19, w0_20, w0_21, w0_22, w0_23, w0_24, w0_25, w0_26, w0_27, w0_28, w0_29, w0_30, w0_31, w0_32, w0_33, w0_34, w0_35, w0_36, w0_37, w0_38, w0_39, w0_40, w0_41, w0_42, w0_43, w0_44, w0_45, w0_46, w0_47, w0_48, w0_49, w0_50, w0_51, w0_52, w0_53, w0_54, w0_55, w0_56, w0_57, w0_58, w0_59, w0_60, w0_61, w0_62, w0_63, w0_64, w0_65, w0_66]))] := hV4.sub [0] rfl rfl
  clear hV
  obtain ⟨hb6, h7⟩ := bo_s h3
  clear h3
  have q8 := tup1_s h7
  clear h7
  exact hret _ () _ _ _ _ q8 hb6 hV4 dX12_isSource_13
abbrev r_X12_isReader : Room := { frames := 1, cells := 0, slots := 0, locals := 25 }
set_option maxHeartbeats 4000000 in
set_option maxRecDepth 100000 in
theorem c_X12_isReader (l : Launch) (E : kE) (sz : Nat) (p1 : Int32) (r : Int32) (h : f_X12_isReader p1 = some (r)) : kMi l yX12_isReader cX12_isReader 1 (some .boolean) r_X12_isReader [.int p1] E [] sz 0 0 (fun x (_ : Unit) => x = r) (fun _ => []) := by
  refine kmeti rfl (Nat.le_of_ble_eq_true rfl) ?_
  intro p e s m args below meth c ls A Q X hV hret hl
  have X : kC p s m c cX12_isReader 1 RX12 args E A := X
  have hx := X.1
  have hb := X.2.1
  have hl : lv_has ls 1 [(0, .int p1)] := hl
  rw [f_X12_isReader] at h
  refine lv_iload_n hx hb dX12_isReader_0 rfl (lv_at hl 0 rfl) ?_
  refine lv_i2l (v := Int32.toInt64 p1) hx hb dX12_isReader_1 rfl ?_
  refine lv_lconst (v := 0) hx hb dX12_isReader_2 (by decide) ?_
  refine lv_ldc2 (v := 3) hx hb X.2.2.2.1 (X.2.2.2.2.1 _ mw_218) dX12_isReader_3 ?_
  obtain ⟨r6_1, hc2, h3⟩ := cb1_s h
  clear h
  refine kgoiE (krunS (rest := []) X hV [] (c_X12_lies l E _ (Int32.toInt64 p1) 0 3 r6_1 hc2) mw_224 kb_X12_lies (by decide) rfl rfl hl.1 rfl (Nat.le_of_ble_eq_true rfl) dX12_isReader_6 (by decide)) X hV [] [] rfl rfl rfl (by decide) (fun u H locs hV4 => ?_)
  have hV4 : kV E A s.heap H locs [] := hV4.sub [] rfl rfl
  clear hV
  obtain ⟨hb6, h7⟩ := bo_s h3
  clear h3
  have q8 := tup1_s h7
  clear h7
  exact hret _ () _ _ _ _ q8 hb6 hV4 dX12_isReader_9
abbrev r_X12_canRead : Room := { frames := 1, cells := 0, slots := 0, locals := 25 }
set_option maxHeartbeats 4000000 in
set_option maxRecDepth 100000 in
theorem c_X12_canRead (l : Launch) (E : kE) (sz : Nat) (a0 : Nat) (w0_0 w0_2 w0_3 w0_4 w0_5 w0_6 w0_7 w0_8 w0_9 w0_10 w0_11 w0_12 w0_13 w0_14 w0_15 w0_16 w0_17 w0_18 w0_19 w0_20 w0_21 w0_22 w0_23 w0_24 w0_25 w0_26 w0_27 w0_28 w0_29 w0_30 w0_31 w0_32 w0_33 w0_34 w0_35 w0_36 w0_37 w0_38 w0_39 w0_40 w0_41 w0_42 w0_43 w0_44 w0_45 w0_46 w0_47 w0_48 w0_49 w0_50 w0_51 w0_52 w0_53 w0_54 w0_55 w0_56 w0_57 w0_58 w0_59 w0_60 w0_61 w0_62 w0_63 w0_64 w0_65 w0_66 : Value) (s_taped : Int32) (p1 : Int32) (p2 : Int32) (r : Int32) (h : f_X12_canRead s_taped p1 p2 = some (r)) : kMi l yX12_canRead cX12_canRead 3 (some .boolean) r_X12_canRead [.ref a0, .int p1, .int p2] E [(a0, .inr (12, [w0_0, .int s_taped, w0_2, w0_3, w0_4, w0_5, w0_6, w0_7, w0_8, w0_9, w0_10, w0_11, w0_12, w0_13, w0_14, w0_15, w0_16, w0_17, w0_18, w0_19, w0_20, w0_21, w0_22, w0_23, w0_24, w0_25, w0_26, w0_27, w0_28, w0_29, w0_30, w0_31, w0_32, w0_33, w0_34, w0_35, w0_36, w0_37, w0_38, w0_39, w0_40, w0_41, w0_42, w0_43, w0_44, w0_45, w0_46, w0_47, w0_48, w0_49, w0_50, w0_51, w0_52, w0_53, w0_54, w0_55, w0_56, w0_57, w0_58, w0_59, w0_60, w0_61, w0_62, w0_63, w0_64, w0_65, w0_66]))] sz 0 0 (fun x (_ : Unit) => x = r) (fun _ => [(a0, .inr (12, [w0_0, .int s_taped, w0_2, w0_3, w0_4, w0_5, w0_6, w0_7, w0_8, w0_9, w0_10, w0_11, w0_12, w0_13, w0_14, w0_15, w0_16, w0_17, w0_18, w0_19, w0_20, w0_21, w0_22, w0_23, w0_24, w0_25, w0_26, w0_27, w0_28, w0_29, w0_30, w0_31, w0_32, w0_33, w0_34, w0_35, w0_36, w0_37, w0_38, w0_39, w0_40, w0_41, w0_42, w0_43, w0_44, w0_45, w0_46, w0_47, w0_48, w0_49, w0_50, w0_51, w0_52, w0_53, w0_54, w0_55, w0_56, w0_57, w0_58, w0_59, w0_60, w0_61, w0_62, w0_63, w0_64, w0_65, w0_66]))]) := by
  refine kmeti rfl (Nat.le_of_ble_eq_true rfl) ?_
  intro p e s m args below meth c ls A Q X hV hret hl
  have X : kC p s m c cX12_canRead 3 RX12 args E A := X
  have hx := X.1
  have hb := X.2.1
  have hl : lv_has ls 3 [(0, .ref a0), (1, .int p1), (2, .int p2)] := hl
  rw [f_X12_canRead] at h
  refine lv_iload_n hx hb dX12_canRead_0 rfl (lv_at hl 1 rfl) ?_
  refine lv_i2l (v := Int32.toInt64 p1) hx hb dX12_canRead_1 rfl ?_
  refine lv_lconst (v := 1) hx hb dX12_canRead_2 (by decide) ?_
  refine lv_iload_n hx hb dX12_canRead_3 rfl (lv_at hl 2 rfl) ?_
  refine lv_i2l (v := Int32.toInt64 p2) hx hb dX12_canRead_4 rfl ?_
  obtain ⟨r5_1, hc2, h3⟩ := cb1_s h
  clear h
  refine kgoiE (krunS (rest := []) X hV [] (c_X12_lies l E _ (Int32.toInt64 p1) 1 (Int32.toInt64 p2) r5_1 hc2) mw_224 kb_X12_lies (by decide) rfl rfl hl.1 rfl (Nat.le_of_ble_eq_true rfl) dX12_canRead_5 (by decide)) X hV [] [0] rfl rfl rfl (by decide) (fun u H locs hV4 => ?_)
  have hV4 : kV E A s.heap H locs [(a0, .inr (12, [w0_0, .int s_taped, w0_2, w0_3, w0_4, w0_5, w0_6, w0_7, w0_8, w0_9, w0_10, w0_11, w0_12, w0_13, w0_14, w0_15, w0_16, w0_17, w0_18, w0_19, w0_20, w0_21, w0_22, w0_23, w0_24, w0_25, w0_26, w0_27, w0_28, w0_29, w0_30, w0_31, w0_32, w0_33, w0_34, w0_35, w0_36, w0_37, w0_38, w0_39, w0_40, w0_41, w0_42, w0_43, w0_44, w0_45, w0_46, w0_47, w0_48, w0_49, w0_50, w0_51, w0_52, w0_53, w0_54, w0_55, w0_56, w0_57, w0_58, w0_59, w0_60, w0_61, w0_62, w0_63, w0_64, w0_65, w0_66]))] := hV4.sub [0] rfl rfl
  clear hV
  refine lv_if_eq (tgt := 23) hx hb dX12_canRead_8 (by decide) (fun c6 => ?_) (fun c6 => ?_)
  · have h7 := itS c6 h3
    clear h3 c6
    refine lv_iconst (v := 0) hx hb dX12_canRead_23 (by decide) ?_
    have q9 := tup1_s h7
    clear h7
    exact hret _ () _ _ _ _ q9 rfl hV4 dX12_canRead_24
  · have h8 := ieS c6 h3
    clear h3 c6
    refine lv_iload_n hx hb dX12_canRead_11 rfl (lv_at hl 1 rfl) ?_
    refine lv_aload_n hx hb dX12_canRead_12 rfl (lv_at hl 0 rfl) ?_
    refine kget X hV4 (ci := 12) inlX12 rfl 0 rfl 1 (by decide) mw_251 rfl dX12_canRead_13 ?_
    refine lv_icmp_gt (tgt := 23) hx hb dX12_canRead_16 (by decide) (fun c10 => ?_) (fun c10 => ?_)
    · have h11 := itS c10 h8
      clear h8 c10
      refine lv_iconst (v := 0) hx hb dX12_canRead_23 (by decide) ?_
      have q13 := tup1_s h11
      clear h11
      exact hret _ () _ _ _ _ q13 rfl hV4 dX12_canRead_24
    · have h12 := ieS c10 h8
      clear h8 c10
      refine lv_iconst (v := 1) hx hb dX12_canRead_19 (by decide) ?_
      refine lv_goto (tgt := 24) hx hb dX12_canRead_20 (by decide) ?_
      have q14 := tup1_s h12
      clear h12
      exact hret _ () _ _ _ _ q14 rfl hV4 dX12_canRead_24
abbrev r_X12_law : Room := { frames := 9, cells := 0, slots := 0, locals := 195 }
set_option maxHeartbeats 4000000 in
set_option maxRecDepth 100000 in
theorem c_X12_law (l : Launch) (E : kE) (sz : Nat) (a0 a1 a2 a3 a4 a5 a6 a7 a8 a9 a10 a11 a12 a13 : Nat) (w0_3 w0_4 w0_5 w0_6 w0_28 w0_29 w0_30 w0_31 w0_32 w0_33 w0_34 w0_35 w0_36 w0_37 w0_38 w0_39 w0_40 w0_41 w0_42 w0_43 w0_44 w0_45 w0_46 w0_47 w0_48 w0_49 w0_50 w0_51 w0_52 w0_53 w0_54 w0_55 w0_56 w0_57 w0_58 w0_59 w0_60 w0_61 w0_62 w0_63 w0_64 w0_65 w0_66 : Value) (s_taped : Int32) (s_sources : Int32) (s_place : Int32) (s_end : Int32) (s_bad : Int32) (s_clauses : Int32) (s_codes : Int32) (s_open : Int32) (s_stacked : Int32) (s_isOver : Int32) (s_isBehind : Int32) (s_code : Nat → Int32) (s_codeArg : Nat → Int32) (s_codeFrom : Nat → Int32) (s_codeTo : Nat → Int32) (s_many : Nat → Int32) (s_newArg : Nat → Int32) (s_newCode : Nat → Int32) (s_newFrom : Nat → Int32) (s_newSum : Nat → Int32) (s_newTo : Nat → Int32) (s_stack : Nat → Int32) (s_sumFrom : Nat → Int32) (s_tape : Nat → Int32) (p1 : Int32) (p2 : Int32) (r : Int32) (o_taped : Int32) (o_place : Int32) (o_end : Int32) (o_bad : Int32) (o_clauses : Int32) (o_codes : Int32) (o_open : Int32) (o_stacked : Int32) (o_isOver : Int32) (o_isBehind : Int32) (o_code : Nat → Int32) (o_codeArg : Nat → Int32) (o_codeFrom : Nat → Int32) (o_codeTo : Nat → Int32) (o_many : Nat → Int32) (o_newArg : Nat → Int32) (o_newCode : Nat → Int32) (o_newFrom : Nat → Int32) (o_newSum : Nat → Int32) (o_newTo : Nat → Int32) (o_stack : Nat → Int32) (o_sumFrom : Nat → Int32) (h : f_X12_law s_taped s_sources s_place s_end s_bad s_clauses s_codes s_open s_stacked s_isOver s_isBehind s_code s_codeArg s_codeFrom s_codeTo s_many s_newArg s_newCode s_newFrom s_newSum s_newTo s_stack s_sumFrom s_tape p1 p2 = some (r, o_taped, o_place, o_end, o_bad, o_clauses, o_codes, o_open, o_stacked, o_isOver, o_isBehind, o_code, o_codeArg, o_codeFrom, o_codeTo, o_many, o_newArg, o_newCode, o_newFrom, o_newSum, o_newTo, o_stack, o_sumFrom)) : kMi l yX12_law cX12_law 3 (some .int) r_X12_law [.ref a0, .int p1, .int p2] E [(a0, .inr (12, [.ref a13, .int s_taped, .int s_sources, w0_3, w0_4, w0_5, w0_6, .ref a5, .ref a12, .ref a3, .ref a4, .ref a1, .ref a2, .ref a9, .ref a8, .ref a10, .ref a7, .ref a6, .int s_place, .int s_end, .int s_bad, .int s_clauses, .int s_codes, .int s_open, .int s_stacked, .int s_isOver, .int s_isBehind, .ref a11, w0_28, w0_29, w0_30, w0_31, w0_32, w0_33, w0_34, w0_35, w0_36, w0_37, w0_38, w0_39, w0_40, w0_41, w0_42, w0_43, w0_44, w0_45, w0_46, w0_47, w0_48, w0_49, w0_50, w0_51, w0_52, w0_53, w0_54, w0_55, w0_56, w0_57, w0_58, w0_59, w0_60, w0_61, w0_62, w0_63, w0_64, w0_65, w0_66])), (a1, .inl (E.2 0, 2400, .inl s_code)), (a2, .inl (E.2 0, 2400, .inl s_codeArg)), (a3, .inl (E.2 0, 240, .inl s_codeFrom)), (a4, .inl (E.2 0, 240, .inl s_codeTo)), (a5, .inl (E.2 0, 20, .inl s_many)), (a6, .inl (E.2 0, 120, .inl s_newArg)), (a7, .inl (E.2 0, 120, .inl s_newCode)), (a8, .inl (E.2 0, 12, .inl s_newFrom)), (a9, .inl (E.2 0, 12, .inl s_newSum)), (a10, .inl (E.2 0, 12, .inl s_newTo)), (a11, .inl (E.2 0, 160, .inl s_stack)), (a12, .inl (E.2 0, 240, .inl s_sumFrom)), (a13, .inl (E.2 1, 200, .inl s_tape))] sz 0 0 (fun x (_ : Unit) => x = r) (fun _ => [(a0, .inr (12, [.ref a13, .int o_taped, .int s_sources, w0_3, w0_4, w0_5, w0_6, .ref a5, .ref a12, .ref a3, .ref a4, .ref a1, .ref a2, .ref a9, .ref a8, .ref a10, .ref a7, .ref a6, .int o_place, .int o_end, .int o_bad, .int o_clauses, .int o_codes, .int o_open, .int o_stacked, .int o_isOver, .int o_isBehind, .ref a11, w0_28, w0_29, w0_30, w0_31, w0_32, w0_33, w0_34, w0_35, w0_36, w0_37, w0_38, w0_39, w0_40, w0_41, w0_42, w0_43, w0_44, w0_45, w0_46, w0_47, w0_48, w0_49, w0_50, w0_51, w0_52, w0_53, w0_54, w0_55, w0_56, w0_57, w0_58, w0_59, w0_60, w0_61, w0_62, w0_63, w0_64, w0_65, w0_66])), (a1, .inl (E.2 0, 2400, .inl o_code)), (a2, .inl (E.2 0, 2400, .inl o_codeArg)), (a3, .inl (E.2 0, 240, .inl o_codeFrom)), (a4, .inl (E.2 0, 240, .inl o_codeTo)), (a5, .inl (E.2 0, 20, .inl o_many)), (a6, .inl (E.2 0, 120, .inl o_newArg)), (a7, .inl (E.2 0, 120, .inl o_newCode)), (a8, .inl (E.2 0, 12, .inl o_newFrom)), (a9, .inl (E.2 0, 12, .inl o_newSum)), (a10, .inl (E.2 0, 12, .inl o_newTo)), (a11, .inl (E.2 0, 160, .inl o_stack)), (a12, .inl (E.2 0, 240, .inl o_sumFrom)), (a13, .inl (E.2 1, 200, .inl s_tape))]) := by
  refine kmeti rfl (Nat.le_of_ble_eq_true rfl) ?_
  intro p e s m args below meth c ls A Q X hV hret hl
  have X : kC p s m c cX12_law 3 RX12 args E A := X
  have hx := X.1
  have hb := X.2.1
  have hl : lv_has ls 3 [(0, .ref a0), (1, .int p1), (2, .int p2)] := hl
  rw [f_X12_law] at h
  refine lv_aload_n hx hb dX12_law_0 rfl (lv_at hl 0 rfl) ?_
  refine lv_iload_n hx hb dX12_law_1 rfl (lv_at hl 1 rfl) ?_
  obtain ⟨r2_1, hc2, h3⟩ := cb1_s h
  clear h
  refine kgoiE (krunV (rest := []) X hV [0] (c_X12_isSource l E _ a0 (.ref a13) (.int s_taped) (w0_3) (w0_4) (w0_5) (w0_6) (.ref a5) (.ref a12) (.ref a3) (.ref a4) (.ref a1) (.ref a2) (.ref a9) (.ref a8) (.ref a10) (.ref a7) (.ref a6) (.int s_place) (.int s_end) (.int s_bad) (.int s_clauses) (.int s_codes) (.int s_open) (.int s_stacked) (.int s_isOver) (.int s_isBehind) (.ref a11) (w0_28) (w0_29) (w0_30) (w0_31) (w0_32) (w0_33) (w0_34) (w0_35) (w0_36) (w0_37) (w0_38) (w0_39) (w0_40) (w0_41) (w0_42) (w0_43) (w0_44) (w0_45) (w0_46) (w0_47) (w0_48) (w0_49) (w0_50) (w0_51) (w0_52) (w0_53) (w0_54) (w0_55) (w0_56) (w0_57) (w0_58) (w0_59) (w0_60) (w0_61) (w0_62) (w0_63) (w0_64) (w0_65) (w0_66) s_sources p1 r2_1 hc2) mw_461 kb_X12_isSource (ci := 12) rfl rfl (by decide) rfl rfl hl.1 rfl (Nat.le_of_ble_eq_true rfl) dX12_law_2 (by decide)) X hV [0] [1, 2, 3, 4, 5, 6, 7, 8, 9, 10, 11, 12, 13] rfl rfl rfl (by decide) (fun u H locs hV4 => ?_)
  have hV4 : kV E A s.heap H locs [(a0, .inr (12, [.ref a13, .int s_taped, .int s_sources, w0_3, w0_4, w0_5, w0_6, .ref a5, .ref a12, .ref a3, .ref a4, .ref a1, .ref a2, .ref a9, .ref a8, .ref a10, .ref a7, .ref a6, .int s_place, .int s_end, .int s_bad, .int s_clauses, .int s_codes, .int s_open, .int s_stacked, .int s_isOver, .int s_isBehind, .ref a11, w0_28, w0_29, w0_30, w0_31, w0_32, w0_33, w0_34, w0_35, w0_36, w0_37, w0_38, w0_39, w0_40, w0_41, w0_42, w0_43, w0_44, w0_45, w0_46, w0_47, w0_48, w0_49, w0_50, w0_51, w0_52, w0_53, w0_54, w0_55, w0_56, w0_57, w0_58, w0_59, w0_60, w0_61, w0_62, w0_63, w0_64, w0_65, w0_66])), (a1, .inl (E.2 0, 2400, .inl s_code)), (a2, .inl (E.2 0, 2400, .inl s_codeArg)), (a3, .inl (E.2 0, 240, .inl s_codeFrom)), (a4, .inl (E.2 0, 240, .inl s_codeTo)), (a5, .inl (E.2 0, 20, .inl s_many)), (a6, .inl (E.2 0, 120, .inl s_newArg)), (a7, .inl (E.2 0, 120, .inl s_newCode)), (a8, .inl (E.2 0, 12, .inl s_newFrom)), (a9, .inl (E.2 0, 12, .inl s_newSum)), (a10, .inl (E.2 0, 12, .inl s_newTo)), (a11, .inl (E.2 0, 160, .inl s_stack)), (a12, .inl (E.2 0, 240, .inl s_sumFrom)), (a13, .inl (E.2 1, 200, .inl s_tape))] := hV4.sub [13, 0, 1, 2, 3, 4, 5, 6, 7, 8, 9, 10, 11, 12] rfl rfl
  clear hV
  refine lv_if_eq (tgt := 30) hx hb dX12_law_5 (by decide) (fun c6 => ?_) (fun c6 => ?_)
  · have h7 := itS c6 h3
    clear h3 c6
    refine lv_iconst (v := (-1)) hx hb dX12_law_30 (by decide) ?_
    obtain ⟨q9, q10, q11, q12, q13, q14, q15, q16, q17, q18, q19, q20, q21, q22, q23, q24, q25, q26, q27, q28, q29, q30, q31⟩ := tup23_s h7
    clear h7
    exact hret _ () _ _ _ _ q9 rfl (by rw [← q10, ← q11, ← q12, ← q13, ← q14, ← q15, ← q16, ← q17, ← q18, ← q19, ← q20, ← q21, ← q22, ← q23, ← q24, ← q25, ← q26, ← q27, ← q28, ← q29, ← q30, ← q31]; exact hV4) dX12_law_31
  · have h8 := ieS c6 h3
    clear h3 c6
    refine lv_aload_n hx hb dX12_law_8 rfl (lv_at hl 0 rfl) ?_
    refine lv_iload_n hx hb dX12_law_9 rfl (lv_at hl 2 rfl) ?_
    refine lv_bipush (v := 120) hx hb dX12_law_10 (by decide) ?_
    obtain ⟨r12_32, hc33, h34⟩ := cb1_s h8
    clear h8
    refine kgoiE (krunV (rest := []) X hV4 [0] (c_X12_canRead l E _ a0 (.ref a13) (.int s_sources) (w0_3) (w0_4) (w0_5) (w0_6) (.ref a5) (.ref a12) (.ref a3) (.ref a4) (.ref a1) (.ref a2) (.ref a9) (.ref a8) (.ref a10) (.ref a7) (.ref a6) (.int s_place) (.int s_end) (.int s_bad) (.int s_clauses) (.int s_codes) (.int s_open) (.int s_stacked) (.int s_isOver) (.int s_isBehind) (.ref a11) (w0_28) (w0_29) (w0_30) (w0_31) (w0_32) (w0_33) (w0_34) (w0_35) (w0_36) (w0_37) (w0_38) (w0_39) (w0_40) (w0_41) (w0_42) (w0_43) (w0_44) (w0_45) (w0_46) (w0_47) (w0_48) (w0_49) (w0_50) (w0_51) (w0_52) (w0_53) (w0_54) (w0_55) (w0_56) (w0_57) (w0_58) (w0_59) (w0_60) (w0_61) (w0_62) (w0_63) (w0_64) (w0_65) (w0_66) s_taped p2 120 r12_32 hc33) mw_465 kb_X12_canRead (ci := 12) rfl rfl (by decide) rfl rfl hl.1 rfl (Nat.le_of_ble_eq_true rfl) dX12_law_12 (by decide)) X hV4 [0] [1, 2, 3, 4, 5, 6, 7, 8, 9, 10, 11, 12, 13] rfl rfl rfl (by decide) (fun u H locs hV35 => ?_)
    have hV35 : kV E A s.heap H locs [(a0, .inr (12, [.ref a13, .int s_taped, .int s_sources, w0_3, w0_4, w0_5, w0_6, .ref a5, .ref a12, .ref a3, .ref a4, .ref a1, .ref a2, .ref a9, .ref a8, .ref a10, .ref a7, .ref a6, .int s_place, .int s_end, .int s_bad, .int s_clauses, .int s_codes, .int s_open, .int s_stacked, .int s_isOver, .int s_isBehind, .ref a11, w0_28, w0_29, w0_30, w0_31, w0_32, w0_33, w0_34, w0_35, w0_36, w0_37, w0_38, w0_39, w0_40, w0_41, w0_42, w0_43, w0_44, w0_45, w0_46, w0_47, w0_48, w0_49, w0_50, w0_51, w0_52, w0_53, w0_54, w0_55, w0_56, w0_57, w0_58, w0_59, w0_60, w0_61, w0_62, w0_63, w0_64, w0_65, w0_66])), (a1, .inl (E.2 0, 2400, .inl s_code)), (a2, .inl (E.2 0, 2400, .inl s_codeArg)), (a3, .inl (E.2 0, 240, .inl s_codeFrom)), (a4, .inl (E.2 0, 240, .inl s_codeTo)), (a5, .inl (E.2 0, 20, .inl s_many)), (a6, .inl (E.2 0, 120, .inl s_newArg)), (a7, .inl (E.2 0, 120, .inl s_newCode)), (a8, .inl (E.2 0, 12, .inl s_newFrom)), (a9, .inl (E.2 0, 12, .inl s_newSum)), (a10, .inl (E.2 0, 12, .inl s_newTo)), (a11, .inl (E.2 0, 160, .inl s_stack)), (a12, .inl (E.2 0, 240, .inl s_sumFrom)), (a13, .inl (E.2 1, 200, .inl s_tape))] := hV35.sub [13, 0, 1, 2, 3, 4, 5, 6, 7, 8, 9, 10, 11, 12] rfl rfl
    clear hV4
    refine lv_if_eq (tgt := 30) hx hb dX12_law_15 (by decide) (fun c37 => ?_) (fun c37 => ?_)
    · have h38 := itS c37 h34
      clear h34 c37
      refine lv_iconst (v := (-1)) hx hb dX12_law_30 (by decide) ?_
      obtain ⟨q40, q41, q42, q43, q44, q45, q46, q47, q48, q49, q50, q51, q52, q53, q54, q55, q56, q57, q58, q59, q60, q61, q62⟩ := tup23_s h38
      clear h38
      exact hret _ () _ _ _ _ q40 rfl (by rw [← q41, ← q42, ← q43, ← q44, ← q45, ← q46, ← q47, ← q48, ← q49, ← q50, ← q51, ← q52, ← q53, ← q54, ← q55, ← q56, ← q57, ← q58, ← q59, ← q60, ← q61, ← q62]; exact hV35) dX12_law_31
    · have h39 := ieS c37 h34
      clear h34 c37
      refine lv_aload_n hx hb dX12_law_18 rfl (lv_at hl 0 rfl) ?_
      refine lv_iconst (v := 0) hx hb dX12_law_19 (by decide) ?_
      refine lv_iload_n hx hb dX12_law_20 rfl (lv_at hl 1 rfl) ?_
      refine lv_iadd hx hb dX12_law_21 ?_
      refine lv_iload_n hx hb dX12_law_22 rfl (lv_at hl 2 rfl) ?_
      refine lv_iconst (v := 1) hx hb dX12_law_23 (by decide) ?_
      obtain ⟨r24_63, o_taped24_64, o_place24_65, o_end24_66, o_bad24_67, o_clauses24_68, o_codes24_69, o_open24_70, o_stacked24_71, o_isOver24_72, o_isBehind24_73, o_code24_74, o_codeArg24_75, o_codeFrom24_76, o_codeTo24_77, o_many24_78, o_newArg24_79, o_newCode24_80, o_newFrom24_81, o_newSum24_82, o_newTo24_83, o_stack24_84, o_sumFrom24_85, hc86, h87⟩ := cb23_s h39
      clear h39
      refine kgoiE (krunV (rest := []) X hV35 [0, 1, 2, 3, 4, 5, 6, 7, 8, 9, 10, 11, 12, 13] (c_X12_readsText l E _ a0 a1 a2 a3 a4 a5 a6 a7 a8 a9 a10 a11 a12 a13 (.int s_sources) (w0_3) (w0_4) (w0_5) (w0_6) (w0_28) (w0_29) (w0_30) (w0_31) (w0_32) (w0_33) (w0_34) (w0_35) (w0_36) (w0_37) (w0_38) (w0_39) (w0_40) (w0_41) (w0_42) (w0_43) (w0_44) (w0_45) (w0_46) (w0_47) (w0_48) (w0_49) (w0_50) (w0_51) (w0_52) (w0_53) (w0_54) (w0_55) (w0_56) (w0_57) (w0_58) (w0_59) (w0_60) (w0_61) (w0_62) (w0_63) (w0_64) (w0_65) (w0_66) s_taped s_place s_end s_bad s_clauses s_codes s_open s_stacked s_isOver s_isBehind s_code s_codeArg s_codeFrom s_codeTo s_many s_newArg s_newCode s_newFrom s_newSum s_newTo s_stack s_sumFrom s_tape (0 + p1) p2 1 r24_63 o_taped24_64 o_place24_65 o_end24_66 o_bad24_67 o_clauses24_68 o_codes24_69 o_open24_70 o_stacked24_71 o_isOver24_72 o_isBehind24_73 o_code24_74 o_codeArg24_75 o_codeFrom24_76 o_codeTo24_77 o_many24_78 o_newArg24_79 o_newCode24_80 o_newFrom24_81 o_newSum24_82 o_newTo24_83 o_stack24_84 o_sumFrom24_85 hc86) mw_469 kb_X12_readsText (ci := 12) rfl rfl (by decide) rfl rfl hl.1 rfl (Nat.le_of_ble_eq_true rfl) dX12_law_24 (by decide)) X hV35 [0, 1, 2, 3, 4, 5, 6, 7, 8, 9, 10, 11, 12, 13] [] rfl rfl rfl (by decide) (fun u H locs hV88 => ?_)
      have hV88 : kV E A s.heap H locs [(a0, .inr (12, [.ref a13, .int o_taped24_64, .int s_sources, w0_3, w0_4, w0_5, w0_6, .ref a5, .ref a12, .ref a3, .ref a4, .ref a1, .ref a2, .ref a9, .ref a8, .ref a10, .ref a7, .ref a6, .int o_place24_65, .int o_end24_66, .int o_bad24_67, .int o_clauses24_68, .int o_codes24_69, .int o_open24_70, .int o_stacked24_71, .int o_isOver24_72, .int o_isBehind24_73, .ref a11, w0_28, w0_29, w0_30, w0_31, w0_32, w0_33, w0_34, w0_35, w0_36, w0_37, w0_38, w0_39, w0_40, w0_41, w0_42, w0_43, w0_44, w0_45, w0_46, w0_47, w0_48, w0_49, w0_50, w0_51, w0_52, w0_53, w0_54, w0_55, w0_56, w0_57, w0_58, w0_59, w0_60, w0_61, w0_62, w0_63, w0_64, w0_65, w0_66])), (a1, .inl (E.2 0, 2400, .inl o_code24_74)), (a2, .inl (E.2 0, 2400, .inl o_codeArg24_75)), (a3, .inl (E.2 0, 240, .inl o_codeFrom24_76)), (a4, .inl (E.2 0, 240, .inl o_codeTo24_77)), (a5, .inl (E.2 0, 20, .inl o_many24_78)), (a6, .inl (E.2 0, 120, .inl o_newArg24_79)), (a7, .inl (E.2 0, 120, .inl o_newCode24_80)), (a8, .inl (E.2 0, 12, .inl o_newFrom24_81)), (a9, .inl (E.2 0, 12, .inl o_newSum24_82)), (a10, .inl (E.2 0, 12, .inl o_newTo24_83)), (a11, .inl (E.2 0, 160, .inl o_stack24_84)), (a12, .inl (E.2 0, 240, .inl o_sumFrom24_85)), (a13, .inl (E.2 1, 200, .inl s_tape))] := hV88.sub [0, 1, 2, 3, 4, 5, 6, 7, 8, 9, 10, 11, 12, 13] rfl rfl
      clear hV35
      refine lv_goto (tgt := 31) hx hb dX12_law_27 (by decide) ?_
      obtain ⟨q90, q91, q92, q93, q94, q95, q96, q97, q98, q99, q100, q101, q102, q103, q104, q105, q106, q107, q108, q109, q110, q111, q112⟩ := tup23_s h87
      clear h87
      exact hret _ () _ _ _ _ q90 rfl (by rw [← q91, ← q92, ← q93, ← q94, ← q95, ← q96, ← q97, ← q98, ← q99, ← q100, ← q101, ← q102, ← q103, ← q104, ← q105, ← q106, ← q107, ← q108, ← q109, ← q110, ← q111, ← q112]; exact hV88) dX12_law_31
abbrev r_X12_way : Room := { frames := 9, cells := 0, slots := 0, locals := 195 }
set_option maxHeartbeats 4000000 in
set_option maxRecDepth 100000 in
theorem c_X12_way (l : Launch) (E : kE) (sz : Nat) (a0 a1 a2 a3 a4 a5 a6 a7 a8 a9 a10 a11 a12 a13 : Nat) (w0_2 w0_3 w0_4 w0_5 w0_6 w0_28 w0_29 w0_30 w0_31 w0_32 w0_33 w0_34 w0_35 w0_36 w0_37 w0_38 w0_39 w0_40 w0_41 w0_42 w0_43 w0_44 w0_45 w0_46 w0_47 w0_48 w0_49 w0_50 w0_51 w0_52 w0_53 w0_54 w0_55 w0_56 w0_57 w0_58 w0_59 w0_60 w0_61 w0_62 w0_63 w0_64 w0_65 w0_66 : Value) (s_taped : Int32) (s_place : Int32) (s_end : Int32) (s_bad : Int32) (s_clauses : Int32) (s_codes : Int32) (s_open : Int32) (s_stacked : Int32) (s_isOver : Int32) (s_isBehind : Int32) (s_code : Nat → Int32) (s_codeArg : Nat → Int32) (s_codeFrom : Nat → Int32) (s_codeTo : Nat → Int32) (s_many : Nat → Int32) (s_newArg : Nat → Int32) (s_newCode : Nat → Int32) (s_newFrom : Nat → Int32) (s_newSum : Nat → Int32) (s_newTo : Nat → Int32) (s_stack : Nat → Int32) (s_sumFrom : Nat → Int32) (s_tape : Nat → Int32) (p1 : Int32) (p2 : Int32) (r : Int32) (o_taped : Int32) (o_place : Int32) (o_end : Int32) (o_bad : Int32) (o_clauses : Int32) (o_codes : Int32) (o_open : Int32) (o_stacked : Int32) (o_isOver : Int32) (o_isBehind : Int32) (o_code : Nat → Int32) (o_codeArg : Nat → Int32) (o_codeFrom : Nat → Int32) (o_codeTo : Nat → Int32) (o_many : Nat → Int32) (o_newArg : Nat → Int32) (o_newCode : Nat → Int32) (o_newFrom : Nat → Int32) (o_newSum : Nat → Int32) (o_newTo : Nat → Int32) (o_stack : Nat → Int32) (o_sumFrom : Nat → Int32) (h : f_X12_way s_taped s_place s_end s_bad s_clauses s_codes s_open s_stacked s_isOver s_isBehind s_code s_codeArg s_codeFrom s_codeTo s_many s_newArg s_newCode s_newFrom s_newSum s_newTo s_stack s_sumFrom s_tape p1 p2 = some (r, o_taped, o_place, o_end, o_bad, o_clauses, o_codes, o_open, o_stacked, o_isOver, o_isBehind, o_code, o_codeArg, o_codeFrom, o_codeTo, o_many, o_newArg, o_newCode, o_newFrom, o_newSum, o_newTo, o_stack, o_sumFrom)) : kMi l yX12_way cX12_way 3 (some .int) r_X12_way [.ref a0, .int p1, .int p2] E [(a0, .inr (12, [.ref a13, .int s_taped, w0_2, w0_3, w0_4, w0_5, w0_6, .ref a5, .ref a12, .ref a3, .ref a4, .ref a1, .ref a2, .ref a9, .ref a8, .ref a10, .ref a7, .ref a6, .int s_place, .int s_end, .int s_bad, .int s_clauses, .int s_codes, .int s_open, .int s_stacked, .int s_isOver, .int s_isBehind, .ref a11, w0_28, w0_29, w0_30, w0_31, w0_32, w0_33, w0_34, w0_35, w0_36, w0_37, w0_38, w0_39, w0_40, w0_41, w0_42, w0_43, w0_44, w0_45, w0_46, w0_47, w0_48, w0_49, w0_50, w0_51, w0_52, w0_53, w0_54, w0_55, w0_56, w0_57, w0_58, w0_59, w0_60, w0_61, w0_62, w0_63, w0_64, w0_65, w0_66])), (a1, .inl (E.2 0, 2400, .inl s_code)), (a2, .inl (E.2 0, 2400, .inl s_codeArg)), (a3, .inl (E.2 0, 240, .inl s_codeFrom)), (a4, .inl (E.2 0, 240, .inl s_codeTo)), (a5, .inl (E.2 0, 20, .inl s_many)), (a6, .inl (E.2 0, 120, .inl s_newArg)), (a7, .inl (E.2 0, 120, .inl s_newCode)), (a8, .inl (E.2 0, 12, .inl s_newFrom)), (a9, .inl (E.2 0, 12, .inl s_newSum)), (a10, .inl (E.2 0, 12, .inl s_newTo)), (a11, .inl (E.2 0, 160, .inl s_stack)), (a12, .inl (E.2 0, 240, .inl s_sumFrom)), (a13, .inl (E.2 1, 200, .inl s_tape))] sz 0 0 (fun x (_ : Unit) => x = r) (fun _ => [(a0, .inr (12, [.ref a13, .int o_taped, w0_2, w0_3, w0_4, w0_5, w0_6, .ref a5, .ref a12, .ref a3, .ref a4, .ref a1, .ref a2, .ref a9, .ref a8, .ref a10, .ref a7, .ref a6, .int o_place, .int o_end, .int o_bad, .int o_clauses, .int o_codes, .int o_open, .int o_stacked, .int o_isOver, .int o_isBehind, .ref a11, w0_28, w0_29, w0_30, w0_31, w0_32, w0_33, w0_34, w0_35, w0_36, w0_37, w0_38, w0_39, w0_40, w0_41, w0_42, w0_43, w0_44, w0_45, w0_46, w0_47, w0_48, w0_49, w0_50, w0_51, w0_52, w0_53, w0_54, w0_55, w0_56, w0_57, w0_58, w0_59, w0_60, w0_61, w0_62, w0_63, w0_64, w0_65, w0_66])), (a1, .inl (E.2 0, 2400, .inl o_code)), (a2, .inl (E.2 0, 2400, .inl o_codeArg)), (a3, .inl (E.2 0, 240, .inl o_codeFrom)), (a4, .inl (E.2 0, 240, .inl o_codeTo)), (a5, .inl (E.2 0, 20, .inl o_many)), (a6, .inl (E.2 0, 120, .inl o_newArg)), (a7, .inl (E.2 0, 120, .inl o_newCode)), (a8, .inl (E.2 0, 12, .inl o_newFrom)), (a9, .inl (E.2 0, 12, .inl o_newSum)), (a10, .inl (E.2 0, 12, .inl o_newTo)), (a11, .inl (E.2 0, 160, .inl o_stack)), (a12, .inl (E.2 0, 240, .inl o_sumFrom)), (a13, .inl (E.2 1, 200, .inl s_tape))]) := by
  refine kmeti rfl (Nat.le_of_ble_eq_true rfl) ?_
  intro p e s m args below meth c ls A Q X hV hret hl
  have X : kC p s m c cX12_way 3 RX12 args E A := X
  have hx := X.1
  have hb := X.2.1
  have hl : lv_has ls 3 [(0, .ref a0), (1, .int p1), (2, .int p2)] := hl
  rw [f_X12_way] at h
  refine lv_iload_n hx hb dX12_way_0 rfl (lv_at hl 1 rfl) ?_
  obtain ⟨r1_1, hc2, h3⟩ := cb1_s h
  clear h
  refine kgoiE (krunS (rest := []) X hV [] (c_X12_isReader l E _ p1 r1_1 hc2) mw_595 kb_X12_isReader (by decide) rfl rfl hl.1 rfl (Nat.le_of_ble_eq_true rfl) dX12_way_1 (by decide)) X hV [] [0, 1, 2, 3, 4, 5, 6, 7, 8, 9, 10, 11, 12, 13] rfl rfl rfl (by decide) (fun u H locs hV4 => ?_)
  have hV4 : kV E A s.heap H locs [(a0, .inr (12, [.ref a13, .int s_taped, w0_2, w0_3, w0_4, w0_5, w0_6, .ref a5, .ref a12, .ref a3, .ref a4, .ref a1, .ref a2, .ref a9, .ref a8, .ref a10, .ref a7, .ref a6, .int s_place, .int s_end, .int s_bad, .int s_clauses, .int s_codes, .int s_open, .int s_stacked, .int s_isOver, .int s_isBehind, .ref a11, w0_28, w0_29, w0_30, w0_31, w0_32, w0_33, w0_34, w0_35, w0_36, w0_37, w0_38, w0_39, w0_40, w0_41, w0_42, w0_43, w0_44, w0_45, w0_46, w0_47, w0_48, w0_49, w0_50, w0_51, w0_52, w0_53, w0_54, w0_55, w0_56, w0_57, w0_58, w0_59, w0_60, w0_61, w0_62, w0_63, w0_64, w0_65, w0_66])), (a1, .inl (E.2 0, 2400, .inl s_code)), (a2, .inl (E.2 0, 2400, .inl s_codeArg)), (a3, .inl (E.2 0, 240, .inl s_codeFrom)), (a4, .inl (E.2 0, 240, .inl s_codeTo)), (a5, .inl (E.2 0, 20, .inl s_many)), (a6, .inl (E.2 0, 120, .inl s_newArg)), (a7, .inl (E.2 0, 120, .inl s_newCode)), (a8, .inl (E.2 0, 12, .inl s_newFrom)), (a9, .inl (E.2 0, 12, .inl s_newSum)), (a10, .inl (E.2 0, 12, .inl s_newTo)), (a11, .inl (E.2 0, 160, .inl s_stack)), (a12, .inl (E.2 0, 240, .inl s_sumFrom)), (a13, .inl (E.2 1, 200, .inl s_tape))] := hV4.sub [0, 1, 2, 3, 4, 5, 6, 7, 8, 9, 10, 11, 12, 13] rfl rfl
  clear hV
  refine lv_if_eq (tgt := 30) hx hb dX12_way_4 (by decide) (fun c6 => ?_) (fun c6 => ?_)
  · have h7 := itS c6 h3
    clear h3 c6
    refine lv_iconst (v := (-1)) hx hb dX12_way_30 (by decide) ?_
    obtain ⟨q9, q10, q11, q12, q13, q14, q15, q16, q17, q18, q19, q20, q21, q22, q23, q24, q25, q26, q27, q28, q29, q30, q31⟩ := tup23_s h7
    clear h7
    exact hret _ () _ _ _ _ q9 rfl (by rw [← q10, ← q11, ← q12, ← q13, ← q14, ← q15, ← q16, ← q17, ← q18, ← q19, ← q20, ← q21, ← q22, ← q23, ← q24, ← q25, ← q26, ← q27, ← q28, ← q29, ← q30, ← q31]; exact hV4) dX12_way_31
  · have h8 := ieS c6 h3
    clear h3 c6
    refine lv_aload_n hx hb dX12_way_7 rfl (lv_at hl 0 rfl) ?_
    refine lv_iload_n hx hb dX12_way_8 rfl (lv_at hl 2 rfl) ?_
    refine lv_bipush (v := 120) hx hb dX12_way_9 (by decide) ?_
    obtain ⟨r11_32, hc33, h34⟩ := cb1_s h8
    clear h8
    refine kgoiE (krunV (rest := []) X hV4 [0] (c_X12_canRead l E _ a0 (.ref a13) (w0_2) (w0_3) (w0_4) (w0_5) (w0_6) (.ref a5) (.ref a12) (.ref a3) (.ref a4) (.ref a1) (.ref a2) (.ref a9) (.ref a8) (.ref a10) (.ref a7) (.ref a6) (.int s_place) (.int s_end) (.int s_bad) (.int s_clauses) (.int s_codes) (.int s_open) (.int s_stacked) (.int s_isOver) (.int s_isBehind) (.ref a11) (w0_28) (w0_29) (w0_30) (w0_31) (w0_32) (w0_33) (w0_34) (w0_35) (w0_36) (w0_37) (w0_38) (w0_39) (w0_40) (w0_41) (w0_42) (w0_43) (w0_44) (w0_45) (w0_46) (w0_47) (w0_48) (w0_49) (w0_50) (w0_51) (w0_52) (w0_53) (w0_54) (w0_55) (w0_56) (w0_57) (w0_58) (w0_59) (w0_60) (w0_61) (w0_62) (w0_63) (w0_64) (w0_65) (w0_66) s_taped p2 120 r11_32 hc33) mw_465 kb_X12_canRead (ci := 12) rfl rfl (by decide) rfl rfl hl.1 rfl (Nat.le_of_ble_eq_true rfl) dX12_way_11 (by decide)) X hV4 [0] [1, 2, 3, 4, 5, 6, 7, 8, 9, 10, 11, 12, 13] rfl rfl rfl (by decide) (fun u H locs hV35 => ?_)
    have hV35 : kV E A s.heap H locs [(a0, .inr (12, [.ref a13, .int s_taped, w0_2, w0_3, w0_4, w0_5, w0_6, .ref a5, .ref a12, .ref a3, .ref a4, .ref a1, .ref a2, .ref a9, .ref a8, .ref a10, .ref a7, .ref a6, .int s_place, .int s_end, .int s_bad, .int s_clauses, .int s_codes, .int s_open, .int s_stacked, .int s_isOver, .int s_isBehind, .ref a11, w0_28, w0_29, w0_30, w0_31, w0_32, w0_33, w0_34, w0_35, w0_36, w0_37, w0_38, w0_39, w0_40, w0_41, w0_42, w0_43, w0_44, w0_45, w0_46, w0_47, w0_48, w0_49, w0_50, w0_51, w0_52, w0_53, w0_54, w0_55, w0_56, w0_57, w0_58, w0_59, w0_60, w0_61, w0_62, w0_63, w0_64, w0_65, w0_66])), (a1, .inl (E.2 0, 2400, .inl s_code)), (a2, .inl (E.2 0, 2400, .inl s_codeArg)), (a3, .inl (E.2 0, 240, .inl s_codeFrom)), (a4, .inl (E.2 0, 240, .inl s_codeTo)), (a5, .inl (E.2 0, 20, .inl s_many)), (a6, .inl (E.2 0, 120, .inl s_newArg)), (a7, .inl (E.2 0, 120, .inl s_newCode)), (a8, .inl (E.2 0, 12, .inl s_newFrom)), (a9, .inl (E.2 0, 12, .inl s_newSum)), (a10, .inl (E.2 0, 12, .inl s_newTo)), (a11, .inl (E.2 0, 160, .inl s_stack)), (a12, .inl (E.2 0, 240, .inl s_sumFrom)), (a13, .inl (E.2 1, 200, .inl s_tape))] := hV35.sub [13, 0, 1, 2, 3, 4, 5, 6, 7, 8, 9, 10, 11, 12] rfl rfl
    clear hV4
    refine lv_if_eq (tgt := 30) hx hb dX12_way_14 (by decide) (fun c37 => ?_) (fun c37 => ?_)
    · have h38 := itS c37 h34
      clear h34 c37
      refine lv_iconst (v := (-1)) hx hb dX12_way_30 (by decide) ?_
      obtain ⟨q40, q41, q42, q43, q44, q45, q46, q47, q48, q49, q50, q51, q52, q53, q54, q55, q56, q57, q58, q59, q60, q61, q62⟩ := tup23_s h38
      clear h38
      exact hret _ () _ _ _ _ q40 rfl (by rw [← q41, ← q42, ← q43, ← q44, ← q45, ← q46, ← q47, ← q48, ← q49, ← q50, ← q51, ← q52, ← q53, ← q54, ← q55, ← q56, ← q57, ← q58, ← q59, ← q60, ← q61, ← q62]; exact hV35) dX12_way_31
    · have h39 := ieS c37 h34
      clear h34 c37
      refine lv_aload_n hx hb dX12_way_17 rfl (lv_at hl 0 rfl) ?_
      refine lv_bipush (v := 10) hx hb dX12_way_18 (by decide) ?_
      refine lv_iload_n hx hb dX12_way_20 rfl (lv_at hl 1 rfl) ?_
      refine lv_iadd hx hb dX12_way_21 ?_
      refine lv_iload_n hx hb dX12_way_22 rfl (lv_at hl 2 rfl) ?_
      refine lv_iconst (v := 0) hx hb dX12_way_23 (by decide) ?_
      obtain ⟨r24_63, o_taped24_64, o_place24_65, o_end24_66, o_bad24_67, o_clauses24_68, o_codes24_69, o_open24_70, o_stacked24_71, o_isOver24_72, o_isBehind24_73, o_code24_74, o_codeArg24_75, o_codeFrom24_76, o_codeTo24_77, o_many24_78, o_newArg24_79, o_newCode24_80, o_newFrom24_81, o_newSum24_82, o_newTo24_83, o_stack24_84, o_sumFrom24_85, hc86, h87⟩ := cb23_s h39
      clear h39
      refine kgoiE (krunV (rest := []) X hV35 [0, 1, 2, 3, 4, 5, 6, 7, 8, 9, 10, 11, 12, 13] (c_X12_readsText l E _ a0 a1 a2 a3 a4 a5 a6 a7 a8 a9 a10 a11 a12 a13 (w0_2) (w0_3) (w0_4) (w0_5) (w0_6) (w0_28) (w0_29) (w0_30) (w0_31) (w0_32) (w0_33) (w0_34) (w0_35) (w0_36) (w0_37) (w0_38) (w0_39) (w0_40) (w0_41) (w0_42) (w0_43) (w0_44) (w0_45) (w0_46) (w0_47) (w0_48) (w0_49) (w0_50) (w0_51) (w0_52) (w0_53) (w0_54) (w0_55) (w0_56) (w0_57) (w0_58) (w0_59) (w0_60) (w0_61) (w0_62) (w0_63) (w0_64) (w0_65) (w0_66) s_taped s_place s_end s_bad s_clauses s_codes s_open s_stacked s_isOver s_isBehind s_code s_codeArg s_codeFrom s_codeTo s_many s_newArg s_newCode s_newFrom s_newSum s_newTo s_stack s_sumFrom s_tape (10 + p1) p2 0 r24_63 o_taped24_64 o_place24_65 o_end24_66 o_bad24_67 o_clauses24_68 o_codes24_69 o_open24_70 o_stacked24_71 o_isOver24_72 o_isBehind24_73 o_code24_74 o_codeArg24_75 o_codeFrom24_76 o_codeTo24_77 o_many24_78 o_newArg24_79 o_newCode24_80 o_newFrom24_81 o_newSum24_82 o_newTo24_83 o_stack24_84 o_sumFrom24_85 hc86) mw_469 kb_X12_readsText (ci := 12) rfl rfl (by decide) rfl rfl hl.1 rfl (Nat.le_of_ble_eq_true rfl) dX12_way_24 (by decide)) X hV35 [0, 1, 2, 3, 4, 5, 6, 7, 8, 9, 10, 11, 12, 13] [] rfl rfl rfl (by decide) (fun u H locs hV88 => ?_)
      have hV88 : kV E A s.heap H locs [(a0, .inr (12, [.ref a13, .int o_taped24_64, w0_2, w0_3, w0_4, w0_5, w0_6, .ref a5, .ref a12, .ref a3, .ref a4, .ref a1, .ref a2, .ref a9, .ref a8, .ref a10, .ref a7, .ref a6, .int o_place24_65, .int o_end24_66, .int o_bad24_67, .int o_clauses24_68, .int o_codes24_69, .int o_open24_70, .int o_stacked24_71, .int o_isOver24_72, .int o_isBehind24_73, .ref a11, w0_28, w0_29, w0_30, w0_31, w0_32, w0_33, w0_34, w0_35, w0_36, w0_37, w0_38, w0_39, w0_40, w0_41, w0_42, w0_43, w0_44, w0_45, w0_46, w0_47, w0_48, w0_49, w0_50, w0_51, w0_52, w0_53, w0_54, w0_55, w0_56, w0_57, w0_58, w0_59, w0_60, w0_61, w0_62, w0_63, w0_64, w0_65, w0_66])), (a1, .inl (E.2 0, 2400, .inl o_code24_74)), (a2, .inl (E.2 0, 2400, .inl o_codeArg24_75)), (a3, .inl (E.2 0, 240, .inl o_codeFrom24_76)), (a4, .inl (E.2 0, 240, .inl o_codeTo24_77)), (a5, .inl (E.2 0, 20, .inl o_many24_78)), (a6, .inl (E.2 0, 120, .inl o_newArg24_79)), (a7, .inl (E.2 0, 120, .inl o_newCode24_80)), (a8, .inl (E.2 0, 12, .inl o_newFrom24_81)), (a9, .inl (E.2 0, 12, .inl o_newSum24_82)), (a10, .inl (E.2 0, 12, .inl o_newTo24_83)), (a11, .inl (E.2 0, 160, .inl o_stack24_84)), (a12, .inl (E.2 0, 240, .inl o_sumFrom24_85)), (a13, .inl (E.2 1, 200, .inl s_tape))] := hV88.sub [0, 1, 2, 3, 4, 5, 6, 7, 8, 9, 10, 11, 12, 13] rfl rfl
      clear hV35
      refine lv_goto (tgt := 31) hx hb dX12_way_27 (by decide) ?_
      obtain ⟨q90, q91, q92, q93, q94, q95, q96, q97, q98, q99, q100, q101, q102, q103, q104, q105, q106, q107, q108, q109, q110, q111, q112⟩ := tup23_s h87
      clear h87
      exact hret _ () _ _ _ _ q90 rfl (by rw [← q91, ← q92, ← q93, ← q94, ← q95, ← q96, ← q97, ← q98, ← q99, ← q100, ← q101, ← q102, ← q103, ← q104, ← q105, ← q106, ← q107, ← q108, ← q109, ← q110, ← q111, ← q112]; exact hV88) dX12_way_31
abbrev r_X12_isTale : Room := { frames := 1, cells := 0, slots := 0, locals := 25 }
set_option maxHeartbeats 4000000 in
set_option maxRecDepth 100000 in
theorem c_X12_isTale (l : Launch) (E : kE) (sz : Nat) (p1 : Int32) (r : Int32) (h : f_X12_isTale p1 = some (r)) : kMi l yX12_isTale cX12_isTale 1 (some .boolean) r_X12_isTale [.int p1] E [] sz 0 0 (fun x (_ : Unit) => x = r) (fun _ => []) := by
  refine kmeti rfl (Nat.le_of_ble_eq_true rfl) ?_
  intro p e s m args below meth c ls A Q X hV hret hl
  have X : kC p s m c cX12_isTale 1 RX12 args E A := X
  have hx := X.1
  have hb := X.2.1
  have hl : lv_has ls 1 [(0, .int p1)] := hl
  rw [f_X12_isTale] at h
  refine lv_iload_n hx hb dX12_isTale_0 rfl (lv_at hl 0 rfl) ?_
  refine lv_i2l (v := Int32.toInt64 p1) hx hb dX12_isTale_1 rfl ?_
  refine lv_lconst (v := 0) hx hb dX12_isTale_2 (by decide) ?_
  refine lv_ldc2 (v := 5) hx hb X.2.2.2.1 (X.2.2.2.2.1 _ mw_617) dX12_isTale_3 ?_
  obtain ⟨r6_1, hc2, h3⟩ := cb1_s h
  clear h
  refine kgoiE (krunS (rest := []) X hV [] (c_X12_lies l E _ (Int32.toInt64 p1) 0 5 r6_1 hc2) mw_224 kb_X12_lies (by decide) rfl rfl hl.1 rfl (Nat.le_of_ble_eq_true rfl) dX12_isTale_6 (by decide)) X hV [] [] rfl rfl rfl (by decide) (fun u H locs hV4 => ?_)
  have hV4 : kV E A s.heap H locs [] := hV4.sub [] rfl rfl
  clear hV
  obtain ⟨hb6, h7⟩ := bo_s h3
  clear h3
  have q8 := tup1_s h7
  clear h7
  exact hret _ () _ _ _ _ q8 hb6 hV4 dX12_isTale_9
abbrev r_X12_story : Room := { frames := 5, cells := 0, slots := 0, locals := 108 }
set_option maxHeartbeats 4000000 in
set_option maxRecDepth 100000 in
theorem c_X12_story (l : Launch) (E : kE) (sz : Nat) (a0 a1 a2 a3 a4 a5 a6 a7 a8 a9 a10 a11 a12 a13 : Nat) (w0_2 w0_3 w0_4 w0_5 w0_6 w0_25 w0_28 w0_29 w0_30 w0_31 w0_32 w0_33 w0_34 w0_35 w0_36 w0_37 w0_38 w0_39 w0_40 w0_41 w0_42 w0_43 w0_44 w0_45 w0_46 w0_47 w0_48 w0_49 w0_50 w0_51 w0_52 w0_53 w0_54 w0_55 w0_56 w0_57 w0_58 w0_59 w0_60 w0_61 w0_62 w0_63 w0_64 w0_65 w0_66 : Value) (s_taped : Int32) (s_place : Int32) (s_end : Int32) (s_bad : Int32) (s_clauses : Int32) (s_codes : Int32) (s_open : Int32) (s_stacked : Int32) (s_isBehind : Int32) (s_code : Nat → Int32) (s_codeArg : Nat → Int32) (s_codeFrom : Nat → Int32) (s_codeTo : Nat → Int32) (s_many : Nat → Int32) (s_newArg : Nat → Int32) (s_newCode : Nat → Int32) (s_newFrom : Nat → Int32) (s_newSum : Nat → Int32) (s_newTo : Nat → Int32) (s_stack : Nat → Int32) (s_sumFrom : Nat → Int32) (s_tape : Nat → Int32) (p1 : Int32) (p2 : Int32) (r : Int32) (o_taped : Int32) (o_place : Int32) (o_end : Int32) (o_bad : Int32) (o_clauses : Int32) (o_codes : Int32) (o_open : Int32) (o_stacked : Int32) (o_isBehind : Int32) (o_code : Nat → Int32) (o_codeArg : Nat → Int32) (o_codeFrom : Nat → Int32) (o_codeTo : Nat → Int32) (o_many : Nat → Int32) (o_newArg : Nat → Int32) (o_newCode : Nat → Int32) (o_newFrom : Nat → Int32) (o_newSum : Nat → Int32) (o_newTo : Nat → Int32) (o_stack : Nat → Int32) (o_sumFrom : Nat → Int32) (h : f_X12_story s_taped s_place s_end s_bad s_clauses s_codes s_open s_stacked s_isBehind s_code s_codeArg s_codeFrom s_codeTo s_many s_newArg s_newCode s_newFrom s_newSum s_newTo s_stack s_sumFrom s_tape p1 p2 = some (r, o_taped, o_place, o_end, o_bad, o_clauses, o_codes, o_open, o_stacked, o_isBehind, o_code, o_codeArg, o_codeFrom, o_codeTo, o_many, o_newArg, o_newCode, o_newFrom, o_newSum, o_newTo, o_stack, o_sumFrom)) : kMi l yX12_story cX12_story 3 (some .int) r_X12_story [.ref a0, .int p1, .int p2] E [(a0, .inr (12, [.ref a13, .int s_taped, w0_2, w0_3, w0_4, w0_5, w0_6, .ref a5, .ref a12, .ref a3, .ref a4, .ref a1, .ref a2, .ref a9, .ref a8, .ref a10, .ref a7, .ref a6, .int s_place, .int s_end, .int s_bad, .int s_clauses, .int s_codes, .int s_open, .int s_stacked, w0_25, .int s_isBehind, .ref a11, w0_28, w0_29, w0_30, w0_31, w0_32, w0_33, w0_34, w0_35, w0_36, w0_37, w0_38, w0_39, w0_40, w0_41, w0_42, w0_43, w0_44, w0_45, w0_46, w0_47, w0_48, w0_49, w0_50, w0_51, w0_52, w0_53, w0_54, w0_55, w0_56, w0_57, w0_58, w0_59, w0_60, w0_61, w0_62, w0_63, w0_64, w0_65, w0_66])), (a1, .inl (E.2 0, 2400, .inl s_code)), (a2, .inl (E.2 0, 2400, .inl s_codeArg)), (a3, .inl (E.2 0, 240, .inl s_codeFrom)), (a4, .inl (E.2 0, 240, .inl s_codeTo)), (a5, .inl (E.2 0, 20, .inl s_many)), (a6, .inl (E.2 0, 120, .inl s_newArg)), (a7, .inl (E.2 0, 120, .inl s_newCode)), (a8, .inl (E.2 0, 12, .inl s_newFrom)), (a9, .inl (E.2 0, 12, .inl s_newSum)), (a10, .inl (E.2 0, 12, .inl s_newTo)), (a11, .inl (E.2 0, 160, .inl s_stack)), (a12, .inl (E.2 0, 240, .inl s_sumFrom)), (a13, .inl (E.2 1, 200, .inl s_tape))] sz 0 0 (fun x (_ : Unit) => x = r) (fun _ => [(a0, .inr (12, [.ref a13, .int o_taped, w0_2, w0_3, w0_4, w0_5, w0_6, .ref a5, .ref a12, .ref a3, .ref a4, .ref a1, .ref a2, .ref a9, .ref a8, .ref a10, .ref a7, .ref a6, .int o_place, .int o_end, .int o_bad, .int o_clauses, .int o_codes, .int o_open, .int o_stacked, w0_25, .int o_isBehind, .ref a11, w0_28, w0_29, w0_30, w0_31, w0_32, w0_33, w0_34, w0_35, w0_36, w0_37, w0_38, w0_39, w0_40, w0_41, w0_42, w0_43, w0_44, w0_45, w0_46, w0_47, w0_48, w0_49, w0_50, w0_51, w0_52, w0_53, w0_54, w0_55, w0_56, w0_57, w0_58, w0_59, w0_60, w0_61, w0_62, w0_63, w0_64, w0_65, w0_66])), (a1, .inl (E.2 0, 2400, .inl o_code)), (a2, .inl (E.2 0, 2400, .inl o_codeArg)), (a3, .inl (E.2 0, 240, .inl o_codeFrom)), (a4, .inl (E.2 0, 240, .inl o_codeTo)), (a5, .inl (E.2 0, 20, .inl o_many)), (a6, .inl (E.2 0, 120, .inl o_newArg)), (a7, .inl (E.2 0, 120, .inl o_newCode)), (a8, .inl (E.2 0, 12, .inl o_newFrom)), (a9, .inl (E.2 0, 12, .inl o_newSum)), (a10, .inl (E.2 0, 12, .inl o_newTo)), (a11, .inl (E.2 0, 160, .inl o_stack)), (a12, .inl (E.2 0, 240, .inl o_sumFrom)), (a13, .inl (E.2 1, 200, .inl s_tape))]) := by
  refine kmeti rfl (Nat.le_of_ble_eq_true rfl) ?_
  intro p e s m args below meth c ls A Q X hV hret hl
  have X : kC p s m c cX12_story 3 RX12 args E A := X
  have hx := X.1
  have hb := X.2.1
  have hl : lv_has ls 3 [(0, .ref a0), (1, .int p1), (2, .int p2)] := hl
  rw [f_X12_story] at h
  refine lv_iload_n hx hb dX12_story_0 rfl (lv_at hl 1 rfl) ?_
  obtain ⟨r1_1, hc2, h3⟩ := cb1_s h
  clear h
  refine kgoiE (krunS (rest := []) X hV [] (c_X12_isTale l E _ p1 r1_1 hc2) mw_614 kb_X12_isTale (by decide) rfl rfl hl.1 rfl (Nat.le_of_ble_eq_true rfl) dX12_story_1 (by decide)) X hV [] [0, 1, 2, 3, 4, 5, 6, 7, 8, 9, 10, 11, 12, 13] rfl rfl rfl (by decide) (fun u H locs hV4 => ?_)
  have hV4 : kV E A s.heap H locs [(a0, .inr (12, [.ref a13, .int s_taped, w0_2, w0_3, w0_4, w0_5, w0_6, .ref a5, .ref a12, .ref a3, .ref a4, .ref a1, .ref a2, .ref a9, .ref a8, .ref a10, .ref a7, .ref a6, .int s_place, .int s_end, .int s_bad, .int s_clauses, .int s_codes, .int s_open, .int s_stacked, w0_25, .int s_isBehind, .ref a11, w0_28, w0_29, w0_30, w0_31, w0_32, w0_33, w0_34, w0_35, w0_36, w0_37, w0_38, w0_39, w0_40, w0_41, w0_42, w0_43, w0_44, w0_45, w0_46, w0_47, w0_48, w0_49, w0_50, w0_51, w0_52, w0_53, w0_54, w0_55, w0_56, w0_57, w0_58, w0_59, w0_60, w0_61, w0_62, w0_63, w0_64, w0_65, w0_66])), (a1, .inl (E.2 0, 2400, .inl s_code)), (a2, .inl (E.2 0, 2400, .inl s_codeArg)), (a3, .inl (E.2 0, 240, .inl s_codeFrom)), (a4, .inl (E.2 0, 240, .inl s_codeTo)), (a5, .inl (E.2 0, 20, .inl s_many)), (a6, .inl (E.2 0, 120, .inl s_newArg)), (a7, .inl (E.2 0, 120, .inl s_newCode)), (a8, .inl (E.2 0, 12, .inl s_newFrom)), (a9, .inl (E.2 0, 12, .inl s_newSum)), (a10, .inl (E.2 0, 12, .inl s_newTo)), (a11, .inl (E.2 0, 160, .inl s_stack)), (a12, .inl (E.2 0, 240, .inl s_sumFrom)), (a13, .inl (E.2 1, 200, .inl s_tape))] := hV4.sub [0, 1, 2, 3, 4, 5, 6, 7, 8, 9, 10, 11, 12, 13] rfl rfl
  clear hV
  refine lv_if_eq (tgt := 17) hx hb dX12_story_4 (by decide) (fun c6 => ?_) (fun c6 => ?_)
  · have h7 := itS c6 h3
    clear h3 c6
    refine lv_iconst (v := (-1)) hx hb dX12_story_17 (by decide) ?_
    obtain ⟨q9, q10, q11, q12, q13, q14, q15, q16, q17, q18, q19, q20, q21, q22, q23, q24, q25, q26, q27, q28, q29, q30⟩ := tup22_s h7
    clear h7
    exact hret _ () _ _ _ _ q9 rfl (by rw [← q10, ← q11, ← q12, ← q13, ← q14, ← q15, ← q16, ← q17, ← q18, ← q19, ← q20, ← q21, ← q22, ← q23, ← q24, ← q25, ← q26, ← q27, ← q28, ← q29, ← q30]; exact hV4) dX12_story_18
  · have h8 := ieS c6 h3
    clear h3 c6
    refine lv_aload_n hx hb dX12_story_7 rfl (lv_at hl 0 rfl) ?_
    refine lv_iload_n hx hb dX12_story_8 rfl (lv_at hl 2 rfl) ?_
    refine lv_bipush (v := 60) hx hb dX12_story_9 (by decide) ?_
    obtain ⟨r11_31, hc32, h33⟩ := cb1_s h8
    clear h8
    refine kgoiE (krunV (rest := []) X hV4 [0] (c_X12_canRead l E _ a0 (.ref a13) (w0_2) (w0_3) (w0_4) (w0_5) (w0_6) (.ref a5) (.ref a12) (.ref a3) (.ref a4) (.ref a1) (.ref a2) (.ref a9) (.ref a8) (.ref a10) (.ref a7) (.ref a6) (.int s_place) (.int s_end) (.int s_bad) (.int s_clauses) (.int s_codes) (.int s_open) (.int s_stacked) (w0_25) (.int s_isBehind) (.ref a11) (w0_28) (w0_29) (w0_30) (w0_31) (w0_32) (w0_33) (w0_34) (w0_35) (w0_36) (w0_37) (w0_38) (w0_39) (w0_40) (w0_41) (w0_42) (w0_43) (w0_44) (w0_45) (w0_46) (w0_47) (w0_48) (w0_49) (w0_50) (w0_51) (w0_52) (w0_53) (w0_54) (w0_55) (w0_56) (w0_57) (w0_58) (w0_59) (w0_60) (w0_61) (w0_62) (w0_63) (w0_64) (w0_65) (w0_66) s_taped p2 60 r11_31 hc32) mw_465 kb_X12_canRead (ci := 12) rfl rfl (by decide) rfl rfl hl.1 rfl (Nat.le_of_ble_eq_true rfl) dX12_story_11 (by decide)) X hV4 [0] [1, 2, 3, 4, 5, 6, 7, 8, 9, 10, 11, 12, 13] rfl rfl rfl (by decide) (fun u H locs hV34 => ?_)
    have hV34 : kV E A s.heap H locs [(a0, .inr (12, [.ref a13, .int s_taped, w0_2, w0_3, w0_4, w0_5, w0_6, .ref a5, .ref a12, .ref a3, .ref a4, .ref a1, .ref a2, .ref a9, .ref a8, .ref a10, .ref a7, .ref a6, .int s_place, .int s_end, .int s_bad, .int s_clauses, .int s_codes, .int s_open, .int s_stacked, w0_25, .int s_isBehind, .ref a11, w0_28, w0_29, w0_30, w0_31, w0_32, w0_33, w0_34, w0_35, w0_36, w0_37, w0_38, w0_39, w0_40, w0_41, w0_42, w0_43, w0_44, w0_45, w0_46, w0_47, w0_48, w0_49, w0_50, w0_51, w0_52, w0_53, w0_54, w0_55, w0_56, w0_57, w0_58, w0_59, w0_60, w0_61, w0_62, w0_63, w0_64, w0_65, w0_66])), (a1, .inl (E.2 0, 2400, .inl s_code)), (a2, .inl (E.2 0, 2400, .inl s_codeArg)), (a3, .inl (E.2 0, 240, .inl s_codeFrom)), (a4, .inl (E.2 0, 240, .inl s_codeTo)), (a5, .inl (E.2 0, 20, .inl s_many)), (a6, .inl (E.2 0, 120, .inl s_newArg)), (a7, .inl (E.2 0, 120, .inl s_newCode)), (a8, .inl (E.2 0, 12, .inl s_newFrom)), (a9, .inl (E.2 0, 12, .inl s_newSum)), (a10, .inl (E.2 0, 12, .inl s_newTo)), (a11, .inl (E.2 0, 160, .inl s_stack)), (a12, .inl (E.2 0, 240, .inl s_sumFrom)), (a13, .inl (E.2 1, 200, .inl s_tape))] := hV34.sub [13, 0, 1, 2, 3, 4, 5, 6, 7, 8, 9, 10, 11, 12] rfl rfl
    clear hV4
    refine lv_if_ne (tgt := 19) hx hb dX12_story_14 (by decide) (fun c36 => ?_) (fun c36 => ?_)
    · have h37 := ieS c36 h33
      clear h33 c36
      refine lv_aload_n hx hb dX12_story_19 rfl (lv_at hl 0 rfl) ?_
      refine lv_iload_n hx hb dX12_story_20 rfl (lv_at hl 2 rfl) ?_
      obtain ⟨o_taped21_39, o_place21_40, o_end21_41, o_bad21_42, o_clauses21_43, o_codes21_44, o_open21_45, o_stacked21_46, hc47, h48⟩ := cb8_s h37
      clear h37
      refine kgov (krunV (rest := []) X hV34 [0] (c_X12_begins l E _ a0 (.ref a13) (w0_2) (w0_3) (w0_4) (w0_5) (w0_6) (.ref a5) (.ref a12) (.ref a3) (.ref a4) (.ref a1) (.ref a2) (.ref a9) (.ref a8) (.ref a10) (.ref a7) (.ref a6) (w0_25) (.int s_isBehind) (.ref a11) (w0_28) (w0_29) (w0_30) (w0_31) (w0_32) (w0_33) (w0_34) (w0_35) (w0_36) (w0_37) (w0_38) (w0_39) (w0_40) (w0_41) (w0_42) (w0_43) (w0_44) (w0_45) (w0_46) (w0_47) (w0_48) (w0_49) (w0_50) (w0_51) (w0_52) (w0_53) (w0_54) (w0_55) (w0_56) (w0_57) (w0_58) (w0_59) (w0_60) (w0_61) (w0_62) (w0_63) (w0_64) (w0_65) (w0_66) s_taped s_place s_end s_bad s_clauses s_codes s_open s_stacked p2 o_taped21_39 o_place21_40 o_end21_41 o_bad21_42 o_clauses21_43 o_codes21_44 o_open21_45 o_stacked21_46 hc47) mw_477 kb_X12_begins (ci := 12) rfl rfl (by decide) rfl rfl hl.1 rfl (Nat.le_of_ble_eq_true rfl) dX12_story_21 (by decide)) X hV34 [0] [1, 2, 3, 4, 5, 6, 7, 8, 9, 10, 11, 12, 13] rfl rfl rfl (by decide) (fun u H locs hp50 hV49 => ?_)
      have hV49 : kV E A s.heap H locs [(a0, .inr (12, [.ref a13, .int o_taped21_39, w0_2, w0_3, w0_4, w0_5, w0_6, .ref a5, .ref a12, .ref a3, .ref a4, .ref a1, .ref a2, .ref a9, .ref a8, .ref a10, .ref a7, .ref a6, .int o_place21_40, .int o_end21_41, .int o_bad21_42, .int o_clauses21_43, .int o_codes21_44, .int o_open21_45, .int o_stacked21_46, w0_25, .int s_isBehind, .ref a11, w0_28, w0_29, w0_30, w0_31, w0_32, w0_33, w0_34, w0_35, w0_36, w0_37, w0_38, w0_39, w0_40, w0_41, w0_42, w0_43, w0_44, w0_45, w0_46, w0_47, w0_48, w0_49, w0_50, w0_51, w0_52, w0_53, w0_54, w0_55, w0_56, w0_57, w0_58, w0_59, w0_60, w0_61, w0_62, w0_63, w0_64, w0_65, w0_66])), (a1, .inl (E.2 0, 2400, .inl s_code)), (a2, .inl (E.2 0, 2400, .inl s_codeArg)), (a3, .inl (E.2 0, 240, .inl s_codeFrom)), (a4, .inl (E.2 0, 240, .inl s_codeTo)), (a5, .inl (E.2 0, 20, .inl s_many)), (a6, .inl (E.2 0, 120, .inl s_newArg)), (a7, .inl (E.2 0, 120, .inl s_newCode)), (a8, .inl (E.2 0, 12, .inl s_newFrom)), (a9, .inl (E.2 0, 12, .inl s_newSum)), (a10, .inl (E.2 0, 12, .inl s_newTo)), (a11, .inl (E.2 0, 160, .inl s_stack)), (a12, .inl (E.2 0, 240, .inl s_sumFrom)), (a13, .inl (E.2 1, 200, .inl s_tape))] := hV49.sub [13, 0, 1, 2, 3, 4, 5, 6, 7, 8, 9, 10, 11, 12] rfl rfl
      clear hV34
      refine lv_aload_n hx hb dX12_story_24 rfl (lv_at hl 0 rfl) ?_
      obtain ⟨o_place25_51, o_bad25_52, o_codes25_53, o_open25_54, o_stacked25_55, o_isBehind25_56, o_newArg25_57, o_newCode25_58, o_stack25_59, hc60, h61⟩ := cb9_s h48
      clear h48
      refine kgov (krunV (rest := []) X hV49 [0, 6, 7, 11, 13] (c_X12_value l E _ a0 a6 a7 a11 a13 (.int o_taped21_39) (w0_2) (w0_3) (w0_4) (w0_5) (w0_6) (.ref a5) (.ref a12) (.ref a3) (.ref a4) (.ref a1) (.ref a2) (.ref a9) (.ref a8) (.ref a10) (.int o_clauses21_43) (w0_25) (w0_28) (w0_29) (w0_30) (w0_31) (w0_32) (w0_33) (w0_34) (w0_35) (w0_36) (w0_37) (w0_38) (w0_39) (w0_40) (w0_41) (w0_42) (w0_43) (w0_44) (w0_45) (w0_46) (w0_47) (w0_48) (w0_49) (w0_50) (w0_51) (w0_52) (w0_53) (w0_54) (w0_55) (w0_56) (w0_57) (w0_58) (w0_59) (w0_60) (w0_61) (w0_62) (w0_63) (w0_64) (w0_65) (w0_66) o_place21_40 o_end21_41 o_bad21_42 o_codes21_44 o_open21_45 o_stacked21_46 s_isBehind s_newArg s_newCode s_stack s_tape o_place25_51 o_bad25_52 o_codes25_53 o_open25_54 o_stacked25_55 o_isBehind25_56 o_newArg25_57 o_newCode25_58 o_stack25_59 hc60) mw_500 kb_X12_value (ci := 12) rfl rfl (by decide) rfl rfl hl.1 rfl (Nat.le_of_ble_eq_true rfl) dX12_story_25 (by decide)) X hV49 [0, 6, 7, 11, 13] [1, 2, 3, 4, 5, 8, 9, 10, 12] rfl rfl rfl (by decide) (fun u H locs hp63 hV62 => ?_)
      have hV62 : kV E A s.heap H locs [(a0, .inr (12, [.ref a13, .int o_taped21_39, w0_2, w0_3, w0_4, w0_5, w0_6, .ref a5, .ref a12, .ref a3, .ref a4, .ref a1, .ref a2, .ref a9, .ref a8, .ref a10, .ref a7, .ref a6, .int o_place25_51, .int o_end21_41, .int o_bad25_52, .int o_clauses21_43, .int o_codes25_53, .int o_open25_54, .int o_stacked25_55, w0_25, .int o_isBehind25_56, .ref a11, w0_28, w0_29, w0_30, w0_31, w0_32, w0_33, w0_34, w0_35, w0_36, w0_37, w0_38, w0_39, w0_40, w0_41, w0_42, w0_43, w0_44, w0_45, w0_46, w0_47, w0_48, w0_49, w0_50, w0_51, w0_52, w0_53, w0_54, w0_55, w0_56, w0_57, w0_58, w0_59, w0_60, w0_61, w0_62, w0_63, w0_64, w0_65, w0_66])), (a1, .inl (E.2 0, 2400, .inl s_code)), (a2, .inl (E.2 0, 2400, .inl s_codeArg)), (a3, .inl (E.2 0, 240, .inl s_codeFrom)), (a4, .inl (E.2 0, 240, .inl s_codeTo)), (a5, .inl (E.2 0, 20, .inl s_many)), (a6, .inl (E.2 0, 120, .inl o_newArg25_57)), (a7, .inl (E.2 0, 120, .inl o_newCode25_58)), (a8, .inl (E.2 0, 12, .inl s_newFrom)), (a9, .inl (E.2 0, 12, .inl s_newSum)), (a10, .inl (E.2 0, 12, .inl s_newTo)), (a11, .inl (E.2 0, 160, .inl o_stack25_59)), (a12, .inl (E.2 0, 240, .inl s_sumFrom)), (a13, .inl (E.2 1, 200, .inl s_tape))] := hV62.sub [9, 0, 1, 2, 3, 4, 10, 11, 5, 6, 7, 12, 8, 13] rfl rfl
      clear hV49
      refine lv_aload_n hx hb dX12_story_28 rfl (lv_at hl 0 rfl) ?_
      obtain ⟨r29_64, hc65, h66⟩ := cb1_s h61
      clear h61
      refine kgoiE (krunV (rest := []) X hV62 [0] (c_X12_isGood l E _ a0 (.ref a13) (.int o_taped21_39) (w0_2) (w0_3) (w0_4) (w0_5) (w0_6) (.ref a5) (.ref a12) (.ref a3) (.ref a4) (.ref a1) (.ref a2) (.ref a9) (.ref a8) (.ref a10) (.ref a7) (.ref a6) (.int o_place25_51) (.int o_end21_41) (.int o_clauses21_43) (.int o_codes25_53) (.int o_open25_54) (.int o_stacked25_55) (w0_25) (.int o_isBehind25_56) (.ref a11) (w0_28) (w0_29) (w0_30) (w0_31) (w0_32) (w0_33) (w0_34) (w0_35) (w0_36) (w0_37) (w0_38) (w0_39) (w0_40) (w0_41) (w0_42) (w0_43) (w0_44) (w0_45) (w0_46) (w0_47) (w0_48) (w0_49) (w0_50) (w0_51) (w0_52) (w0_53) (w0_54) (w0_55) (w0_56) (w0_57) (w0_58) (w0_59) (w0_60) (w0_61) (w0_62) (w0_63) (w0_64) (w0_65) (w0_66) o_bad25_52 r29_64 hc65) mw_484 kb_X12_isGood (ci := 12) rfl rfl (by decide) rfl rfl hl.1 rfl (Nat.le_of_ble_eq_true rfl) dX12_story_29 (by decide)) X hV62 [0] [1, 2, 3, 4, 5, 6, 7, 8, 9, 10, 11, 12, 13] rfl rfl rfl (by decide) (fun u H locs hV67 => ?_)
      have hV67 : kV E A s.heap H locs [(a0, .inr (12, [.ref a13, .int o_taped21_39, w0_2, w0_3, w0_4, w0_5, w0_6, .ref a5, .ref a12, .ref a3, .ref a4, .ref a1, .ref a2, .ref a9, .ref a8, .ref a10, .ref a7, .ref a6, .int o_place25_51, .int o_end21_41, .int o_bad25_52, .int o_clauses21_43, .int o_codes25_53, .int o_open25_54, .int o_stacked25_55, w0_25, .int o_isBehind25_56, .ref a11, w0_28, w0_29, w0_30, w0_31, w0_32, w0_33, w0_34, w0_35, w0_36, w0_37, w0_38, w0_39, w0_40, w0_41, w0_42, w0_43, w0_44, w0_45, w0_46, w0_47, w0_48, w0_49, w0_50, w0_51, w0_52, w0_53, w0_54, w0_55, w0_56, w0_57, w0_58, w0_59, w0_60, w0_61, w0_62, w0_63, w0_64, w0_65, w0_66])), (a1, .inl (E.2 0, 2400, .inl s_code)), (a2, .inl (E.2 0, 2400, .inl s_codeArg)), (a3, .inl (E.2 0, 240, .inl s_codeFrom)), (a4, .inl (E.2 0, 240, .inl s_codeTo)), (a5, .inl (E.2 0, 20, .inl s_many)), (a6, .inl (E.2 0, 120, .inl o_newArg25_57)), (a7, .inl (E.2 0, 120, .inl o_newCode25_58)), (a8, .inl (E.2 0, 12, .inl s_newFrom)), (a9, .inl (E.2 0, 12, .inl s_newSum)), (a10, .inl (E.2 0, 12, .inl s_newTo)), (a11, .inl (E.2 0, 160, .inl o_stack25_59)), (a12, .inl (E.2 0, 240, .inl s_sumFrom)), (a13, .inl (E.2 1, 200, .inl s_tape))] := hV67.sub [13, 0, 1, 2, 3, 4, 5, 6, 7, 8, 9, 10, 11, 12] rfl rfl
      clear hV62
      have J55 : ∀ (bad__69 : Int32) (H : Heap) (locs : List Loc) (ls : Array Slot), (f_X12_story_J55 s_code s_codeArg s_codeFrom s_codeTo s_many s_newFrom s_newSum s_newTo s_sumFrom p1 o_taped21_39 o_end21_41 o_clauses21_43 o_place25_51 o_codes25_53 o_open25_54 o_stacked25_55 o_isBehind25_56 o_newArg25_57 o_newCode25_58 o_stack25_59 ) bad__69 = some (r, o_taped, o_place, o_end, o_bad, o_clauses, o_codes, o_open, o_stacked, o_isBehind, o_code, o_codeArg, o_codeFrom, o_codeTo, o_many, o_newArg, o_newCode, o_newFrom, o_newSum, o_newTo, o_stack, o_sumFrom) → kV E A s.heap H locs [(a0, .inr (12, [.ref a13, .int o_taped21_39, w0_2, w0_3, w0_4, w0_5, w0_6, .ref a5, .ref a12, .ref a3, .ref a4, .ref a1, .ref a2, .ref a9, .ref a8, .ref a10, .ref a7, .ref a6, .int o_place25_51, .int o_end21_41, .int bad__69, .int o_clauses21_43, .int o_codes25_53, .int o_open25_54, .int o_stacked25_55, w0_25, .int o_isBehind25_56, .ref a11, w0_28, w0_29, w0_30, w0_31, w0_32, w0_33, w0_34, w0_35, w0_36, w0_37, w0_38, w0_39, w0_40, w0_41, w0_42, w0_43, w0_44, w0_45, w0_46, w0_47, w0_48, w0_49, w0_50, w0_51, w0_52, w0_53, w0_54, w0_55, w0_56, w0_57, w0_58, w0_59, w0_60, w0_61, w0_62, w0_63, w0_64, w0_65, w0_66])), (a1, .inl (E.2 0, 2400, .inl s_code)), (a2, .inl (E.2 0, 2400, .inl s_codeArg)), (a3, .inl (E.2 0, 240, .inl s_codeFrom)), (a4, .inl (E.2 0, 240, .inl s_codeTo)), (a5, .inl (E.2 0, 20, .inl s_many)), (a6, .inl (E.2 0, 120, .inl o_newArg25_57)), (a7, .inl (E.2 0, 120, .inl o_newCode25_58)), (a8, .inl (E.2 0, 12, .inl s_newFrom)), (a9, .inl (E.2 0, 12, .inl s_newSum)), (a10, .inl (E.2 0, 12, .inl s_newTo)), (a11, .inl (E.2 0, 160, .inl o_stack25_59)), (a12, .inl (E.2 0, 240, .inl s_sumFrom)), (a13, .inl (E.2 1, 200, .inl s_tape))] → lv_has ls 3 [(0, .ref a0), (1, .int p1)] → W p l e r_X12_story s m args below meth c H locs 0 0 Q (F0 m 55 ls []) := by
        intro bad__69 H locs ls hB55 hVB55 hlB55
        rw [f_X12_story_J55] at hB55
        refine lv_aload_n hx hb dX12_story_55 rfl (lv_at hlB55 0 rfl) ?_
        refine kget X hVB55 (ci := 12) inlX12 rfl 0 rfl 20 (by decide) mw_475 rfl dX12_story_56 ?_
        refine lv_if_ge (tgt := 67) hx hb dX12_story_59 (by decide) (fun c70 => ?_) (fun c70 => ?_)
        · have h71 := itS c70 hB55
          clear hB55 c70
          refine lv_aload_n hx hb dX12_story_67 rfl (lv_at hlB55 0 rfl) ?_
          refine kget X hVB55 (ci := 12) inlX12 rfl 0 rfl 13 (by decide) mw_148 rfl dX12_story_68 ?_
          refine lv_iconst (v := 0) hx hb dX12_story_71 (by decide) ?_
          refine lv_iconst (v := 0) hx hb dX12_story_72 (by decide) ?_
          obtain ⟨hi74, g73_73, e75, h76⟩ := wrI_s h71
          clear h71
          refine kiast X hVB55 9 rfl hi74 e75 dX12_story_73 (fun H locs hV77 => ?_)
          have hV77 : kV E A s.heap H locs [(a0, .inr (12, [.ref a13, .int o_taped21_39, w0_2, w0_3, w0_4, w0_5, w0_6, .ref a5, .ref a12, .ref a3, .ref a4, .ref a1, .ref a2, .ref a9, .ref a8, .ref a10, .ref a7, .ref a6, .int o_place25_51, .int o_end21_41, .int bad__69, .int o_clauses21_43, .int o_codes25_53, .int o_open25_54, .int o_stacked25_55, w0_25, .int o_isBehind25_56, .ref a11, w0_28, w0_29, w0_30, w0_31, w0_32, w0_33, w0_34, w0_35, w0_36, w0_37, w0_38, w0_39, w0_40, w0_41, w0_42, w0_43, w0_44, w0_45, w0_46, w0_47, w0_48, w0_49, w0_50, w0_51, w0_52, w0_53, w0_54, w0_55, w0_56, w0_57, w0_58, w0_59, w0_60, w0_61, w0_62, w0_63, w0_64, w0_65, w0_66])), (a1, .inl (E.2 0, 2400, .inl s_code)), (a2, .inl (E.2 0, 2400, .inl s_codeArg)), (a3, .inl (E.2 0, 240, .inl s_codeFrom)), (a4, .inl (E.2 0, 240, .inl s_codeTo)), (a5, .inl (E.2 0, 20, .inl s_many)), (a6, .inl (E.2 0, 120, .inl o_newArg25_57)), (a7, .inl (E.2 0, 120, .inl o_newCode25_58)), (a8, .inl (E.2 0, 12, .inl s_newFrom)), (a9, .inl (E.2 0, 12, .inl g73_73)), (a10, .inl (E.2 0, 12, .inl s_newTo)), (a11, .inl (E.2 0, 160, .inl o_stack25_59)), (a12, .inl (E.2 0, 240, .inl s_sumFrom)), (a13, .inl (E.2 1, 200, .inl s_tape))] := hV77
          clear hVB55 hi74 e75
          refine lv_aload_n hx hb dX12_story_74 rfl (lv_at hlB55 0 rfl) ?_
          refine kget X hV77 (ci := 12) inlX12 rfl 0 rfl 14 (by decide) mw_149 rfl dX12_story_75 ?_
          refine lv_iconst (v := 0) hx hb dX12_story_78 (by decide) ?_
          refine lv_aload_n hx hb dX12_story_79 rfl (lv_at hlB55 0 rfl) ?_
          refine kget X hV77 (ci := 12) inlX12 rfl 0 rfl 22 (by decide) mw_481 rfl dX12_story_80 ?_
          obtain ⟨hi79, g83_78, e80, h81⟩ := wrI_s h76
          clear h76
          refine kiast X hV77 8 rfl hi79 e80 dX12_story_83 (fun H locs hV82 => ?_)
          have hV82 : kV E A s.heap H locs [(a0, .inr (12, [.ref a13, .int o_taped21_39, w0_2, w0_3, w0_4, w0_5, w0_6, .ref a5, .ref a12, .ref a3, .ref a4, .ref a1, .ref a2, .ref a9, .ref a8, .ref a10, .ref a7, .ref a6, .int o_place25_51, .int o_end21_41, .int bad__69, .int o_clauses21_43, .int o_codes25_53, .int o_open25_54, .int o_stacked25_55, w0_25, .int o_isBehind25_56, .ref a11, w0_28, w0_29, w0_30, w0_31, w0_32, w0_33, w0_34, w0_35, w0_36, w0_37, w0_38, w0_39, w0_40, w0_41, w0_42, w0_43, w0_44, w0_45, w0_46, w0_47, w0_48, w0_49, w0_50, w0_51, w0_52, w0_53, w0_54, w0_55, w0_56, w0_57, w0_58, w0_59, w0_60, w0_61, w0_62, w0_63, w0_64, w0_65, w0_66])), (a1, .inl (E.2 0, 2400, .inl s_code)), (a2, .inl (E.2 0, 2400, .inl s_codeArg)), (a3, .inl (E.2 0, 240, .inl s_codeFrom)), (a4, .inl (E.2 0, 240, .inl s_codeTo)), (a5, .inl (E.2 0, 20, .inl s_many)), (a6, .inl (E.2 0, 120, .inl o_newArg25_57)), (a7, .inl (E.2 0, 120, .inl o_newCode25_58)), (a8, .inl (E.2 0, 12, .inl g83_78)), (a9, .inl (E.2 0, 12, .inl g73_73)), (a10, .inl (E.2 0, 12, .inl s_newTo)), (a11, .inl (E.2 0, 160, .inl o_stack25_59)), (a12, .inl (E.2 0, 240, .inl s_sumFrom)), (a13, .inl (E.2 1, 200, .inl s_tape))] := hV82
          clear hV77 hi79 e80
          refine lv_aload_n hx hb dX12_story_84 rfl (lv_at hlB55 0 rfl) ?_
          refine kget X hV82 (ci := 12) inlX12 rfl 0 rfl 15 (by decide) mw_150 rfl dX12_story_85 ?_
          refine lv_iconst (v := 0) hx hb dX12_story_88 (by decide) ?_
          refine lv_aload_n hx hb dX12_story_89 rfl (lv_at hlB55 0 rfl) ?_
          refine kget X hV82 (ci := 12) inlX12 rfl 0 rfl 22 (by decide) mw_481 rfl dX12_story_90 ?_
          obtain ⟨hi84, g93_83, e85, h86⟩ := wrI_s h81
          clear h81
          refine kiast X hV82 10 rfl hi84 e85 dX12_story_93 (fun H locs hV87 => ?_)
          have hV87 : kV E A s.heap H locs [(a0, .inr (12, [.ref a13, .int o_taped21_39, w0_2, w0_3, w0_4, w0_5, w0_6, .ref a5, .ref a12, .ref a3, .ref a4, .ref a1, .ref a2, .ref a9, .ref a8, .ref a10, .ref a7, .ref a6, .int o_place25_51, .int o_end21_41, .int bad__69, .int o_clauses21_43, .int o_codes25_53, .int o_open25_54, .int o_stacked25_55, w0_25, .int o_isBehind25_56, .ref a11, w0_28, w0_29, w0_30, w0_31, w0_32, w0_33, w0_34, w0_35, w0_36, w0_37, w0_38, w0_39, w0_40, w0_41, w0_42, w0_43, w0_44, w0_45, w0_46, w0_47, w0_48, w0_49, w0_50, w0_51, w0_52, w0_53, w0_54, w0_55, w0_56, w0_57, w0_58, w0_59, w0_60, w0_61, w0_62, w0_63, w0_64, w0_65, w0_66])), (a1, .inl (E.2 0, 2400, .inl s_code)), (a2, .inl (E.2 0, 2400, .inl s_codeArg)), (a3, .inl (E.2 0, 240, .inl s_codeFrom)), (a4, .inl (E.2 0, 240, .inl s_codeTo)), (a5, .inl (E.2 0, 20, .inl s_many)), (a6, .inl (E.2 0, 120, .inl o_newArg25_57)), (a7, .inl (E.2 0, 120, .inl o_newCode25_58)), (a8, .inl (E.2 0, 12, .inl g83_78)), (a9, .inl (E.2 0, 12, .inl g73_73)), (a10, .inl (E.2 0, 12, .inl g93_83)), (a11, .inl (E.2 0, 160, .inl o_stack25_59)), (a12, .inl (E.2 0, 240, .inl s_sumFrom)), (a13, .inl (E.2 1, 200, .inl s_tape))] := hV87
          clear hV82 hi84 e85
          refine lv_aload_n hx hb dX12_story_94 rfl (lv_at hlB55 0 rfl) ?_
          refine lv_iconst (v := 1) hx hb dX12_story_95 (by decide) ?_
          refine kput X hV87 (ci := 12) inlX12 rfl tyX12 tyX12_ok nmX12 0 rfl 21 (by decide) mw_476 rfl rfl rfl (Nat.le_of_ble_eq_true rfl) dX12_story_96 (fun H locs hV88 => ?_)
          have hV88 : kV E A s.heap H locs [(a0, .inr (12, [.ref a13, .int o_taped21_39, w0_2, w0_3, w0_4, w0_5, w0_6, .ref a5, .ref a12, .ref a3, .ref a4, .ref a1, .ref a2, .ref a9, .ref a8, .ref a10, .ref a7, .ref a6, .int o_place25_51, .int o_end21_41, .int bad__69, .int 1, .int o_codes25_53, .int o_open25_54, .int o_stacked25_55, w0_25, .int o_isBehind25_56, .ref a11, w0_28, w0_29, w0_30, w0_31, w0_32, w0_33, w0_34, w0_35, w0_36, w0_37, w0_38, w0_39, w0_40, w0_41, w0_42, w0_43, w0_44, w0_45, w0_46, w0_47, w0_48, w0_49, w0_50, w0_51, w0_52, w0_53, w0_54, w0_55, w0_56, w0_57, w0_58, w0_59, w0_60, w0_61, w0_62, w0_63, w0_64, w0_65, w0_66])), (a1, .inl (E.2 0, 2400, .inl s_code)), (a2, .inl (E.2 0, 2400, .inl s_codeArg)), (a3, .inl (E.2 0, 240, .inl s_codeFrom)), (a4, .inl (E.2 0, 240, .inl s_codeTo)), (a5, .inl (E.2 0, 20, .inl s_many)), (a6, .inl (E.2 0, 120, .inl o_newArg25_57)), (a7, .inl (E.2 0, 120, .inl o_newCode25_58)), (a8, .inl (E.2 0, 12, .inl g83_78)), (a9, .inl (E.2 0, 12, .inl g73_73)), (a10, .inl (E.2 0, 12, .inl g93_83)), (a11, .inl (E.2 0, 160, .inl o_stack25_59)), (a12, .inl (E.2 0, 240, .inl s_sumFrom)), (a13, .inl (E.2 1, 200, .inl s_tape))] := hV88
          clear hV87
          refine lv_aload_n hx hb dX12_story_99 rfl (lv_at hlB55 0 rfl) ?_
          refine lv_bipush (v := 14) hx hb dX12_story_100 (by decide) ?_
          refine lv_iload_n hx hb dX12_story_102 rfl (lv_at hlB55 1 rfl) ?_
          refine lv_iadd hx hb dX12_story_103 ?_
          obtain ⟨o_code104_89, o_codeArg104_90, o_codeFrom104_91, o_codeTo104_92, o_many104_93, o_sumFrom104_94, hc95, h96⟩ := cb6_s h86
          clear h86
          refine kgov (krunV (rest := []) X hV88 [0, 1, 2, 3, 4, 5, 6, 7, 8, 9, 10, 12] (c_X12_keeps l E _ a0 a1 a2 a3 a4 a5 a6 a7 a8 a9 a10 a12 (.ref a13) (.int o_taped21_39) (w0_2) (w0_3) (w0_4) (w0_5) (w0_6) (.int o_place25_51) (.int o_end21_41) (.int bad__69) (.int o_open25_54) (.int o_stacked25_55) (w0_25) (.int o_isBehind25_56) (.ref a11) (w0_28) (w0_29) (w0_30) (w0_31) (w0_32) (w0_33) (w0_34) (w0_35) (w0_36) (w0_37) (w0_38) (w0_39) (w0_40) (w0_41) (w0_42) (w0_43) (w0_44) (w0_45) (w0_46) (w0_47) (w0_48) (w0_49) (w0_50) (w0_51) (w0_52) (w0_53) (w0_54) (w0_55) (w0_56) (w0_57) (w0_58) (w0_59) (w0_60) (w0_61) (w0_62) (w0_63) (w0_64) (w0_65) (w0_66) 1 o_codes25_53 s_code s_codeArg s_codeFrom s_codeTo s_many o_newArg25_57 o_newCode25_58 g83_78 g73_73 g93_83 s_sumFrom (14 + p1) o_code104_89 o_codeArg104_90 o_codeFrom104_91 o_codeTo104_92 o_many104_93 o_sumFrom104_94 hc95) mw_576 kb_X12_keeps (ci := 12) rfl rfl (by decide) rfl rfl hlB55.1 rfl (Nat.le_of_ble_eq_true rfl) dX12_story_104 (by decide)) X hV88 [0, 1, 2, 3, 4, 5, 6, 7, 8, 9, 10, 12] [11, 13] rfl rfl rfl (by decide) (fun u H locs hp98 hV97 => ?_)
          have hV97 : kV E A s.heap H locs [(a0, .inr (12, [.ref a13, .int o_taped21_39, w0_2, w0_3, w0_4, w0_5, w0_6, .ref a5, .ref a12, .ref a3, .ref a4, .ref a1, .ref a2, .ref a9, .ref a8, .ref a10, .ref a7, .ref a6, .int o_place25_51, .int o_end21_41, .int bad__69, .int 1, .int o_codes25_53, .int o_open25_54, .int o_stacked25_55, w0_25, .int o_isBehind25_56, .ref a11, w0_28, w0_29, w0_30, w0_31, w0_32, w0_33, w0_34, w0_35, w0_36, w0_37, w0_38, w0_39, w0_40, w0_41, w0_42, w0_43, w0_44, w0_45, w0_46, w0_47, w0_48, w0_49, w0_50, w0_51, w0_52, w0_53, w0_54, w0_55, w0_56, w0_57, w0_58, w0_59, w0_60, w0_61, w0_62, w0_63, w0_64, w0_65, w0_66])), (a1, .inl (E.2 0, 2400, .inl o_code104_89)), (a2, .inl (E.2 0, 2400, .inl o_codeArg104_90)), (a3, .inl (E.2 0, 240, .inl o_codeFrom104_91)), (a4, .inl (E.2 0, 240, .inl o_codeTo104_92)), (a5, .inl (E.2 0, 20, .inl o_many104_93)), (a6, .inl (E.2 0, 120, .inl o_newArg25_57)), (a7, .inl (E.2 0, 120, .inl o_newCode25_58)), (a8, .inl (E.2 0, 12, .inl g83_78)), (a9, .inl (E.2 0, 12, .inl g73_73)), (a10, .inl (E.2 0, 12, .inl g93_83)), (a11, .inl (E.2 0, 160, .inl o_stack25_59)), (a12, .inl (E.2 0, 240, .inl o_sumFrom104_94)), (a13, .inl (E.2 1, 200, .inl s_tape))] := hV97.sub [2, 3, 4, 5, 6, 7, 8, 9, 10, 11, 12, 0, 13, 1] rfl rfl
          clear hV88
          refine lv_iconst (v := 1) hx hb dX12_story_107 (by decide) ?_
          obtain ⟨q99, q100, q101, q102, q103, q104, q105, q106, q107, q108, q109, q110, q111, q112, q113, q114, q115, q116, q117, q118, q119, q120⟩ := tup22_s h96
          clear h96
          exact hret _ () _ _ _ _ q99 rfl (by rw [← q100, ← q101, ← q102, ← q103, ← q104, ← q105, ← q106, ← q107, ← q108, ← q109, ← q110, ← q111, ← q112, ← q113, ← q114, ← q115, ← q116, ← q117, ← q118, ← q119, ← q120]; exact hV97) dX12_story_108
        · have h72 := ieS c70 hB55
          clear hB55 c70
          refine lv_aload_n hx hb dX12_story_62 rfl (lv_at hlB55 0 rfl) ?_
          refine kget X hVB55 (ci := 12) inlX12 rfl 0 rfl 20 (by decide) mw_475 rfl dX12_story_63 ?_
          obtain ⟨q121, q122, q123, q124, q125, q126, q127, q128, q129, q130, q131, q132, q133, q134, q135, q136, q137, q138, q139, q140, q141, q142⟩ := tup22_s h72
          clear h72
          exact hret _ () _ _ _ _ q121 rfl (by rw [← q122, ← q123, ← q124, ← q125, ← q126, ← q127, ← q128, ← q129, ← q130, ← q131, ← q132, ← q133, ← q134, ← q135, ← q136, ← q137, ← q138, ← q139, ← q140, ← q141, ← q142]; exact hVB55) dX12_story_66
      refine lv_if_eq (tgt := 55) hx hb dX12_story_32 (by decide) (fun c143 => ?_) (fun c143 => ?_)
      · have h144 := itS c143 h66
        clear h66 c143
        exact J55 o_bad25_52 _ _ _ h144 hV67 (lv_sub hl [0, 1] rfl)
      · have h145 := ieS c143 h66
        clear h66 c143
        refine lv_aload_n hx hb dX12_story_35 rfl (lv_at hl 0 rfl) ?_
        refine kget X hV67 (ci := 12) inlX12 rfl 0 rfl 18 (by decide) mw_473 rfl dX12_story_36 ?_
        refine lv_aload_n hx hb dX12_story_39 rfl (lv_at hl 0 rfl) ?_
        refine kget X hV67 (ci := 12) inlX12 rfl 0 rfl 19 (by decide) mw_474 rfl dX12_story_40 ?_
        refine lv_icmp_ge (tgt := 55) hx hb dX12_story_43 (by decide) (fun c146 => ?_) (fun c146 => ?_)
        · have h147 := itS c146 h145
          clear h145 c146
          exact J55 o_bad25_52 _ _ _ h147 hV67 (lv_sub hl [0, 1] rfl)
        · have h148 := ieS c146 h145
          clear h145 c146
          refine lv_aload_n hx hb dX12_story_46 rfl (lv_at hl 0 rfl) ?_
          refine lv_iconst (v := 1) hx hb dX12_story_47 (by decide) ?_
          refine lv_aload_n hx hb dX12_story_48 rfl (lv_at hl 0 rfl) ?_
          refine kget X hV67 (ci := 12) inlX12 rfl 0 rfl 18 (by decide) mw_473 rfl dX12_story_49 ?_
          obtain ⟨o_bad52_149, hc150, h151⟩ := cb1_s h148
          clear h148
          refine kgov (krunV (rest := []) X hV67 [0] (c_X12_wrongs l E _ a0 (.ref a13) (.int o_taped21_39) (w0_2) (w0_3) (w0_4) (w0_5) (w0_6) (.ref a5) (.ref a12) (.ref a3) (.ref a4) (.ref a1) (.ref a2) (.ref a9) (.ref a8) (.ref a10) (.ref a7) (.ref a6) (.int o_place25_51) (.int o_end21_41) (.int o_clauses21_43) (.int o_codes25_53) (.int o_open25_54) (.int o_stacked25_55) (w0_25) (.int o_isBehind25_56) (.ref a11) (w0_28) (w0_29) (w0_30) (w0_31) (w0_32) (w0_33) (w0_34) (w0_35) (w0_36) (w0_37) (w0_38) (w0_39) (w0_40) (w0_41) (w0_42) (w0_43) (w0_44) (w0_45) (w0_46) (w0_47) (w0_48) (w0_49) (w0_50) (w0_51) (w0_52) (w0_53) (w0_54) (w0_55) (w0_56) (w0_57) (w0_58) (w0_59) (w0_60) (w0_61) (w0_62) (w0_63) (w0_64) (w0_65) (w0_66) o_bad25_52 1 o_place25_51 o_bad52_149 hc150) mw_496 kb_X12_wrongs (ci := 12) rfl rfl (by decide) rfl rfl hl.1 rfl (Nat.le_of_ble_eq_true rfl) dX12_story_52 (by decide)) X hV67 [0] [1, 2, 3, 4, 5, 6, 7, 8, 9, 10, 11, 12, 13] rfl rfl rfl (by decide) (fun u H locs hp153 hV152 => ?_)
          have hV152 : kV E A s.heap H locs [(a0, .inr (12, [.ref a13, .int o_taped21_39, w0_2, w0_3, w0_4, w0_5, w0_6, .ref a5, .ref a12, .ref a3, .ref a4, .ref a1, .ref a2, .ref a9, .ref a8, .ref a10, .ref a7, .ref a6, .int o_place25_51, .int o_end21_41, .int o_bad52_149, .int o_clauses21_43, .int o_codes25_53, .int o_open25_54, .int o_stacked25_55, w0_25, .int o_isBehind25_56, .ref a11, w0_28, w0_29, w0_30, w0_31, w0_32, w0_33, w0_34, w0_35, w0_36, w0_37, w0_38, w0_39, w0_40, w0_41, w0_42, w0_43, w0_44, w0_45, w0_46, w0_47, w0_48, w0_49, w0_50, w0_51, w0_52, w0_53, w0_54, w0_55, w0_56, w0_57, w0_58, w0_59, w0_60, w0_61, w0_62, w0_63, w0_64, w0_65, w0_66])), (a1, .inl (E.2 0, 2400, .inl s_code)), (a2, .inl (E.2 0, 2400, .inl s_codeArg)), (a3, .inl (E.2 0, 240, .inl s_codeFrom)), (a4, .inl (E.2 0, 240, .inl s_codeTo)), (a5, .inl (E.2 0, 20, .inl s_many)), (a6, .inl (E.2 0, 120, .inl o_newArg25_57)), (a7, .inl (E.2 0, 120, .inl o_newCode25_58)), (a8, .inl (E.2 0, 12, .inl s_newFrom)), (a9, .inl (E.2 0, 12, .inl s_newSum)), (a10, .inl (E.2 0, 12, .inl s_newTo)), (a11, .inl (E.2 0, 160, .inl o_stack25_59)), (a12, .inl (E.2 0, 240, .inl s_sumFrom)), (a13, .inl (E.2 1, 200, .inl s_tape))] := hV152.sub [13, 0, 1, 2, 3, 4, 5, 6, 7, 8, 9, 10, 11, 12] rfl rfl
          clear hV67
          exact J55 o_bad52_149 _ _ _ h151 hV152 (lv_sub hl [0, 1] rfl)
    · have h38 := itS c36 h33
      clear h33 c36
      refine lv_iconst (v := (-1)) hx hb dX12_story_17 (by decide) ?_
      obtain ⟨q154, q155, q156, q157, q158, q159, q160, q161, q162, q163, q164, q165, q166, q167, q168, q169, q170, q171, q172, q173, q174, q175⟩ := tup22_s h38
      clear h38
      exact hret _ () _ _ _ _ q154 rfl (by rw [← q155, ← q156, ← q157, ← q158, ← q159, ← q160, ← q161, ← q162, ← q163, ← q164, ← q165, ← q166, ← q167, ← q168, ← q169, ← q170, ← q171, ← q172, ← q173, ← q174, ← q175]; exact hV34) dX12_story_18
abbrev r_X12_clears : Room := { frames := 0, cells := 0, slots := 0, locals := 0 }
set_option maxHeartbeats 4000000 in
set_option maxRecDepth 100000 in
theorem c_X12_clears (l : Launch) (E : kE) (sz : Nat) (a0 : Nat) (w0_0 w0_1 w0_2 w0_3 w0_4 w0_5 w0_6 w0_7 w0_8 w0_9 w0_10 w0_11 w0_12 w0_13 w0_14 w0_15 w0_16 w0_17 w0_18 w0_19 w0_20 w0_21 w0_22 w0_23 w0_24 w0_25 w0_26 w0_27 w0_41 w0_42 w0_43 w0_44 w0_45 w0_46 w0_47 w0_48 w0_49 w0_50 w0_51 w0_52 w0_53 w0_54 w0_55 w0_56 w0_57 w0_58 w0_59 w0_60 w0_61 w0_62 w0_63 w0_64 w0_65 w0_66 : Value) (s_atA : Int32) (s_atB : Int32) (s_atD : Int32) (s_atF : Int32) (s_atG : Int32) (s_atH : Int32) (s_atL : Int32) (s_atM : Int32) (s_atN : Int32) (s_atS : Int32) (s_atT : Int32) (s_atU : Int32) (s_atX : Int32) (o_atA : Int32) (o_atB : Int32) (o_atD : Int32) (o_atF : Int32) (o_atG : Int32) (o_atH : Int32) (o_atL : Int32) (o_atM : Int32) (o_atN : Int32) (o_atS : Int32) (o_atT : Int32) (o_atU : Int32) (o_atX : Int32) (h : f_X12_clears s_atA s_atB s_atD s_atF s_atG s_atH s_atL s_atM s_atN s_atS s_atT s_atU s_atX = some (o_atA, o_atB, o_atD, o_atF, o_atG, o_atH, o_atL, o_atM, o_atN, o_atS, o_atT, o_atU, o_atX)) : kMv l yX12_clears cX12_clears 1 r_X12_clears [.ref a0] E [(a0, .inr (12, [w0_0, w0_1, w0_2, w0_3, w0_4, w0_5, w0_6, w0_7, w0_8, w0_9, w0_10, w0_11, w0_12, w0_13, w0_14, w0_15, w0_16, w0_17, w0_18, w0_19, w0_20, w0_21, w0_22, w0_23, w0_24, w0_25, w0_26, w0_27, .int s_atA, .int s_atB, .int s_atD, .int s_atF, .int s_atG, .int s_atH, .int s_atL, .int s_atM, .int s_atN, .int s_atS, .int s_atT, .int s_atU, .int s_atX, w0_41, w0_42, w0_43, w0_44, w0_45, w0_46, w0_47, w0_48, w0_49, w0_50, w0_51, w0_52, w0_53, w0_54, w0_55, w0_56, w0_57, w0_58, w0_59, w0_60, w0_61, w0_62, w0_63, w0_64, w0_65, w0_66]))] sz 0 0 (fun (_ : Unit) => True) (fun _ => [(a0, .inr (12, [w0_0, w0_1, w0_2, w0_3, w0_4, w0_5, w0_6, w0_7, w0_8, w0_9, w0_10, w0_11, w0_12, w0_13, w0_14, w0_15, w0_16, w0_17, w0_18, w0_19, w0_20, w0_21, w0_22, w0_23, w0_24, w0_25, w0_26, w0_27, .int o_atA, .int o_atB, .int o_atD, .int o_atF, .int o_atG, .int o_atH, .int o_atL, .int o_atM, .int o_atN, .int o_atS, .int o_atT, .int o_atU, .int o_atX, w0_41, w0_42, w0_43, w0_44, w0_45, w0_46, w0_47, w0_48, w0_49, w0_50, w0_51, w0_52, w0_53, w0_54, w0_55, w0_56, w0_57, w0_58, w0_59, w0_60, w0_61, w0_62, w0_63, w0_64, w0_65, w0_66]))]) := by
  refine kmetv rfl (Nat.le_of_ble_eq_true rfl) ?_
  intro p e s m args below meth c ls A Q X hnm hV hret hl
  have X : kC p s m c cX12_clears 1 RX12 args E A := X
  have hx := X.1
  have hb := X.2.1
  have hl : lv_has ls 1 [(0, .ref a0)] := hl
  rw [f_X12_clears] at h
  refine lv_aload_n hx hb dX12_clears_0 rfl (lv_at hl 0 rfl) ?_
  refine lv_iconst (v := 0) hx hb dX12_clears_1 (by decide) ?_
  refine kput X hV (ci := 12) inlX12 rfl tyX12 tyX12_ok nmX12 0 rfl 28 (by decide) mw_700 rfl rfl rfl (Nat.le_of_ble_eq_true rfl) dX12_clears_2 (fun H locs hV1 => ?_)
  have hV1 : kV E A s.heap H locs [(a0, .inr (12, [w0_0, w0_1, w0_2, w0_3, w0_4, w0_5, w0_6, w0_7, w0_8, w0_9, w0_10, w0_11, w0_12, w0_13, w0_14, w0_15, w0_16, w0_17, w0_18, w0_19, w0_20, w0_21, w0_22, w0_23, w0_24, w0_25, w0_26, w0_27, .int 0, .int s_atB, .int s_atD, .int s_atF, .int s_atG, .int s_atH, .int s_atL, .int s_atM, .int s_atN, .int s_atS, .int s_atT, .int s_atU, .int s_atX, w0_41, w0_42, w0_43, w0_44, w0_45, w0_46, w0_47, w0_48, w0_49, w0_50, w0_51, w0_52, w0_53, w0_54, w0_55, w0_56, w0_57, w0_58, w0_59, w0_60, w0_61, w0_62, w0_63, w0_64, w0_65, w0_66]))] := hV1
  clear hV
  refine lv_aload_n hx hb dX12_clears_5 rfl (lv_at hl 0 rfl) ?_
  refine lv_iconst (v := 0) hx hb dX12_clears_6 (by decide) ?_
  refine kput X hV1 (ci := 12) inlX12 rfl tyX12 tyX12_ok nmX12 0 rfl 29 (by decide) mw_725 rfl rfl rfl (Nat.le_of_ble_eq_true rfl) dX12_clears_7 (fun H locs hV2 => ?_)
  have hV2 : kV E A s.heap H locs [(a0, .inr (12, [w0_0, w0_1, w0_2, w0_3, w0_4, w0_5, w0_6, w0_7, w0_8, w0_9, w0_10, w0_11, w0_12, w0_13, w0_14, w0_15, w0_16, w0_17, w0_18, w0_19, w0_20, w0_21, w0_22, w0_23, w0_24, w0_25, w0_26, w0_27, .int 0, .int 0, .int s_atD, .int s_atF, .int s_atG, .int s_atH, .int s_atL, .int s_atM, .int s_atN, .int s_atS, .int s_atT, .int s_atU, .int s_atX, w0_41, w0_42, w0_43, w0_44, w0_45, w0_46, w0_47, w0_48, w0_49, w0_50, w0_51, w0_52, w0_53, w0_54, w0_55, w0_56, w0_57, w0_58, w0_59, w0_60, w0_61, w0_62, w0_63, w0_64, w0_65, w0_66]))] := hV2
  clear hV1
  refine lv_aload_n hx hb dX12_clears_10 rfl (lv_at hl 0 rfl) ?_
  refine lv_iconst (v := 0) hx hb dX12_clears_11 (by decide) ?_
  refine kput X hV2 (ci := 12) inlX12 rfl tyX12 tyX12_ok nmX12 0 rfl 30 (by decide) mw_701 rfl rfl rfl (Nat.le_of_ble_eq_true rfl) dX12_clears_12 (fun H locs hV3 => ?_)
  have hV3 : kV E A s.heap H locs [(a0, .inr (12, [w0_0, w0_1, w0_2, w0_3, w0_4, w0_5, w0_6, w0_7, w0_8, w0_9, w0_10, w0_11, w0_12, w0_13, w0_14, w0_15, w0_16, w0_17, w0_18, w0_19, w0_20, w0_21, w0_22, w0_23, w0_24, w0_25, w0_26, w0_27, .int 0, .int 0, .int 0, .int s_atF, .int s_atG, .int s_atH, .int s_atL, .int s_atM, .int s_atN, .int s_atS, .int s_atT, .int s_atU, .int s_atX, w0_41, w0_42, w0_43, w0_44, w0_45, w0_46, w0_47, w0_48, w0_49, w0_50, w0_51, w0_52, w0_53, w0_54, w0_55, w0_56, w0_57, w0_58, w0_59, w0_60, w0_61, w0_62, w0_63, w0_64, w0_65, w0_66]))] := hV3
  clear hV2
  refine lv_aload_n hx hb dX12_clears_15 rfl (lv_at hl 0 rfl) ?_
  refine lv_iconst (v := 0) hx hb dX12_clears_16 (by decide) ?_
  refine kput X hV3 (ci := 12) inlX12 rfl tyX12 tyX12_ok nmX12 0 rfl 31 (by decide) mw_702 rfl rfl rfl (Nat.le_of_ble_eq_true rfl) dX12_clears_17 (fun H locs hV4 => ?_)
  have hV4 : kV E A s.heap H locs [(a0, .inr (12, [w0_0, w0_1, w0_2, w0_3, w0_4, w0_5, w0_6, w0_7, w0_8, w0_9, w0_10, w0_11, w0_12, w0_13, w0_14, w0_15, w0_16, w0_17, w0_18, w0_19, w0_20, w0_21, w0_22, w0_23, w0_24, w0_25, w0_26, w0_27, .int 0, .int 0, .int 0, .int 0, .int s_atG, .int s_atH, .int s_atL, .int s_atM, .int s_atN, .int s_atS, .int s_atT, .int s_atU, .int s_atX, w0_41, w0_42, w0_43, w0_44, w0_45, w0_46, w0_47, w0_48, w0_49, w0_50, w0_51, w0_52, w0_53, w0_54, w0_55, w0_56, w0_57, w0_58, w0_59, w0_60, w0_61, w0_62, w0_63, w0_64, w0_65, w0_66]))] := hV4
  clear hV3
  refine lv_aload_n hx hb dX12_clears_20 rfl (lv_at hl 0 rfl) ?_
  refine lv_iconst (v := 0) hx hb dX12_clears_21 (by decide) ?_
  refine kput X hV4 (ci := 12) inlX12 rfl tyX12 tyX12_ok nmX12 0 rfl 32 (by decide) mw_726 rfl rfl rfl (Nat.le_of_ble_eq_true rfl) dX12_clears_22 (fun H locs hV5 => ?_)
  have hV5 : kV E A s.heap H locs [(a0, .inr (12, [w0_0, w0_1, w0_2, w0_3, w0_4, w0_5, w0_6, w0_7, w0_8, w0_9, w0_10, w0_11, w0_12, w0_13, w0_14, w0_15, w0_16, w0_17, w0_18, w0_19, w0_20, w0_21, w0_22, w0_23, w0_24, w0_25, w0_26, w0_27, .int 0, .int 0, .int 0, .int 0, .int 0, .int s_atH, .int s_atL, .int s_atM, .int s_atN, .int s_atS, .int s_atT, .int s_atU, .int s_atX, w0_41, w0_42, w0_43, w0_44, w0_45, w0_46, w0_47, w0_48, w0_49, w0_50, w0_51, w0_52, w0_53, w0_54, w0_55, w0_56, w0_57, w0_58, w0_59, w0_60, w0_61, w0_62, w0_63, w0_64, w0_65, w0_66]))] := hV5
  clear hV4
  refine lv_aload_n hx hb dX12_clears_25 rfl (lv_at hl 0 rfl) ?_
  refine lv_iconst (v := 0) hx hb dX12_clears_26 (by decide) ?_
  refine kput X hV5 (ci := 12) inlX12 rfl tyX12 tyX12_ok nmX12 0 rfl 33 (by decide) mw_727 rfl rfl rfl (Nat.le_of_ble_eq_true rfl) dX12_clears_27 (fun H locs hV6 => ?_)
  have hV6 : kV E A s.heap H locs [(a0, .inr (12, [w0_0, w0_1, w0_2, w0_3, w0_4, w0_5, w0_6, w0_7, w0_8, w0_9, w0_10, w0_11, w0_12, w0_13, w0_14, w0_15, w0_16, w0_17, w0_18, w0_19, w0_20, w0_21, w0_22, w0_23, w0_24, w0_25, w0_26, w0_27, .int 0, .int 0, .int 0, .int 0, .int 0, .int 0, .int s_atL, .int s_atM, .int s_atN, .int s_atS, .int s_atT, .int s_atU, .int s_atX, w0_41, w0_42, w0_43, w0_44, w0_45, w0_46, w0_47, w0_48, w0_49, w0_50, w0_51, w0_52, w0_53, w0_54, w0_55, w0_56, w0_57, w0_58, w0_59, w0_60, w0_61, w0_62, w0_63, w0_64, w0_65, w0_66]))] := hV6
  clear hV5
  refine lv_aload_n hx hb dX12_clears_30 rfl (lv_at hl 0 rfl) ?_
  refine lv_iconst (v := 0) hx hb dX12_clears_31 (by decide) ?_
  refine kput X hV6 (ci := 12) inlX12 rfl tyX12 tyX12_ok nmX12 0 rfl 34 (by decide) mw_728 rfl rfl rfl (Nat.le_of_ble_eq_true rfl) dX12_clears_32 (fun H locs hV7 => ?_)
  have hV7 : kV E A s.heap H locs [(a0, .inr (12, [w0_0, w0_1, w0_2, w0_3, w0_4, w0_5, w0_6, w0_7, w0_8, w0_9, w0_10, w0_11, w0_12, w0_13, w0_14, w0_15, w0_16, w0_17, w0_18, w0_19, w0_20, w0_21, w0_22, w0_23, w0_24, w0_25, w0_26, w0_27, .int 0, .int 0, .int 0, .int 0, .int 0, .int 0, .int 0, .int s_atM, .int s_atN, .int s_atS, .int s_atT, .int s_atU, .int s_atX, w0_41, w0_42, w0_43, w0_44, w0_45, w0_46, w0_47, w0_48, w0_49, w0_50, w0_51, w0_52, w0_53, w0_54, w0_55, w0_56, w0_57, w0_58, w0_59, w0_60, w0_61, w0_62, w0_63, w0_64, w0_65, w0_66]))] := hV7
  clear hV6
  refine lv_aload_n hx hb dX12_clears_35 rfl (lv_at hl 0 rfl) ?_
  refine lv_iconst (v := 0) hx hb dX12_clears_36 (by decide) ?_
  refine kput X hV7 (ci := 12) inlX12 rfl tyX12 tyX12_ok nmX12 0 rfl 35 (by decide) mw_703 rfl rfl rfl (Nat.le_of_ble_eq_true rfl) dX12_clears_37 (fun H locs hV8 => ?_)
  have hV8 : kV E A s.heap H locs [(a0, .inr (12, [w0_0, w0_1, w0_2, w0_3, w0_4, w0_5, w0_6, w0_7, w0_8, w0_9, w0_10, w0_11, w0_12, w0_13, w0_14, w0_15, w0_16, w0_17, w0_18, w0_19, w0_20, w0_21, w0_22, w0_23, w0_24, w0_25, w0_26, w0_27, .int 0, .int 0, .int 0, .int 0, .int 0, .int 0, .int 0, .int 0, .int s_atN, .int s_atS, .int s_atT, .int s_atU, .int s_atX, w0_41, w0_42, w0_43, w0_44, w0_45, w0_46, w0_47, w0_48, w0_49, w0_50, w0_51, w0_52, w0_53, w0_54, w0_55, w0_56, w0_57, w0_58, w0_59, w0_60, w0_61, w0_62, w0_63, w0_64, w0_65, w0_66]))] := hV8
  clear hV7
  refine lv_aload_n hx hb dX12_clears_40 rfl (lv_at hl 0 rfl) ?_
  refine lv_iconst (v := 0) hx hb dX12_clears_41 (by decide) ?_
  refine kput X hV8 (ci := 12) inlX12 rfl tyX12 tyX12_ok nmX12 0 rfl 36 (by decide) mw_729 rfl rfl rfl (Nat.le_of_ble_eq_true rfl) dX12_clears_42 (fun H locs hV9 => ?_)
  have hV9 : kV E A s.heap H locs [(a0, .inr (12, [w0_0, w0_1, w0_2, w0_3, w0_4, w0_5, w0_6, w0_7, w0_8, w0_9, w0_10, w0_11, w0_12, w0_13, w0_14, w0_15, w0_16, w0_17, w0_18, w0_19, w0_20, w0_21, w0_22, w0_23, w0_24, w0_25, w0_26, w0_27, .int 0, .int 0, .int 0, .int 0, .int 0, .int 0, .int 0, .int 0, .int 0, .int s_atS, .int s_atT, .int s_atU, .int s_atX, w0_41, w0_42, w0_43, w0_44, w0_45, w0_46, w0_47, w0_48, w0_49, w0_50, w0_51, w0_52, w0_53, w0_54, w0_55, w0_56, w0_57, w0_58, w0_59, w0_60, w0_61, w0_62, w0_63, w0_64, w0_65, w0_66]))] := hV9
  clear hV8
  refine lv_aload_n hx hb dX12_clears_45 rfl (lv_at hl 0 rfl) ?_
  refine lv_iconst (v := 0) hx hb dX12_clears_46 (by decide) ?_
  refine kput X hV9 (ci := 12) inlX12 rfl tyX12 tyX12_ok nmX12 0 rfl 37 (by decide) mw_704 rfl rfl rfl (Nat.le_of_ble_eq_true rfl) dX12_clears_47 (fun H locs hV10 => ?_)
  have hV10 : kV E A s.heap H locs [(a0, .inr (12, [w0_0, w0_1, w0_2, w0_3, w0_4, w0_5, w0_6, w0_7, w0_8, w0_9, w0_10, w0_11, w0_12, w0_13, w0_14, w0_15, w0_16, w0_17, w0_18, w0_19, w0_20, w0_21, w0_22, w0_23, w0_24, w0_25, w0_26, w0_27, .int 0, .int 0, .int 0, .int 0, .int 0, .int 0, .int 0, .int 0, .int 0, .int 0, .int s_atT, .int s_atU, .int s_atX, w0_41, w0_42, w0_43, w0_44, w0_45, w0_46, w0_47, w0_48, w0_49, w0_50, w0_51, w0_52, w0_53, w0_54, w0_55, w0_56, w0_57, w0_58, w0_59, w0_60, w0_61, w0_62, w0_63, w0_64, w0_65, w0_66]))] := hV10
  clear hV9
  refine lv_aload_n hx hb dX12_clears_50 rfl (lv_at hl 0 rfl) ?_
  refine lv_iconst (v := 0) hx hb dX12_clears_51 (by decide) ?_
  refine kput X hV10 (ci := 12) inlX12 rfl tyX12 tyX12_ok nmX12 0 rfl 38 (by decide) mw_730 rfl rfl rfl (Nat.le_of_ble_eq_true rfl) dX12_clears_52 (fun H locs hV11 => ?_)
  have hV11 : kV E A s.heap H locs [(a0, .inr (12, [w0_0, w0_1, w0_2, w0_3, w0_4, w0_5, w0_6, w0_7, w0_8, w0_9, w0_10, w0_11, w0_12, w0_13, w0_14, w0_15, w0_16, w0_17, w0_18, w0_19, w0_20, w0_21, w0_22, w0_23, w0_24, w0_25, w0_26, w0_27, .int 0, .int 0, .int 0, .int 0, .int 0, .int 0, .int 0, .int 0, .int 0, .int 0, .int 0, .int s_atU, .int s_atX, w0_41, w0_42, w0_43, w0_44, w0_45, w0_46, w0_47, w0_48, w0_49, w0_50, w0_51, w0_52, w0_53, w0_54, w0_55, w0_56, w0_57, w0_58, w0_59, w0_60, w0_61, w0_62, w0_63, w0_64, w0_65, w0_66]))] := hV11
  clear hV10
  refine lv_aload_n hx hb dX12_clears_55 rfl (lv_at hl 0 rfl) ?_
  refine lv_iconst (v := 0) hx hb dX12_clears_56 (by decide) ?_
  refine kput X hV11 (ci := 12) inlX12 rfl tyX12 tyX12_ok nmX12 0 rfl 39 (by decide) mw_705 rfl rfl rfl (Nat.le_of_ble_eq_true rfl) dX12_clears_57 (fun H locs hV12 => ?_)
  have hV12 : kV E A s.heap H locs [(a0, .inr (12, [w0_0, w0_1, w0_2, w0_3, w0_4, w0_5, w0_6, w0_7, w0_8, w0_9, w0_10, w0_11, w0_12, w0_13, w0_14, w0_15, w0_16, w0_17, w0_18, w0_19, w0_20, w0_21, w0_22, w0_23, w0_24, w0_25, w0_26, w0_27, .int 0, .int 0, .int 0, .int 0, .int 0, .int 0, .int 0, .int 0, .int 0, .int 0, .int 0, .int 0, .int s_atX, w0_41, w0_42, w0_43, w0_44, w0_45, w0_46, w0_47, w0_48, w0_49, w0_50, w0_51, w0_52, w0_53, w0_54, w0_55, w0_56, w0_57, w0_58, w0_59, w0_60, w0_61, w0_62, w0_63, w0_64, w0_65, w0_66]))] := hV12
  clear hV11
  refine lv_aload_n hx hb dX12_clears_60 rfl (lv_at hl 0 rfl) ?_
  refine lv_iconst (v := 0) hx hb dX12_clears_61 (by decide) ?_
  refine kput X hV12 (ci := 12) inlX12 rfl tyX12 tyX12_ok nmX12 0 rfl 40 (by decide) mw_706 rfl rfl rfl (Nat.le_of_ble_eq_true rfl) dX12_clears_62 (fun H locs hV13 => ?_)
  have hV13 : kV E A s.heap H locs [(a0, .inr (12, [w0_0, w0_1, w0_2, w0_3, w0_4, w0_5, w0_6, w0_7, w0_8, w0_9, w0_10, w0_11, w0_12, w0_13, w0_14, w0_15, w0_16, w0_17, w0_18, w0_19, w0_20, w0_21, w0_22, w0_23, w0_24, w0_25, w0_26, w0_27, .int 0, .int 0, .int 0, .int 0, .int 0, .int 0, .int 0, .int 0, .int 0, .int 0, .int 0, .int 0, .int 0, w0_41, w0_42, w0_43, w0_44, w0_45, w0_46, w0_47, w0_48, w0_49, w0_50, w0_51, w0_52, w0_53, w0_54, w0_55, w0_56, w0_57, w0_58, w0_59, w0_60, w0_61, w0_62, w0_63, w0_64, w0_65, w0_66]))] := hV13
  clear hV12
  obtain ⟨q14, q15, q16, q17, q18, q19, q20, q21, q22, q23, q24, q25, q26⟩ := tup13_s h
  clear h
  exact hret () _ _ _ _ trivial (by rw [← q14, ← q15, ← q16, ← q17, ← q18, ← q19, ← q20, ← q21, ← q22, ← q23, ← q24, ← q25, ← q26]; exact hV13) dX12_clears_65
abbrev r_X12_valueOf : Room := { frames := 0, cells := 0, slots := 0, locals := 0 }
set_option maxHeartbeats 4000000 in
set_option maxRecDepth 100000 in
theorem c_X12_valueOf (l : Launch) (E : kE) (sz : Nat) (a0 : Nat) (w0_0 w0_1 w0_2 w0_3 w0_4 w0_5 w0_6 w0_7 w0_8 w0_9 w0_10 w0_11 w0_12 w0_13 w0_14 w0_15 w0_16 w0_17 w0_18 w0_19 w0_20 w0_21 w0_22 w0_23 w0_24 w0_25 w0_26 w0_27 w0_41 w0_42 w0_43 w0_44 w0_45 w0_46 w0_47 w0_48 w0_49 w0_50 w0_51 w0_52 w0_53 w0_54 w0_55 w0_56 w0_57 w0_58 w0_59 w0_60 w0_61 w0_62 w0_63 w0_64 w0_65 w0_66 : Value) (s_atA : Int32) (s_atB : Int32) (s_atD : Int32) (s_atF : Int32) (s_atG : Int32) (s_atH : Int32) (s_atL : Int32) (s_atM : Int32) (s_atN : Int32) (s_atS : Int32) (s_atT : Int32) (s_atU : Int32) (s_atX : Int32) (p1 : Int32) (r : Int32) (h : f_X12_valueOf s_atA s_atB s_atD s_atF s_atG s_atH s_atL s_atM s_atN s_atS s_atT s_atU s_atX p1 = some (r)) : kMi l yX12_valueOf cX12_valueOf 2 (some .int) r_X12_valueOf [.ref a0, .int p1] E [(a0, .inr (12, [w0_0, w0_1, w0_2, w0_3, w0_4, w0_5, w0_6, w0_7, w0_8, w0_9, w0_10, w0_11, w0_12, w0_13, w0_14, w0_15, w0_16, w0_17, w0_18, w0_19, w0_20, w0_21, w0_22, w0_23, w0_24, w0_25, w0_26, w0_27, .int s_atA, .int s_atB, .int s_atD, .int s_atF, .int s_atG, .int s_atH, .int s_atL, .int s_atM, .int s_atN, .int s_atS, .int s_atT, .int s_atU, .int s_atX, w0_41, w0_42, w0_43, w0_44, w0_45, w0_46, w0_47, w0_48, w0_49, w0_50, w0_51, w0_52, w0_53, w0_54, w0_55, w0_56, w0_57, w0_58, w0_59, w0_60, w0_61, w0_62, w0_63, w0_64, w0_65, w0_66]))] sz 0 0 (fun x (_ : Unit) => x = r) (fun _ => [(a0, .inr (12, [w0_0, w0_1, w0_2, w0_3, w0_4, w0_5, w0_6, w0_7, w0_8, w0_9, w0_10, w0_11, w0_12, w0_13, w0_14, w0_15, w0_16, w0_17, w0_18, w0_19, w0_20, w0_21, w0_22, w0_23, w0_24, w0_25, w0_26, w0_27, .int s_atA, .int s_atB, .int s_atD, .int s_atF, .int s_atG, .int s_atH, .int s_atL, .int s_atM, .int s_atN, .int s_atS, .int s_atT, .int s_atU, .int s_atX, w0_41, w0_42, w0_43, w0_44, w0_45, w0_46, w0_47, w0_48, w0_49, w0_50, w0_51, w0_52, w0_53, w0_54, w0_55, w0_56, w0_57, w0_58, w0_59, w0_60, w0_61, w0_62, w0_63, w0_64, w0_65, w0_66]))]) := by
  refine kmeti rfl (Nat.le_of_ble_eq_true rfl) ?_
  intro p e s m args below meth c ls A Q X hV hret hl
  have X : kC p s m c cX12_valueOf 2 RX12 args E A := X
  have hx := X.1
  have hb := X.2.1
  have hl : lv_has ls 2 [(0, .ref a0), (1, .int p1)] := hl
  rw [f_X12_valueOf] at h
  refine lv_iload_n hx hb dX12_valueOf_0 rfl (lv_at hl 1 rfl) ?_
  by_cases c1 : p1 = 97
  · have h2 := itS c1 h
    refine lv_tableIn (tgt := 100) (off := 99) hx hb dX12_valueOf_1 (by rw [c1]; decide) (by rw [c1]; decide) (by rw [c1]; decide) (by decide) ?_
    clear h
    refine lv_aload_n hx hb dX12_valueOf_100 rfl (lv_at hl 0 rfl) ?_
    refine kget X hV (ci := 12) inlX12 rfl 0 rfl 28 (by decide) mw_700 rfl dX12_valueOf_101 ?_
    have q3 := tup1_s h2
    clear h2
    exact hret _ () _ _ _ _ q3 rfl hV dX12_valueOf_104
  · have h4 := ieS c1 h
    clear h
    by_cases c5 : p1 = 98
    · have h6 := itS c5 h4
      refine lv_tableIn (tgt := 105) (off := 104) hx hb dX12_valueOf_1 (by rw [c5]; decide) (by rw [c5]; decide) (by rw [c5]; decide) (by decide) ?_
      clear h4
      refine lv_aload_n hx hb dX12_valueOf_105 rfl (lv_at hl 0 rfl) ?_
      refine kget X hV (ci := 12) inlX12 rfl 0 rfl 29 (by decide) mw_725 rfl dX12_valueOf_106 ?_
      have q7 := tup1_s h6
      clear h6
      exact hret _ () _ _ _ _ q7 rfl hV dX12_valueOf_109
    · have h8 := ieS c5 h4
      clear h4
      by_cases c9 : p1 = 99
      · have h10 := itS c9 h8
        refine lv_tableIn (tgt := 160) (off := 159) hx hb dX12_valueOf_1 (by rw [c9]; decide) (by rw [c9]; decide) (by rw [c9]; decide) (by decide) ?_
        clear h8
        refine lv_aload_n hx hb dX12_valueOf_160 rfl (lv_at hl 0 rfl) ?_
        refine kget X hV (ci := 12) inlX12 rfl 0 rfl 40 (by decide) mw_706 rfl dX12_valueOf_161 ?_
        have q11 := tup1_s h10
        clear h10
        exact hret _ () _ _ _ _ q11 rfl hV dX12_valueOf_164
      · have h12 := ieS c9 h8
        clear h8
        by_cases c13 : p1 = 100
        · have h14 := itS c13 h12
          refine lv_tableIn (tgt := 110) (off := 109) hx hb dX12_valueOf_1 (by rw [c13]; decide) (by rw [c13]; decide) (by rw [c13]; decide) (by decide) ?_
          clear h12
          refine lv_aload_n hx hb dX12_valueOf_110 rfl (lv_at hl 0 rfl) ?_
          refine kget X hV (ci := 12) inlX12 rfl 0 rfl 30 (by decide) mw_701 rfl dX12_valueOf_111 ?_
          have q15 := tup1_s h14
          clear h14
          exact hret _ () _ _ _ _ q15 rfl hV dX12_valueOf_114
        · have h16 := ieS c13 h12
          clear h12
          by_cases c17 : p1 = 101
          · have h18 := itS c17 h16
            refine lv_tableIn (tgt := 160) (off := 159) hx hb dX12_valueOf_1 (by rw [c17]; decide) (by rw [c17]; decide) (by rw [c17]; decide) (by decide) ?_
            clear h16
            refine lv_aload_n hx hb dX12_valueOf_160 rfl (lv_at hl 0 rfl) ?_
            refine kget X hV (ci := 12) inlX12 rfl 0 rfl 40 (by decide) mw_706 rfl dX12_valueOf_161 ?_
            have q19 := tup1_s h18
            clear h18
            exact hret _ () _ _ _ _ q19 rfl hV dX12_valueOf_164
          · have h20 := ieS c17 h16
            clear h16
            by_cases c21 : p1 = 102
            · have h22 := itS c21 h20
              refine lv_tableIn (tgt := 115) (off := 114) hx hb dX12_valueOf_1 (by rw [c21]; decide) (by rw [c21]; decide) (by rw [c21]; decide) (by decide) ?_
              clear h20
              refine lv_aload_n hx hb dX12_valueOf_115 rfl (lv_at hl 0 rfl) ?_
              refine kget X hV (ci := 12) inlX12 rfl 0 rfl 31 (by decide) mw_702 rfl dX12_valueOf_116 ?_
              have q23 := tup1_s h22
              clear h22
              exact hret _ () _ _ _ _ q23 rfl hV dX12_valueOf_119
            · have h24 := ieS c21 h20
              clear h20
              by_cases c25 : p1 = 103
              · have h26 := itS c25 h24
                refine lv_tableIn (tgt := 120) (off := 119) hx hb dX12_valueOf_1 (by rw [c25]; decide) (by rw [c25]; decide) (by rw [c25]; decide) (by decide) ?_
                clear h24
                refine lv_aload_n hx hb dX12_valueOf_120 rfl (lv_at hl 0 rfl) ?_
                refine kget X hV (ci := 12) inlX12 rfl 0 rfl 32 (by decide) mw_726 rfl dX12_valueOf_121 ?_
                have q27 := tup1_s h26
                clear h26
                exact hret _ () _ _ _ _ q27 rfl hV dX12_valueOf_124
              · have h28 := ieS c25 h24
                clear h24
                by_cases c29 : p1 = 104
                · have h30 := itS c29 h28
                  refine lv_tableIn (tgt := 125) (off := 124) hx hb dX12_valueOf_1 (by rw [c29]; decide) (by rw [c29]; decide) (by rw [c29]; decide) (by decide) ?_
                  clear h28
                  refine lv_aload_n hx hb dX12_valueOf_125 rfl (lv_at hl 0 rfl) ?_
                  refine kget X hV (ci := 12) inlX12 rfl 0 rfl 33 (by decide) mw_727 rfl dX12_valueOf_126 ?_
                  have q31 := tup1_s h30
                  clear h30
                  exact hret _ () _ _ _ _ q31 rfl hV dX12_valueOf_129
                · have h32 := ieS c29 h28
                  clear h28
                  by_cases c33 : p1 = 105
                  · have h34 := itS c33 h32
                    refine lv_tableIn (tgt := 160) (off := 159) hx hb dX12_valueOf_1 (by rw [c33]; decide) (by rw [c33]; decide) (by rw [c33]; decide) (by decide) ?_
                    clear h32
                    refine lv_aload_n hx hb dX12_valueOf_160 rfl (lv_at hl 0 rfl) ?_
                    refine kget X hV (ci := 12) inlX12 rfl 0 rfl 40 (by decide) mw_706 rfl dX12_valueOf_161 ?_
                    have q35 := tup1_s h34
                    clear h34
                    exact hret _ () _ _ _ _ q35 rfl hV dX12_valueOf_164
                  · have h36 := ieS c33 h32
                    clear h32
                    by_cases c37 : p1 = 106
                    · have h38 := itS c37 h36
                      refine lv_tableIn (tgt := 160) (off := 159) hx hb dX12_valueOf_1 (by rw [c37]; decide) (by rw [c37]; decide) (by rw [c37]; decide) (by decide) ?_
                      clear h36
                      refine lv_aload_n hx hb dX12_valueOf_160 rfl (lv_at hl 0 rfl) ?_
                      refine kget X hV (ci := 12) inlX12 rfl 0 rfl 40 (by decide) mw_706 rfl dX12_valueOf_161 ?_
                      have q39 := tup1_s h38
                      clear h38
                      exact hret _ () _ _ _ _ q39 rfl hV dX12_valueOf_164
                    · have h40 := ieS c37 h36
                      clear h36
                      by_cases c41 : p1 = 107
                      · have h42 := itS c41 h40
                        refine lv_tableIn (tgt := 160) (off := 159) hx hb dX12_valueOf_1 (by rw [c41]; decide) (by rw [c41]; decide) (by rw [c41]; decide) (by decide) ?_
                        clear h40
                        refine lv_aload_n hx hb dX12_valueOf_160 rfl (lv_at hl 0 rfl) ?_
                        refine kget X hV (ci := 12) inlX12 rfl 0 rfl 40 (by decide) mw_706 rfl dX12_valueOf_161 ?_
                        have q43 := tup1_s h42
                        clear h42
                        exact hret _ () _ _ _ _ q43 rfl hV dX12_valueOf_164
                      · have h44 := ieS c41 h40
                        clear h40
                        by_cases c45 : p1 = 108
                        · have h46 := itS c45 h44
                          refine lv_tableIn (tgt := 130) (off := 129) hx hb dX12_valueOf_1 (by rw [c45]; decide) (by rw [c45]; decide) (by rw [c45]; decide) (by decide) ?_
                          clear h44
                          refine lv_aload_n hx hb dX12_valueOf_130 rfl (lv_at hl 0 rfl) ?_
                          refine kget X hV (ci := 12) inlX12 rfl 0 rfl 34 (by decide) mw_728 rfl dX12_valueOf_131 ?_
                          have q47 := tup1_s h46
                          clear h46
                          exact hret _ () _ _ _ _ q47 rfl hV dX12_valueOf_134
                        · have h48 := ieS c45 h44
                          clear h44
                          by_cases c49 : p1 = 109
                          · have h50 := itS c49 h48
                            refine lv_tableIn (tgt := 135) (off := 134) hx hb dX12_valueOf_1 (by rw [c49]; decide) (by rw [c49]; decide) (by rw [c49]; decide) (by decide) ?_
                            clear h48
                            refine lv_aload_n hx hb dX12_valueOf_135 rfl (lv_at hl 0 rfl) ?_
                            refine kget X hV (ci := 12) inlX12 rfl 0 rfl 35 (by decide) mw_703 rfl dX12_valueOf_136 ?_
                            have q51 := tup1_s h50
                            clear h50
                            exact hret _ () _ _ _ _ q51 rfl hV dX12_valueOf_139
                          · have h52 := ieS c49 h48
                            clear h48
                            by_cases c53 : p1 = 110
                            · have h54 := itS c53 h52
                              refine lv_tableIn (tgt := 140) (off := 139) hx hb dX12_valueOf_1 (by rw [c53]; decide) (by rw [c53]; decide) (by rw [c53]; decide) (by decide) ?_
                              clear h52
                              refine lv_aload_n hx hb dX12_valueOf_140 rfl (lv_at hl 0 rfl) ?_
                              refine kget X hV (ci := 12) inlX12 rfl 0 rfl 36 (by decide) mw_729 rfl dX12_valueOf_141 ?_
                              have q55 := tup1_s h54
                              clear h54
                              exact hret _ () _ _ _ _ q55 rfl hV dX12_valueOf_144
                            · have h56 := ieS c53 h52
                              clear h52
                              by_cases c57 : p1 = 111
                              · have h58 := itS c57 h56
                                refine lv_tableIn (tgt := 160) (off := 159) hx hb dX12_valueOf_1 (by rw [c57]; decide) (by rw [c57]; decide) (by rw [c57]; decide) (by decide) ?_
                                clear h56
                                refine lv_aload_n hx hb dX12_valueOf_160 rfl (lv_at hl 0 rfl) ?_
                                refine kget X hV (ci := 12) inlX12 rfl 0 rfl 40 (by decide) mw_706 rfl dX12_valueOf_161 ?_
                                have q59 := tup1_s h58
                                clear h58
                                exact hret _ () _ _ _ _ q59 rfl hV dX12_valueOf_164
                              · have h60 := ieS c57 h56
                                clear h56
                                by_cases c61 : p1 = 112
                                · have h62 := itS c61 h60
                                  refine lv_tableIn (tgt := 160) (off := 159) hx hb dX12_valueOf_1 (by rw [c61]; decide) (by rw [c61]; decide) (by rw [c61]; decide) (by decide) ?_
                                  clear h60
                                  refine lv_aload_n hx hb dX12_valueOf_160 rfl (lv_at hl 0 rfl) ?_
                                  refine kget X hV (ci := 12) inlX12 rfl 0 rfl 40 (by decide) mw_706 rfl dX12_valueOf_161 ?_
                                  have q63 := tup1_s h62
                                  clear h62
                                  exact hret _ () _ _ _ _ q63 rfl hV dX12_valueOf_164
                                · have h64 := ieS c61 h60
                                  clear h60
                                  by_cases c65 : p1 = 113
                                  · have h66 := itS c65 h64
                                    refine lv_tableIn (tgt := 160) (off := 159) hx hb dX12_valueOf_1 (by rw [c65]; decide) (by rw [c65]; decide) (by rw [c65]; decide) (by decide) ?_
                                    clear h64
                                    refine lv_aload_n hx hb dX12_valueOf_160 rfl (lv_at hl 0 rfl) ?_
                                    refine kget X hV (ci := 12) inlX12 rfl 0 rfl 40 (by decide) mw_706 rfl dX12_valueOf_161 ?_
                                    have q67 := tup1_s h66
                                    clear h66
                                    exact hret _ () _ _ _ _ q67 rfl hV dX12_valueOf_164
                                  · have h68 := ieS c65 h64
                                    clear h64
                                    by_cases c69 : p1 = 114
                                    · have h70 := itS c69 h68
                                      refine lv_tableIn (tgt := 160) (off := 159) hx hb dX12_valueOf_1 (by rw [c69]; decide) (by rw [c69]; decide) (by rw [c69]; decide) (by decide) ?_
                                      clear h68
                                      refine lv_aload_n hx hb dX12_valueOf_160 rfl (lv_at hl 0 rfl) ?_
                                      refine kget X hV (ci := 12) inlX12 rfl 0 rfl 40 (by decide) mw_706 rfl dX12_valueOf_161 ?_
                                      have q71 := tup1_s h70
                                      clear h70
                                      exact hret _ () _ _ _ _ q71 rfl hV dX12_valueOf_164
                                    · have h72 := ieS c69 h68
                                      clear h68
                                      by_cases c73 : p1 = 115
                                      · have h74 := itS c73 h72
                                        refine lv_tableIn (tgt := 145) (off := 144) hx hb dX12_valueOf_1 (by rw [c73]; decide) (by rw [c73]; decide) (by rw [c73]; decide) (by decide) ?_
                                        clear h72
                                        refine lv_aload_n hx hb dX12_valueOf_145 rfl (lv_at hl 0 rfl) ?_
                                        refine kget X hV (ci := 12) inlX12 rfl 0 rfl 37 (by decide) mw_704 rfl dX12_valueOf_146 ?_
                                        have q75 := tup1_s h74
                                        clear h74
                                        exact hret _ () _ _ _ _ q75 rfl hV dX12_valueOf_149
                                      · have h76 := ieS c73 h72
                                        clear h72
                                        by_cases c77 : p1 = 116
                                        · have h78 := itS c77 h76
                                          refine lv_tableIn (tgt := 150) (off := 149) hx hb dX12_valueOf_1 (by rw [c77]; decide) (by rw [c77]; decide) (by rw [c77]; decide) (by decide) ?_
                                          clear h76
                                          refine lv_aload_n hx hb dX12_valueOf_150 rfl (lv_at hl 0 rfl) ?_
                                          refine kget X hV (ci := 12) inlX12 rfl 0 rfl 38 (by decide) mw_730 rfl dX12_valueOf_151 ?_
                                          have q79 := tup1_s h78
                                          clear h78
                                          exact hret _ () _ _ _ _ q79 rfl hV dX12_valueOf_154
                                        · have h80 := ieS c77 h76
                                          clear h76
                                          by_cases c81 : p1 = 117
                                          · have h82 := itS c81 h80
                                            refine lv_tableIn (tgt := 155) (off := 154) hx hb dX12_valueOf_1 (by rw [c81]; decide) (by rw [c81]; decide) (by rw [c81]; decide) (by decide) ?_
                                            clear h80
                                            refine lv_aload_n hx hb dX12_valueOf_155 rfl (lv_at hl 0 rfl) ?_
                                            refine kget X hV (ci := 12) inlX12 rfl 0 rfl 39 (by decide) mw_705 rfl dX12_valueOf_156 ?_
                                            have q83 := tup1_s h82
                                            clear h82
                                            exact hret _ () _ _ _ _ q83 rfl hV dX12_valueOf_159
                                          · have h84 := ieS c81 h80
                                            clear h80
                                            refine lv_tableOut (tgt := 160) hx hb dX12_valueOf_1 (by have ec1 : ¬ p1.toInt = 97 := fun q => c1 (Int32.toInt_inj.mp (q.trans (by decide))); have ec5 : ¬ p1.toInt = 98 := fun q => c5 (Int32.toInt_inj.mp (q.trans (by decide))); have ec9 : ¬ p1.toInt = 99 := fun q => c9 (Int32.toInt_inj.mp (q.trans (by decide))); have ec13 : ¬ p1.toInt = 100 := fun q => c13 (Int32.toInt_inj.mp (q.trans (by decide))); have ec17 : ¬ p1.toInt = 101 := fun q => c17 (Int32.toInt_inj.mp (q.trans (by decide))); have ec21 : ¬ p1.toInt = 102 := fun q => c21 (Int32.toInt_inj.mp (q.trans (by decide))); have ec25 : ¬ p1.toInt = 103 := fun q => c25 (Int32.toInt_inj.mp (q.trans (by decide))); have ec29 : ¬ p1.toInt = 104 := fun q => c29 (Int32.toInt_inj.mp (q.trans (by decide))); have ec33 : ¬ p1.toInt = 105 := fun q => c33 (Int32.toInt_inj.mp (q.trans (by decide))); have ec37 : ¬ p1.toInt = 106 := fun q => c37 (Int32.toInt_inj.mp (q.trans (by decide))); have ec41 : ¬ p1.toInt = 107 := fun q => c41 (Int32.toInt_inj.mp (q.trans (by decide))); have ec45 : ¬ p1.toInt = 108 := fun q => c45 (Int32.toInt_inj.mp (q.trans (by decide))); have ec49 : ¬ p1.toInt = 109 := fun q => c49 (Int32.toInt_inj.mp (q.trans (by decide))); have ec53 : ¬ p1.toInt = 110 := fun q => c53 (Int32.toInt_inj.mp (q.trans (by decide))); have ec57 : ¬ p1.toInt = 111 := fun q => c57 (Int32.toInt_inj.mp (q.trans (by decide))); have ec61 : ¬ p1.toInt = 112 := fun q => c61 (Int32.toInt_inj.mp (q.trans (by decide))); have ec65 : ¬ p1.toInt = 113 := fun q => c65 (Int32.toInt_inj.mp (q.trans (by decide))); have ec69 : ¬ p1.toInt = 114 := fun q => c69 (Int32.toInt_inj.mp (q.trans (by decide))); have ec73 : ¬ p1.toInt = 115 := fun q => c73 (Int32.toInt_inj.mp (q.trans (by decide))); have ec77 : ¬ p1.toInt = 116 := fun q => c77 (Int32.toInt_inj.mp (q.trans (by decide))); have ec81 : ¬ p1.toInt = 117 := fun q => c81 (Int32.toInt_inj.mp (q.trans (by decide))); omega) (by decide) ?_
                                            refine lv_aload_n hx hb dX12_valueOf_160 rfl (lv_at hl 0 rfl) ?_
                                            refine kget X hV (ci := 12) inlX12 rfl 0 rfl 40 (by decide) mw_706 rfl dX12_valueOf_161 ?_
                                            have q85 := tup1_s h84
                                            clear h84
                                            exact hret _ () _ _ _ _ q85 rfl hV dX12_valueOf_164
