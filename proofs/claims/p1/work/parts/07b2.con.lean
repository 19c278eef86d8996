abbrev r_X12_goesOver : Room := { frames := 2, cells := 0, slots := 0, locals := 46 }
set_option maxHeartbeats 4000000 in
set_option maxRecDepth 100000 in
theorem c_X12_goesOver (l : Launch) (E : kE) (sz : Nat) (a0 a1 a2 a3 a4 a5 a6 a7 : Nat) (w0_0 w0_1 w0_2 w0_3 w0_4 w0_5 w0_6 w0_8 w0_9 w0_10 w0_11 w0_12 w0_13 w0_14 w0_15 w0_16 w0_17 w0_18 w0_19 w0_20 w0_21 w0_22 w0_23 w0_24 w0_25 w0_26 w0_27 w0_41 w0_42 w0_43 w0_44 w0_45 w0_46 w0_47 w0_48 w0_49 w0_56 w0_57 w0_58 w0_59 w0_60 w0_61 w0_62 w0_63 w0_64 w0_65 w0_66 : Value) (s_atA : Int32) (s_atB : Int32) (s_atD : Int32) (s_atF : Int32) (s_atG : Int32) (s_atH : Int32) (s_atL : Int32) (s_atM : Int32) (s_atN : Int32) (s_atS : Int32) (s_atT : Int32) (s_atU : Int32) (s_atX : Int32) (s_first : Nat → Int32) (s_greatest : Nat → Int32) (s_highAt : Nat → Int32) (s_last : Nat → Int32) (s_many : Nat → Int32) (s_marked : Nat → Int32) (s_shapeAt : Nat → Int32) (p1 : Int32) (p2 : Int32) (p3 : Int32) (o_atA : Int32) (o_atB : Int32) (o_atD : Int32) (o_atF : Int32) (o_atG : Int32) (o_atH : Int32) (o_atL : Int32) (o_atM : Int32) (o_atN : Int32) (o_atS : Int32) (o_atT : Int32) (o_atU : Int32) (o_atX : Int32) (o_first : Nat → Int32) (o_greatest : Nat → Int32) (o_last : Nat → Int32) (o_marked : Nat → Int32) (h : f_X12_goesOver s_atA s_atB s_atD s_atF s_atG s_atH s_atL s_atM s_atN s_atS s_atT s_atU s_atX s_first s_greatest s_highAt s_last s_many s_marked s_shapeAt p1 p2 p3 = some (o_atA, o_atB, o_atD, o_atF, o_atG, o_atH, o_atL, o_atM, o_atN, o_atS, o_atT, o_atU, o_atX, o_first, o_greatest, o_last, o_marked)) : kMv l yX12_goesOver cX12_goesOver 9 r_X12_goesOver [.ref a0, .int p1, .int p2, .int p3] E [(a0, .inr (12, [w0_0, w0_1, w0_2, w0_3, w0_4, w0_5, w0_6, .ref a5, w0_8, w0_9, w0_10, w0_11, w0_12, w0_13, w0_14, w0_15, w0_16, w0_17, w0_18, w0_19, w0_20, w0_21, w0_22, w0_23, w0_24, w0_25, w0_26, w0_27, .int s_atA, .int s_atB, .int s_atD, .int s_atF, .int s_atG, .int s_atH, .int s_atL, .int s_atM, .int s_atN, .int s_atS, .int s_atT, .int s_atU, .int s_atX, w0_41, w0_42, w0_43, w0_44, w0_45, w0_46, w0_47, w0_48, w0_49, .ref a3, .ref a7, .ref a1, .ref a4, .ref a2, .ref a6, w0_56, w0_57, w0_58, w0_59, w0_60, w0_61, w0_62, w0_63, w0_64, w0_65, w0_66])), (a1, .inl (E.2 0, 1440, .inl s_first)), (a2, .inl (E.2 0, 1440, .inl s_greatest)), (a3, .inl (E.2 0, 1440, .inl s_highAt)), (a4, .inl (E.2 0, 1440, .inl s_last)), (a5, .inl (E.2 0, 20, .inl s_many)), (a6, .inl (E.2 0, 2, .inl s_marked)), (a7, .inl (E.2 0, 1440, .inl s_shapeAt))] sz 0 0 (fun (_ : Unit) => True) (fun _ => [(a0, .inr (12, [w0_0, w0_1, w0_2, w0_3, w0_4, w0_5, w0_6, .ref a5, w0_8, w0_9, w0_10, w0_11, w0_12, w0_13, w0_14, w0_15, w0_16, w0_17, w0_18, w0_19, w0_20, w0_21, w0_22, w0_23, w0_24, w0_25, w0_26, w0_27, .int o_atA, .int o_atB, .int o_atD, .int o_atF, .int o_atG, .int o_atH, .int o_atL, .int o_atM, .int o_atN, .int o_atS, .int o_atT, .int o_atU, .int o_atX, w0_41, w0_42, w0_43, w0_44, w0_45, w0_46, w0_47, w0_48, w0_49, .ref a3, .ref a7, .ref a1, .ref a4, .ref a2, .ref a6, w0_56, w0_57, w0_58, w0_59, w0_60, w0_61, w0_62, w0_63, w0_64, w0_65, w0_66])), (a1, .inl (E.2 0, 1440, .inl o_first)), (a2, .inl (E.2 0, 1440, .inl o_greatest)), (a3, .inl (E.2 0, 1440, .inl s_highAt)), (a4, .inl (E.2 0, 1440, .inl o_last)), (a5, .inl (E.2 0, 20, .inl s_many)), (a6, .inl (E.2 0, 2, .inl o_marked)), (a7, .inl (E.2 0, 1440, .inl s_shapeAt))]) := by
  refine kmetv rfl (Nat.le_of_ble_eq_true rfl) ?_
  intro p e s m args below meth c ls A Q X hnm hV hret hl
  have X : kC p s m c cX12_goesOver 9 RX12 args E A := X
  have hx := X.1
  have hb := X.2.1
  have hl : lv_has ls 9 [(0, .ref a0), (1, .int p1), (2, .int p2), (3, .int p3)] := hl
  rw [f_X12_goesOver] at h
  refine lv_iconst (v := 0) hx hb dX12_goesOver_0 (by decide) ?_
  refine lv_istore (lv' := [(4, .int 0), (0, .ref a0), (1, .int p1), (2, .int p2), (3, .int p3)]) hx hb dX12_goesOver_1 hl (by decide) rfl (fun ls hl1 => ?_)
  clear hl
  refine lv_iconst (v := 0) hx hb dX12_goesOver_3 (by decide) ?_
  refine lv_istore (lv' := [(5, .int 0), (4, .int 0), (0, .ref a0), (1, .int p1), (2, .int p2), (3, .int p3)]) hx hb dX12_goesOver_4 hl1 (by decide) rfl (fun ls hl2 => ?_)
  clear hl1
  refine lv_iconst (v := 0) hx hb dX12_goesOver_6 (by decide) ?_
  refine lv_istore (lv' := [(6, .int 0), (5, .int 0), (4, .int 0), (0, .ref a0), (1, .int p1), (2, .int p2), (3, .int p3)]) hx hb dX12_goesOver_7 hl2 (by decide) rfl (fun ls hl3 => ?_)
  clear hl2
  have J160 : ∀ (x4_4 : Int32) (atA__5 : Int32) (atB__6 : Int32) (atD__7 : Int32) (atF__8 : Int32) (atG__9 : Int32) (atH__10 : Int32) (atL__11 : Int32) (atM__12 : Int32) (atN__13 : Int32) (atS__14 : Int32) (atT__15 : Int32) (atU__16 : Int32) (atX__17 : Int32) (first__18 : Nat → Int32) (greatest__19 : Nat → Int32) (last__20 : Nat → Int32) (H : Heap) (locs : List Loc) (ls : Array Slot), (f_X12_goesOver_J160 s_marked p3 ) x4_4 atA__5 atB__6 atD__7 atF__8 atG__9 atH__10 atL__11 atM__12 atN__13 atS__14 atT__15 atU__16 atX__17 first__18 greatest__19 last__20 = some (o_atA, o_atB, o_atD, o_atF, o_atG, o_atH, o_atL, o_atM, o_atN, o_atS, o_atT, o_atU, o_atX, o_first, o_greatest, o_last, o_marked) → kV E A s.heap H locs [(a0, .inr (12, [w0_0, w0_1, w0_2, w0_3, w0_4, w0_5, w0_6, .ref a5, w0_8, w0_9, w0_10, w0_11, w0_12, w0_13, w0_14, w0_15, w0_16, w0_17, w0_18, w0_19, w0_20, w0_21, w0_22, w0_23, w0_24, w0_25, w0_26, w0_27, .int atA__5, .int atB__6, .int atD__7, .int atF__8, .int atG__9, .int atH__10, .int atL__11, .int atM__12, .int atN__13, .int atS__14, .int atT__15, .int atU__16, .int atX__17, w0_41, w0_42, w0_43, w0_44, w0_45, w0_46, w0_47, w0_48, w0_49, .ref a3, .ref a7, .ref a1, .ref a4, .ref a2, .ref a6, w0_56, w0_57, w0_58, w0_59, w0_60, w0_61, w0_62, w0_63, w0_64, w0_65, w0_66])), (a1, .inl (E.2 0, 1440, .inl first__18)), (a2, .inl (E.2 0, 1440, .inl greatest__19)), (a3, .inl (E.2 0, 1440, .inl s_highAt)), (a4, .inl (E.2 0, 1440, .inl last__20)), (a5, .inl (E.2 0, 20, .inl s_many)), (a6, .inl (E.2 0, 2, .inl s_marked)), (a7, .inl (E.2 0, 1440, .inl s_shapeAt))] → lv_has ls 9 [(0, .ref a0), (3, .int p3), (4, .int x4_4)] → W p l e r_X12_goesOver s m args below meth c H locs 0 0 Q (F0 m 160 ls []) := by
    intro x4_4 atA__5 atB__6 atD__7 atF__8 atG__9 atH__10 atL__11 atM__12 atN__13 atS__14 atT__15 atU__16 atX__17 first__18 greatest__19 last__20 H locs ls hB160 hVB160 hlB160
    rw [f_X12_goesOver_J160] at hB160
    refine lv_aload_n hx hb dX12_goesOver_160 rfl (lv_at hlB160 0 rfl) ?_
    refine kget X hVB160 (ci := 12) inlX12 rfl 0 rfl 55 (by decide) mw_167 rfl dX12_goesOver_161 ?_
    refine lv_iload_n hx hb dX12_goesOver_164 rfl (lv_at hlB160 1 rfl) ?_
    refine lv_iload hx hb dX12_goesOver_165 (lv_at hlB160 2 rfl) ?_
    obtain ⟨hi22, g167_21, e23, h24⟩ := wrI_s hB160
    clear hB160
    refine kiast X hVB160 6 rfl hi22 e23 dX12_goesOver_167 (fun H locs hV25 => ?_)
    have hV25 : kV E A s.heap H locs [(a0, .inr (12, [w0_0, w0_1, w0_2, w0_3, w0_4, w0_5, w0_6, .ref a5, w0_8, w0_9, w0_10, w0_11, w0_12, w0_13, w0_14, w0_15, w0_16, w0_17, w0_18, w0_19, w0_20, w0_21, w0_22, w0_23, w0_24, w0_25, w0_26, w0_27, .int atA__5, .int atB__6, .int atD__7, .int atF__8, .int atG__9, .int atH__10, .int atL__11, .int atM__12, .int atN__13, .int atS__14, .int atT__15, .int atU__16, .int atX__17, w0_41, w0_42, w0_43, w0_44, w0_45, w0_46, w0_47, w0_48, w0_49, .ref a3, .ref a7, .ref a1, .ref a4, .ref a2, .ref a6, w0_56, w0_57, w0_58, w0_59, w0_60, w0_61, w0_62, w0_63, w0_64, w0_65, w0_66])), (a1, .inl (E.2 0, 1440, .inl first__18)), (a2, .inl (E.2 0, 1440, .inl greatest__19)), (a3, .inl (E.2 0, 1440, .inl s_highAt)), (a4, .inl (E.2 0, 1440, .inl last__20)), (a5, .inl (E.2 0, 20, .inl s_many)), (a6, .inl (E.2 0, 2, .inl g167_21)), (a7, .inl (E.2 0, 1440, .inl s_shapeAt))] := hV25
    clear hVB160 hi22 e23
    cases h24
    exact hret () _ _ _ _ trivial hV25 dX12_goesOver_168
  have L9 : ∀ (n9 : Nat) (x4_26 : Int32) (x5_27 : Int32) (x6_28 : Int32) (atA__29 : Int32) (atB__30 : Int32) (atD__31 : Int32) (atF__32 : Int32) (atG__33 : Int32) (atH__34 : Int32) (atL__35 : Int32) (atM__36 : Int32) (atN__37 : Int32) (atS__38 : Int32) (atT__39 : Int32) (atU__40 : Int32) (atX__41 : Int32) (first__42 : Nat → Int32) (greatest__43 : Nat → Int32) (last__44 : Nat → Int32) (H : Heap) (locs : List Loc) (ls : Array Slot), (f_X12_goesOver_L9 s_highAt s_many s_shapeAt p1 p2 p3 (f_X12_goesOver_J160 s_marked p3 ) n9) x4_26 x5_27 x6_28 atA__29 atB__30 atD__31 atF__32 atG__33 atH__34 atL__35 atM__36 atN__37 atS__38 atT__39 atU__40 atX__41 first__42 greatest__43 last__44 = some (o_atA, o_atB, o_atD, o_atF, o_atG, o_atH, o_atL, o_atM, o_atN, o_atS, o_atT, o_atU, o_atX, o_first, o_greatest, o_last, o_marked) → kV E A s.heap H locs [(a0, .inr (12, [w0_0, w0_1, w0_2, w0_3, w0_4, w0_5, w0_6, .ref a5, w0_8, w0_9, w0_10, w0_11, w0_12, w0_13, w0_14, w0_15, w0_16, w0_17, w0_18, w0_19, w0_20, w0_21, w0_22, w0_23, w0_24, w0_25, w0_26, w0_27, .int atA__29, .int atB__30, .int atD__31, .int atF__32, .int atG__33, .int atH__34, .int atL__35, .int atM__36, .int atN__37, .int atS__38, .int atT__39, .int atU__40, .int atX__41, w0_41, w0_42, w0_43, w0_44, w0_45, w0_46, w0_47, w0_48, w0_49, .ref a3, .ref a7, .ref a1, .ref a4, .ref a2, .ref a6, w0_56, w0_57, w0_58, w0_59, w0_60, w0_61, w0_62, w0_63, w0_64, w0_65, w0_66])), (a1, .inl (E.2 0, 1440, .inl first__42)), (a2, .inl (E.2 0, 1440, .inl greatest__43)), (a3, .inl (E.2 0, 1440, .inl s_highAt)), (a4, .inl (E.2 0, 1440, .inl last__44)), (a5, .inl (E.2 0, 20, .inl s_many)), (a6, .inl (E.2 0, 2, .inl s_marked)), (a7, .inl (E.2 0, 1440, .inl s_shapeAt))] → lv_has ls 9 [(0, .ref a0), (1, .int p1), (2, .int p2), (3, .int p3), (4, .int x4_26), (5, .int x5_27), (6, .int x6_28)] → W p l e r_X12_goesOver s m args below meth c H locs 0 0 Q (F0 m 9 ls []) := by
    intro n9
    induction n9 with
    | zero =>
      intro x4_26 x5_27 x6_28 atA__29 atB__30 atD__31 atF__32 atG__33 atH__34 atL__35 atM__36 atN__37 atS__38 atT__39 atU__40 atX__41 first__42 greatest__43 last__44 H locs ls hB9 hVB9 hlB9
      rw [f_X12_goesOver_L9] at hB9
      exact nomatch hB9
    | succ n9 ih9 =>
      intro x4_26 x5_27 x6_28 atA__29 atB__30 atD__31 atF__32 atG__33 atH__34 atL__35 atM__36 atN__37 atS__38 atT__39 atU__40 atX__41 first__42 greatest__43 last__44 H locs ls hB9 hVB9 hlB9
      rw [f_X12_goesOver_L9] at hB9
      refine lv_iload hx hb dX12_goesOver_9 (lv_at hlB9 6 rfl) ?_
      refine lv_sipush (v := 1440) hx hb dX12_goesOver_11 (by decide) ?_
      refine lv_icmp_ge (tgt := 160) hx hb dX12_goesOver_14 (by decide) (fun c45 => ?_) (fun c45 => ?_)
      · have h46 := itS c45 hB9
        clear hB9 c45
        exact J160 x4_26 atA__29 atB__30 atD__31 atF__32 atG__33 atH__34 atL__35 atM__36 atN__37 atS__38 atT__39 atU__40 atX__41 first__42 greatest__43 last__44 _ _ _ h46 hVB9 (lv_sub hlB9 [0, 3, 4] rfl)
      · have h47 := ieS c45 hB9
        clear hB9 c45
        refine lv_aload_n hx hb dX12_goesOver_17 rfl (lv_at hlB9 0 rfl) ?_
        refine lv_iload_n hx hb dX12_goesOver_18 rfl (lv_at hlB9 1 rfl) ?_
        refine lv_iload_n hx hb dX12_goesOver_19 rfl (lv_at hlB9 2 rfl) ?_
        refine lv_iload hx hb dX12_goesOver_20 (lv_at hlB9 6 rfl) ?_
        refine lv_iload hx hb dX12_goesOver_22 (lv_at hlB9 5 rfl) ?_
        have J36 : ∀ (t4_48 : Int32) (H : Heap) (locs : List Loc) (ls : Array Slot), (f_X12_goesOver_J36 s_highAt s_many s_shapeAt p1 p2 p3 x4_26 x5_27 x6_28 atA__29 atB__30 atD__31 atF__32 atG__33 atH__34 atL__35 atM__36 atN__37 atS__38 atT__39 atU__40 atX__41 first__42 greatest__43 last__44 (f_X12_goesOver_L9 s_highAt s_many s_shapeAt p1 p2 p3 (f_X12_goesOver_J160 s_marked p3 ) n9)) t4_48 = some (o_atA, o_atB, o_atD, o_atF, o_atG, o_atH, o_atL, o_atM, o_atN, o_atS, o_atT, o_atU, o_atX, o_first, o_greatest, o_last, o_marked) → kV E A s.heap H locs [(a0, .inr (12, [w0_0, w0_1, w0_2, w0_3, w0_4, w0_5, w0_6, .ref a5, w0_8, w0_9, w0_10, w0_11, w0_12, w0_13, w0_14, w0_15, w0_16, w0_17, w0_18, w0_19, w0_20, w0_21, w0_22, w0_23, w0_24, w0_25, w0_26, w0_27, .int atA__29, .int atB__30, .int atD__31, .int atF__32, .int atG__33, .int atH__34, .int atL__35, .int atM__36, .int atN__37, .int atS__38, .int atT__39, .int atU__40, .int atX__41, w0_41, w0_42, w0_43, w0_44, w0_45, w0_46, w0_47, w0_48, w0_49, .ref a3, .ref a7, .ref a1, .ref a4, .ref a2, .ref a6, w0_56, w0_57, w0_58, w0_59, w0_60, w0_61, w0_62, w0_63, w0_64, w0_65, w0_66])), (a1, .inl (E.2 0, 1440, .inl first__42)), (a2, .inl (E.2 0, 1440, .inl greatest__43)), (a3, .inl (E.2 0, 1440, .inl s_highAt)), (a4, .inl (E.2 0, 1440, .inl last__44)), (a5, .inl (E.2 0, 20, .inl s_many)), (a6, .inl (E.2 0, 2, .inl s_marked)), (a7, .inl (E.2 0, 1440, .inl s_shapeAt))] → lv_has ls 9 [(0, .ref a0), (1, .int p1), (2, .int p2), (3, .int p3), (4, .int x4_26), (5, .int x5_27), (6, .int x6_28)] → W p l e r_X12_goesOver s m args below meth c H locs 0 0 Q (F0 m 36 ls [.int t4_48, .int x6_28, .int p2, .int p1, .ref a0]) := by
          intro t4_48 H locs ls hB36 hVB36 hlB36
          rw [f_X12_goesOver_J36] at hB36
          obtain ⟨r36_49, o_atA36_50, o_atB36_51, o_atD36_52, o_atF36_53, o_atG36_54, o_atH36_55, o_atL36_56, o_atM36_57, o_atN36_58, o_atS36_59, o_atT36_60, o_atU36_61, o_atX36_62, hc63, h64⟩ := cb14_s hB36
          clear hB36
          refine kgoiE (krunV (rest := []) X hVB36 [0, 3, 5, 7] (c_X12_isMarked l E _ a0 a3 a5 a7 (w0_0) (w0_1) (w0_2) (w0_3) (w0_4) (w0_5) (w0_6) (w0_8) (w0_9) (w0_10) (w0_11) (w0_12) (w0_13) (w0_14) (w0_15) (w0_16) (w0_17) (w0_18) (w0_19) (w0_20) (w0_21) (w0_22) (w0_23) (w0_24) (w0_25) (w0_26) (w0_27) (w0_41) (w0_42) (w0_43) (w0_44) (w0_45) (w0_46) (w0_47) (w0_48) (w0_49) (.ref a1) (.ref a4) (.ref a2) (.ref a6) (w0_56) (w0_57) (w0_58) (w0_59) (w0_60) (w0_61) (w0_62) (w0_63) (w0_64) (w0_65) (w0_66) atA__29 atB__30 atD__31 atF__32 atG__33 atH__34 atL__35 atM__36 atN__37 atS__38 atT__39 atU__40 atX__41 s_highAt s_many s_shapeAt p1 p2 x6_28 t4_48 r36_49 o_atA36_50 o_atB36_51 o_atD36_52 o_atF36_53 o_atG36_54 o_atH36_55 o_atL36_56 o_atM36_57 o_atN36_58 o_atS36_59 o_atT36_60 o_atU36_61 o_atX36_62 hc63) mw_858 kb_X12_isMarked (ci := 12) rfl rfl (by decide) rfl rfl hlB36.1 rfl (Nat.le_of_ble_eq_true rfl) dX12_goesOver_36 (by decide)) X hVB36 [0, 3, 5, 7] [1, 2, 4, 6] rfl rfl rfl (by decide) (fun u H locs hV65 => ?_)
          have hV65 : kV E A s.heap H locs [(a0, .inr (12, [w0_0, w0_1, w0_2, w0_3, w0_4, w0_5, w0_6, .ref a5, w0_8, w0_9, w0_10, w0_11, w0_12, w0_13, w0_14, w0_15, w0_16, w0_17, w0_18, w0_19, w0_20, w0_21, w0_22, w0_23, w0_24, w0_25, w0_26, w0_27, .int o_atA36_50, .int o_atB36_51, .int o_atD36_52, .int o_atF36_53, .int o_atG36_54, .int o_atH36_55, .int o_atL36_56, .int o_atM36_57, .int o_atN36_58, .int o_atS36_59, .int o_atT36_60, .int o_atU36_61, .int o_atX36_62, w0_41, w0_42, w0_43, w0_44, w0_45, w0_46, w0_47, w0_48, w0_49, .ref a3, .ref a7, .ref a1, .ref a4, .ref a2, .ref a6, w0_56, w0_57, w0_58, w0_59, w0_60, w0_61, w0_62, w0_63, w0_64, w0_65, w0_66])), (a1, .inl (E.2 0, 1440, .inl first__42)), (a2, .inl (E.2 0, 1440, .inl greatest__43)), (a3, .inl (E.2 0, 1440, .inl s_highAt)), (a4, .inl (E.2 0, 1440, .inl last__44)), (a5, .inl (E.2 0, 20, .inl s_many)), (a6, .inl (E.2 0, 2, .inl s_marked)), (a7, .inl (E.2 0, 1440, .inl s_shapeAt))] := hV65.sub [4, 0, 1, 5, 2, 6, 3, 7] rfl rfl
          clear hVB36
          refine lv_istore (lv' := [(7, .int r36_49), (0, .ref a0), (1, .int p1), (2, .int p2), (3, .int p3), (4, .int x4_26), (5, .int x5_27), (6, .int x6_28)]) hx hb dX12_goesOver_39 hlB36 (by decide) rfl (fun ls hl67 => ?_)
          clear hlB36
          refine lv_iload hx hb dX12_goesOver_41 (lv_at hl67 0 rfl) ?_
          have J83 : ∀ (x4_68 : Int32) (first__69 : Nat → Int32) (greatest__70 : Nat → Int32) (H : Heap) (locs : List Loc) (ls : Array Slot), (f_X12_goesOver_J83 s_highAt p3 x6_28 last__44 r36_49 o_atA36_50 o_atB36_51 o_atD36_52 o_atF36_53 o_atG36_54 o_atH36_55 o_atL36_56 o_atM36_57 o_atN36_58 o_atS36_59 o_atT36_60 o_atU36_61 o_atX36_62 (f_X12_goesOver_L9 s_highAt s_many s_shapeAt p1 p2 p3 (f_X12_goesOver_J160 s_marked p3 ) n9)) x4_68 first__69 greatest__70 = some (o_atA, o_atB, o_atD, o_atF, o_atG, o_atH, o_atL, o_atM, o_atN, o_atS, o_atT, o_atU, o_atX, o_first, o_greatest, o_last, o_marked) → kV E A s.heap H locs [(a0, .inr (12, [w0_0, w0_1, w0_2, w0_3, w0_4, w0_5, w0_6, .ref a5, w0_8, w0_9, w0_10, w0_11, w0_12, w0_13, w0_14, w0_15, w0_16, w0_17, w0_18, w0_19, w0_20, w0_21, w0_22, w0_23, w0_24, w0_25, w0_26, w0_27, .int o_atA36_50, .int o_atB36_51, .int o_atD36_52, .int o_atF36_53, .int o_atG36_54, .int o_atH36_55, .int o_atL36_56, .int o_atM36_57, .int o_atN36_58, .int o_atS36_59, .int o_atT36_60, .int o_atU36_61, .int o_atX36_62, w0_41, w0_42, w0_43, w0_44, w0_45, w0_46, w0_47, w0_48, w0_49, .ref a3, .ref a7, .ref a1, .ref a4, .ref a2, .ref a6, w0_56, w0_57, w0_58, w0_59, w0_60, w0_61, w0_62, w0_63, w0_64, w0_65, w0_66])), (a1, .inl (E.2 0, 1440, .inl first__69)), (a2, .inl (E.2 0, 1440, .inl greatest__70)), (a3, .inl (E.2 0, 1440, .inl s_highAt)), (a4, .inl (E.2 0, 1440, .inl last__44)), (a5, .inl (E.2 0, 20, .inl s_many)), (a6, .inl (E.2 0, 2, .inl s_marked)), (a7, .inl (E.2 0, 1440, .inl s_shapeAt))] → lv_has ls 9 [(0, .ref a0), (1, .int p1), (2, .int p2), (3, .int p3), (4, .int x4_68), (6, .int x6_28), (7, .int r36_49)] → W p l e r_X12_goesOver s m args below meth c H locs 0 0 Q (F0 m 83 ls []) := by
            intro x4_68 first__69 greatest__70 H locs ls hB83 hVB83 hlB83
            rw [f_X12_goesOver_J83] at hB83
            refine lv_iload hx hb dX12_goesOver_83 (lv_at hlB83 6 rfl) ?_
            refine lv_if_eq (tgt := 150) hx hb dX12_goesOver_85 (by decide) (fun c71 => ?_) (fun c71 => ?_)
            · have h72 := itS c71 hB83
              clear hB83 c71
              refine lv_iload hx hb dX12_goesOver_150 (lv_at hlB83 6 rfl) ?_
              refine lv_istore (lv' := [(5, .int r36_49), (0, .ref a0), (1, .int p1), (2, .int p2), (3, .int p3), (4, .int x4_68), (6, .int x6_28), (7, .int r36_49)]) hx hb dX12_goesOver_152 hlB83 (by decide) rfl (fun ls hl74 => ?_)
              clear hlB83
              obtain ⟨v154_75, e76, h77⟩ := nmI_s h72
              clear h72
              refine lv_iinc (v := v154_75) (lv' := [(6, .int v154_75), (5, .int r36_49), (0, .ref a0), (1, .int p1), (2, .int p2), (3, .int p3), (4, .int x4_68), (7, .int r36_49)]) hx hb dX12_goesOver_154 hl74 (k := 6) rfl (by rw [e76]; rfl) (by decide) rfl (fun ls hl78 => ?_)
              clear hl74 e76
              refine lv_goto (tgt := 9) hx hb dX12_goesOver_157 (by decide) ?_
              exact ih9 x4_68 r36_49 v154_75 o_atA36_50 o_atB36_51 o_atD36_52 o_atF36_53 o_atG36_54 o_atH36_55 o_atL36_56 o_atM36_57 o_atN36_58 o_atS36_59 o_atT36_60 o_atU36_61 o_atX36_62 first__69 greatest__70 last__44 _ _ _ h77 hVB83 (lv_sub hl78 [2, 3, 4, 5, 6, 1, 0] rfl)
            · have h73 := ieS c71 hB83
              clear hB83 c71
              refine lv_sipush (v := 720) hx hb dX12_goesOver_88 (by decide) ?_
              refine lv_iload_n hx hb dX12_goesOver_91 rfl (lv_at hlB83 3 rfl) ?_
              refine lv_imul hx hb dX12_goesOver_92 ?_
              refine lv_iload hx hb dX12_goesOver_93 (lv_at hlB83 4 rfl) ?_
              refine lv_iadd hx hb dX12_goesOver_95 ?_
              refine lv_iconst (v := 1) hx hb dX12_goesOver_96 (by decide) ?_
              refine lv_isub hx hb dX12_goesOver_97 ?_
              obtain ⟨v98_79, e80, h81⟩ := nmI_s h73
              clear h73
              refine ktopi e80 ?_
              clear e80
              refine lv_istore (lv' := [(8, .int v98_79), (0, .ref a0), (1, .int p1), (2, .int p2), (3, .int p3), (4, .int x4_68), (6, .int x6_28), (7, .int r36_49)]) hx hb dX12_goesOver_98 hlB83 (by decide) rfl (fun ls hl82 => ?_)
              clear hlB83
              refine lv_aload_n hx hb dX12_goesOver_100 rfl (lv_at hl82 1 rfl) ?_
              refine kget X hVB83 (ci := 12) inlX12 rfl 0 rfl 53 (by decide) mw_165 rfl dX12_goesOver_101 ?_
              refine lv_iload hx hb dX12_goesOver_104 (lv_at hl82 0 rfl) ?_
              refine lv_iload hx hb dX12_goesOver_106 (lv_at hl82 6 rfl) ?_
              obtain ⟨hi84, g108_83, e85, h86⟩ := wrI_s h81
              clear h81
              refine kiast X hVB83 4 rfl hi84 e85 dX12_goesOver_108 (fun H locs hV87 => ?_)
              have hV87 : kV E A s.heap H locs [(a0, .inr (12, [w0_0, w0_1, w0_2, w0_3, w0_4, w0_5, w0_6, .ref a5, w0_8, w0_9, w0_10, w0_11, w0_12, w0_13, w0_14, w0_15, w0_16, w0_17, w0_18, w0_19, w0_20, w0_21, w0_22, w0_23, w0_24, w0_25, w0_26, w0_27, .int o_atA36_50, .int o_atB36_51, .int o_atD36_52, .int o_atF36_53, .int o_atG36_54, .int o_atH36_55, .int o_atL36_56, .int o_atM36_57, .int o_atN36_58, .int o_atS36_59, .int o_atT36_60, .int o_atU36_61, .int o_atX36_62, w0_41, w0_42, w0_43, w0_44, w0_45, w0_46, w0_47, w0_48, w0_49, .ref a3, .ref a7, .ref a1, .ref a4, .ref a2, .ref a6, w0_56, w0_57, w0_58, w0_59, w0_60, w0_61, w0_62, w0_63, w0_64, w0_65, w0_66])), (a1, .inl (E.2 0, 1440, .inl first__69)), (a2, .inl (E.2 0, 1440, .inl greatest__70)), (a3, .inl (E.2 0, 1440, .inl s_highAt)), (a4, .inl (E.2 0, 1440, .inl g108_83)), (a5, .inl (E.2 0, 20, .inl s_many)), (a6, .inl (E.2 0, 2, .inl s_marked)), (a7, .inl (E.2 0, 1440, .inl s_shapeAt))] := hV87
              clear hVB83 hi84 e85
              refine lv_aload_n hx hb dX12_goesOver_109 rfl (lv_at hl82 1 rfl) ?_
              refine kget X hV87 (ci := 12) inlX12 rfl 0 rfl 54 (by decide) mw_166 rfl dX12_goesOver_110 ?_
              refine lv_iload hx hb dX12_goesOver_113 (lv_at hl82 0 rfl) ?_
              refine lv_aload_n hx hb dX12_goesOver_115 rfl (lv_at hl82 1 rfl) ?_
              refine kget X hV87 (ci := 12) inlX12 rfl 0 rfl 50 (by decide) mw_162 rfl dX12_goesOver_116 ?_
              refine lv_iload hx hb dX12_goesOver_119 (lv_at hl82 6 rfl) ?_
              obtain ⟨hi89, v121_88, e90, h91⟩ := rdI_s h86
              clear h86
              refine kiald X hV87 3 rfl hi89 e90 dX12_goesOver_121 ?_
              clear hi89 e90
              refine lv_aload_n hx hb dX12_goesOver_122 rfl (lv_at hl82 1 rfl) ?_
              refine kget X hV87 (ci := 12) inlX12 rfl 0 rfl 54 (by decide) mw_166 rfl dX12_goesOver_123 ?_
              refine lv_iload hx hb dX12_goesOver_126 (lv_at hl82 0 rfl) ?_
              obtain ⟨hi93, v128_92, e94, h95⟩ := rdI_s h91
              clear h91
              refine kiald X hV87 2 rfl hi93 e94 dX12_goesOver_128 ?_
              clear hi93 e94
              have J149 : ∀ (t2_96 : Int32) (H : Heap) (locs : List Loc) (ls : Array Slot), (f_X12_goesOver_J149 x6_28 r36_49 o_atA36_50 o_atB36_51 o_atD36_52 o_atF36_53 o_atG36_54 o_atH36_55 o_atL36_56 o_atM36_57 o_atN36_58 o_atS36_59 o_atT36_60 o_atU36_61 o_atX36_62 x4_68 first__69 greatest__70 v98_79 g108_83 (f_X12_goesOver_L9 s_highAt s_many s_shapeAt p1 p2 p3 (f_X12_goesOver_J160 s_marked p3 ) n9)) t2_96 = some (o_atA, o_atB, o_atD, o_atF, o_atG, o_atH, o_atL, o_atM, o_atN, o_atS, o_atT, o_atU, o_atX, o_first, o_greatest, o_last, o_marked) → kV E A s.heap H locs [(a0, .inr (12, [w0_0, w0_1, w0_2, w0_3, w0_4, w0_5, w0_6, .ref a5, w0_8, w0_9, w0_10, w0_11, w0_12, w0_13, w0_14, w0_15, w0_16, w0_17, w0_18, w0_19, w0_20, w0_21, w0_22, w0_23, w0_24, w0_25, w0_26, w0_27, .int o_atA36_50, .int o_atB36_51, .int o_atD36_52, .int o_atF36_53, .int o_atG36_54, .int o_atH36_55, .int o_atL36_56, .int o_atM36_57, .int o_atN36_58, .int o_atS36_59, .int o_atT36_60, .int o_atU36_61, .int o_atX36_62, w0_41, w0_42, w0_43, w0_44, w0_45, w0_46, w0_47, w0_48, w0_49, .ref a3, .ref a7, .ref a1, .ref a4, .ref a2, .ref a6, w0_56, w0_57, w0_58, w0_59, w0_60, w0_61, w0_62, w0_63, w0_64, w0_65, w0_66])), (a1, .inl (E.2 0, 1440, .inl first__69)), (a2, .inl (E.2 0, 1440, .inl greatest__70)), (a3, .inl (E.2 0, 1440, .inl s_highAt)), (a4, .inl (E.2 0, 1440, .inl g108_83)), (a5, .inl (E.2 0, 20, .inl s_many)), (a6, .inl (E.2 0, 2, .inl s_marked)), (a7, .inl (E.2 0, 1440, .inl s_shapeAt))] → lv_has ls 9 [(0, .ref a0), (1, .int p1), (2, .int p2), (3, .int p3), (4, .int x4_68), (6, .int x6_28), (7, .int r36_49)] → W p l e r_X12_goesOver s m args below meth c H locs 0 0 Q (F0 m 149 ls [.int t2_96, .int v98_79, .ref a2]) := by
                intro t2_96 H locs ls hB149 hVB149 hlB149
                rw [f_X12_goesOver_J149] at hB149
                obtain ⟨hi98, g149_97, e99, h100⟩ := wrI_s hB149
                clear hB149
                refine kiast X hVB149 2 rfl hi98 e99 dX12_goesOver_149 (fun H locs hV101 => ?_)
                have hV101 : kV E A s.heap H locs [(a0, .inr (12, [w0_0, w0_1, w0_2, w0_3, w0_4, w0_5, w0_6, .ref a5, w0_8, w0_9, w0_10, w0_11, w0_12, w0_13, w0_14, w0_15, w0_16, w0_17, w0_18, w0_19, w0_20, w0_21, w0_22, w0_23, w0_24, w0_25, w0_26, w0_27, .int o_atA36_50, .int o_atB36_51, .int o_atD36_52, .int o_atF36_53, .int o_atG36_54, .int o_atH36_55, .int o_atL36_56, .int o_atM36_57, .int o_atN36_58, .int o_atS36_59, .int o_atT36_60, .int o_atU36_61, .int o_atX36_62, w0_41, w0_42, w0_43, w0_44, w0_45, w0_46, w0_47, w0_48, w0_49, .ref a3, .ref a7, .ref a1, .ref a4, .ref a2, .ref a6, w0_56, w0_57, w0_58, w0_59, w0_60, w0_61, w0_62, w0_63, w0_64, w0_65, w0_66])), (a1, .inl (E.2 0, 1440, .inl first__69)), (a2, .inl (E.2 0, 1440, .inl g149_97)), (a3, .inl (E.2 0, 1440, .inl s_highAt)), (a4, .inl (E.2 0, 1440, .inl g108_83)), (a5, .inl (E.2 0, 20, .inl s_many)), (a6, .inl (E.2 0, 2, .inl s_marked)), (a7, .inl (E.2 0, 1440, .inl s_shapeAt))] := hV101
                clear hVB149 hi98 e99
                refine lv_iload hx hb dX12_goesOver_150 (lv_at hlB149 6 rfl) ?_
                refine lv_istore (lv' := [(5, .int r36_49), (0, .ref a0), (1, .int p1), (2, .int p2), (3, .int p3), (4, .int x4_68), (6, .int x6_28), (7, .int r36_49)]) hx hb dX12_goesOver_152 hlB149 (by decide) rfl (fun ls hl102 => ?_)
                clear hlB149
                obtain ⟨v154_103, e104, h105⟩ := nmI_s h100
                clear h100
                refine lv_iinc (v := v154_103) (lv' := [(6, .int v154_103), (5, .int r36_49), (0, .ref a0), (1, .int p1), (2, .int p2), (3, .int p3), (4, .int x4_68), (7, .int r36_49)]) hx hb dX12_goesOver_154 hl102 (k := 6) rfl (by rw [e104]; rfl) (by decide) rfl (fun ls hl106 => ?_)
                clear hl102 e104
                refine lv_goto (tgt := 9) hx hb dX12_goesOver_157 (by decide) ?_
                exact ih9 x4_68 r36_49 v154_103 o_atA36_50 o_atB36_51 o_atD36_52 o_atF36_53 o_atG36_54 o_atH36_55 o_atL36_56 o_atM36_57 o_atN36_58 o_atS36_59 o_atT36_60 o_atU36_61 o_atX36_62 first__69 g149_97 g108_83 _ _ _ h105 hV101 (lv_sub hl106 [2, 3, 4, 5, 6, 1, 0] rfl)
              refine lv_icmp_le (tgt := 142) hx hb dX12_goesOver_129 (by decide) (fun c107 => ?_) (fun c107 => ?_)
              · have h108 := itS c107 h95
                clear h95 c107
                refine lv_aload_n hx hb dX12_goesOver_142 rfl (lv_at hl82 1 rfl) ?_
                refine kget X hV87 (ci := 12) inlX12 rfl 0 rfl 54 (by decide) mw_166 rfl dX12_goesOver_143 ?_
                refine lv_iload hx hb dX12_goesOver_146 (lv_at hl82 0 rfl) ?_
                obtain ⟨hi111, v148_110, e112, h113⟩ := rdI_s h108
                clear h108
                refine kiald X hV87 2 rfl hi111 e112 dX12_goesOver_148 ?_
                clear hi111 e112
                exact J149 v148_110 _ _ _ h113 hV87 (lv_sub hl82 [1, 2, 3, 4, 5, 6, 7] rfl)
              · have h109 := ieS c107 h95
                clear h95 c107
                refine lv_aload_n hx hb dX12_goesOver_132 rfl (lv_at hl82 1 rfl) ?_
                refine kget X hV87 (ci := 12) inlX12 rfl 0 rfl 50 (by decide) mw_162 rfl dX12_goesOver_133 ?_
                refine lv_iload hx hb dX12_goesOver_136 (lv_at hl82 6 rfl) ?_
                obtain ⟨hi115, v138_114, e116, h117⟩ := rdI_s h109
                clear h109
                refine kiald X hV87 3 rfl hi115 e116 dX12_goesOver_138 ?_
                clear hi115 e116
                refine lv_goto (tgt := 149) hx hb dX12_goesOver_139 (by decide) ?_
                exact J149 v138_114 _ _ _ h117 hV87 (lv_sub hl82 [1, 2, 3, 4, 5, 6, 7] rfl)
          refine lv_if_eq (tgt := 83) hx hb dX12_goesOver_43 (by decide) (fun c118 => ?_) (fun c118 => ?_)
          · have h119 := itS c118 h64
            clear h64 c118
            exact J83 x4_26 first__42 greatest__43 _ _ _ h119 hV65 (lv_sub hl67 [1, 2, 3, 4, 5, 7, 0] rfl)
          · have h120 := ieS c118 h64
            clear h64 c118
            refine lv_iload hx hb dX12_goesOver_46 (lv_at hl67 6 rfl) ?_
            refine lv_if_ne (tgt := 83) hx hb dX12_goesOver_48 (by decide) (fun c121 => ?_) (fun c121 => ?_)
            · have h122 := ieS c121 h120
              clear h120 c121
              exact J83 x4_26 first__42 greatest__43 _ _ _ h122 hV65 (lv_sub hl67 [1, 2, 3, 4, 5, 7, 0] rfl)
            · have h123 := itS c121 h120
              clear h120 c121
              refine lv_aload_n hx hb dX12_goesOver_51 rfl (lv_at hl67 1 rfl) ?_
              refine kget X hV65 (ci := 12) inlX12 rfl 0 rfl 52 (by decide) mw_164 rfl dX12_goesOver_52 ?_
              refine lv_sipush (v := 720) hx hb dX12_goesOver_55 (by decide) ?_
              refine lv_iload_n hx hb dX12_goesOver_58 rfl (lv_at hl67 4 rfl) ?_
              refine lv_imul hx hb dX12_goesOver_59 ?_
              refine lv_iload hx hb dX12_goesOver_60 (lv_at hl67 5 rfl) ?_
              refine lv_iadd hx hb dX12_goesOver_62 ?_
              refine lv_iload hx hb dX12_goesOver_63 (lv_at hl67 7 rfl) ?_
              obtain ⟨hi125, g65_124, e126, h127⟩ := wrI_s h123
              clear h123
              refine kiast X hV65 1 rfl hi125 e126 dX12_goesOver_65 (fun H locs hV128 => ?_)
              have hV128 : kV E A s.heap H locs [(a0, .inr (12, [w0_0, w0_1, w0_2, w0_3, w0_4, w0_5, w0_6, .ref a5, w0_8, w0_9, w0_10, w0_11, w0_12, w0_13, w0_14, w0_15, w0_16, w0_17, w0_18, w0_19, w0_20, w0_21, w0_22, w0_23, w0_24, w0_25, w0_26, w0_27, .int o_atA36_50, .int o_atB36_51, .int o_atD36_52, .int o_atF36_53, .int o_atG36_54, .int o_atH36_55, .int o_atL36_56, .int o_atM36_57, .int o_atN36_58, .int o_atS36_59, .int o_atT36_60, .int o_atU36_61, .int o_atX36_62, w0_41, w0_42, w0_43, w0_44, w0_45, w0_46, w0_47, w0_48, w0_49, .ref a3, .ref a7, .ref a1, .ref a4, .ref a2, .ref a6, w0_56, w0_57, w0_58, w0_59, w0_60, w0_61, w0_62, w0_63, w0_64, w0_65, w0_66])), (a1, .inl (E.2 0, 1440, .inl g65_124)), (a2, .inl (E.2 0, 1440, .inl greatest__43)), (a3, .inl (E.2 0, 1440, .inl s_highAt)), (a4, .inl (E.2 0, 1440, .inl last__44)), (a5, .inl (E.2 0, 20, .inl s_many)), (a6, .inl (E.2 0, 2, .inl s_marked)), (a7, .inl (E.2 0, 1440, .inl s_shapeAt))] := hV128
              clear hV65 hi125 e126
              refine lv_aload_n hx hb dX12_goesOver_66 rfl (lv_at hl67 1 rfl) ?_
              refine kget X hV128 (ci := 12) inlX12 rfl 0 rfl 54 (by decide) mw_166 rfl dX12_goesOver_67 ?_
              refine lv_sipush (v := 720) hx hb dX12_goesOver_70 (by decide) ?_
              refine lv_iload_n hx hb dX12_goesOver_73 rfl (lv_at hl67 4 rfl) ?_
              refine lv_imul hx hb dX12_goesOver_74 ?_
              refine lv_iload hx hb dX12_goesOver_75 (lv_at hl67 5 rfl) ?_
              refine lv_iadd hx hb dX12_goesOver_77 ?_
              refine lv_iconst (v := 0) hx hb dX12_goesOver_78 (by decide) ?_
              obtain ⟨hi130, g79_129, e131, h132⟩ := wrI_s h127
              clear h127
              refine kiast X hV128 2 rfl hi130 e131 dX12_goesOver_79 (fun H locs hV133 => ?_)
              have hV133 : kV E A s.heap H locs [(a0, .inr (12, [w0_0, w0_1, w0_2, w0_3, w0_4, w0_5, w0_6, .ref a5, w0_8, w0_9, w0_10, w0_11, w0_12, w0_13, w0_14, w0_15, w0_16, w0_17, w0_18, w0_19, w0_20, w0_21, w0_22, w0_23, w0_24, w0_25, w0_26, w0_27, .int o_atA36_50, .int o_atB36_51, .int o_atD36_52, .int o_atF36_53, .int o_atG36_54, .int o_atH36_55, .int o_atL36_56, .int o_atM36_57, .int o_atN36_58, .int o_atS36_59, .int o_atT36_60, .int o_atU36_61, .int o_atX36_62, w0_41, w0_42, w0_43, w0_44, w0_45, w0_46, w0_47, w0_48, w0_49, .ref a3, .ref a7, .ref a1, .ref a4, .ref a2, .ref a6, w0_56, w0_57, w0_58, w0_59, w0_60, w0_61, w0_62, w0_63, w0_64, w0_65, w0_66])), (a1, .inl (E.2 0, 1440, .inl g65_124)), (a2, .inl (E.2 0, 1440, .inl g79_129)), (a3, .inl (E.2 0, 1440, .inl s_highAt)), (a4, .inl (E.2 0, 1440, .inl last__44)), (a5, .inl (E.2 0, 20, .inl s_many)), (a6, .inl (E.2 0, 2, .inl s_marked)), (a7, .inl (E.2 0, 1440, .inl s_shapeAt))] := hV133
              clear hV128 hi130 e131
              obtain ⟨v80_134, e135, h136⟩ := nmI_s h132
              clear h132
              refine lv_iinc (v := v80_134) (lv' := [(4, .int v80_134), (7, .int r36_49), (0, .ref a0), (1, .int p1), (2, .int p2), (3, .int p3), (5, .int x5_27), (6, .int x6_28)]) hx hb dX12_goesOver_80 hl67 (k := 5) rfl (by rw [e135]; rfl) (by decide) rfl (fun ls hl137 => ?_)
              clear hl67 e135
              exact J83 v80_134 g65_124 g79_129 _ _ _ h136 hV133 (lv_sub hl137 [2, 3, 4, 5, 0, 7, 1] rfl)
        refine lv_if_eq (tgt := 34) hx hb dX12_goesOver_24 (by decide) (fun c138 => ?_) (fun c138 => ?_)
        · have h139 := itS c138 h47
          clear h47 c138
          refine lv_iload hx hb dX12_goesOver_34 (lv_at hlB9 4 rfl) ?_
          exact J36 x4_26 _ _ _ h139 hVB9 (lv_sub hlB9 [0, 1, 2, 3, 4, 5, 6] rfl)
        · have h140 := ieS c138 h47
          clear h47 c138
          refine lv_iload hx hb dX12_goesOver_27 (lv_at hlB9 4 rfl) ?_
          refine lv_iconst (v := 1) hx hb dX12_goesOver_29 (by decide) ?_
          refine lv_isub hx hb dX12_goesOver_30 ?_
          refine lv_goto (tgt := 36) hx hb dX12_goesOver_31 (by decide) ?_
          exact J36 (x4_26 - 1) _ _ _ h140 hVB9 (lv_sub hlB9 [0, 1, 2, 3, 4, 5, 6] rfl)
  exact L9 FU 0 0 0 s_atA s_atB s_atD s_atF s_atG s_atH s_atL s_atM s_atN s_atS s_atT s_atU s_atX s_first s_greatest s_last _ _ _ h hV (lv_sub hl3 [3, 4, 5, 6, 2, 1, 0] rfl)
abbrev r_X12_marks : Room := { frames := 3, cells := 0, slots := 0, locals := 74 }
set_option maxHeartbeats 4000000 in
set_option maxRecDepth 100000 in
theorem c_X12_marks (l : Launch) (E : kE) (sz : Nat) (a0 a1 a2 a3 a4 a5 a6 a7 : Nat) (w0_0 w0_1 w0_3 w0_4 w0_5 w0_6 w0_8 w0_9 w0_10 w0_11 w0_12 w0_13 w0_14 w0_15 w0_16 w0_17 w0_18 w0_19 w0_20 w0_21 w0_22 w0_23 w0_24 w0_25 w0_26 w0_27 w0_41 w0_42 w0_43 w0_44 w0_45 w0_46 w0_47 w0_56 w0_57 w0_58 w0_59 w0_60 w0_61 w0_62 w0_63 w0_64 w0_65 w0_66 : Value) (s_sources : Int32) (s_atA : Int32) (s_atB : Int32) (s_atD : Int32) (s_atF : Int32) (s_atG : Int32) (s_atH : Int32) (s_atL : Int32) (s_atM : Int32) (s_atN : Int32) (s_atS : Int32) (s_atT : Int32) (s_atU : Int32) (s_atX : Int32) (s_paperHigh : Int32) (s_paperShape : Int32) (s_first : Nat → Int32) (s_greatest : Nat → Int32) (s_highAt : Nat → Int32) (s_last : Nat → Int32) (s_many : Nat → Int32) (s_marked : Nat → Int32) (s_shapeAt : Nat → Int32) (p1 : Int32) (p2 : Int32) (p3 : Int32) (r : Int32) (o_atA : Int32) (o_atB : Int32) (o_atD : Int32) (o_atF : Int32) (o_atG : Int32) (o_atH : Int32) (o_atL : Int32) (o_atM : Int32) (o_atN : Int32) (o_atS : Int32) (o_atT : Int32) (o_atU : Int32) (o_atX : Int32) (o_paperHigh : Int32) (o_paperShape : Int32) (o_first : Nat → Int32) (o_greatest : Nat → Int32) (o_highAt : Nat → Int32) (o_last : Nat → Int32) (o_marked : Nat → Int32) (o_shapeAt : Nat → Int32) (h : f_X12_marks s_sources s_atA s_atB s_atD s_atF s_atG s_atH s_atL s_atM s_atN s_atS s_atT s_atU s_atX s_paperHigh s_paperShape s_first s_greatest s_highAt s_last s_many s_marked s_shapeAt p1 p2 p3 = some (r, o_atA, o_atB, o_atD, o_atF, o_atG, o_atH, o_atL, o_atM, o_atN, o_atS, o_atT, o_atU, o_atX, o_paperHigh, o_paperShape, o_first, o_greatest, o_highAt, o_last, o_marked, o_shapeAt)) : kMi l yX12_marks cX12_marks 4 (some .int) r_X12_marks [.ref a0, .int p1, .int p2, .int p3] E [(a0, .inr (12, [w0_0, w0_1, .int s_sources, w0_3, w0_4, w0_5, w0_6, .ref a5, w0_8, w0_9, w0_10, w0_11, w0_12, w0_13, w0_14, w0_15, w0_16, w0_17, w0_18, w0_19, w0_20, w0_21, w0_22, w0_23, w0_24, w0_25, w0_26, w0_27, .int s_atA, .int s_atB, .int s_atD, .int s_atF, .int s_atG, .int s_atH, .int s_atL, .int s_atM, .int s_atN, .int s_atS, .int s_atT, .int s_atU, .int s_atX, w0_41, w0_42, w0_43, w0_44, w0_45, w0_46, w0_47, .int s_paperHigh, .int s_paperShape, .ref a3, .ref a7, .ref a1, .ref a4, .ref a2, .ref a6, w0_56, w0_57, w0_58, w0_59, w0_60, w0_61, w0_62, w0_63, w0_64, w0_65, w0_66])), (a1, .inl (E.2 0, 1440, .inl s_first)), (a2, .inl (E.2 0, 1440, .inl s_greatest)), (a3, .inl (E.2 0, 1440, .inl s_highAt)), (a4, .inl (E.2 0, 1440, .inl s_last)), (a5, .inl (E.2 0, 20, .inl s_many)), (a6, .inl (E.2 0, 2, .inl s_marked)), (a7, .inl (E.2 0, 1440, .inl s_shapeAt))] sz 0 0 (fun x (_ : Unit) => x = r) (fun _ => [(a0, .inr (12, [w0_0, w0_1, .int s_sources, w0_3, w0_4, w0_5, w0_6, .ref a5, w0_8, w0_9, w0_10, w0_11, w0_12, w0_13, w0_14, w0_15, w0_16, w0_17, w0_18, w0_19, w0_20, w0_21, w0_22, w0_23, w0_24, w0_25, w0_26, w0_27, .int o_atA, .int o_atB, .int o_atD, .int o_atF, .int o_atG, .int o_atH, .int o_atL, .int o_atM, .int o_atN, .int o_atS, .int o_atT, .int o_atU, .int o_atX, w0_41, w0_42, w0_43, w0_44, w0_45, w0_46, w0_47, .int o_paperHigh, .int o_paperShape, .ref a3, .ref a7, .ref a1, .ref a4, .ref a2, .ref a6, w0_56, w0_57, w0_58, w0_59, w0_60, w0_61, w0_62, w0_63, w0_64, w0_65, w0_66])), (a1, .inl (E.2 0, 1440, .inl o_first)), (a2, .inl (E.2 0, 1440, .inl o_greatest)), (a3, .inl (E.2 0, 1440, .inl o_highAt)), (a4, .inl (E.2 0, 1440, .inl o_last)), (a5, .inl (E.2 0, 20, .inl s_many)), (a6, .inl (E.2 0, 2, .inl o_marked)), (a7, .inl (E.2 0, 1440, .inl o_shapeAt))]) := by
  refine kmeti rfl (Nat.le_of_ble_eq_true rfl) ?_
  intro p e s m args below meth c ls A Q X hV hret hl
  have X : kC p s m c cX12_marks 4 RX12 args E A := X
  have hx := X.1
  have hb := X.2.1
  have hl : lv_has ls 4 [(0, .ref a0), (1, .int p1), (2, .int p2), (3, .int p3)] := hl
  rw [f_X12_marks] at h
  refine lv_iload_n hx hb dX12_marks_0 rfl (lv_at hl 1 rfl) ?_
  obtain ⟨r1_1, hc2, h3⟩ := cb1_s h
  clear h
  refine kgoiE (krunS (rest := []) X hV [] (c_X12_isReader l E _ p1 r1_1 hc2) mw_595 kb_X12_isReader (by decide) rfl rfl hl.1 rfl (Nat.le_of_ble_eq_true rfl) dX12_marks_1 (by decide)) X hV [] [0, 1, 2, 3, 4, 5, 6, 7] rfl rfl rfl (by decide) (fun u H locs hV4 => ?_)
  have hV4 : kV E A s.heap H locs [(a0, .inr (12, [w0_0, w0_1, .int s_sources, w0_3, w0_4, w0_5, w0_6, .ref a5, w0_8, w0_9, w0_10, w0_11, w0_12, w0_13, w0_14, w0_15, w0_16, w0_17, w0_18, w0_19, w0_20, w0_21, w0_22, w0_23, w0_24, w0_25, w0_26, w0_27, .int s_atA, .int s_atB, .int s_atD, .int s_atF, .int s_atG, .int s_atH, .int s_atL, .int s_atM, .int s_atN, .int s_atS, .int s_atT, .int s_atU, .int s_atX, w0_41, w0_42, w0_43, w0_44, w0_45, w0_46, w0_47, .int s_paperHigh, .int s_paperShape, .ref a3, .ref a7, .ref a1, .ref a4, .ref a2, .ref a6, w0_56, w0_57, w0_58, w0_59, w0_60, w0_61, w0_62, w0_63, w0_64, w0_65, w0_66])), (a1, .inl (E.2 0, 1440, .inl s_first)), (a2, .inl (E.2 0, 1440, .inl s_greatest)), (a3, .inl (E.2 0, 1440, .inl s_highAt)), (a4, .inl (E.2 0, 1440, .inl s_last)), (a5, .inl (E.2 0, 20, .inl s_many)), (a6, .inl (E.2 0, 2, .inl s_marked)), (a7, .inl (E.2 0, 1440, .inl s_shapeAt))] := hV4.sub [0, 1, 2, 3, 4, 5, 6, 7] rfl rfl
  clear hV
  refine lv_if_eq (tgt := 19) hx hb dX12_marks_4 (by decide) (fun c6 => ?_) (fun c6 => ?_)
  · have h7 := itS c6 h3
    clear h3 c6
    refine lv_iconst (v := (-1)) hx hb dX12_marks_19 (by decide) ?_
    cases h7
    exact hret _ () _ _ _ _ rfl rfl hV4 dX12_marks_20
  · have h8 := ieS c6 h3
    clear h3 c6
    refine lv_iload_n hx hb dX12_marks_7 rfl (lv_at hl 2 rfl) ?_
    obtain ⟨r8_9, hc10, h11⟩ := cb1_s h8
    clear h8
    refine kgoiE (krunS (rest := []) X hV4 [] (c_X12_isDay l E _ p2 r8_9 hc10) mw_632 kb_X12_isDay (by decide) rfl rfl hl.1 rfl (Nat.le_of_ble_eq_true rfl) dX12_marks_8 (by decide)) X hV4 [] [0, 1, 2, 3, 4, 5, 6, 7] rfl rfl rfl (by decide) (fun u H locs hV12 => ?_)
    have hV12 : kV E A s.heap H locs [(a0, .inr (12, [w0_0, w0_1, .int s_sources, w0_3, w0_4, w0_5, w0_6, .ref a5, w0_8, w0_9, w0_10, w0_11, w0_12, w0_13, w0_14, w0_15, w0_16, w0_17, w0_18, w0_19, w0_20, w0_21, w0_22, w0_23, w0_24, w0_25, w0_26, w0_27, .int s_atA, .int s_atB, .int s_atD, .int s_atF, .int s_atG, .int s_atH, .int s_atL, .int s_atM, .int s_atN, .int s_atS, .int s_atT, .int s_atU, .int s_atX, w0_41, w0_42, w0_43, w0_44, w0_45, w0_46, w0_47, .int s_paperHigh, .int s_paperShape, .ref a3, .ref a7, .ref a1, .ref a4, .ref a2, .ref a6, w0_56, w0_57, w0_58, w0_59, w0_60, w0_61, w0_62, w0_63, w0_64, w0_65, w0_66])), (a1, .inl (E.2 0, 1440, .inl s_first)), (a2, .inl (E.2 0, 1440, .inl s_greatest)), (a3, .inl (E.2 0, 1440, .inl s_highAt)), (a4, .inl (E.2 0, 1440, .inl s_last)), (a5, .inl (E.2 0, 20, .inl s_many)), (a6, .inl (E.2 0, 2, .inl s_marked)), (a7, .inl (E.2 0, 1440, .inl s_shapeAt))] := hV12.sub [0, 1, 2, 3, 4, 5, 6, 7] rfl rfl
    clear hV4
    refine lv_if_eq (tgt := 19) hx hb dX12_marks_11 (by decide) (fun c14 => ?_) (fun c14 => ?_)
    · have h15 := itS c14 h11
      clear h11 c14
      refine lv_iconst (v := (-1)) hx hb dX12_marks_19 (by decide) ?_
      cases h15
      exact hret _ () _ _ _ _ rfl rfl hV12 dX12_marks_20
    · have h16 := ieS c14 h11
      clear h11 c14
      refine lv_iload_n hx hb dX12_marks_14 rfl (lv_at hl 3 rfl) ?_
      refine lv_iconst (v := (-1)) hx hb dX12_marks_15 (by decide) ?_
      refine lv_icmp_ge (tgt := 21) hx hb dX12_marks_16 (by decide) (fun c17 => ?_) (fun c17 => ?_)
      · have h18 := itS c17 h16
        clear h16 c17
        refine lv_aload_n hx hb dX12_marks_21 rfl (lv_at hl 0 rfl) ?_
        refine lv_iload_n hx hb dX12_marks_22 rfl (lv_at hl 2 rfl) ?_
        obtain ⟨o_paperHigh23_20, o_paperShape23_21, o_highAt23_22, o_shapeAt23_23, hc24, h25⟩ := cb4_s h18
        clear h18
        refine kgov (krunV (rest := []) X hV12 [0, 3, 7] (c_X12_lays l E _ a0 a3 a7 (w0_0) (w0_1) (w0_3) (w0_4) (w0_5) (w0_6) (.ref a5) (w0_8) (w0_9) (w0_10) (w0_11) (w0_12) (w0_13) (w0_14) (w0_15) (w0_16) (w0_17) (w0_18) (w0_19) (w0_20) (w0_21) (w0_22) (w0_23) (w0_24) (w0_25) (w0_26) (w0_27) (.int s_atA) (.int s_atB) (.int s_atD) (.int s_atF) (.int s_atG) (.int s_atH) (.int s_atL) (.int s_atM) (.int s_atN) (.int s_atS) (.int s_atT) (.int s_atU) (.int s_atX) (w0_41) (w0_42) (w0_43) (w0_44) (w0_45) (w0_46) (w0_47) (.ref a1) (.ref a4) (.ref a2) (.ref a6) (w0_56) (w0_57) (w0_58) (w0_59) (w0_60) (w0_61) (w0_62) (w0_63) (w0_64) (w0_65) (w0_66) s_sources s_paperHigh s_paperShape s_highAt s_shapeAt p2 o_paperHigh23_20 o_paperShape23_21 o_highAt23_22 o_shapeAt23_23 hc24) mw_850 kb_X12_lays (ci := 12) rfl rfl (by decide) rfl rfl hl.1 rfl (Nat.le_of_ble_eq_true rfl) dX12_marks_23 (by decide)) X hV12 [0, 3, 7] [1, 2, 4, 5, 6] rfl rfl rfl (by decide) (fun u H locs hp27 hV26 => ?_)
        have hV26 : kV E A s.heap H locs [(a0, .inr (12, [w0_0, w0_1, .int s_sources, w0_3, w0_4, w0_5, w0_6, .ref a5, w0_8, w0_9, w0_10, w0_11, w0_12, w0_13, w0_14, w0_15, w0_16, w0_17, w0_18, w0_19, w0_20, w0_21, w0_22, w0_23, w0_24, w0_25, w0_26, w0_27, .int s_atA, .int s_atB, .int s_atD, .int s_atF, .int s_atG, .int s_atH, .int s_atL, .int s_atM, .int s_atN, .int s_atS, .int s_atT, .int s_atU, .int s_atX, w0_41, w0_42, w0_43, w0_44, w0_45, w0_46, w0_47, .int o_paperHigh23_20, .int o_paperShape23_21, .ref a3, .ref a7, .ref a1, .ref a4, .ref a2, .ref a6, w0_56, w0_57, w0_58, w0_59, w0_60, w0_61, w0_62, w0_63, w0_64, w0_65, w0_66])), (a1, .inl (E.2 0, 1440, .inl s_first)), (a2, .inl (E.2 0, 1440, .inl s_greatest)), (a3, .inl (E.2 0, 1440, .inl o_highAt23_22)), (a4, .inl (E.2 0, 1440, .inl s_last)), (a5, .inl (E.2 0, 20, .inl s_many)), (a6, .inl (E.2 0, 2, .inl s_marked)), (a7, .inl (E.2 0, 1440, .inl o_shapeAt23_23))] := hV26.sub [5, 0, 1, 6, 2, 3, 4, 7] rfl rfl
        clear hV12
        refine lv_aload_n hx hb dX12_marks_26 rfl (lv_at hl 0 rfl) ?_
        refine lv_iload_n hx hb dX12_marks_27 rfl (lv_at hl 1 rfl) ?_
        refine lv_iload_n hx hb dX12_marks_28 rfl (lv_at hl 2 rfl) ?_
        refine lv_iconst (v := 0) hx hb dX12_marks_29 (by decide) ?_
        obtain ⟨o_atA30_28, o_atB30_29, o_atD30_30, o_atF30_31, o_atG30_32, o_atH30_33, o_atL30_34, o_atM30_35, o_atN30_36, o_atS30_37, o_atT30_38, o_atU30_39, o_atX30_40, o_first30_41, o_greatest30_42, o_last30_43, o_marked30_44, hc45, h46⟩ := cb17_s h25
        clear h25
        refine kgov (krunV (rest := []) X hV26 [0, 1, 2, 3, 4, 5, 6, 7] (c_X12_goesOver l E _ a0 a1 a2 a3 a4 a5 a6 a7 (w0_0) (w0_1) (.int s_sources) (w0_3) (w0_4) (w0_5) (w0_6) (w0_8) (w0_9) (w0_10) (w0_11) (w0_12) (w0_13) (w0_14) (w0_15) (w0_16) (w0_17) (w0_18) (w0_19) (w0_20) (w0_21) (w0_22) (w0_23) (w0_24) (w0_25) (w0_26) (w0_27) (w0_41) (w0_42) (w0_43) (w0_44) (w0_45) (w0_46) (w0_47) (.int o_paperHigh23_20) (.int o_paperShape23_21) (w0_56) (w0_57) (w0_58) (w0_59) (w0_60) (w0_61) (w0_62) (w0_63) (w0_64) (w0_65) (w0_66) s_atA s_atB s_atD s_atF s_atG s_atH s_atL s_atM s_atN s_atS s_atT s_atU s_atX s_first s_greatest o_highAt23_22 s_last s_many s_marked o_shapeAt23_23 p1 p2 0 o_atA30_28 o_atB30_29 o_atD30_30 o_atF30_31 o_atG30_32 o_atH30_33 o_atL30_34 o_atM30_35 o_atN30_36 o_atS30_37 o_atT30_38 o_atU30_39 o_atX30_40 o_first30_41 o_greatest30_42 o_last30_43 o_marked30_44 hc45) mw_854 kb_X12_goesOver (ci := 12) rfl rfl (by decide) rfl rfl hl.1 rfl (Nat.le_of_ble_eq_true rfl) dX12_marks_30 (by decide)) X hV26 [0, 1, 2, 3, 4, 5, 6, 7] [] rfl rfl rfl (by decide) (fun u H locs hp48 hV47 => ?_)
        have hV47 : kV E A s.heap H locs [(a0, .inr (12, [w0_0, w0_1, .int s_sources, w0_3, w0_4, w0_5, w0_6, .ref a5, w0_8, w0_9, w0_10, w0_11, w0_12, w0_13, w0_14, w0_15, w0_16, w0_17, w0_18, w0_19, w0_20, w0_21, w0_22, w0_23, w0_24, w0_25, w0_26, w0_27, .int o_atA30_28, .int o_atB30_29, .int o_atD30_30, .int o_atF30_31, .int o_atG30_32, .int o_atH30_33, .int o_atL30_34, .int o_atM30_35, .int o_atN30_36, .int o_atS30_37, .int o_atT30_38, .int o_atU30_39, .int o_atX30_40, w0_41, w0_42, w0_43, w0_44, w0_45, w0_46, w0_47, .int o_paperHigh23_20, .int o_paperShape23_21, .ref a3, .ref a7, .ref a1, .ref a4, .ref a2, .ref a6, w0_56, w0_57, w0_58, w0_59, w0_60, w0_61, w0_62, w0_63, w0_64, w0_65, w0_66])), (a1, .inl (E.2 0, 1440, .inl o_first30_41)), (a2, .inl (E.2 0, 1440, .inl o_greatest30_42)), (a3, .inl (E.2 0, 1440, .inl o_highAt23_22)), (a4, .inl (E.2 0, 1440, .inl o_last30_43)), (a5, .inl (E.2 0, 20, .inl s_many)), (a6, .inl (E.2 0, 2, .inl o_marked30_44)), (a7, .inl (E.2 0, 1440, .inl o_shapeAt23_23))] := hV47.sub [0, 1, 2, 3, 4, 5, 6, 7] rfl rfl
        clear hV26
        refine lv_iload_n hx hb dX12_marks_33 rfl (lv_at hl 3 rfl) ?_
        refine lv_iconst (v := (-1)) hx hb dX12_marks_34 (by decide) ?_
        refine lv_icmp_ne (tgt := 45) hx hb dX12_marks_35 (by decide) (fun c49 => ?_) (fun c49 => ?_)
        · have h50 := ieS c49 h46
          clear h46 c49
          refine lv_iload_n hx hb dX12_marks_45 rfl (lv_at hl 3 rfl) ?_
          refine lv_iconst (v := 3) hx hb dX12_marks_46 (by decide) ?_
          refine lv_idiv hx hb dX12_marks_47 (by decide) ?_
          refine lv_aload_n hx hb dX12_marks_48 rfl (lv_at hl 0 rfl) ?_
          refine kget X hV47 (ci := 12) inlX12 rfl 0 rfl 55 (by decide) mw_167 rfl dX12_marks_49 ?_
          refine lv_iconst (v := 0) hx hb dX12_marks_52 (by decide) ?_
          obtain ⟨hi53, v53_52, e54, h55⟩ := rdI_s h50
          clear h50
          refine kiald X hV47 6 rfl hi53 e54 dX12_marks_53 ?_
          clear hi53 e54
          refine lv_icmp_lt (tgt := 59) hx hb dX12_marks_54 (by decide) (fun c56 => ?_) (fun c56 => ?_)
          · have h57 := itS c56 h55
            clear h55 c56
            refine lv_iload_n hx hb dX12_marks_59 rfl (lv_at hl 3 rfl) ?_
            refine lv_iconst (v := 3) hx hb dX12_marks_60 (by decide) ?_
            refine lv_irem hx hb dX12_marks_61 (by decide) ?_
            refine lv_if_ne (tgt := 76) hx hb dX12_marks_62 (by decide) (fun c59 => ?_) (fun c59 => ?_)
            · have h60 := ieS c59 h57
              clear h57 c59
              refine lv_iload_n hx hb dX12_marks_76 rfl (lv_at hl 3 rfl) ?_
              refine lv_iconst (v := 3) hx hb dX12_marks_77 (by decide) ?_
              refine lv_irem hx hb dX12_marks_78 (by decide) ?_
              refine lv_iconst (v := 1) hx hb dX12_marks_79 (by decide) ?_
              refine lv_icmp_ne (tgt := 94) hx hb dX12_marks_80 (by decide) (fun c62 => ?_) (fun c62 => ?_)
              · have h63 := ieS c62 h60
                clear h60 c62
                refine lv_aload_n hx hb dX12_marks_94 rfl (lv_at hl 0 rfl) ?_
                refine kget X hV47 (ci := 12) inlX12 rfl 0 rfl 54 (by decide) mw_166 rfl dX12_marks_95 ?_
                refine lv_iload_n hx hb dX12_marks_98 rfl (lv_at hl 3 rfl) ?_
                refine lv_iconst (v := 3) hx hb dX12_marks_99 (by decide) ?_
                refine lv_idiv hx hb dX12_marks_100 (by decide) ?_
                obtain ⟨hi66, v101_65, e67, h68⟩ := rdI_s h63
                clear h63
                refine kiald X hV47 2 rfl hi66 e67 dX12_marks_101 ?_
                clear hi66 e67
                cases h68
                exact hret _ () _ _ _ _ rfl rfl hV47 dX12_marks_102
              · have h64 := itS c62 h60
                clear h60 c62
                refine lv_aload_n hx hb dX12_marks_83 rfl (lv_at hl 0 rfl) ?_
                refine kget X hV47 (ci := 12) inlX12 rfl 0 rfl 53 (by decide) mw_165 rfl dX12_marks_84 ?_
                refine lv_iload_n hx hb dX12_marks_87 rfl (lv_at hl 3 rfl) ?_
                refine lv_iconst (v := 3) hx hb dX12_marks_88 (by decide) ?_
                refine lv_idiv hx hb dX12_marks_89 (by decide) ?_
                obtain ⟨hi70, v90_69, e71, h72⟩ := rdI_s h64
                clear h64
                refine kiald X hV47 4 rfl hi70 e71 dX12_marks_90 ?_
                clear hi70 e71
                refine lv_goto (tgt := 102) hx hb dX12_marks_91 (by decide) ?_
                cases h72
                exact hret _ () _ _ _ _ rfl rfl hV47 dX12_marks_102
            · have h61 := itS c59 h57
              clear h57 c59
              refine lv_aload_n hx hb dX12_marks_65 rfl (lv_at hl 0 rfl) ?_
              refine kget X hV47 (ci := 12) inlX12 rfl 0 rfl 52 (by decide) mw_164 rfl dX12_marks_66 ?_
              refine lv_iload_n hx hb dX12_marks_69 rfl (lv_at hl 3 rfl) ?_
              refine lv_iconst (v := 3) hx hb dX12_marks_70 (by decide) ?_
              refine lv_idiv hx hb dX12_marks_71 (by decide) ?_
              obtain ⟨hi74, v72_73, e75, h76⟩ := rdI_s h61
              clear h61
              refine kiald X hV47 1 rfl hi74 e75 dX12_marks_72 ?_
              clear hi74 e75
              refine lv_goto (tgt := 102) hx hb dX12_marks_73 (by decide) ?_
              cases h76
              exact hret _ () _ _ _ _ rfl rfl hV47 dX12_marks_102
          · have h58 := ieS c56 h55
            clear h55 c56
            refine lv_iconst (v := (-1)) hx hb dX12_marks_57 (by decide) ?_
            cases h58
            exact hret _ () _ _ _ _ rfl rfl hV47 dX12_marks_58
        · have h51 := itS c49 h46
          clear h46 c49
          refine lv_aload_n hx hb dX12_marks_38 rfl (lv_at hl 0 rfl) ?_
          refine kget X hV47 (ci := 12) inlX12 rfl 0 rfl 55 (by decide) mw_167 rfl dX12_marks_39 ?_
          refine lv_iconst (v := 0) hx hb dX12_marks_42 (by decide) ?_
          obtain ⟨hi78, v43_77, e79, h80⟩ := rdI_s h51
          clear h51
          refine kiald X hV47 6 rfl hi78 e79 dX12_marks_43 ?_
          clear hi78 e79
          cases h80
          exact hret _ () _ _ _ _ rfl rfl hV47 dX12_marks_44
      · have h19 := ieS c17 h16
        clear h16 c17
        refine lv_iconst (v := (-1)) hx hb dX12_marks_19 (by decide) ?_
        cases h19
        exact hret _ () _ _ _ _ rfl rfl hV12 dX12_marks_20
abbrev r_X12_passed : Room := { frames := 3, cells := 0, slots := 0, locals := 74 }
set_option maxHeartbeats 4000000 in
set_option maxRecDepth 100000 in
theorem c_X12_passed (l : Launch) (E : kE) (sz : Nat) (a0 a1 a2 a3 a4 a5 a6 a7 : Nat) (w0_0 w0_1 w0_3 w0_4 w0_5 w0_6 w0_8 w0_9 w0_10 w0_11 w0_12 w0_13 w0_14 w0_15 w0_16 w0_17 w0_18 w0_19 w0_20 w0_21 w0_22 w0_23 w0_24 w0_25 w0_26 w0_27 w0_41 w0_42 w0_43 w0_44 w0_45 w0_46 w0_47 w0_56 w0_57 w0_58 w0_59 w0_60 w0_61 w0_62 w0_63 w0_64 w0_65 w0_66 : Value) (s_sources : Int32) (s_atA : Int32) (s_atB : Int32) (s_atD : Int32) (s_atF : Int32) (s_atG : Int32) (s_atH : Int32) (s_atL : Int32) (s_atM : Int32) (s_atN : Int32) (s_atS : Int32) (s_atT : Int32) (s_atU : Int32) (s_atX : Int32) (s_paperHigh : Int32) (s_paperShape : Int32) (s_first : Nat → Int32) (s_greatest : Nat → Int32) (s_highAt : Nat → Int32) (s_last : Nat → Int32) (s_many : Nat → Int32) (s_marked : Nat → Int32) (s_shapeAt : Nat → Int32) (p1 : Int32) (p2 : Int32) (p3 : Int32) (p4 : Int32) (p5 : Int32) (r : Int32) (o_atA : Int32) (o_atB : Int32) (o_atD : Int32) (o_atF : Int32) (o_atG : Int32) (o_atH : Int32) (o_atL : Int32) (o_atM : Int32) (o_atN : Int32) (o_atS : Int32) (o_atT : Int32) (o_atU : Int32) (o_atX : Int32) (o_paperHigh : Int32) (o_paperShape : Int32) (o_first : Nat → Int32) (o_greatest : Nat → Int32) (o_highAt : Nat → Int32) (o_last : Nat → Int32) (o_marked : Nat → Int32) (o_shapeAt : Nat → Int32) (h : f_X12_passed s_sources s_atA s_atB s_atD s_atF s_atG s_atH s_atL s_atM s_atN s_atS s_atT s_atU s_atX s_paperHigh s_paperShape s_first s_greatest s_highAt s_last s_many s_marked s_shapeAt p1 p2 p3 p4 p5 = some (r, o_atA, o_atB, o_atD, o_atF, o_atG, o_atH, o_atL, o_atM, o_atN, o_atS, o_atT, o_atU, o_atX, o_paperHigh, o_paperShape, o_first, o_greatest, o_highAt, o_last, o_marked, o_shapeAt)) : kMi l yX12_passed cX12_passed 11 (some .int) r_X12_passed [.ref a0, .int p1, .int p2, .int p3, .int p4, .int p5] E [(a0, .inr (12, [w0_0, w0_1, .int s_sources, w0_3, w0_4, w0_5, w0_6, .ref a5, w0_8, w0_9, w0_10, w0_11, w0_12, w0_13, w0_14, w0_15, w0_16, w0_17, w0_18, w0_19, w0_20, w0_21, w0_22, w0_23, w0_24, w0_25, w0_26, w0_27, .int s_atA, .int s_atB, .int s_atD, .int s_atF, .int s_atG, .int s_atH, .int s_atL, .int s_atM, .int s_atN, .int s_atS, .int s_atT, .int s_atU, .int s_atX, w0_41, w0_42, w0_43, w0_44, w0_45, w0_46, w0_47, .int s_paperHigh, .int s_paperShape, .ref a3, .ref a7, .ref a1, .ref a4, .ref a2, .ref a6, w0_56, w0_57, w0_58, w0_59, w0_60, w0_61, w0_62, w0_63, w0_64, w0_65, w0_66])), (a1, .inl (E.2 0, 1440, .inl s_first)), (a2, .inl (E.2 0, 1440, .inl s_greatest)), (a3, .inl (E.2 0, 1440, .inl s_highAt)), (a4, .inl (E.2 0, 1440, .inl s_last)), (a5, .inl (E.2 0, 20, .inl s_many)), (a6, .inl (E.2 0, 2, .inl s_marked)), (a7, .inl (E.2 0, 1440, .inl s_shapeAt))] sz 0 0 (fun x (_ : Unit) => x = r) (fun _ => [(a0, .inr (12, [w0_0, w0_1, .int s_sources, w0_3, w0_4, w0_5, w0_6, .ref a5, w0_8, w0_9, w0_10, w0_11, w0_12, w0_13, w0_14, w0_15, w0_16, w0_17, w0_18, w0_19, w0_20, w0_21, w0_22, w0_23, w0_24, w0_25, w0_26, w0_27, .int o_atA, .int o_atB, .int o_atD, .int o_atF, .int o_atG, .int o_atH, .int o_atL, .int o_atM, .int o_atN, .int o_atS, .int o_atT, .int o_atU, .int o_atX, w0_41, w0_42, w0_43, w0_44, w0_45, w0_46, w0_47, .int o_paperHigh, .int o_paperShape, .ref a3, .ref a7, .ref a1, .ref a4, .ref a2, .ref a6, w0_56, w0_57, w0_58, w0_59, w0_60, w0_61, w0_62, w0_63, w0_64, w0_65, w0_66])), (a1, .inl (E.2 0, 1440, .inl o_first)), (a2, .inl (E.2 0, 1440, .inl o_greatest)), (a3, .inl (E.2 0, 1440, .inl o_highAt)), (a4, .inl (E.2 0, 1440, .inl o_last)), (a5, .inl (E.2 0, 20, .inl s_many)), (a6, .inl (E.2 0, 2, .inl o_marked)), (a7, .inl (E.2 0, 1440, .inl o_shapeAt))]) := by
  refine kmeti rfl (Nat.le_of_ble_eq_true rfl) ?_
  intro p e s m args below meth c ls A Q X hV hret hl
  have X : kC p s m c cX12_passed 11 RX12 args E A := X
  have hx := X.1
  have hb := X.2.1
  have hl : lv_has ls 11 [(0, .ref a0), (1, .int p1), (2, .int p2), (3, .int p3), (4, .int p4), (5, .int p5)] := hl
  rw [f_X12_passed] at h
  refine lv_iload_n hx hb dX12_passed_0 rfl (lv_at hl 1 rfl) ?_
  obtain ⟨r1_1, hc2, h3⟩ := cb1_s h
  clear h
  refine kgoiE (krunS (rest := []) X hV [] (c_X12_isReader l E _ p1 r1_1 hc2) mw_595 kb_X12_isReader (by decide) rfl rfl hl.1 rfl (Nat.le_of_ble_eq_true rfl) dX12_passed_1 (by decide)) X hV [] [0, 1, 2, 3, 4, 5, 6, 7] rfl rfl rfl (by decide) (fun u H locs hV4 => ?_)
  have hV4 : kV E A s.heap H locs [(a0, .inr (12, [w0_0, w0_1, .int s_sources, w0_3, w0_4, w0_5, w0_6, .ref a5, w0_8, w0_9, w0_10, w0_11, w0_12, w0_13, w0_14, w0_15, w0_16, w0_17, w0_18, w0_19, w0_20, w0_21, w0_22, w0_23, w0_24, w0_25, w0_26, w0_27, .int s_atA, .int s_atB, .int s_atD, .int s_atF, .int s_atG, .int s_atH, .int s_atL, .int s_atM, .int s_atN, .int s_atS, .int s_atT, .int s_atU, .int s_atX, w0_41, w0_42, w0_43, w0_44, w0_45, w0_46, w0_47, .int s_paperHigh, .int s_paperShape, .ref a3, .ref a7, .ref a1, .ref a4, .ref a2, .ref a6, w0_56, w0_57, w0_58, w0_59, w0_60, w0_61, w0_62, w0_63, w0_64, w0_65, w0_66])), (a1, .inl (E.2 0, 1440, .inl s_first)), (a2, .inl (E.2 0, 1440, .inl s_greatest)), (a3, .inl (E.2 0, 1440, .inl s_highAt)), (a4, .inl (E.2 0, 1440, .inl s_last)), (a5, .inl (E.2 0, 20, .inl s_many)), (a6, .inl (E.2 0, 2, .inl s_marked)), (a7, .inl (E.2 0, 1440, .inl s_shapeAt))] := hV4.sub [0, 1, 2, 3, 4, 5, 6, 7] rfl rfl
  clear hV
  refine lv_if_eq (tgt := 58) hx hb dX12_passed_4 (by decide) (fun c6 => ?_) (fun c6 => ?_)
  · have h7 := itS c6 h3
    clear h3 c6
    refine lv_iconst (v := (-1)) hx hb dX12_passed_58 (by decide) ?_
    cases h7
    exact hret _ () _ _ _ _ rfl rfl hV4 dX12_passed_59
  · have h8 := ieS c6 h3
    clear h3 c6
    refine lv_iload_n hx hb dX12_passed_7 rfl (lv_at hl 2 rfl) ?_
    obtain ⟨r8_9, hc10, h11⟩ := cb1_s h8
    clear h8
    refine kgoiE (krunS (rest := []) X hV4 [] (c_X12_isReader l E _ p2 r8_9 hc10) mw_595 kb_X12_isReader (by decide) rfl rfl hl.1 rfl (Nat.le_of_ble_eq_true rfl) dX12_passed_8 (by decide)) X hV4 [] [0, 1, 2, 3, 4, 5, 6, 7] rfl rfl rfl (by decide) (fun u H locs hV12 => ?_)
    have hV12 : kV E A s.heap H locs [(a0, .inr (12, [w0_0, w0_1, .int s_sources, w0_3, w0_4, w0_5, w0_6, .ref a5, w0_8, w0_9, w0_10, w0_11, w0_12, w0_13, w0_14, w0_15, w0_16, w0_17, w0_18, w0_19, w0_20, w0_21, w0_22, w0_23, w0_24, w0_25, w0_26, w0_27, .int s_atA, .int s_atB, .int s_atD, .int s_atF, .int s_atG, .int s_atH, .int s_atL, .int s_atM, .int s_atN, .int s_atS, .int s_atT, .int s_atU, .int s_atX, w0_41, w0_42, w0_43, w0_44, w0_45, w0_46, w0_47, .int s_paperHigh, .int s_paperShape, .ref a3, .ref a7, .ref a1, .ref a4, .ref a2, .ref a6, w0_56, w0_57, w0_58, w0_59, w0_60, w0_61, w0_62, w0_63, w0_64, w0_65, w0_66])), (a1, .inl (E.2 0, 1440, .inl s_first)), (a2, .inl (E.2 0, 1440, .inl s_greatest)), (a3, .inl (E.2 0, 1440, .inl s_highAt)), (a4, .inl (E.2 0, 1440, .inl s_last)), (a5, .inl (E.2 0, 20, .inl s_many)), (a6, .inl (E.2 0, 2, .inl s_marked)), (a7, .inl (E.2 0, 1440, .inl s_shapeAt))] := hV12.sub [0, 1, 2, 3, 4, 5, 6, 7] rfl rfl
    clear hV4
    refine lv_if_eq (tgt := 58) hx hb dX12_passed_11 (by decide) (fun c14 => ?_) (fun c14 => ?_)
    · have h15 := itS c14 h11
      clear h11 c14
      refine lv_iconst (v := (-1)) hx hb dX12_passed_58 (by decide) ?_
      cases h15
      exact hret _ () _ _ _ _ rfl rfl hV12 dX12_passed_59
    · have h16 := ieS c14 h11
      clear h11 c14
      refine lv_iload_n hx hb dX12_passed_14 rfl (lv_at hl 3 rfl) ?_
      obtain ⟨r15_17, hc18, h19⟩ := cb1_s h16
      clear h16
      refine kgoiE (krunS (rest := []) X hV12 [] (c_X12_isDay l E _ p3 r15_17 hc18) mw_632 kb_X12_isDay (by decide) rfl rfl hl.1 rfl (Nat.le_of_ble_eq_true rfl) dX12_passed_15 (by decide)) X hV12 [] [0, 1, 2, 3, 4, 5, 6, 7] rfl rfl rfl (by decide) (fun u H locs hV20 => ?_)
      have hV20 : kV E A s.heap H locs [(a0, .inr (12, [w0_0, w0_1, .int s_sources, w0_3, w0_4, w0_5, w0_6, .ref a5, w0_8, w0_9, w0_10, w0_11, w0_12, w0_13, w0_14, w0_15, w0_16, w0_17, w0_18, w0_19, w0_20, w0_21, w0_22, w0_23, w0_24, w0_25, w0_26, w0_27, .int s_atA, .int s_atB, .int s_atD, .int s_atF, .int s_atG, .int s_atH, .int s_atL, .int s_atM, .int s_atN, .int s_atS, .int s_atT, .int s_atU, .int s_atX, w0_41, w0_42, w0_43, w0_44, w0_45, w0_46, w0_47, .int s_paperHigh, .int s_paperShape, .ref a3, .ref a7, .ref a1, .ref a4, .ref a2, .ref a6, w0_56, w0_57, w0_58, w0_59, w0_60, w0_61, w0_62, w0_63, w0_64, w0_65, w0_66])), (a1, .inl (E.2 0, 1440, .inl s_first)), (a2, .inl (E.2 0, 1440, .inl s_greatest)), (a3, .inl (E.2 0, 1440, .inl s_highAt)), (a4, .inl (E.2 0, 1440, .inl s_last)), (a5, .inl (E.2 0, 20, .inl s_many)), (a6, .inl (E.2 0, 2, .inl s_marked)), (a7, .inl (E.2 0, 1440, .inl s_shapeAt))] := hV20.sub [0, 1, 2, 3, 4, 5, 6, 7] rfl rfl
      clear hV12
      refine lv_if_eq (tgt := 58) hx hb dX12_passed_18 (by decide) (fun c22 => ?_) (fun c22 => ?_)
      · have h23 := itS c22 h19
        clear h19 c22
        refine lv_iconst (v := (-1)) hx hb dX12_passed_58 (by decide) ?_
        cases h23
        exact hret _ () _ _ _ _ rfl rfl hV20 dX12_passed_59
      · have h24 := ieS c22 h19
        clear h19 c22
        refine lv_iload hx hb dX12_passed_21 (lv_at hl 4 rfl) ?_
        obtain ⟨r23_25, hc26, h27⟩ := cb1_s h24
        clear h24
        refine kgoiE (krunS (rest := []) X hV20 [] (c_X12_isDay l E _ p4 r23_25 hc26) mw_632 kb_X12_isDay (by decide) rfl rfl hl.1 rfl (Nat.le_of_ble_eq_true rfl) dX12_passed_23 (by decide)) X hV20 [] [0, 1, 2, 3, 4, 5, 6, 7] rfl rfl rfl (by decide) (fun u H locs hV28 => ?_)
        have hV28 : kV E A s.heap H locs [(a0, .inr (12, [w0_0, w0_1, .int s_sources, w0_3, w0_4, w0_5, w0_6, .ref a5, w0_8, w0_9, w0_10, w0_11, w0_12, w0_13, w0_14, w0_15, w0_16, w0_17, w0_18, w0_19, w0_20, w0_21, w0_22, w0_23, w0_24, w0_25, w0_26, w0_27, .int s_atA, .int s_atB, .int s_atD, .int s_atF, .int s_atG, .int s_atH, .int s_atL, .int s_atM, .int s_atN, .int s_atS, .int s_atT, .int s_atU, .int s_atX, w0_41, w0_42, w0_43, w0_44, w0_45, w0_46, w0_47, .int s_paperHigh, .int s_paperShape, .ref a3, .ref a7, .ref a1, .ref a4, .ref a2, .ref a6, w0_56, w0_57, w0_58, w0_59, w0_60, w0_61, w0_62, w0_63, w0_64, w0_65, w0_66])), (a1, .inl (E.2 0, 1440, .inl s_first)), (a2, .inl (E.2 0, 1440, .inl s_greatest)), (a3, .inl (E.2 0, 1440, .inl s_highAt)), (a4, .inl (E.2 0, 1440, .inl s_last)), (a5, .inl (E.2 0, 20, .inl s_many)), (a6, .inl (E.2 0, 2, .inl s_marked)), (a7, .inl (E.2 0, 1440, .inl s_shapeAt))] := hV28.sub [0, 1, 2, 3, 4, 5, 6, 7] rfl rfl
        clear hV20
        refine lv_if_eq (tgt := 58) hx hb dX12_passed_26 (by decide) (fun c30 => ?_) (fun c30 => ?_)
        · have h31 := itS c30 h27
          clear h27 c30
          refine lv_iconst (v := (-1)) hx hb dX12_passed_58 (by decide) ?_
          cases h31
          exact hret _ () _ _ _ _ rfl rfl hV28 dX12_passed_59
        · have h32 := ieS c30 h27
          clear h27 c30
          refine lv_iload hx hb dX12_passed_29 (lv_at hl 4 rfl) ?_
          refine lv_i2l (v := Int32.toInt64 p4) hx hb dX12_passed_31 rfl ?_
          refine lv_iload_n hx hb dX12_passed_32 rfl (lv_at hl 3 rfl) ?_
          refine lv_i2l (v := Int32.toInt64 p3) hx hb dX12_passed_33 rfl ?_
          refine lv_iload_n hx hb dX12_passed_34 rfl (lv_at hl 3 rfl) ?_
          refine lv_bipush (v := 29) hx hb dX12_passed_35 (by decide) ?_
          refine lv_iadd hx hb dX12_passed_37 ?_
          refine lv_i2l (v := Int32.toInt64 (p3 + 29)) hx hb dX12_passed_38 rfl ?_
          obtain ⟨r39_33, hc34, h35⟩ := cb1_s h32
          clear h32
          refine kgoiE (krunS (rest := []) X hV28 [] (c_X12_lies l E _ (Int32.toInt64 p4) (Int32.toInt64 p3) (Int32.toInt64 (p3 + 29)) r39_33 hc34) mw_224 kb_X12_lies (by decide) rfl rfl hl.1 rfl (Nat.le_of_ble_eq_true rfl) dX12_passed_39 (by decide)) X hV28 [] [0, 1, 2, 3, 4, 5, 6, 7] rfl rfl rfl (by decide) (fun u H locs hV36 => ?_)
          have hV36 : kV E A s.heap H locs [(a0, .inr (12, [w0_0, w0_1, .int s_sources, w0_3, w0_4, w0_5, w0_6, .ref a5, w0_8, w0_9, w0_10, w0_11, w0_12, w0_13, w0_14, w0_15, w0_16, w0_17, w0_18, w0_19, w0_20, w0_21, w0_22, w0_23, w0_24, w0_25, w0_26, w0_27, .int s_atA, .int s_atB, .int s_atD, .int s_atF, .int s_atG, .int s_atH, .int s_atL, .int s_atM, .int s_atN, .int s_atS, .int s_atT, .int s_atU, .int s_atX, w0_41, w0_42, w0_43, w0_44, w0_45, w0_46, w0_47, .int s_paperHigh, .int s_paperShape, .ref a3, .ref a7, .ref a1, .ref a4, .ref a2, .ref a6, w0_56, w0_57, w0_58, w0_59, w0_60, w0_61, w0_62, w0_63, w0_64, w0_65, w0_66])), (a1, .inl (E.2 0, 1440, .inl s_first)), (a2, .inl (E.2 0, 1440, .inl s_greatest)), (a3, .inl (E.2 0, 1440, .inl s_highAt)), (a4, .inl (E.2 0, 1440, .inl s_last)), (a5, .inl (E.2 0, 20, .inl s_many)), (a6, .inl (E.2 0, 2, .inl s_marked)), (a7, .inl (E.2 0, 1440, .inl s_shapeAt))] := hV36.sub [0, 1, 2, 3, 4, 5, 6, 7] rfl rfl
          clear hV28
          refine lv_if_eq (tgt := 58) hx hb dX12_passed_42 (by decide) (fun c38 => ?_) (fun c38 => ?_)
          · have h39 := itS c38 h35
            clear h35 c38
            refine lv_iconst (v := (-1)) hx hb dX12_passed_58 (by decide) ?_
            cases h39
            exact hret _ () _ _ _ _ rfl rfl hV36 dX12_passed_59
          · have h40 := ieS c38 h35
            clear h35 c38
            refine lv_iload hx hb dX12_passed_45 (lv_at hl 5 rfl) ?_
            refine lv_i2l (v := Int32.toInt64 p5) hx hb dX12_passed_47 rfl ?_
            refine lv_lconst (v := 0) hx hb dX12_passed_48 (by decide) ?_
            refine lv_ldc2 (v := 2) hx hb X.2.2.2.1 (X.2.2.2.2.1 _ mw_882) dX12_passed_49 ?_
            obtain ⟨r52_41, hc42, h43⟩ := cb1_s h40
            clear h40
            refine kgoiE (krunS (rest := []) X hV36 [] (c_X12_lies l E _ (Int32.toInt64 p5) 0 2 r52_41 hc42) mw_224 kb_X12_lies (by decide) rfl rfl hl.1 rfl (Nat.le_of_ble_eq_true rfl) dX12_passed_52 (by decide)) X hV36 [] [0, 1, 2, 3, 4, 5, 6, 7] rfl rfl rfl (by decide) (fun u H locs hV44 => ?_)
            have hV44 : kV E A s.heap H locs [(a0, .inr (12, [w0_0, w0_1, .int s_sources, w0_3, w0_4, w0_5, w0_6, .ref a5, w0_8, w0_9, w0_10, w0_11, w0_12, w0_13, w0_14, w0_15, w0_16, w0_17, w0_18, w0_19, w0_20, w0_21, w0_22, w0_23, w0_24, w0_25, w0_26, w0_27, .int s_atA, .int s_atB, .int s_atD, .int s_atF, .int s_atG, .int s_atH, .int s_atL, .int s_atM, .int s_atN, .int s_atS, .int s_atT, .int s_atU, .int s_atX, w0_41, w0_42, w0_43, w0_44, w0_45, w0_46, w0_47, .int s_paperHigh, .int s_paperShape, .ref a3, .ref a7, .ref a1, .ref a4, .ref a2, .ref a6, w0_56, w0_57, w0_58, w0_59, w0_60, w0_61, w0_62, w0_63, w0_64, w0_65, w0_66])), (a1, .inl (E.2 0, 1440, .inl s_first)), (a2, .inl (E.2 0, 1440, .inl s_greatest)), (a3, .inl (E.2 0, 1440, .inl s_highAt)), (a4, .inl (E.2 0, 1440, .inl s_last)), (a5, .inl (E.2 0, 20, .inl s_many)), (a6, .inl (E.2 0, 2, .inl s_marked)), (a7, .inl (E.2 0, 1440, .inl s_shapeAt))] := hV44.sub [0, 1, 2, 3, 4, 5, 6, 7] rfl rfl
            clear hV36
            refine lv_if_ne (tgt := 60) hx hb dX12_passed_55 (by decide) (fun c46 => ?_) (fun c46 => ?_)
            · have h47 := ieS c46 h43
              clear h43 c46
              refine lv_iconst (v := 0) hx hb dX12_passed_60 (by decide) ?_
              refine lv_istore (lv' := [(6, .int 0), (0, .ref a0), (1, .int p1), (2, .int p2), (3, .int p3), (4, .int p4), (5, .int p5)]) hx hb dX12_passed_61 hl (by decide) rfl (fun ls hl49 => ?_)
              clear hl
              refine lv_iconst (v := (-1)) hx hb dX12_passed_63 (by decide) ?_
              refine lv_istore (lv' := [(7, .int (-1)), (6, .int 0), (0, .ref a0), (1, .int p1), (2, .int p2), (3, .int p3), (4, .int p4), (5, .int p5)]) hx hb dX12_passed_64 hl49 (by decide) rfl (fun ls hl50 => ?_)
              clear hl49
              refine lv_iconst (v := (-1)) hx hb dX12_passed_66 (by decide) ?_
              refine lv_istore (lv' := [(8, .int (-1)), (7, .int (-1)), (6, .int 0), (0, .ref a0), (1, .int p1), (2, .int p2), (3, .int p3), (4, .int p4), (5, .int p5)]) hx hb dX12_passed_67 hl50 (by decide) rfl (fun ls hl51 => ?_)
              clear hl50
              refine lv_iload_n hx hb dX12_passed_69 rfl (lv_at hl51 6 rfl) ?_
              refine lv_istore (lv' := [(9, .int p3), (8, .int (-1)), (7, .int (-1)), (6, .int 0), (0, .ref a0), (1, .int p1), (2, .int p2), (3, .int p3), (4, .int p4), (5, .int p5)]) hx hb dX12_passed_70 hl51 (by decide) rfl (fun ls hl52 => ?_)
              clear hl51
              have J164 : ∀ (atA__53 : Int32) (atB__54 : Int32) (atD__55 : Int32) (atF__56 : Int32) (atG__57 : Int32) (atH__58 : Int32) (atL__59 : Int32) (atM__60 : Int32) (atN__61 : Int32) (atS__62 : Int32) (atT__63 : Int32) (atU__64 : Int32) (atX__65 : Int32) (paperHigh__66 : Int32) (paperShape__67 : Int32) (first__68 : Nat → Int32) (greatest__69 : Nat → Int32) (highAt__70 : Nat → Int32) (last__71 : Nat → Int32) (marked__72 : Nat → Int32) (shapeAt__73 : Nat → Int32) (H : Heap) (locs : List Loc) (ls : Array Slot), (f_X12_passed_J164 p5 ) atA__53 atB__54 atD__55 atF__56 atG__57 atH__58 atL__59 atM__60 atN__61 atS__62 atT__63 atU__64 atX__65 paperHigh__66 paperShape__67 first__68 greatest__69 highAt__70 last__71 marked__72 shapeAt__73 = some (r, o_atA, o_atB, o_atD, o_atF, o_atG, o_atH, o_atL, o_atM, o_atN, o_atS, o_atT, o_atU, o_atX, o_paperHigh, o_paperShape, o_first, o_greatest, o_highAt, o_last, o_marked, o_shapeAt) → kV E A s.heap H locs [(a0, .inr (12, [w0_0, w0_1, .int s_sources, w0_3, w0_4, w0_5, w0_6, .ref a5, w0_8, w0_9, w0_10, w0_11, w0_12, w0_13, w0_14, w0_15, w0_16, w0_17, w0_18, w0_19, w0_20, w0_21, w0_22, w0_23, w0_24, w0_25, w0_26, w0_27, .int atA__53, .int atB__54, .int atD__55, .int atF__56, .int atG__57, .int atH__58, .int atL__59, .int atM__60, .int atN__61, .int atS__62, .int atT__63, .int atU__64, .int atX__65, w0_41, w0_42, w0_43, w0_44, w0_45, w0_46, w0_47, .int paperHigh__66, .int paperShape__67, .ref a3, .ref a7, .ref a1, .ref a4, .ref a2, .ref a6, w0_56, w0_57, w0_58, w0_59, w0_60, w0_61, w0_62, w0_63, w0_64, w0_65, w0_66])), (a1, .inl (E.2 0, 1440, .inl first__68)), (a2, .inl (E.2 0, 1440, .inl greatest__69)), (a3, .inl (E.2 0, 1440, .inl highAt__70)), (a4, .inl (E.2 0, 1440, .inl last__71)), (a5, .inl (E.2 0, 20, .inl s_many)), (a6, .inl (E.2 0, 2, .inl marked__72)), (a7, .inl (E.2 0, 1440, .inl shapeAt__73))] → lv_has ls 11 [(5, .int p5), (6, .int 0), (7, .int (-1)), (8, .int (-1))] → W p l e r_X12_passed s m args below meth c H locs 0 0 Q (F0 m 164 ls []) := by
                intro atA__53 atB__54 atD__55 atF__56 atG__57 atH__58 atL__59 atM__60 atN__61 atS__62 atT__63 atU__64 atX__65 paperHigh__66 paperShape__67 first__68 greatest__69 highAt__70 last__71 marked__72 shapeAt__73 H locs ls hB164 hVB164 hlB164
                rw [f_X12_passed_J164] at hB164
                refine lv_iload hx hb dX12_passed_164 (lv_at hlB164 0 rfl) ?_
                refine lv_if_ne (tgt := 174) hx hb dX12_passed_166 (by decide) (fun c74 => ?_) (fun c74 => ?_)
                · have h75 := ieS c74 hB164
                  clear hB164 c74
                  refine lv_iload hx hb dX12_passed_174 (lv_at hlB164 0 rfl) ?_
                  refine lv_iconst (v := 1) hx hb dX12_passed_176 (by decide) ?_
                  refine lv_icmp_ne (tgt := 185) hx hb dX12_passed_177 (by decide) (fun c77 => ?_) (fun c77 => ?_)
                  · have h78 := ieS c77 h75
                    clear h75 c77
                    refine lv_iload hx hb dX12_passed_185 (lv_at hlB164 3 rfl) ?_
                    cases h78
                    exact hret _ () _ _ _ _ rfl rfl hVB164 dX12_passed_187
                  · have h79 := itS c77 h75
                    clear h75 c77
                    refine lv_iload hx hb dX12_passed_180 (lv_at hlB164 2 rfl) ?_
                    refine lv_goto (tgt := 187) hx hb dX12_passed_182 (by decide) ?_
                    cases h79
                    exact hret _ () _ _ _ _ rfl rfl hVB164 dX12_passed_187
                · have h76 := itS c74 hB164
                  clear hB164 c74
                  refine lv_iload hx hb dX12_passed_169 (lv_at hlB164 1 rfl) ?_
                  refine lv_goto (tgt := 187) hx hb dX12_passed_171 (by decide) ?_
                  cases h76
                  exact hret _ () _ _ _ _ rfl rfl hVB164 dX12_passed_187
              have L72 : ∀ (n72 : Nat) (x9_80 : Int32) (atA__81 : Int32) (atB__82 : Int32) (atD__83 : Int32) (atF__84 : Int32) (atG__85 : Int32) (atH__86 : Int32) (atL__87 : Int32) (atM__88 : Int32) (atN__89 : Int32) (atS__90 : Int32) (atT__91 : Int32) (atU__92 : Int32) (atX__93 : Int32) (paperHigh__94 : Int32) (paperShape__95 : Int32) (first__96 : Nat → Int32) (greatest__97 : Nat → Int32) (highAt__98 : Nat → Int32) (last__99 : Nat → Int32) (marked__100 : Nat → Int32) (shapeAt__101 : Nat → Int32) (H : Heap) (locs : List Loc) (ls : Array Slot), (f_X12_passed_L72 s_sources s_many p1 p2 p4 (f_X12_passed_J164 p5 ) n72) x9_80 atA__81 atB__82 atD__83 atF__84 atG__85 atH__86 atL__87 atM__88 atN__89 atS__90 atT__91 atU__92 atX__93 paperHigh__94 paperShape__95 first__96 greatest__97 highAt__98 last__99 marked__100 shapeAt__101 = some (r, o_atA, o_atB, o_atD, o_atF, o_atG, o_atH, o_atL, o_atM, o_atN, o_atS, o_atT, o_atU, o_atX, o_paperHigh, o_paperShape, o_first, o_greatest, o_highAt, o_last, o_marked, o_shapeAt) → kV E A s.heap H locs [(a0, .inr (12, [w0_0, w0_1, .int s_sources, w0_3, w0_4, w0_5, w0_6, .ref a5, w0_8, w0_9, w0_10, w0_11, w0_12, w0_13, w0_14, w0_15, w0_16, w0_17, w0_18, w0_19, w0_20, w0_21, w0_22, w0_23, w0_24, w0_25, w0_26, w0_27, .int atA__81, .int atB__82, .int atD__83, .int atF__84, .int atG__85, .int atH__86, .int atL__87, .int atM__88, .int atN__89, .int atS__90, .int atT__91, .int atU__92, .int atX__93, w0_41, w0_42, w0_43, w0_44, w0_45, w0_46, w0_47, .int paperHigh__94, .int paperShape__95, .ref a3, .ref a7, .ref a1, .ref a4, .ref a2, .ref a6, w0_56, w0_57, w0_58, w0_59, w0_60, w0_61, w0_62, w0_63, w0_64, w0_65, w0_66])), (a1, .inl (E.2 0, 1440, .inl first__96)), (a2, .inl (E.2 0, 1440, .inl greatest__97)), (a3, .inl (E.2 0, 1440, .inl highAt__98)), (a4, .inl (E.2 0, 1440, .inl last__99)), (a5, .inl (E.2 0, 20, .inl s_many)), (a6, .inl (E.2 0, 2, .inl marked__100)), (a7, .inl (E.2 0, 1440, .inl shapeAt__101))] → lv_has ls 11 [(0, .ref a0), (1, .int p1), (2, .int p2), (4, .int p4), (5, .int p5), (6, .int 0), (7, .int (-1)), (8, .int (-1)), (9, .int x9_80)] → W p l e r_X12_passed s m args below meth c H locs 0 0 Q (F0 m 72 ls []) := by
                intro n72
                induction n72 with
                | zero =>
                  intro x9_80 atA__81 atB__82 atD__83 atF__84 atG__85 atH__86 atL__87 atM__88 atN__89 atS__90 atT__91 atU__92 atX__93 paperHigh__94 paperShape__95 first__96 greatest__97 highAt__98 last__99 marked__100 shapeAt__101 H locs ls hB72 hVB72 hlB72
                  rw [f_X12_passed_L72] at hB72
                  exact nomatch hB72
                | succ n72 ih72 =>
                  intro x9_80 atA__81 atB__82 atD__83 atF__84 atG__85 atH__86 atL__87 atM__88 atN__89 atS__90 atT__91 atU__92 atX__93 paperHigh__94 paperShape__95 first__96 greatest__97 highAt__98 last__99 marked__100 shapeAt__101 H locs ls hB72 hVB72 hlB72
                  rw [f_X12_passed_L72] at hB72
                  refine lv_iload hx hb dX12_passed_72 (lv_at hlB72 8 rfl) ?_
                  refine lv_iload hx hb dX12_passed_74 (lv_at hlB72 3 rfl) ?_
                  refine lv_icmp_gt (tgt := 164) hx hb dX12_passed_76 (by decide) (fun c102 => ?_) (fun c102 => ?_)
                  · have h103 := itS c102 hB72
                    clear hB72 c102
                    exact J164 atA__81 atB__82 atD__83 atF__84 atG__85 atH__86 atL__87 atM__88 atN__89 atS__90 atT__91 atU__92 atX__93 paperHigh__94 paperShape__95 first__96 greatest__97 highAt__98 last__99 marked__100 shapeAt__101 _ _ _ h103 hVB72 (lv_sub hlB72 [4, 5, 6, 7] rfl)
                  · have h104 := ieS c102 hB72
                    clear hB72 c102
                    refine lv_aload_n hx hb dX12_passed_79 rfl (lv_at hlB72 0 rfl) ?_
                    refine lv_iload hx hb dX12_passed_80 (lv_at hlB72 8 rfl) ?_
                    obtain ⟨o_paperHigh82_105, o_paperShape82_106, o_highAt82_107, o_shapeAt82_108, hc109, h110⟩ := cb4_s h104
                    clear h104
                    refine kgov (krunV (rest := []) X hVB72 [0, 3, 7] (c_X12_lays l E _ a0 a3 a7 (w0_0) (w0_1) (w0_3) (w0_4) (w0_5) (w0_6) (.ref a5) (w0_8) (w0_9) (w0_10) (w0_11) (w0_12) (w0_13) (w0_14) (w0_15) (w0_16) (w0_17) (w0_18) (w0_19) (w0_20) (w0_21) (w0_22) (w0_23) (w0_24) (w0_25) (w0_26) (w0_27) (.int atA__81) (.int atB__82) (.int atD__83) (.int atF__84) (.int atG__85) (.int atH__86) (.int atL__87) (.int atM__88) (.int atN__89) (.int atS__90) (.int atT__91) (.int atU__92) (.int atX__93) (w0_41) (w0_42) (w0_43) (w0_44) (w0_45) (w0_46) (w0_47) (.ref a1) (.ref a4) (.ref a2) (.ref a6) (w0_56) (w0_57) (w0_58) (w0_59) (w0_60) (w0_61) (w0_62) (w0_63) (w0_64) (w0_65) (w0_66) s_sources paperHigh__94 paperShape__95 highAt__98 shapeAt__101 x9_80 o_paperHigh82_105 o_paperShape82_106 o_highAt82_107 o_shapeAt82_108 hc109) mw_850 kb_X12_lays (ci := 12) rfl rfl (by decide) rfl rfl hlB72.1 rfl (Nat.le_of_ble_eq_true rfl) dX12_passed_82 (by decide)) X hVB72 [0, 3, 7] [1, 2, 4, 5, 6] rfl rfl rfl (by decide) (fun u H locs hp112 hV111 => ?_)
                    have hV111 : kV E A s.heap H locs [(a0, .inr (12, [w0_0, w0_1, .int s_sources, w0_3, w0_4, w0_5, w0_6, .ref a5, w0_8, w0_9, w0_10, w0_11, w0_12, w0_13, w0_14, w0_15, w0_16, w0_17, w0_18, w0_19, w0_20, w0_21, w0_22, w0_23, w0_24, w0_25, w0_26, w0_27, .int atA__81, .int atB__82, .int atD__83, .int atF__84, .int atG__85, .int atH__86, .int atL__87, .int atM__88, .int atN__89, .int atS__90, .int atT__91, .int atU__92, .int atX__93, w0_41, w0_42, w0_43, w0_44, w0_45, w0_46, w0_47, .int o_paperHigh82_105, .int o_paperShape82_106, .ref a3, .ref a7, .ref a1, .ref a4, .ref a2, .ref a6, w0_56, w0_57, w0_58, w0_59, w0_60, w0_61, w0_62, w0_63, w0_64, w0_65, w0_66])), (a1, .inl (E.2 0, 1440, .inl first__96)), (a2, .inl (E.2 0, 1440, .inl greatest__97)), (a3, .inl (E.2 0, 1440, .inl o_highAt82_107)), (a4, .inl (E.2 0, 1440, .inl last__99)), (a5, .inl (E.2 0, 20, .inl s_many)), (a6, .inl (E.2 0, 2, .inl marked__100)), (a7, .inl (E.2 0, 1440, .inl o_shapeAt82_108))] := hV111.sub [5, 0, 1, 6, 2, 3, 4, 7] rfl rfl
                    clear hVB72
                    refine lv_aload_n hx hb dX12_passed_85 rfl (lv_at hlB72 0 rfl) ?_
                    refine lv_iload_n hx hb dX12_passed_86 rfl (lv_at hlB72 1 rfl) ?_
                    refine lv_iload hx hb dX12_passed_87 (lv_at hlB72 8 rfl) ?_
                    refine lv_iconst (v := 0) hx hb dX12_passed_89 (by decide) ?_
                    obtain ⟨o_atA90_113, o_atB90_114, o_atD90_115, o_atF90_116, o_atG90_117, o_atH90_118, o_atL90_119, o_atM90_120, o_atN90_121, o_atS90_122, o_atT90_123, o_atU90_124, o_atX90_125, o_first90_126, o_greatest90_127, o_last90_128, o_marked90_129, hc130, h131⟩ := cb17_s h110
                    clear h110
                    refine kgov (krunV (rest := []) X hV111 [0, 1, 2, 3, 4, 5, 6, 7] (c_X12_goesOver l E _ a0 a1 a2 a3 a4 a5 a6 a7 (w0_0) (w0_1) (.int s_sources) (w0_3) (w0_4) (w0_5) (w0_6) (w0_8) (w0_9) (w0_10) (w0_11) (w0_12) (w0_13) (w0_14) (w0_15) (w0_16) (w0_17) (w0_18) (w0_19) (w0_20) (w0_21) (w0_22) (w0_23) (w0_24) (w0_25) (w0_26) (w0_27) (w0_41) (w0_42) (w0_43) (w0_44) (w0_45) (w0_46) (w0_47) (.int o_paperHigh82_105) (.int o_paperShape82_106) (w0_56) (w0_57) (w0_58) (w0_59) (w0_60) (w0_61) (w0_62) (w0_63) (w0_64) (w0_65) (w0_66) atA__81 atB__82 atD__83 atF__84 atG__85 atH__86 atL__87 atM__88 atN__89 atS__90 atT__91 atU__92 atX__93 first__96 greatest__97 o_highAt82_107 last__99 s_many marked__100 o_shapeAt82_108 p1 x9_80 0 o_atA90_113 o_atB90_114 o_atD90_115 o_atF90_116 o_atG90_117 o_atH90_118 o_atL90_119 o_atM90_120 o_atN90_121 o_atS90_122 o_atT90_123 o_atU90_124 o_atX90_125 o_first90_126 o_greatest90_127 o_last90_128 o_marked90_129 hc130) mw_854 kb_X12_goesOver (ci := 12) rfl rfl (by decide) rfl rfl hlB72.1 rfl (Nat.le_of_ble_eq_true rfl) dX12_passed_90 (by decide)) X hV111 [0, 1, 2, 3, 4, 5, 6, 7] [] rfl rfl rfl (by decide) (fun u H locs hp133 hV132 => ?_)
                    have hV132 : kV E A s.heap H locs [(a0, .inr (12, [w0_0, w0_1, .int s_sources, w0_3, w0_4, w0_5, w0_6, .ref a5, w0_8, w0_9, w0_10, w0_11, w0_12, w0_13, w0_14, w0_15, w0_16, w0_17, w0_18, w0_19, w0_20, w0_21, w0_22, w0_23, w0_24, w0_25, w0_26, w0_27, .int o_atA90_113, .int o_atB90_114, .int o_atD90_115, .int o_atF90_116, .int o_atG90_117, .int o_atH90_118, .int o_atL90_119, .int o_atM90_120, .int o_atN90_121, .int o_atS90_122, .int o_atT90_123, .int o_atU90_124, .int o_atX90_125, w0_41, w0_42, w0_43, w0_44, w0_45, w0_46, w0_47, .int o_paperHigh82_105, .int o_paperShape82_106, .ref a3, .ref a7, .ref a1, .ref a4, .ref a2, .ref a6, w0_56, w0_57, w0_58, w0_59, w0_60, w0_61, w0_62, w0_63, w0_64, w0_65, w0_66])), (a1, .inl (E.2 0, 1440, .inl o_first90_126)), (a2, .inl (E.2 0, 1440, .inl o_greatest90_127)), (a3, .inl (E.2 0, 1440, .inl o_highAt82_107)), (a4, .inl (E.2 0, 1440, .inl o_last90_128)), (a5, .inl (E.2 0, 20, .inl s_many)), (a6, .inl (E.2 0, 2, .inl o_marked90_129)), (a7, .inl (E.2 0, 1440, .inl o_shapeAt82_108))] := hV132.sub [0, 1, 2, 3, 4, 5, 6, 7] rfl rfl
                    clear hV111
                    refine lv_aload_n hx hb dX12_passed_93 rfl (lv_at hlB72 0 rfl) ?_
                    refine lv_iload_n hx hb dX12_passed_94 rfl (lv_at hlB72 2 rfl) ?_
                    refine lv_iload hx hb dX12_passed_95 (lv_at hlB72 8 rfl) ?_
                    refine lv_iconst (v := 1) hx hb dX12_passed_97 (by decide) ?_
                    obtain ⟨o_atA98_134, o_atB98_135, o_atD98_136, o_atF98_137, o_atG98_138, o_atH98_139, o_atL98_140, o_atM98_141, o_atN98_142, o_atS98_143, o_atT98_144, o_atU98_145, o_atX98_146, o_first98_147, o_greatest98_148, o_last98_149, o_marked98_150, hc151, h152⟩ := cb17_s h131
                    clear h131
                    refine kgov (krunV (rest := []) X hV132 [0, 1, 2, 3, 4, 5, 6, 7] (c_X12_goesOver l E _ a0 a1 a2 a3 a4 a5 a6 a7 (w0_0) (w0_1) (.int s_sources) (w0_3) (w0_4) (w0_5) (w0_6) (w0_8) (w0_9) (w0_10) (w0_11) (w0_12) (w0_13) (w0_14) (w0_15) (w0_16) (w0_17) (w0_18) (w0_19) (w0_20) (w0_21) (w0_22) (w0_23) (w0_24) (w0_25) (w0_26) (w0_27) (w0_41) (w0_42) (w0_43) (w0_44) (w0_45) (w0_46) (w0_47) (.int o_paperHigh82_105) (.int o_paperShape82_106) (w0_56) (w0_57) (w0_58) (w0_59) (w0_60) (w0_61) (w0_62) (w0_63) (w0_64) (w0_65) (w0_66) o_atA90_113 o_atB90_114 o_atD90_115 o_atF90_116 o_atG90_117 o_atH90_118 o_atL90_119 o_atM90_120 o_atN90_121 o_atS90_122 o_atT90_123 o_atU90_124 o_atX90_125 o_first90_126 o_greatest90_127 o_highAt82_107 o_last90_128 s_many o_marked90_129 o_shapeAt82_108 p2 x9_80 1 o_atA98_134 o_atB98_135 o_atD98_136 o_atF98_137 o_atG98_138 o_atH98_139 o_atL98_140 o_atM98_141 o_atN98_142 o_atS98_143 o_atT98_144 o_atU98_145 o_atX98_146 o_first98_147 o_greatest98_148 o_last98_149 o_marked98_150 hc151) mw_854 kb_X12_goesOver (ci := 12) rfl rfl (by decide) rfl rfl hlB72.1 rfl (Nat.le_of_ble_eq_true rfl) dX12_passed_98 (by decide)) X hV132 [0, 1, 2, 3, 4, 5, 6, 7] [] rfl rfl rfl (by decide) (fun u H locs hp154 hV153 => ?_)
                    have hV153 : kV E A s.heap H locs [(a0, .inr (12, [w0_0, w0_1, .int s_sources, w0_3, w0_4, w0_5, w0_6, .ref a5, w0_8, w0_9, w0_10, w0_11, w0_12, w0_13, w0_14, w0_15, w0_16, w0_17, w0_18, w0_19, w0_20, w0_21, w0_22, w0_23, w0_24, w0_25, w0_26, w0_27, .int o_atA98_134, .int o_atB98_135, .int o_atD98_136, .int o_atF98_137, .int o_atG98_138, .int o_atH98_139, .int o_atL98_140, .int o_atM98_141, .int o_atN98_142, .int o_atS98_143, .int o_atT98_144, .int o_atU98_145, .int o_atX98_146, w0_41, w0_42, w0_43, w0_44, w0_45, w0_46, w0_47, .int o_paperHigh82_105, .int o_paperShape82_106, .ref a3, .ref a7, .ref a1, .ref a4, .ref a2, .ref a6, w0_56, w0_57, w0_58, w0_59, w0_60, w0_61, w0_62, w0_63, w0_64, w0_65, w0_66])), (a1, .inl (E.2 0, 1440, .inl o_first98_147)), (a2, .inl (E.2 0, 1440, .inl o_greatest98_148)), (a3, .inl (E.2 0, 1440, .inl o_highAt82_107)), (a4, .inl (E.2 0, 1440, .inl o_last98_149)), (a5, .inl (E.2 0, 20, .inl s_many)), (a6, .inl (E.2 0, 2, .inl o_marked98_150)), (a7, .inl (E.2 0, 1440, .inl o_shapeAt82_108))] := hV153.sub [0, 1, 2, 3, 4, 5, 6, 7] rfl rfl
                    clear hV132
                    refine lv_iconst (v := 0) hx hb dX12_passed_101 (by decide) ?_
                    refine lv_istore (lv' := [(10, .int 0), (0, .ref a0), (1, .int p1), (2, .int p2), (4, .int p4), (5, .int p5), (6, .int 0), (7, .int (-1)), (8, .int (-1)), (9, .int x9_80)]) hx hb dX12_passed_102 hlB72 (by decide) rfl (fun ls hl155 => ?_)
                    clear hlB72
                    refine lv_iload hx hb dX12_passed_104 (lv_at hl155 0 rfl) ?_
                    refine lv_aload_n hx hb dX12_passed_106 rfl (lv_at hl155 1 rfl) ?_
                    refine kget X hV153 (ci := 12) inlX12 rfl 0 rfl 55 (by decide) mw_167 rfl dX12_passed_107 ?_
                    refine lv_iconst (v := 1) hx hb dX12_passed_110 (by decide) ?_
                    obtain ⟨hi157, v111_156, e158, h159⟩ := rdI_s h152
                    clear h152
                    refine kiald X hV153 6 rfl hi157 e158 dX12_passed_111 ?_
                    clear hi157 e158
                    refine lv_icmp_ge (tgt := 158) hx hb dX12_passed_112 (by decide) (fun c160 => ?_) (fun c160 => ?_)
                    · have h161 := itS c160 h159
                      clear h159 c160
                      obtain ⟨v158_163, e164, h165⟩ := nmI_s h161
                      clear h161
                      refine lv_iinc (v := v158_163) (lv' := [(9, .int v158_163), (10, .int 0), (0, .ref a0), (1, .int p1), (2, .int p2), (4, .int p4), (5, .int p5), (6, .int 0), (7, .int (-1)), (8, .int (-1))]) hx hb dX12_passed_158 hl155 (k := 9) rfl (by rw [e164]; rfl) (by decide) rfl (fun ls hl166 => ?_)
                      clear hl155 e164
                      refine lv_goto (tgt := 72) hx hb dX12_passed_161 (by decide) ?_
                      exact ih72 v158_163 o_atA98_134 o_atB98_135 o_atD98_136 o_atF98_137 o_atG98_138 o_atH98_139 o_atL98_140 o_atM98_141 o_atN98_142 o_atS98_143 o_atT98_144 o_atU98_145 o_atX98_146 o_paperHigh82_105 o_paperShape82_106 o_first98_147 o_greatest98_148 o_highAt82_107 o_last98_149 o_marked98_150 o_shapeAt82_108 _ _ _ h165 hV153 (lv_sub hl166 [2, 3, 4, 5, 6, 7, 8, 9, 0] rfl)
                    · have h162 := ieS c160 h159
                      clear h159 c160
                      refine lv_aload_n hx hb dX12_passed_115 rfl (lv_at hl155 1 rfl) ?_
                      refine lv_iload hx hb dX12_passed_116 (lv_at hl155 0 rfl) ?_
                      exact nomatch h162
              exact L72 FU p3 s_atA s_atB s_atD s_atF s_atG s_atH s_atL s_atM s_atN s_atS s_atT s_atU s_atX s_paperHigh s_paperShape s_first s_greatest s_highAt s_last s_marked s_shapeAt _ _ _ h47 hV44 (lv_sub hl52 [4, 5, 6, 8, 9, 3, 2, 1, 0] rfl)
            · have h48 := itS c46 h43
              clear h43 c46
              refine lv_iconst (v := (-1)) hx hb dX12_passed_58 (by decide) ?_
              cases h48
              exact hret _ () _ _ _ _ rfl rfl hV44 dX12_passed_59
abbrev r_X12_note : Room := { frames := 2, cells := 0, slots := 0, locals := 45 }
set_option maxHeartbeats 4000000 in
set_option maxRecDepth 100000 in
theorem c_X12_note (l : Launch) (E : kE) (sz : Nat) (a0 a1 a2 a3 : Nat) (w0_0 w0_1 w0_2 w0_3 w0_5 w0_6 w0_7 w0_8 w0_9 w0_10 w0_11 w0_12 w0_13 w0_14 w0_15 w0_16 w0_17 w0_18 w0_19 w0_20 w0_21 w0_22 w0_23 w0_24 w0_25 w0_26 w0_27 w0_28 w0_29 w0_30 w0_31 w0_32 w0_33 w0_34 w0_35 w0_36 w0_37 w0_38 w0_39 w0_40 w0_41 w0_42 w0_43 w0_44 w0_45 w0_46 w0_47 w0_48 w0_49 w0_50 w0_51 w0_52 w0_53 w0_54 w0_55 w0_59 w0_60 w0_61 w0_62 w0_63 w0_64 w0_65 w0_66 : Value) (s_notes : Int32) (s_noteDay : Nat → Int32) (s_noteMinute : Nat → Int32) (s_noteShape : Nat → Int32) (p1 : Int32) (p2 : Int32) (p3 : Int32) (r : Int32) (o_notes : Int32) (o_noteDay : Nat → Int32) (o_noteMinute : Nat → Int32) (o_noteShape : Nat → Int32) (h : f_X12_note s_notes s_noteDay s_noteMinute s_noteShape p1 p2 p3 = some (r, o_notes, o_noteDay, o_noteMinute, o_noteShape)) : kMi l yX12_note cX12_note 4 (some .int) r_X12_note [.ref a0, .int p1, .int p2, .int p3] E [(a0, .inr (12, [w0_0, w0_1, w0_2, w0_3, .int s_notes, w0_5, w0_6, w0_7, w0_8, w0_9, w0_10, w0_11, w0_12, w0_13, w0_14, w0_15, w0_16, w0_17, w0_18, w0_19, w0_20, w0_21, w0_22, w0_23, w0_24, w0_25, w0_26, w0_27, w0_28, w0_29, w0_30, w0_31, w0_32, w0_33, w0_34, w0_35, w0_36, w0_37, w0_38, w0_39, w0_40, w0_41, w0_42, w0_43, w0_44, w0_45, w0_46, w0_47, w0_48, w0_49, w0_50, w0_51, w0_52, w0_53, w0_54, w0_55, .ref a1, .ref a2, .ref a3, w0_59, w0_60, w0_61, w0_62, w0_63, w0_64, w0_65, w0_66])), (a1, .inl (E.2 0, 40, .inl s_noteDay)), (a2, .inl (E.2 0, 40, .inl s_noteMinute)), (a3, .inl (E.2 0, 40, .inl s_noteShape))] sz 0 0 (fun x (_ : Unit) => x = r) (fun _ => [(a0, .inr (12, [w0_0, w0_1, w0_2, w0_3, .int o_notes, w0_5, w0_6, w0_7, w0_8, w0_9, w0_10, w0_11, w0_12, w0_13, w0_14, w0_15, w0_16, w0_17, w0_18, w0_19, w0_20, w0_21, w0_22, w0_23, w0_24, w0_25, w0_26, w0_27, w0_28, w0_29, w0_30, w0_31, w0_32, w0_33, w0_34, w0_35, w0_36, w0_37, w0_38, w0_39, w0_40, w0_41, w0_42, w0_43, w0_44, w0_45, w0_46, w0_47, w0_48, w0_49, w0_50, w0_51, w0_52, w0_53, w0_54, w0_55, .ref a1, .ref a2, .ref a3, w0_59, w0_60, w0_61, w0_62, w0_63, w0_64, w0_65, w0_66])), (a1, .inl (E.2 0, 40, .inl o_noteDay)), (a2, .inl (E.2 0, 40, .inl o_noteMinute)), (a3, .inl (E.2 0, 40, .inl o_noteShape))]) := by
  refine kmeti rfl (Nat.le_of_ble_eq_true rfl) ?_
  intro p e s m args below meth c ls A Q X hV hret hl
  have X : kC p s m c cX12_note 4 RX12 args E A := X
  have hx := X.1
  have hb := X.2.1
  have hl : lv_has ls 4 [(0, .ref a0), (1, .int p1), (2, .int p2), (3, .int p3)] := hl
  rw [f_X12_note] at h
  refine lv_aload_n hx hb dX12_note_0 rfl (lv_at hl 0 rfl) ?_
  refine kget X hV (ci := 12) inlX12 rfl 0 rfl 4 (by decide) mw_899 rfl dX12_note_1 ?_
  refine lv_bipush (v := 40) hx hb dX12_note_4 (by decide) ?_
  refine lv_icmp_eq (tgt := 57) hx hb dX12_note_6 (by decide) (fun c1 => ?_) (fun c1 => ?_)
  · have h2 := itS c1 h
    clear h c1
    refine lv_iconst (v := (-1)) hx hb dX12_note_57 (by decide) ?_
    cases h2
    exact hret _ () _ _ _ _ rfl rfl hV dX12_note_58
  · have h3 := ieS c1 h
    clear h c1
    refine lv_iload_n hx hb dX12_note_9 rfl (lv_at hl 1 rfl) ?_
    obtain ⟨r10_4, hc5, h6⟩ := cb1_s h3
    clear h3
    refine kgoiE (krunS (rest := []) X hV [] (c_X12_isDay l E _ p1 r10_4 hc5) mw_632 kb_X12_isDay (by decide) rfl rfl hl.1 rfl (Nat.le_of_ble_eq_true rfl) dX12_note_10 (by decide)) X hV [] [0, 1, 2, 3] rfl rfl rfl (by decide) (fun u H locs hV7 => ?_)
    have hV7 : kV E A s.heap H locs [(a0, .inr (12, [w0_0, w0_1, w0_2, w0_3, .int s_notes, w0_5, w0_6, w0_7, w0_8, w0_9, w0_10, w0_11, w0_12, w0_13, w0_14, w0_15, w0_16, w0_17, w0_18, w0_19, w0_20, w0_21, w0_22, w0_23, w0_24, w0_25, w0_26, w0_27, w0_28, w0_29, w0_30, w0_31, w0_32, w0_33, w0_34, w0_35, w0_36, w0_37, w0_38, w0_39, w0_40, w0_41, w0_42, w0_43, w0_44, w0_45, w0_46, w0_47, w0_48, w0_49, w0_50, w0_51, w0_52, w0_53, w0_54, w0_55, .ref a1, .ref a2, .ref a3, w0_59, w0_60, w0_61, w0_62, w0_63, w0_64, w0_65, w0_66])), (a1, .inl (E.2 0, 40, .inl s_noteDay)), (a2, .inl (E.2 0, 40, .inl s_noteMinute)), (a3, .inl (E.2 0, 40, .inl s_noteShape))] := hV7.sub [0, 1, 2, 3] rfl rfl
    clear hV
    refine lv_if_eq (tgt := 57) hx hb dX12_note_13 (by decide) (fun c9 => ?_) (fun c9 => ?_)
    · have h10 := itS c9 h6
      clear h6 c9
      refine lv_iconst (v := (-1)) hx hb dX12_note_57 (by decide) ?_
      cases h10
      exact hret _ () _ _ _ _ rfl rfl hV7 dX12_note_58
    · have h11 := ieS c9 h6
      clear h6 c9
      refine lv_iload_n hx hb dX12_note_16 rfl (lv_at hl 2 rfl) ?_
      obtain ⟨r17_12, hc13, h14⟩ := cb1_s h11
      clear h11
      refine kgoiE (krunS (rest := []) X hV7 [] (c_X12_isMinute l E _ p2 r17_12 hc13) mw_220 kb_X12_isMinute (by decide) rfl rfl hl.1 rfl (Nat.le_of_ble_eq_true rfl) dX12_note_17 (by decide)) X hV7 [] [0, 1, 2, 3] rfl rfl rfl (by decide) (fun u H locs hV15 => ?_)
      have hV15 : kV E A s.heap H locs [(a0, .inr (12, [w0_0, w0_1, w0_2, w0_3, .int s_notes, w0_5, w0_6, w0_7, w0_8, w0_9, w0_10, w0_11, w0_12, w0_13, w0_14, w0_15, w0_16, w0_17, w0_18, w0_19, w0_20, w0_21, w0_22, w0_23, w0_24, w0_25, w0_26, w0_27, w0_28, w0_29, w0_30, w0_31, w0_32, w0_33, w0_34, w0_35, w0_36, w0_37, w0_38, w0_39, w0_40, w0_41, w0_42, w0_43, w0_44, w0_45, w0_46, w0_47, w0_48, w0_49, w0_50, w0_51, w0_52, w0_53, w0_54, w0_55, .ref a1, .ref a2, .ref a3, w0_59, w0_60, w0_61, w0_62, w0_63, w0_64, w0_65, w0_66])), (a1, .inl (E.2 0, 40, .inl s_noteDay)), (a2, .inl (E.2 0, 40, .inl s_noteMinute)), (a3, .inl (E.2 0, 40, .inl s_noteShape))] := hV15.sub [0, 1, 2, 3] rfl rfl
      clear hV7
      refine lv_if_eq (tgt := 57) hx hb dX12_note_20 (by decide) (fun c17 => ?_) (fun c17 => ?_)
      · have h18 := itS c17 h14
        clear h14 c17
        refine lv_iconst (v := (-1)) hx hb dX12_note_57 (by decide) ?_
        cases h18
        exact hret _ () _ _ _ _ rfl rfl hV15 dX12_note_58
      · have h19 := ieS c17 h14
        clear h14 c17
        refine lv_iload_n hx hb dX12_note_23 rfl (lv_at hl 3 rfl) ?_
        refine lv_i2l (v := Int32.toInt64 p3) hx hb dX12_note_24 rfl ?_
        refine lv_lconst (v := 0) hx hb dX12_note_25 (by decide) ?_
        refine lv_ldc2 (v := 3) hx hb X.2.2.2.1 (X.2.2.2.2.1 _ mw_218) dX12_note_26 ?_
        obtain ⟨r29_20, hc21, h22⟩ := cb1_s h19
        clear h19
        refine kgoiE (krunS (rest := []) X hV15 [] (c_X12_lies l E _ (Int32.toInt64 p3) 0 3 r29_20 hc21) mw_224 kb_X12_lies (by decide) rfl rfl hl.1 rfl (Nat.le_of_ble_eq_true rfl) dX12_note_29 (by decide)) X hV15 [] [0, 1, 2, 3] rfl rfl rfl (by decide) (fun u H locs hV23 => ?_)
        have hV23 : kV E A s.heap H locs [(a0, .inr (12, [w0_0, w0_1, w0_2, w0_3, .int s_notes, w0_5, w0_6, w0_7, w0_8, w0_9, w0_10, w0_11, w0_12, w0_13, w0_14, w0_15, w0_16, w0_17, w0_18, w0_19, w0_20, w0_21, w0_22, w0_23, w0_24, w0_25, w0_26, w0_27, w0_28, w0_29, w0_30, w0_31, w0_32, w0_33, w0_34, w0_35, w0_36, w0_37, w0_38, w0_39, w0_40, w0_41, w0_42, w0_43, w0_44, w0_45, w0_46, w0_47, w0_48, w0_49, w0_50, w0_51, w0_52, w0_53, w0_54, w0_55, .ref a1, .ref a2, .ref a3, w0_59, w0_60, w0_61, w0_62, w0_63, w0_64, w0_65, w0_66])), (a1, .inl (E.2 0, 40, .inl s_noteDay)), (a2, .inl (E.2 0, 40, .inl s_noteMinute)), (a3, .inl (E.2 0, 40, .inl s_noteShape))] := hV23.sub [0, 1, 2, 3] rfl rfl
        clear hV15
        refine lv_if_eq (tgt := 57) hx hb dX12_note_32 (by decide) (fun c25 => ?_) (fun c25 => ?_)
        · have h26 := itS c25 h22
          clear h22 c25
          refine lv_iconst (v := (-1)) hx hb dX12_note_57 (by decide) ?_
          cases h26
          exact hret _ () _ _ _ _ rfl rfl hV23 dX12_note_58
        · have h27 := ieS c25 h22
          clear h22 c25
          refine lv_aload_n hx hb dX12_note_35 rfl (lv_at hl 0 rfl) ?_
          refine kget X hV23 (ci := 12) inlX12 rfl 0 rfl 4 (by decide) mw_899 rfl dX12_note_36 ?_
          have J59 : ∀  (H : Heap) (locs : List Loc) (ls : Array Slot), (f_X12_note_J59 s_notes s_noteDay s_noteMinute s_noteShape p1 p2 p3 ) = some (r, o_notes, o_noteDay, o_noteMinute, o_noteShape) → kV E A s.heap H locs [(a0, .inr (12, [w0_0, w0_1, w0_2, w0_3, .int s_notes, w0_5, w0_6, w0_7, w0_8, w0_9, w0_10, w0_11, w0_12, w0_13, w0_14, w0_15, w0_16, w0_17, w0_18, w0_19, w0_20, w0_21, w0_22, w0_23, w0_24, w0_25, w0_26, w0_27, w0_28, w0_29, w0_30, w0_31, w0_32, w0_33, w0_34, w0_35, w0_36, w0_37, w0_38, w0_39, w0_40, w0_41, w0_42, w0_43, w0_44, w0_45, w0_46, w0_47, w0_48, w0_49, w0_50, w0_51, w0_52, w0_53, w0_54, w0_55, .ref a1, .ref a2, .ref a3, w0_59, w0_60, w0_61, w0_62, w0_63, w0_64, w0_65, w0_66])), (a1, .inl (E.2 0, 40, .inl s_noteDay)), (a2, .inl (E.2 0, 40, .inl s_noteMinute)), (a3, .inl (E.2 0, 40, .inl s_noteShape))] → lv_has ls 4 [(0, .ref a0), (1, .int p1), (2, .int p2), (3, .int p3)] → W p l e r_X12_note s m args below meth c H locs 0 0 Q (F0 m 59 ls []) := by
            intro  H locs ls hB59 hVB59 hlB59
            rw [f_X12_note_J59] at hB59
            refine lv_aload_n hx hb dX12_note_59 rfl (lv_at hlB59 0 rfl) ?_
            refine kget X hVB59 (ci := 12) inlX12 rfl 0 rfl 56 (by decide) mw_168 rfl dX12_note_60 ?_
            refine lv_aload_n hx hb dX12_note_63 rfl (lv_at hlB59 0 rfl) ?_
            refine kget X hVB59 (ci := 12) inlX12 rfl 0 rfl 4 (by decide) mw_899 rfl dX12_note_64 ?_
            refine lv_iload_n hx hb dX12_note_67 rfl (lv_at hlB59 1 rfl) ?_
            obtain ⟨hi29, g68_28, e30, h31⟩ := wrI_s hB59
            clear hB59
            refine kiast X hVB59 1 rfl hi29 e30 dX12_note_68 (fun H locs hV32 => ?_)
            have hV32 : kV E A s.heap H locs [(a0, .inr (12, [w0_0, w0_1, w0_2, w0_3, .int s_notes, w0_5, w0_6, w0_7, w0_8, w0_9, w0_10, w0_11, w0_12, w0_13, w0_14, w0_15, w0_16, w0_17, w0_18, w0_19, w0_20, w0_21, w0_22, w0_23, w0_24, w0_25, w0_26, w0_27, w0_28, w0_29, w0_30, w0_31, w0_32, w0_33, w0_34, w0_35, w0_36, w0_37, w0_38, w0_39, w0_40, w0_41, w0_42, w0_43, w0_44, w0_45, w0_46, w0_47, w0_48, w0_49, w0_50, w0_51, w0_52, w0_53, w0_54, w0_55, .ref a1, .ref a2, .ref a3, w0_59, w0_60, w0_61, w0_62, w0_63, w0_64, w0_65, w0_66])), (a1, .inl (E.2 0, 40, .inl g68_28)), (a2, .inl (E.2 0, 40, .inl s_noteMinute)), (a3, .inl (E.2 0, 40, .inl s_noteShape))] := hV32
            clear hVB59 hi29 e30
            refine lv_aload_n hx hb dX12_note_69 rfl (lv_at hlB59 0 rfl) ?_
            refine kget X hV32 (ci := 12) inlX12 rfl 0 rfl 57 (by decide) mw_169 rfl dX12_note_70 ?_
            refine lv_aload_n hx hb dX12_note_73 rfl (lv_at hlB59 0 rfl) ?_
            refine kget X hV32 (ci := 12) inlX12 rfl 0 rfl 4 (by decide) mw_899 rfl dX12_note_74 ?_
            refine lv_iload_n hx hb dX12_note_77 rfl (lv_at hlB59 2 rfl) ?_
            obtain ⟨hi34, g78_33, e35, h36⟩ := wrI_s h31
            clear h31
            refine kiast X hV32 2 rfl hi34 e35 dX12_note_78 (fun H locs hV37 => ?_)
            have hV37 : kV E A s.heap H locs [(a0, .inr (12, [w0_0, w0_1, w0_2, w0_3, .int s_notes, w0_5, w0_6, w0_7, w0_8, w0_9, w0_10, w0_11, w0_12, w0_13, w0_14, w0_15, w0_16, w0_17, w0_18, w0_19, w0_20, w0_21, w0_22, w0_23, w0_24, w0_25, w0_26, w0_27, w0_28, w0_29, w0_30, w0_31, w0_32, w0_33, w0_34, w0_35, w0_36, w0_37, w0_38, w0_39, w0_40, w0_41, w0_42, w0_43, w0_44, w0_45, w0_46, w0_47, w0_48, w0_49, w0_50, w0_51, w0_52, w0_53, w0_54, w0_55, .ref a1, .ref a2, .ref a3, w0_59, w0_60, w0_61, w0_62, w0_63, w0_64, w0_65, w0_66])), (a1, .inl (E.2 0, 40, .inl g68_28)), (a2, .inl (E.2 0, 40, .inl g78_33)), (a3, .inl (E.2 0, 40, .inl s_noteShape))] := hV37
            clear hV32 hi34 e35
            refine lv_aload_n hx hb dX12_note_79 rfl (lv_at hlB59 0 rfl) ?_
            refine kget X hV37 (ci := 12) inlX12 rfl 0 rfl 58 (by decide) mw_170 rfl dX12_note_80 ?_
            refine lv_aload_n hx hb dX12_note_83 rfl (lv_at hlB59 0 rfl) ?_
            refine kget X hV37 (ci := 12) inlX12 rfl 0 rfl 4 (by decide) mw_899 rfl dX12_note_84 ?_
            refine lv_iload_n hx hb dX12_note_87 rfl (lv_at hlB59 3 rfl) ?_
            obtain ⟨hi39, g88_38, e40, h41⟩ := wrI_s h36
            clear h36
            refine kiast X hV37 3 rfl hi39 e40 dX12_note_88 (fun H locs hV42 => ?_)
            have hV42 : kV E A s.heap H locs [(a0, .inr (12, [w0_0, w0_1, w0_2, w0_3, .int s_notes, w0_5, w0_6, w0_7, w0_8, w0_9, w0_10, w0_11, w0_12, w0_13, w0_14, w0_15, w0_16, w0_17, w0_18, w0_19, w0_20, w0_21, w0_22, w0_23, w0_24, w0_25, w0_26, w0_27, w0_28, w0_29, w0_30, w0_31, w0_32, w0_33, w0_34, w0_35, w0_36, w0_37, w0_38, w0_39, w0_40, w0_41, w0_42, w0_43, w0_44, w0_45, w0_46, w0_47, w0_48, w0_49, w0_50, w0_51, w0_52, w0_53, w0_54, w0_55, .ref a1, .ref a2, .ref a3, w0_59, w0_60, w0_61, w0_62, w0_63, w0_64, w0_65, w0_66])), (a1, .inl (E.2 0, 40, .inl g68_28)), (a2, .inl (E.2 0, 40, .inl g78_33)), (a3, .inl (E.2 0, 40, .inl g88_38))] := hV42
            clear hV37 hi39 e40
            refine lv_aload_n hx hb dX12_note_89 rfl (lv_at hlB59 0 rfl) ?_
            refine lv_dup hx hb dX12_note_90 rfl ?_
            refine kget X hV42 (ci := 12) inlX12 rfl 0 rfl 4 (by decide) mw_899 rfl dX12_note_91 ?_
            refine lv_iconst (v := 1) hx hb dX12_note_94 (by decide) ?_
            refine lv_iadd hx hb dX12_note_95 ?_
            obtain ⟨v96_43, e44, h45⟩ := nmI_s h41
            clear h41
            refine ktopi e44 ?_
            clear e44
            refine kput X hV42 (ci := 12) inlX12 rfl tyX12 tyX12_ok nmX12 0 rfl 4 (by decide) mw_899 rfl rfl rfl (Nat.le_of_ble_eq_true rfl) dX12_note_96 (fun H locs hV46 => ?_)
            have hV46 : kV E A s.heap H locs [(a0, .inr (12, [w0_0, w0_1, w0_2, w0_3, .int v96_43, w0_5, w0_6, w0_7, w0_8, w0_9, w0_10, w0_11, w0_12, w0_13, w0_14, w0_15, w0_16, w0_17, w0_18, w0_19, w0_20, w0_21, w0_22, w0_23, w0_24, w0_25, w0_26, w0_27, w0_28, w0_29, w0_30, w0_31, w0_32, w0_33, w0_34, w0_35, w0_36, w0_37, w0_38, w0_39, w0_40, w0_41, w0_42, w0_43, w0_44, w0_45, w0_46, w0_47, w0_48, w0_49, w0_50, w0_51, w0_52, w0_53, w0_54, w0_55, .ref a1, .ref a2, .ref a3, w0_59, w0_60, w0_61, w0_62, w0_63, w0_64, w0_65, w0_66])), (a1, .inl (E.2 0, 40, .inl g68_28)), (a2, .inl (E.2 0, 40, .inl g78_33)), (a3, .inl (E.2 0, 40, .inl g88_38))] := hV46
            clear hV42
            refine lv_aload_n hx hb dX12_note_99 rfl (lv_at hlB59 0 rfl) ?_
            refine kget X hV46 (ci := 12) inlX12 rfl 0 rfl 4 (by decide) mw_899 rfl dX12_note_100 ?_
            refine lv_iconst (v := 1) hx hb dX12_note_103 (by decide) ?_
            refine lv_isub hx hb dX12_note_104 ?_
            cases h45
            exact hret _ () _ _ _ _ rfl rfl hV46 dX12_note_105
          refine lv_if_le (tgt := 59) hx hb dX12_note_39 (by decide) (fun c47 => ?_) (fun c47 => ?_)
          · have h48 := itS c47 h27
            clear h27 c47
            exact J59  _ _ _ h48 hV23 (lv_sub hl [0, 1, 2, 3] rfl)
          · have h49 := ieS c47 h27
            clear h27 c47
            refine lv_iload_n hx hb dX12_note_42 rfl (lv_at hl 1 rfl) ?_
            refine lv_aload_n hx hb dX12_note_43 rfl (lv_at hl 0 rfl) ?_
            refine kget X hV23 (ci := 12) inlX12 rfl 0 rfl 56 (by decide) mw_168 rfl dX12_note_44 ?_
            refine lv_aload_n hx hb dX12_note_47 rfl (lv_at hl 0 rfl) ?_
            refine kget X hV23 (ci := 12) inlX12 rfl 0 rfl 4 (by decide) mw_899 rfl dX12_note_48 ?_
            refine lv_iconst (v := 1) hx hb dX12_note_51 (by decide) ?_
            refine lv_isub hx hb dX12_note_52 ?_
            obtain ⟨hi51, v53_50, e52, h53⟩ := rdI_s h49
            clear h49
            refine kiald X hV23 1 rfl hi51 e52 dX12_note_53 ?_
            clear hi51 e52
            refine lv_icmp_ge (tgt := 59) hx hb dX12_note_54 (by decide) (fun c54 => ?_) (fun c54 => ?_)
            · have h55 := itS c54 h53
              clear h53 c54
              exact J59  _ _ _ h55 hV23 (lv_sub hl [0, 1, 2, 3] rfl)
            · have h56 := ieS c54 h53
              clear h53 c54
              refine lv_iconst (v := (-1)) hx hb dX12_note_57 (by decide) ?_
              cases h56
              exact hret _ () _ _ _ _ rfl rfl hV23 dX12_note_58
abbrev r_X12_isWithin : Room := { frames := 1, cells := 0, slots := 0, locals := 25 }
set_option maxHeartbeats 4000000 in
set_option maxRecDepth 100000 in
theorem c_X12_isWithin (l : Launch) (E : kE) (sz : Nat) (p1 : Int32) (r : Int32) (h : f_X12_isWithin p1 = some (r)) : kMi l yX12_isWithin cX12_isWithin 1 (some .boolean) r_X12_isWithin [.int p1] E [] sz 0 0 (fun x (_ : Unit) => x = r) (fun _ => []) := by
  refine kmeti rfl (Nat.le_of_ble_eq_true rfl) ?_
  intro p e s m args below meth c ls A Q X hV hret hl
  have X : kC p s m c cX12_isWithin 1 RX12 args E A := X
  have hx := X.1
  have hb := X.2.1
  have hl : lv_has ls 1 [(0, .int p1)] := hl
  rw [f_X12_isWithin] at h
  refine lv_iload_n hx hb dX12_isWithin_0 rfl (lv_at hl 0 rfl) ?_
  refine lv_i2l (v := Int32.toInt64 p1) hx hb dX12_isWithin_1 rfl ?_
  refine lv_lconst (v := 0) hx hb dX12_isWithin_2 (by decide) ?_
  refine lv_ldc2 (v := 700) hx hb X.2.2.2.1 (X.2.2.2.2.1 _ mw_927) dX12_isWithin_3 ?_
  obtain ⟨r6_1, hc2, h3⟩ := cb1_s h
  clear h
  refine kgoiE (krunS (rest := []) X hV [] (c_X12_lies l E _ (Int32.toInt64 p1) 0 700 r6_1 hc2) mw_224 kb_X12_lies (by decide) rfl rfl hl.1 rfl (Nat.le_of_ble_eq_true rfl) dX12_isWithin_6 (by decide)) X hV [] [] rfl rfl rfl (by decide) (fun u H locs hV4 => ?_)
  have hV4 : kV E A s.heap H locs [] := hV4.sub [] rfl rfl
  clear hV
  obtain ⟨hb6, h7⟩ := bo_s h3
  clear h3
  cases h7
  exact hret _ () _ _ _ _ rfl hb6 hV4 dX12_isWithin_9
abbrev r_X12_isShape : Room := { frames := 1, cells := 0, slots := 0, locals := 25 }
set_option maxHeartbeats 4000000 in
set_option maxRecDepth 100000 in
theorem c_X12_isShape (l : Launch) (E : kE) (sz : Nat) (p1 : Int32) (r : Int32) (h : f_X12_isShape p1 = some (r)) : kMi l yX12_isShape cX12_isShape 1 (some .boolean) r_X12_isShape [.int p1] E [] sz 0 0 (fun x (_ : Unit) => x = r) (fun _ => []) := by
  refine kmeti rfl (Nat.le_of_ble_eq_true rfl) ?_
  intro p e s m args below meth c ls A Q X hV hret hl
  have X : kC p s m c cX12_isShape 1 RX12 args E A := X
  have hx := X.1
  have hb := X.2.1
  have hl : lv_has ls 1 [(0, .int p1)] := hl
  rw [f_X12_isShape] at h
  refine lv_iload_n hx hb dX12_isShape_0 rfl (lv_at hl 0 rfl) ?_
  refine lv_i2l (v := Int32.toInt64 p1) hx hb dX12_isShape_1 rfl ?_
  refine lv_lconst (v := 0) hx hb dX12_isShape_2 (by decide) ?_
  refine lv_ldc2 (v := 3) hx hb X.2.2.2.1 (X.2.2.2.2.1 _ mw_218) dX12_isShape_3 ?_
  obtain ⟨r6_1, hc2, h3⟩ := cb1_s h
  clear h
  refine kgoiE (krunS (rest := []) X hV [] (c_X12_lies l E _ (Int32.toInt64 p1) 0 3 r6_1 hc2) mw_224 kb_X12_lies (by decide) rfl rfl hl.1 rfl (Nat.le_of_ble_eq_true rfl) dX12_isShape_6 (by decide)) X hV [] [] rfl rfl rfl (by decide) (fun u H locs hV4 => ?_)
  have hV4 : kV E A s.heap H locs [] := hV4.sub [] rfl rfl
  clear hV
  obtain ⟨hb6, h7⟩ := bo_s h3
  clear h3
  cases h7
  exact hret _ () _ _ _ _ rfl hb6 hV4 dX12_isShape_9
abbrev r_X12_manyOf : Room := { frames := 0, cells := 0, slots := 0, locals := 0 }
set_option maxHeartbeats 4000000 in
set_option maxRecDepth 100000 in
theorem c_X12_manyOf (l : Launch) (E : kE) (sz : Nat) (a0 a1 a2 : Nat) (w0_0 w0_1 w0_2 w0_3 w0_5 w0_6 w0_7 w0_8 w0_9 w0_10 w0_11 w0_12 w0_13 w0_14 w0_15 w0_16 w0_17 w0_18 w0_19 w0_20 w0_21 w0_22 w0_23 w0_24 w0_25 w0_26 w0_27 w0_28 w0_29 w0_30 w0_31 w0_32 w0_33 w0_34 w0_35 w0_36 w0_37 w0_38 w0_39 w0_40 w0_41 w0_42 w0_43 w0_44 w0_45 w0_46 w0_47 w0_48 w0_49 w0_50 w0_51 w0_52 w0_53 w0_54 w0_55 w0_57 w0_59 w0_60 w0_61 w0_62 w0_63 w0_64 w0_65 w0_66 : Value) (s_notes : Int32) (s_noteDay : Nat → Int32) (s_noteShape : Nat → Int32) (p1 : Int32) (p2 : Int32) (r : Int32) (h : f_X12_manyOf s_notes s_noteDay s_noteShape p1 p2 = some (r)) : kMi l yX12_manyOf cX12_manyOf 5 (some .int) r_X12_manyOf [.ref a0, .int p1, .int p2] E [(a0, .inr (12, [w0_0, w0_1, w0_2, w0_3, .int s_notes, w0_5, w0_6, w0_7, w0_8, w0_9, w0_10, w0_11, w0_12, w0_13, w0_14, w0_15, w0_16, w0_17, w0_18, w0_19, w0_20, w0_21, w0_22, w0_23, w0_24, w0_25, w0_26, w0_27, w0_28, w0_29, w0_30, w0_31, w0_32, w0_33, w0_34, w0_35, w0_36, w0_37, w0_38, w0_39, w0_40, w0_41, w0_42, w0_43, w0_44, w0_45, w0_46, w0_47, w0_48, w0_49, w0_50, w0_51, w0_52, w0_53, w0_54, w0_55, .ref a1, w0_57, .ref a2, w0_59, w0_60, w0_61, w0_62, w0_63, w0_64, w0_65, w0_66])), (a1, .inl (E.2 0, 40, .inl s_noteDay)), (a2, .inl (E.2 0, 40, .inl s_noteShape))] sz 0 0 (fun x (_ : Unit) => x = r) (fun _ => [(a0, .inr (12, [w0_0, w0_1, w0_2, w0_3, .int s_notes, w0_5, w0_6, w0_7, w0_8, w0_9, w0_10, w0_11, w0_12, w0_13, w0_14, w0_15, w0_16, w0_17, w0_18, w0_19, w0_20, w0_21, w0_22, w0_23, w0_24, w0_25, w0_26, w0_27, w0_28, w0_29, w0_30, w0_31, w0_32, w0_33, w0_34, w0_35, w0_36, w0_37, w0_38, w0_39, w0_40, w0_41, w0_42, w0_43, w0_44, w0_45, w0_46, w0_47, w0_48, w0_49, w0_50, w0_51, w0_52, w0_53, w0_54, w0_55, .ref a1, w0_57, .ref a2, w0_59, w0_60, w0_61, w0_62, w0_63, w0_64, w0_65, w0_66])), (a1, .inl (E.2 0, 40, .inl s_noteDay)), (a2, .inl (E.2 0, 40, .inl s_noteShape))]) := by
  refine kmeti rfl (Nat.le_of_ble_eq_true rfl) ?_
  intro p e s m args below meth c ls A Q X hV hret hl
  have X : kC p s m c cX12_manyOf 5 RX12 args E A := X
  have hx := X.1
  have hb := X.2.1
  have hl : lv_has ls 5 [(0, .ref a0), (1, .int p1), (2, .int p2)] := hl
  rw [f_X12_manyOf] at h
  refine lv_iconst (v := 0) hx hb dX12_manyOf_0 (by decide) ?_
  refine lv_istore_n (lv' := [(3, .int 0), (0, .ref a0), (1, .int p1), (2, .int p2)]) hx hb dX12_manyOf_1 rfl hl (by decide) rfl (fun ls hl1 => ?_)
  clear hl
  refine lv_iconst (v := 0) hx hb dX12_manyOf_2 (by decide) ?_
  refine lv_istore (lv' := [(4, .int 0), (3, .int 0), (0, .ref a0), (1, .int p1), (2, .int p2)]) hx hb dX12_manyOf_3 hl1 (by decide) rfl (fun ls hl2 => ?_)
  clear hl1
  have L5 : ∀ (n5 : Nat) (x3_3 : Int32) (x4_4 : Int32) (H : Heap) (locs : List Loc) (ls : Array Slot), (f_X12_manyOf_L5 s_notes s_noteDay s_noteShape p1 p2  n5) x3_3 x4_4 = some (r) → kV E A s.heap H locs [(a0, .inr (12, [w0_0, w0_1, w0_2, w0_3, .int s_notes, w0_5, w0_6, w0_7, w0_8, w0_9, w0_10, w0_11, w0_12, w0_13, w0_14, w0_15, w0_16, w0_17, w0_18, w0_19, w0_20, w0_21, w0_22, w0_23, w0_24, w0_25, w0_26, w0_27, w0_28, w0_29, w0_30, w0_31, w0_32, w0_33, w0_34, w0_35, w0_36, w0_37, w0_38, w0_39, w0_40, w0_41, w0_42, w0_43, w0_44, w0_45, w0_46, w0_47, w0_48, w0_49, w0_50, w0_51, w0_52, w0_53, w0_54, w0_55, .ref a1, w0_57, .ref a2, w0_59, w0_60, w0_61, w0_62, w0_63, w0_64, w0_65, w0_66])), (a1, .inl (E.2 0, 40, .inl s_noteDay)), (a2, .inl (E.2 0, 40, .inl s_noteShape))] → lv_has ls 5 [(0, .ref a0), (1, .int p1), (2, .int p2), (3, .int x3_3), (4, .int x4_4)] → W p l e r_X12_manyOf s m args below meth c H locs 0 0 Q (F0 m 5 ls []) := by
    intro n5
    induction n5 with
    | zero =>
      intro x3_3 x4_4 H locs ls hB5 hVB5 hlB5
      rw [f_X12_manyOf_L5] at hB5
      exact nomatch hB5
    | succ n5 ih5 =>
      intro x3_3 x4_4 H locs ls hB5 hVB5 hlB5
      rw [f_X12_manyOf_L5] at hB5
      refine lv_iload hx hb dX12_manyOf_5 (lv_at hlB5 4 rfl) ?_
      refine lv_aload_n hx hb dX12_manyOf_7 rfl (lv_at hlB5 0 rfl) ?_
      refine kget X hVB5 (ci := 12) inlX12 rfl 0 rfl 4 (by decide) mw_899 rfl dX12_manyOf_8 ?_
      refine lv_icmp_ge (tgt := 50) hx hb dX12_manyOf_11 (by decide) (fun c5 => ?_) (fun c5 => ?_)
      · have h6 := itS c5 hB5
        clear hB5 c5
        refine lv_iload_n hx hb dX12_manyOf_50 rfl (lv_at hlB5 3 rfl) ?_
        cases h6
        exact hret _ () _ _ _ _ rfl rfl hVB5 dX12_manyOf_51
      · have h7 := ieS c5 hB5
        clear hB5 c5
        refine lv_iload_n hx hb dX12_manyOf_14 rfl (lv_at hlB5 3 rfl) ?_
        refine lv_aload_n hx hb dX12_manyOf_15 rfl (lv_at hlB5 0 rfl) ?_
        refine kget X hVB5 (ci := 12) inlX12 rfl 0 rfl 58 (by decide) mw_170 rfl dX12_manyOf_16 ?_
        refine lv_iload hx hb dX12_manyOf_19 (lv_at hlB5 4 rfl) ?_
        obtain ⟨hi9, v21_8, e10, h11⟩ := rdI_s h7
        clear h7
        refine kiald X hVB5 2 rfl hi9 e10 dX12_manyOf_21 ?_
        clear hi9 e10
        refine lv_iload_n hx hb dX12_manyOf_22 rfl (lv_at hlB5 1 rfl) ?_
        refine lv_icmp_ne (tgt := 41) hx hb dX12_manyOf_23 (by decide) (fun c12 => ?_) (fun c12 => ?_)
        · have h13 := ieS c12 h11
          clear h11 c12
          refine lv_iconst (v := 0) hx hb dX12_manyOf_41 (by decide) ?_
          refine lv_iadd hx hb dX12_manyOf_42 ?_
          obtain ⟨v43_15, e16, h17⟩ := nmI_s h13
          clear h13
          refine ktopi e16 ?_
          clear e16
          refine lv_istore_n (lv' := [(3, .int v43_15), (0, .ref a0), (1, .int p1), (2, .int p2), (4, .int x4_4)]) hx hb dX12_manyOf_43 rfl hlB5 (by decide) rfl (fun ls hl18 => ?_)
          clear hlB5
          obtain ⟨v44_19, e20, h21⟩ := nmI_s h17
          clear h17
          refine lv_iinc (v := v44_19) (lv' := [(4, .int v44_19), (3, .int v43_15), (0, .ref a0), (1, .int p1), (2, .int p2)]) hx hb dX12_manyOf_44 hl18 (k := 4) rfl (by rw [e20]; rfl) (by decide) rfl (fun ls hl22 => ?_)
          clear hl18 e20
          refine lv_goto (tgt := 5) hx hb dX12_manyOf_47 (by decide) ?_
          exact ih5 v43_15 v44_19 _ _ _ h21 hVB5 (lv_sub hl22 [2, 3, 4, 1, 0] rfl)
        · have h14 := itS c12 h11
          clear h11 c12
          refine lv_aload_n hx hb dX12_manyOf_26 rfl (lv_at hlB5 0 rfl) ?_
          refine kget X hVB5 (ci := 12) inlX12 rfl 0 rfl 56 (by decide) mw_168 rfl dX12_manyOf_27 ?_
          refine lv_iload hx hb dX12_manyOf_30 (lv_at hlB5 4 rfl) ?_
          obtain ⟨hi24, v32_23, e25, h26⟩ := rdI_s h14
          clear h14
          refine kiald X hVB5 1 rfl hi24 e25 dX12_manyOf_32 ?_
          clear hi24 e25
          refine lv_iload_n hx hb dX12_manyOf_33 rfl (lv_at hlB5 2 rfl) ?_
          refine lv_icmp_gt (tgt := 41) hx hb dX12_manyOf_34 (by decide) (fun c27 => ?_) (fun c27 => ?_)
          · have h28 := itS c27 h26
            clear h26 c27
            refine lv_iconst (v := 0) hx hb dX12_manyOf_41 (by decide) ?_
            refine lv_iadd hx hb dX12_manyOf_42 ?_
            obtain ⟨v43_30, e31, h32⟩ := nmI_s h28
            clear h28
            refine ktopi e31 ?_
            clear e31
            refine lv_istore_n (lv' := [(3, .int v43_30), (0, .ref a0), (1, .int p1), (2, .int p2), (4, .int x4_4)]) hx hb dX12_manyOf_43 rfl hlB5 (by decide) rfl (fun ls hl33 => ?_)
            clear hlB5
            obtain ⟨v44_34, e35, h36⟩ := nmI_s h32
            clear h32
            refine lv_iinc (v := v44_34) (lv' := [(4, .int v44_34), (3, .int v43_30), (0, .ref a0), (1, .int p1), (2, .int p2)]) hx hb dX12_manyOf_44 hl33 (k := 4) rfl (by rw [e35]; rfl) (by decide) rfl (fun ls hl37 => ?_)
            clear hl33 e35
            refine lv_goto (tgt := 5) hx hb dX12_manyOf_47 (by decide) ?_
            exact ih5 v43_30 v44_34 _ _ _ h36 hVB5 (lv_sub hl37 [2, 3, 4, 1, 0] rfl)
          · have h29 := ieS c27 h26
            clear h26 c27
            refine lv_iconst (v := 1) hx hb dX12_manyOf_37 (by decide) ?_
            refine lv_goto (tgt := 42) hx hb dX12_manyOf_38 (by decide) ?_
            refine lv_iadd hx hb dX12_manyOf_42 ?_
            obtain ⟨v43_38, e39, h40⟩ := nmI_s h29
            clear h29
            refine ktopi e39 ?_
            clear e39
            refine lv_istore_n (lv' := [(3, .int v43_38), (0, .ref a0), (1, .int p1), (2, .int p2), (4, .int x4_4)]) hx hb dX12_manyOf_43 rfl hlB5 (by decide) rfl (fun ls hl41 => ?_)
            clear hlB5
            obtain ⟨v44_42, e43, h44⟩ := nmI_s h40
            clear h40
            refine lv_iinc (v := v44_42) (lv' := [(4, .int v44_42), (3, .int v43_38), (0, .ref a0), (1, .int p1), (2, .int p2)]) hx hb dX12_manyOf_44 hl41 (k := 4) rfl (by rw [e43]; rfl) (by decide) rfl (fun ls hl45 => ?_)
            clear hl41 e43
            refine lv_goto (tgt := 5) hx hb dX12_manyOf_47 (by decide) ?_
            exact ih5 v43_38 v44_42 _ _ _ h44 hVB5 (lv_sub hl45 [2, 3, 4, 1, 0] rfl)
  exact L5 FU 0 0 _ _ _ h hV (lv_sub hl2 [2, 3, 4, 1, 0] rfl)
abbrev r_X12_one : Room := { frames := 2, cells := 0, slots := 0, locals := 45 }
set_option maxHeartbeats 4000000 in
set_option maxRecDepth 100000 in
theorem c_X12_one (l : Launch) (E : kE) (sz : Nat) (a0 a1 a2 : Nat) (w0_0 w0_1 w0_2 w0_3 w0_5 w0_6 w0_7 w0_8 w0_9 w0_10 w0_11 w0_12 w0_13 w0_14 w0_15 w0_16 w0_17 w0_18 w0_19 w0_20 w0_21 w0_22 w0_23 w0_24 w0_25 w0_26 w0_27 w0_28 w0_29 w0_30 w0_31 w0_32 w0_33 w0_34 w0_35 w0_36 w0_37 w0_38 w0_39 w0_40 w0_41 w0_42 w0_43 w0_44 w0_45 w0_46 w0_47 w0_48 w0_49 w0_50 w0_51 w0_52 w0_53 w0_54 w0_55 w0_57 w0_59 w0_60 w0_61 w0_62 w0_63 w0_64 w0_65 w0_66 : Value) (s_notes : Int32) (s_noteDay : Nat → Int32) (s_noteShape : Nat → Int32) (p1 : Int32) (p2 : Int32) (r : Int32) (h : f_X12_one s_notes s_noteDay s_noteShape p1 p2 = some (r)) : kMi l yX12_one cX12_one 3 (some .int) r_X12_one [.ref a0, .int p1, .int p2] E [(a0, .inr (12, [w0_0, w0_1, w0_2, w0_3, .int s_notes, w0_5, w0_6, w0_7, w0_8, w0_9, w0_10, w0_11, w0_12, w0_13, w0_14, w0_15, w0_16, w0_17, w0_18, w0_19, w0_20, w0_21, w0_22, w0_23, w0_24, w0_25, w0_26, w0_27, w0_28, w0_29, w0_30, w0_31, w0_32, w0_33, w0_34, w0_35, w0_36, w0_37, w0_38, w0_39, w0_40, w0_41, w0_42, w0_43, w0_44, w0_45, w0_46, w0_47, w0_48, w0_49, w0_50, w0_51, w0_52, w0_53, w0_54, w0_55, .ref a1, w0_57, .ref a2, w0_59, w0_60, w0_61, w0_62, w0_63, w0_64, w0_65, w0_66])), (a1, .inl (E.2 0, 40, .inl s_noteDay)), (a2, .inl (E.2 0, 40, .inl s_noteShape))] sz 0 0 (fun x (_ : Unit) => x = r) (fun _ => [(a0, .inr (12, [w0_0, w0_1, w0_2, w0_3, .int s_notes, w0_5, w0_6, w0_7, w0_8, w0_9, w0_10, w0_11, w0_12, w0_13, w0_14, w0_15, w0_16, w0_17, w0_18, w0_19, w0_20, w0_21, w0_22, w0_23, w0_24, w0_25, w0_26, w0_27, w0_28, w0_29, w0_30, w0_31, w0_32, w0_33, w0_34, w0_35, w0_36, w0_37, w0_38, w0_39, w0_40, w0_41, w0_42, w0_43, w0_44, w0_45, w0_46, w0_47, w0_48, w0_49, w0_50, w0_51, w0_52, w0_53, w0_54, w0_55, .ref a1, w0_57, .ref a2, w0_59, w0_60, w0_61, w0_62, w0_63, w0_64, w0_65, w0_66])), (a1, .inl (E.2 0, 40, .inl s_noteDay)), (a2, .inl (E.2 0, 40, .inl s_noteShape))]) := by
  refine kmeti rfl (Nat.le_of_ble_eq_true rfl) ?_
  intro p e s m args below meth c ls A Q X hV hret hl
  have X : kC p s m c cX12_one 3 RX12 args E A := X
  have hx := X.1
  have hb := X.2.1
  have hl : lv_has ls 3 [(0, .ref a0), (1, .int p1), (2, .int p2)] := hl
  rw [f_X12_one] at h
  refine lv_iload_n hx hb dX12_one_0 rfl (lv_at hl 1 rfl) ?_
  obtain ⟨r1_1, hc2, h3⟩ := cb1_s h
  clear h
  refine kgoiE (krunS (rest := []) X hV [] (c_X12_isShape l E _ p1 r1_1 hc2) mw_921 kb_X12_isShape (by decide) rfl rfl hl.1 rfl (Nat.le_of_ble_eq_true rfl) dX12_one_1 (by decide)) X hV [] [0, 1, 2] rfl rfl rfl (by decide) (fun u H locs hV4 => ?_)
  have hV4 : kV E A s.heap H locs [(a0, .inr (12, [w0_0, w0_1, w0_2, w0_3, .int s_notes, w0_5, w0_6, w0_7, w0_8, w0_9, w0_10, w0_11, w0_12, w0_13, w0_14, w0_15, w0_16, w0_17, w0_18, w0_19, w0_20, w0_21, w0_22, w0_23, w0_24, w0_25, w0_26, w0_27, w0_28, w0_29, w0_30, w0_31, w0_32, w0_33, w0_34, w0_35, w0_36, w0_37, w0_38, w0_39, w0_40, w0_41, w0_42, w0_43, w0_44, w0_45, w0_46, w0_47, w0_48, w0_49, w0_50, w0_51, w0_52, w0_53, w0_54, w0_55, .ref a1, w0_57, .ref a2, w0_59, w0_60, w0_61, w0_62, w0_63, w0_64, w0_65, w0_66])), (a1, .inl (E.2 0, 40, .inl s_noteDay)), (a2, .inl (E.2 0, 40, .inl s_noteShape))] := hV4.sub [0, 1, 2] rfl rfl
  clear hV
  refine lv_if_eq (tgt := 38) hx hb dX12_one_4 (by decide) (fun c6 => ?_) (fun c6 => ?_)
  · have h7 := itS c6 h3
    clear h3 c6
    refine lv_iconst (v := (-1)) hx hb dX12_one_38 (by decide) ?_
    cases h7
    exact hret _ () _ _ _ _ rfl rfl hV4 dX12_one_39
  · have h8 := ieS c6 h3
    clear h3 c6
    refine lv_iload_n hx hb dX12_one_7 rfl (lv_at hl 2 rfl) ?_
    obtain ⟨r8_9, hc10, h11⟩ := cb1_s h8
    clear h8
    refine kgoiE (krunS (rest := []) X hV4 [] (c_X12_isWithin l E _ p2 r8_9 hc10) mw_924 kb_X12_isWithin (by decide) rfl rfl hl.1 rfl (Nat.le_of_ble_eq_true rfl) dX12_one_8 (by decide)) X hV4 [] [0, 1, 2] rfl rfl rfl (by decide) (fun u H locs hV12 => ?_)
    have hV12 : kV E A s.heap H locs [(a0, .inr (12, [w0_0, w0_1, w0_2, w0_3, .int s_notes, w0_5, w0_6, w0_7, w0_8, w0_9, w0_10, w0_11, w0_12, w0_13, w0_14, w0_15, w0_16, w0_17, w0_18, w0_19, w0_20, w0_21, w0_22, w0_23, w0_24, w0_25, w0_26, w0_27, w0_28, w0_29, w0_30, w0_31, w0_32, w0_33, w0_34, w0_35, w0_36, w0_37, w0_38, w0_39, w0_40, w0_41, w0_42, w0_43, w0_44, w0_45, w0_46, w0_47, w0_48, w0_49, w0_50, w0_51, w0_52, w0_53, w0_54, w0_55, .ref a1, w0_57, .ref a2, w0_59, w0_60, w0_61, w0_62, w0_63, w0_64, w0_65, w0_66])), (a1, .inl (E.2 0, 40, .inl s_noteDay)), (a2, .inl (E.2 0, 40, .inl s_noteShape))] := hV12.sub [0, 1, 2] rfl rfl
    clear hV4
    refine lv_if_eq (tgt := 38) hx hb dX12_one_11 (by decide) (fun c14 => ?_) (fun c14 => ?_)
    · have h15 := itS c14 h11
      clear h11 c14
      refine lv_iconst (v := (-1)) hx hb dX12_one_38 (by decide) ?_
      cases h15
      exact hret _ () _ _ _ _ rfl rfl hV12 dX12_one_39
    · have h16 := ieS c14 h11
      clear h11 c14
      refine lv_aload_n hx hb dX12_one_14 rfl (lv_at hl 0 rfl) ?_
      refine lv_iload_n hx hb dX12_one_15 rfl (lv_at hl 1 rfl) ?_
      refine lv_sipush (v := 400) hx hb dX12_one_16 (by decide) ?_
      obtain ⟨r19_17, hc18, h19⟩ := cb1_s h16
      clear h16
      refine kgoiE (krunV (rest := []) X hV12 [0, 1, 2] (c_X12_manyOf l E _ a0 a1 a2 (w0_0) (w0_1) (w0_2) (w0_3) (w0_5) (w0_6) (w0_7) (w0_8) (w0_9) (w0_10) (w0_11) (w0_12) (w0_13) (w0_14) (w0_15) (w0_16) (w0_17) (w0_18) (w0_19) (w0_20) (w0_21) (w0_22) (w0_23) (w0_24) (w0_25) (w0_26) (w0_27) (w0_28) (w0_29) (w0_30) (w0_31) (w0_32) (w0_33) (w0_34) (w0_35) (w0_36) (w0_37) (w0_38) (w0_39) (w0_40) (w0_41) (w0_42) (w0_43) (w0_44) (w0_45) (w0_46) (w0_47) (w0_48) (w0_49) (w0_50) (w0_51) (w0_52) (w0_53) (w0_54) (w0_55) (w0_57) (w0_59) (w0_60) (w0_61) (w0_62) (w0_63) (w0_64) (w0_65) (w0_66) s_notes s_noteDay s_noteShape p1 400 r19_17 hc18) mw_928 kb_X12_manyOf (ci := 12) rfl rfl (by decide) rfl rfl hl.1 rfl (Nat.le_of_ble_eq_true rfl) dX12_one_19 (by decide)) X hV12 [0, 1, 2] [] rfl rfl rfl (by decide) (fun u H locs hV20 => ?_)
      have hV20 : kV E A s.heap H locs [(a0, .inr (12, [w0_0, w0_1, w0_2, w0_3, .int s_notes, w0_5, w0_6, w0_7, w0_8, w0_9, w0_10, w0_11, w0_12, w0_13, w0_14, w0_15, w0_16, w0_17, w0_18, w0_19, w0_20, w0_21, w0_22, w0_23, w0_24, w0_25, w0_26, w0_27, w0_28, w0_29, w0_30, w0_31, w0_32, w0_33, w0_34, w0_35, w0_36, w0_37, w0_38, w0_39, w0_40, w0_41, w0_42, w0_43, w0_44, w0_45, w0_46, w0_47, w0_48, w0_49, w0_50, w0_51, w0_52, w0_53, w0_54, w0_55, .ref a1, w0_57, .ref a2, w0_59, w0_60, w0_61, w0_62, w0_63, w0_64, w0_65, w0_66])), (a1, .inl (E.2 0, 40, .inl s_noteDay)), (a2, .inl (E.2 0, 40, .inl s_noteShape))] := hV20.sub [0, 1, 2] rfl rfl
      clear hV12
      refine lv_iconst (v := 1) hx hb dX12_one_22 (by decide) ?_
      refine lv_icmp_le (tgt := 38) hx hb dX12_one_23 (by decide) (fun c22 => ?_) (fun c22 => ?_)
      · have h23 := itS c22 h19
        clear h19 c22
        refine lv_iconst (v := (-1)) hx hb dX12_one_38 (by decide) ?_
        cases h23
        exact hret _ () _ _ _ _ rfl rfl hV20 dX12_one_39
      · have h24 := ieS c22 h19
        clear h19 c22
        refine lv_aload_n hx hb dX12_one_26 rfl (lv_at hl 0 rfl) ?_
        refine lv_iload_n hx hb dX12_one_27 rfl (lv_at hl 1 rfl) ?_
        refine lv_sipush (v := 400) hx hb dX12_one_28 (by decide) ?_
        refine lv_iload_n hx hb dX12_one_31 rfl (lv_at hl 2 rfl) ?_
        exact nomatch h24
abbrev r_X12_known : Room := { frames := 2, cells := 0, slots := 0, locals := 45 }
set_option maxHeartbeats 4000000 in
set_option maxRecDepth 100000 in
theorem c_X12_known (l : Launch) (E : kE) (sz : Nat) (a0 a1 a2 : Nat) (w0_0 w0_1 w0_2 w0_3 w0_5 w0_6 w0_7 w0_8 w0_9 w0_10 w0_11 w0_12 w0_13 w0_14 w0_15 w0_16 w0_17 w0_18 w0_19 w0_20 w0_21 w0_22 w0_23 w0_24 w0_25 w0_26 w0_27 w0_28 w0_29 w0_30 w0_31 w0_32 w0_33 w0_34 w0_35 w0_36 w0_37 w0_38 w0_39 w0_40 w0_41 w0_42 w0_43 w0_44 w0_45 w0_46 w0_47 w0_48 w0_49 w0_50 w0_51 w0_52 w0_53 w0_54 w0_55 w0_57 w0_59 w0_60 w0_61 w0_62 w0_63 w0_64 w0_65 w0_66 : Value) (s_notes : Int32) (s_noteDay : Nat → Int32) (s_noteShape : Nat → Int32) (p1 : Int32) (p2 : Int32) (r : Int32) (h : f_X12_known s_notes s_noteDay s_noteShape p1 p2 = some (r)) : kMi l yX12_known cX12_known 5 (some .int) r_X12_known [.ref a0, .int p1, .int p2] E [(a0, .inr (12, [w0_0, w0_1, w0_2, w0_3, .int s_notes, w0_5, w0_6, w0_7, w0_8, w0_9, w0_10, w0_11, w0_12, w0_13, w0_14, w0_15, w0_16, w0_17, w0_18, w0_19, w0_20, w0_21, w0_22, w0_23, w0_24, w0_25, w0_26, w0_27, w0_28, w0_29, w0_30, w0_31, w0_32, w0_33, w0_34, w0_35, w0_36, w0_37, w0_38, w0_39, w0_40, w0_41, w0_42, w0_43, w0_44, w0_45, w0_46, w0_47, w0_48, w0_49, w0_50, w0_51, w0_52, w0_53, w0_54, w0_55, .ref a1, w0_57, .ref a2, w0_59, w0_60, w0_61, w0_62, w0_63, w0_64, w0_65, w0_66])), (a1, .inl (E.2 0, 40, .inl s_noteDay)), (a2, .inl (E.2 0, 40, .inl s_noteShape))] sz 0 0 (fun x (_ : Unit) => x = r) (fun _ => [(a0, .inr (12, [w0_0, w0_1, w0_2, w0_3, .int s_notes, w0_5, w0_6, w0_7, w0_8, w0_9, w0_10, w0_11, w0_12, w0_13, w0_14, w0_15, w0_16, w0_17, w0_18, w0_19, w0_20, w0_21, w0_22, w0_23, w0_24, w0_25, w0_26, w0_27, w0_28, w0_29, w0_30, w0_31, w0_32, w0_33, w0_34, w0_35, w0_36, w0_37, w0_38, w0_39, w0_40, w0_41, w0_42, w0_43, w0_44, w0_45, w0_46, w0_47, w0_48, w0_49, w0_50, w0_51, w0_52, w0_53, w0_54, w0_55, .ref a1, w0_57, .ref a2, w0_59, w0_60, w0_61, w0_62, w0_63, w0_64, w0_65, w0_66])), (a1, .inl (E.2 0, 40, .inl s_noteDay)), (a2, .inl (E.2 0, 40, .inl s_noteShape))]) := by
  refine kmeti rfl (Nat.le_of_ble_eq_true rfl) ?_
  intro p e s m args below meth c ls A Q X hV hret hl
  have X : kC p s m c cX12_known 5 RX12 args E A := X
  have hx := X.1
  have hb := X.2.1
  have hl : lv_has ls 5 [(0, .ref a0), (1, .int p1), (2, .int p2)] := hl
  rw [f_X12_known] at h
  refine lv_iload_n hx hb dX12_known_0 rfl (lv_at hl 1 rfl) ?_
  obtain ⟨r1_1, hc2, h3⟩ := cb1_s h
  clear h
  refine kgoiE (krunS (rest := []) X hV [] (c_X12_isShape l E _ p1 r1_1 hc2) mw_921 kb_X12_isShape (by decide) rfl rfl hl.1 rfl (Nat.le_of_ble_eq_true rfl) dX12_known_1 (by decide)) X hV [] [0, 1, 2] rfl rfl rfl (by decide) (fun u H locs hV4 => ?_)
  have hV4 : kV E A s.heap H locs [(a0, .inr (12, [w0_0, w0_1, w0_2, w0_3, .int s_notes, w0_5, w0_6, w0_7, w0_8, w0_9, w0_10, w0_11, w0_12, w0_13, w0_14, w0_15, w0_16, w0_17, w0_18, w0_19, w0_20, w0_21, w0_22, w0_23, w0_24, w0_25, w0_26, w0_27, w0_28, w0_29, w0_30, w0_31, w0_32, w0_33, w0_34, w0_35, w0_36, w0_37, w0_38, w0_39, w0_40, w0_41, w0_42, w0_43, w0_44, w0_45, w0_46, w0_47, w0_48, w0_49, w0_50, w0_51, w0_52, w0_53, w0_54, w0_55, .ref a1, w0_57, .ref a2, w0_59, w0_60, w0_61, w0_62, w0_63, w0_64, w0_65, w0_66])), (a1, .inl (E.2 0, 40, .inl s_noteDay)), (a2, .inl (E.2 0, 40, .inl s_noteShape))] := hV4.sub [0, 1, 2] rfl rfl
  clear hV
  refine lv_if_eq (tgt := 14) hx hb dX12_known_4 (by decide) (fun c6 => ?_) (fun c6 => ?_)
  · have h7 := itS c6 h3
    clear h3 c6
    refine lv_iconst (v := (-1)) hx hb dX12_known_14 (by decide) ?_
    cases h7
    exact hret _ () _ _ _ _ rfl rfl hV4 dX12_known_15
  · have h8 := ieS c6 h3
    clear h3 c6
    refine lv_iload_n hx hb dX12_known_7 rfl (lv_at hl 2 rfl) ?_
    obtain ⟨r8_9, hc10, h11⟩ := cb1_s h8
    clear h8
    refine kgoiE (krunS (rest := []) X hV4 [] (c_X12_isWithin l E _ p2 r8_9 hc10) mw_924 kb_X12_isWithin (by decide) rfl rfl hl.1 rfl (Nat.le_of_ble_eq_true rfl) dX12_known_8 (by decide)) X hV4 [] [0, 1, 2] rfl rfl rfl (by decide) (fun u H locs hV12 => ?_)
    have hV12 : kV E A s.heap H locs [(a0, .inr (12, [w0_0, w0_1, w0_2, w0_3, .int s_notes, w0_5, w0_6, w0_7, w0_8, w0_9, w0_10, w0_11, w0_12, w0_13, w0_14, w0_15, w0_16, w0_17, w0_18, w0_19, w0_20, w0_21, w0_22, w0_23, w0_24, w0_25, w0_26, w0_27, w0_28, w0_29, w0_30, w0_31, w0_32, w0_33, w0_34, w0_35, w0_36, w0_37, w0_38, w0_39, w0_40, w0_41, w0_42, w0_43, w0_44, w0_45, w0_46, w0_47, w0_48, w0_49, w0_50, w0_51, w0_52, w0_53, w0_54, w0_55, .ref a1, w0_57, .ref a2, w0_59, w0_60, w0_61, w0_62, w0_63, w0_64, w0_65, w0_66])), (a1, .inl (E.2 0, 40, .inl s_noteDay)), (a2, .inl (E.2 0, 40, .inl s_noteShape))] := hV12.sub [0, 1, 2] rfl rfl
    clear hV4
    refine lv_if_ne (tgt := 16) hx hb dX12_known_11 (by decide) (fun c14 => ?_) (fun c14 => ?_)
    · have h15 := ieS c14 h11
      clear h11 c14
      refine lv_iconst (v := 0) hx hb dX12_known_16 (by decide) ?_
      refine lv_istore_n (lv' := [(3, .int 0), (0, .ref a0), (1, .int p1), (2, .int p2)]) hx hb dX12_known_17 rfl hl (by decide) rfl (fun ls hl17 => ?_)
      clear hl
      have J54 : ∀ (x3_18 : Int32) (H : Heap) (locs : List Loc) (ls : Array Slot), (f_X12_known_J54 s_noteDay ) x3_18 = some (r) → kV E A s.heap H locs [(a0, .inr (12, [w0_0, w0_1, w0_2, w0_3, .int s_notes, w0_5, w0_6, w0_7, w0_8, w0_9, w0_10, w0_11, w0_12, w0_13, w0_14, w0_15, w0_16, w0_17, w0_18, w0_19, w0_20, w0_21, w0_22, w0_23, w0_24, w0_25, w0_26, w0_27, w0_28, w0_29, w0_30, w0_31, w0_32, w0_33, w0_34, w0_35, w0_36, w0_37, w0_38, w0_39, w0_40, w0_41, w0_42, w0_43, w0_44, w0_45, w0_46, w0_47, w0_48, w0_49, w0_50, w0_51, w0_52, w0_53, w0_54, w0_55, .ref a1, w0_57, .ref a2, w0_59, w0_60, w0_61, w0_62, w0_63, w0_64, w0_65, w0_66])), (a1, .inl (E.2 0, 40, .inl s_noteDay)), (a2, .inl (E.2 0, 40, .inl s_noteShape))] → lv_has ls 5 [(0, .ref a0), (1, .int p1), (2, .int p2), (3, .int x3_18)] → W p l e r_X12_known s m args below meth c H locs 0 0 Q (F0 m 54 ls []) := by
        intro x3_18 H locs ls hB54 hVB54 hlB54
        rw [f_X12_known_J54] at hB54
        refine lv_aload_n hx hb dX12_known_54 rfl (lv_at hlB54 0 rfl) ?_
        refine lv_iload_n hx hb dX12_known_55 rfl (lv_at hlB54 1 rfl) ?_
        refine lv_aload_n hx hb dX12_known_56 rfl (lv_at hlB54 0 rfl) ?_
        refine kget X hVB54 (ci := 12) inlX12 rfl 0 rfl 56 (by decide) mw_168 rfl dX12_known_57 ?_
        refine lv_iload_n hx hb dX12_known_60 rfl (lv_at hlB54 3 rfl) ?_
        obtain ⟨hi20, v61_19, e21, h22⟩ := rdI_s hB54
        clear hB54
        refine kiald X hVB54 1 rfl hi20 e21 dX12_known_61 ?_
        clear hi20 e21
        refine lv_iload_n hx hb dX12_known_62 rfl (lv_at hlB54 2 rfl) ?_
        exact nomatch h22
      have L18 : ∀ (n18 : Nat) (x3_23 : Int32) (H : Heap) (locs : List Loc) (ls : Array Slot), (f_X12_known_L18 s_notes s_noteDay s_noteShape p1 (f_X12_known_J54 s_noteDay ) n18) x3_23 = some (r) → kV E A s.heap H locs [(a0, .inr (12, [w0_0, w0_1, w0_2, w0_3, .int s_notes, w0_5, w0_6, w0_7, w0_8, w0_9, w0_10, w0_11, w0_12, w0_13, w0_14, w0_15, w0_16, w0_17, w0_18, w0_19, w0_20, w0_21, w0_22, w0_23, w0_24, w0_25, w0_26, w0_27, w0_28, w0_29, w0_30, w0_31, w0_32, w0_33, w0_34, w0_35, w0_36, w0_37, w0_38, w0_39, w0_40, w0_41, w0_42, w0_43, w0_44, w0_45, w0_46, w0_47, w0_48, w0_49, w0_50, w0_51, w0_52, w0_53, w0_54, w0_55, .ref a1, w0_57, .ref a2, w0_59, w0_60, w0_61, w0_62, w0_63, w0_64, w0_65, w0_66])), (a1, .inl (E.2 0, 40, .inl s_noteDay)), (a2, .inl (E.2 0, 40, .inl s_noteShape))] → lv_has ls 5 [(0, .ref a0), (1, .int p1), (2, .int p2), (3, .int x3_23)] → W p l e r_X12_known s m args below meth c H locs 0 0 Q (F0 m 18 ls []) := by
        intro n18
        induction n18 with
        | zero =>
          intro x3_23 H locs ls hB18 hVB18 hlB18
          rw [f_X12_known_L18] at hB18
          exact nomatch hB18
        | succ n18 ih18 =>
          intro x3_23 H locs ls hB18 hVB18 hlB18
          rw [f_X12_known_L18] at hB18
          refine lv_iload_n hx hb dX12_known_18 rfl (lv_at hlB18 3 rfl) ?_
          refine lv_aload_n hx hb dX12_known_19 rfl (lv_at hlB18 0 rfl) ?_
          refine kget X hVB18 (ci := 12) inlX12 rfl 0 rfl 4 (by decide) mw_899 rfl dX12_known_20 ?_
          refine lv_icmp_ge (tgt := 93) hx hb dX12_known_23 (by decide) (fun c24 => ?_) (fun c24 => ?_)
          · have h25 := itS c24 hB18
            clear hB18 c24
            refine lv_iconst (v := (-1)) hx hb dX12_known_93 (by decide) ?_
            cases h25
            exact hret _ () _ _ _ _ rfl rfl hVB18 dX12_known_94
          · have h26 := ieS c24 hB18
            clear hB18 c24
            refine lv_aload_n hx hb dX12_known_26 rfl (lv_at hlB18 0 rfl) ?_
            refine kget X hVB18 (ci := 12) inlX12 rfl 0 rfl 58 (by decide) mw_170 rfl dX12_known_27 ?_
            refine lv_iload_n hx hb dX12_known_30 rfl (lv_at hlB18 3 rfl) ?_
            obtain ⟨hi28, v31_27, e29, h30⟩ := rdI_s h26
            clear h26
            refine kiald X hVB18 2 rfl hi28 e29 dX12_known_31 ?_
            clear hi28 e29
            refine lv_iload_n hx hb dX12_known_32 rfl (lv_at hlB18 1 rfl) ?_
            refine lv_icmp_ne (tgt := 87) hx hb dX12_known_33 (by decide) (fun c31 => ?_) (fun c31 => ?_)
            · have h32 := ieS c31 h30
              clear h30 c31
              obtain ⟨v87_34, e35, h36⟩ := nmI_s h32
              clear h32
              refine lv_iinc (v := v87_34) (lv' := [(3, .int v87_34), (0, .ref a0), (1, .int p1), (2, .int p2)]) hx hb dX12_known_87 hlB18 (k := 3) rfl (by rw [e35]; rfl) (by decide) rfl (fun ls hl37 => ?_)
              clear hlB18 e35
              refine lv_goto (tgt := 18) hx hb dX12_known_90 (by decide) ?_
              exact ih18 v87_34 _ _ _ h36 hVB18 (lv_sub hl37 [1, 2, 3, 0] rfl)
            · have h33 := itS c31 h30
              clear h30 c31
              refine lv_aload_n hx hb dX12_known_36 rfl (lv_at hlB18 0 rfl) ?_
              refine lv_iload_n hx hb dX12_known_37 rfl (lv_at hlB18 1 rfl) ?_
              refine lv_aload_n hx hb dX12_known_38 rfl (lv_at hlB18 0 rfl) ?_
              refine kget X hVB18 (ci := 12) inlX12 rfl 0 rfl 56 (by decide) mw_168 rfl dX12_known_39 ?_
              refine lv_iload_n hx hb dX12_known_42 rfl (lv_at hlB18 3 rfl) ?_
              obtain ⟨hi39, v43_38, e40, h41⟩ := rdI_s h33
              clear h33
              refine kiald X hVB18 1 rfl hi39 e40 dX12_known_43 ?_
              clear hi39 e40
              obtain ⟨r44_42, hc43, h44⟩ := cb1_s h41
              clear h41
              refine kgoiE (krunV (rest := []) X hVB18 [0, 1, 2] (c_X12_manyOf l E _ a0 a1 a2 (w0_0) (w0_1) (w0_2) (w0_3) (w0_5) (w0_6) (w0_7) (w0_8) (w0_9) (w0_10) (w0_11) (w0_12) (w0_13) (w0_14) (w0_15) (w0_16) (w0_17) (w0_18) (w0_19) (w0_20) (w0_21) (w0_22) (w0_23) (w0_24) (w0_25) (w0_26) (w0_27) (w0_28) (w0_29) (w0_30) (w0_31) (w0_32) (w0_33) (w0_34) (w0_35) (w0_36) (w0_37) (w0_38) (w0_39) (w0_40) (w0_41) (w0_42) (w0_43) (w0_44) (w0_45) (w0_46) (w0_47) (w0_48) (w0_49) (w0_50) (w0_51) (w0_52) (w0_53) (w0_54) (w0_55) (w0_57) (w0_59) (w0_60) (w0_61) (w0_62) (w0_63) (w0_64) (w0_65) (w0_66) s_notes s_noteDay s_noteShape p1 v43_38 r44_42 hc43) mw_928 kb_X12_manyOf (ci := 12) rfl rfl (by decide) rfl rfl hlB18.1 rfl (Nat.le_of_ble_eq_true rfl) dX12_known_44 (by decide)) X hVB18 [0, 1, 2] [] rfl rfl rfl (by decide) (fun u H locs hV45 => ?_)
              have hV45 : kV E A s.heap H locs [(a0, .inr (12, [w0_0, w0_1, w0_2, w0_3, .int s_notes, w0_5, w0_6, w0_7, w0_8, w0_9, w0_10, w0_11, w0_12, w0_13, w0_14, w0_15, w0_16, w0_17, w0_18, w0_19, w0_20, w0_21, w0_22, w0_23, w0_24, w0_25, w0_26, w0_27, w0_28, w0_29, w0_30, w0_31, w0_32, w0_33, w0_34, w0_35, w0_36, w0_37, w0_38, w0_39, w0_40, w0_41, w0_42, w0_43, w0_44, w0_45, w0_46, w0_47, w0_48, w0_49, w0_50, w0_51, w0_52, w0_53, w0_54, w0_55, .ref a1, w0_57, .ref a2, w0_59, w0_60, w0_61, w0_62, w0_63, w0_64, w0_65, w0_66])), (a1, .inl (E.2 0, 40, .inl s_noteDay)), (a2, .inl (E.2 0, 40, .inl s_noteShape))] := hV45.sub [0, 1, 2] rfl rfl
              clear hVB18
              refine lv_iconst (v := 2) hx hb dX12_known_47 (by decide) ?_
              refine lv_icmp_ge (tgt := 54) hx hb dX12_known_48 (by decide) (fun c47 => ?_) (fun c47 => ?_)
              · have h48 := itS c47 h44
                clear h44 c47
                exact J54 x3_23 _ _ _ h48 hV45 (lv_sub hlB18 [0, 1, 2, 3] rfl)
              · have h49 := ieS c47 h44
                clear h44 c47
                refine lv_goto (tgt := 87) hx hb dX12_known_51 (by decide) ?_
                obtain ⟨v87_50, e51, h52⟩ := nmI_s h49
                clear h49
                refine lv_iinc (v := v87_50) (lv' := [(3, .int v87_50), (0, .ref a0), (1, .int p1), (2, .int p2)]) hx hb dX12_known_87 hlB18 (k := 3) rfl (by rw [e51]; rfl) (by decide) rfl (fun ls hl53 => ?_)
                clear hlB18 e51
                refine lv_goto (tgt := 18) hx hb dX12_known_90 (by decide) ?_
                exact ih18 v87_50 _ _ _ h52 hV45 (lv_sub hl53 [1, 2, 3, 0] rfl)
      exact L18 FU 0 _ _ _ h15 hV12 (lv_sub hl17 [1, 2, 3, 0] rfl)
    · have h16 := itS c14 h11
      clear h11 c14
      refine lv_iconst (v := (-1)) hx hb dX12_known_14 (by decide) ?_
      cases h16
      exact hret _ () _ _ _ _ rfl rfl hV12 dX12_known_15
