abbrev r_X12_goesOver : Room := { frames := 2, cells := 0, slots := 0, locals := 46 }
set_option maxHeartbeats 4000000 in
set_option maxRecDepth 100000 in
theorem c_X12_goesOver (l : Launch) (E : kE) (sz : Nat) (a0 a1 a2 a3 a4 a5 a6 a7 : Nat) (w0_0 w0_1 w0_2 w0_3 w0_4 w0_5 w0_6 w0_8 w0_9 w0_10 w0_11 w0_12 w0_13 w0_14 w0_15 w0_16 w0_17 w0_18 w0_19 w0_20 w0_21 w0_22 w0_23 w0_24 w0_25 w0_26 w0_27 w0_41 w0_42 w0_43 w0_44 w0_45 w0_46 w0_47 w0_48 w0_49 w0_56 w0_57 w0_58 w0_59 w0_60 w0_61 w0_62 w0_63 w0_64 w0_65 w0_66 : Value) (s_atA : Int32) (s_atB : Int32) (s_atD : Int32) (s_atF : Int32) (s_atG : Int32) (s_atH : Int32) (s_atL : Int32) (s_atM : Int32) (s_atN : Int32) (s_atS : Int32) (s_atT : Int32) (s_atU : Int32) (s_atX : Int32) (s_first : Nat → Int32) (s_greatest : Nat → Int32) (s_highAt : Nat → Int32) (s_last : Nat → Int32) (s_many : Nat → Int32) (s_marked : Nat → Int32) (s_shapeAt : Nat → Int32) (p1 : Int32) (p2 : Int32) (p3 : Int32) (o_atA : Int32) (o_atB : Int32) (o_atD : Int32) (o_atF : Int32) (o_atG : Int32) (o_atH : Int32) (o_atL : Int32) (o_atM : Int32) (o_atN : Int32) (o_atS : Int32) (o_atT : Int32) (o_atU : Int32) (o_atX : Int32) (o_first : Nat → Int32) (o_greatest : Nat → Int32) (o_last : Nat → Int32) (o_marked : Nat → Int32) (h : f_X12_goesOver s_atA s_atB s_atD s_atF s_atG s_atH s_atL s_atM s_atN s_atS s_atT s_atU s_atX s_first s_greatest s_highAt s_last s_many s_marked s_shapeAt p1 p2 p3 = some (o_atA, o_atB, o_atD, o_atF, o_atG, o_atH, o_atL, o_atM, o_atN, o_atS, o_atT, o_atU, o_atX, o_first, o_greatest, o_last, o_marked)) : kMv l yX12_goesOver cX12_goesOver 9 r_X12_goesOver [.ref a0, .int p1, .int p2, .int p3] E [(a0, .inr (12, [w0_0, w0_1, w0_2, w0_3, w0_4, w0_5, w0_6, .ref a5, w0_8, w0_9, w0_10, w0_11, w0_12, w0_13, w0_14, w0_15, w0_16, w0_17, w0_18, w0_19, w0_20, w0_21, w0_22, w0_23, w0_24, w0_25, w0_26, w0_27, .int s_atA, .int s_atB, .int s_atD, .int s_atF, .int s_atG, .int s_atH, .int s_atL, .int s_atM, .int s_atN, .int s_atS, .int s_atT, .int s_atU, .int s_atX, w0_41, w0_42, w0_43, w0_44, w0_45, w0_46, w0_47, w0_48, w0_49, .ref a3, .ref a7, .ref a1, .ref a4, .ref a2, .ref a6, w0_56, w0_57, w0_58, w0_59, w0_60, w0_61, w0_62, w0_63, w0_64, w0_65, w0_66])), (a1, .inl (E.2 0, 1440, .inl s_first)), (a2, .inl (E.2 0, 1440, .inl s_greatest)), (a3, .inl (E.2 0, 1440, .inl s_highAt)), (a4, .inl (E.2 0, 1440, .inl s_last)), (a5, .inl (E.2 0, 20, .inl s_many)), (a6, .inl (E.2 0, 2, .inl s_marked)), (a7, .inl (E.2 0, 1440, .inl s_shapeAt))] sz 0 0 (fun (_ : Unit) => True) (fun _ => [(a0, .inr (12, [w0_0, w0_1, w0_2, w0_3, w0_4, w0_5, w0_6, .ref a5, w0_8, w0_9, w0_10, w0_11, w0_12, w0_13, w0_14, w0_15, w0_16, w0_17, w0_18, w0_19, w0_20, w0_21, w0_22, w0_23, w0_24, w0_25, w0_26, w0_27, .int o_atA, .int o_atB, .int o_atD, .int o_atF, .int o_atG, .int o_atH, .int o_atL, .int o_atM, .int o_atN, .int o_atS, .int o_atT, .int o_atU, .int o_atX, w0_41, w0_42, w0_43, w0_44, w0_45, w0_46, w0_47, w0_48, w0_49, .ref a3, .ref a7, .ref a1, .ref a4, .ref a2, .ref a6, w0_56, w0_57, w0_58, w0_59, w0_60, w0_61, w0_62, w0_63, w0_64, w0_65, w0_66])), (a1, .inl (E.2 0, 1440, .inl o_first)), (a2, .inl (E.2 0, 1440, .inl o_greatest)), (a3, .inl (E.2 0, 1440, .inl s_highAt)), (a4, .inl (E.2 0, 1440, .inl o_last)), (a5, .inl (E.2 0, 20, .inl s_many)), (a6, .inl (E.2 0, 2, .inl o_marked)), (a7, .inl (E.2 0, 1440, .inl s_shapeAt))]) := by
  refine kmetv rfl (Nat.le_of_ble_eq_true rfl) ?_
  intro p e s m args below meth c ls A Q X hnm hV hret hl
  have X : kC p s m c cX12_goesOver 9 RX12 args E A := X
  have hx := X.1
  have hb := X.2.1
  have hl : lv_has ls 9 [(0, .ref a0), (1, .int p1), (2, .int p2), (3, .int p3)] := hl
  rw [f_X12_goesOver] at h
  refine lv_iconst (v := 0) hx hb dX12_goesOver_0 (by decide) ?_
  refine lv_istore (lv' := [(4, .int 0), (0, .ref a0), (1, .int p1), (2, .int p2), (3, .int p3)]) hx hb dX12_goesOver_1 hl (by decide) rfl (fun ls hl1 => ?_)
  clear hl
  refine lv_iconst (v := 0) hx hb dX12_goesOver_3 (by decide) ?_
  refine lv_istore (lv' := [(5, .int 0), (4, .int 0), (0, .ref a0), (1, .int p1), (2, .int p2), (3, .int p3)]) hx hb dX12_goesOver_4 hl1 (by decide) rfl (fun ls hl2 => ?_)
  clear hl1
  refine lv_iconst (v := 0) hx hb dX12_goesOver_6 (by decide) ?_
  refine lv_istore (lv' := [(6, .int 0), (5, .int 0), (4, .int 0), (0, .ref a0), (1, .int p1), (2, .int p2), (3, .int p3)]) hx hb dX12_goesOver_7 hl2 (by decide) rfl (fun ls hl3 => ?_)
  clear hl2
  have J160 : ∀ (x4_4 : Int32) (atA__5 : Int32) (atB__6 : Int32) (atD__7 : Int32) (atF__8 : Int32) (atG__9 : Int32) (atH__10 : Int32) (atL__11 : Int32) (atM__12 : Int32) (atN__13 : Int32) (atS__14 : Int32) (atT__15 : Int32) (atU__16 : Int32) (atX__17 : Int32) (first__18 : Nat → Int32) (greatest__19 : Nat → Int32) (last__20 : Nat → Int32) (H : Heap) (locs : List Loc) (ls : Array Slot), (f_X12_goesOver_J160 s_marked p3 ) x4_4 atA__5 atB__6 atD__7 atF__8 atG__9 atH__10 atL__11 atM__12 atN__13 atS__14 atT__15 atU__16 atX__17 first__18 greatest__19 last__20 = some (o_atA, o_atB, o_atD, o_atF, o_atG, o_atH, o_atL, o_atM, o_atN, o_atS, o_atT, o_atU, o_atX, o_first, o_greatest, o_last, o_marked) → kV E A s.heap H locs [(a0, .inr (12, [w0_0, w0_1, w0_2, w0_3, w0_4, w0_5, w0_6, .ref a5, w0_8, w0_9, w0_10, w0_11, w0_12, w0_13, w0_14, w0_15, w0_16, w0_17, w0_18, w0_19, w0_20, w0_21, w0_22, w0_23, w0_24, w0_25, w0_26, w0_27, .int atA__5, .int atB__6, .int atD__7, .int atF__8, .int atG__9, .int atH__10, .int atL__11, .int atM__12, .int atN__13, .int atS__14, .int atT__15, .int atU__16, .int atX__17, w0_41, w0_42, w0_43, w0_44, w0_45, w0_46, w0_47, w0_48, w0_49, .ref a3, .ref a7, .ref a1, .ref a4, .ref a2, .ref a6, w0_56, w0_57, w0_58, w0_59, w0_60, w0_61, w0_62, w0_63, w0_64, w0_65, w0_66])), (a1, .inl (E.2 0, 1440, .inl first__18)), (a2, .inl (E.2 0, 1440, .inl greatest__19)), (a3, .inl (E.2 0, 1440, .inl s_highAt)), (a4, .inl (E.2 0, 1440, .inl last__20)), (a5, .inl (E.2 0, 20, .inl s_many)), (a6, .inl (E.2 0, 2, .inl s_marked)), (a7, .inl (E.2 0, 1440, .inl s_shapeAt))] → lv_has ls 9 [(0, .ref a0), (3, .int p3), (4, .int x4_4)] → W p l e r_X12_goesOver s m args below meth c H locs 0 0 Q (F0 m 160 ls []) := by
    intro x4_4 atA__5 atB__6 atD__7 atF__8 atG__9 atH__10 atL__11 atM__12 atN__13 atS__14 atT__15 atU__16 atX__17 first__18 greatest__19 last__20 H locs ls hB160 hVB160 hlB160
    rw [f_X12_goesOver_J160] at hB160
    refine lv_aload_n hx hb dX12_goesOver_160 rfl (lv_at hlB160 0 rfl) ?_
    refine kget X hVB160 (ci := 12) inlX12 rfl 0 rfl 55 (by decide) mw_167 rfl dX12_goesOver_161 ?_
    refine lv_iload_n hx hb dX12_goesOver_164 rfl (lv_at hlB160 1 rfl) ?_
    refine lv_iload hx hb dX12_goesOver_165 (lv_at hlB160 2 rfl) ?_
    obtain ⟨hi22, g167_21, e23, h24⟩ := wrI_s hB160
    clear hB160
    refine kiast X hVB160 6 rfl hi22 e23 dX12_goesOver_167 (fun H locs hV25 => ?_)
    have hV25 : kV E A s.heap H locs [(a0, .inr (12, [w0_0, w0_1, w0_2, w0_3, w0_4, w0_5, w0_6, .ref a5, w0_8, w0_9, w0_10, w0_11, w0_12, w0_13, w0_14, w0_15, w0_16, w0_17, w0_18, w0_19, w0_20, w0_21, w0_22, w0_23, w0_24, w0_25, w0_26, w0_27, .int atA__5, .int atB__6, .int atD__7, .int atF__8, .int atG__9, .int atH__10, .int atL__11, .int atM__12, .int atN__13, .int atS__14, .int atT__15, .int atU__16, .int atX__17, w0_41, w0_42, w0_43, w0_44, w0_45, w0_46, w0_47, w0_48, w0_49, .ref a3, .ref a7, .ref a1, .ref a4, .ref a2, .ref a6, w0_56, w0_57, w0_58, w0_59, w0_60, w0_61, w0_62, w0_63, w0_64, w0_65, w0_66])), (a1, .inl (E.2 0, 1440, .inl first__18)), (a2, .inl (E.2 0, 1440, .inl greatest__19)), (a3, .inl (E.2 0, 1440, .inl s_highAt)), (a4, .inl (E.2 0, 1440, .inl last__20)), (a5, .inl (E.2 0, 20, .inl s_many)), (a6, .inl (E.2 0, 2, .inl g167_21)), (a7, .inl (E.2 0, 1440, .inl s_shapeAt))] := hV25
    clear hVB160 hi22 e23
    obtain ⟨q26, q27, q28, q29, q30, q31, q32, q33, q34, q35, q36, q37, q38, q39, q40, q41, q42⟩ := tup17_s h24
    clear h24
    exact hret () _ _ _ _ trivial (by rw [← q26, ← q27, ← q28, ← q29, ← q30, ← q31, ← q32, ← q33, ← q34, ← q35, ← q36, ← q37, ← q38, ← q39, ← q40, ← q41, ← q42]; exact hV25) dX12_goesOver_168
  have L9 : ∀ (n9 : Nat) (x4_43 : Int32) (x5_44 : Int32) (x6_45 : Int32) (atA__46 : Int32) (atB__47 : Int32) (atD__48 : Int32) (atF__49 : Int32) (atG__50 : Int32) (atH__51 : Int32) (atL__52 : Int32) (atM__53 : Int32) (atN__54 : Int32) (atS__55 : Int32) (atT__56 : Int32) (atU__57 : Int32) (atX__58 : Int32) (first__59 : Nat → Int32) (greatest__60 : Nat → Int32) (last__61 : Nat → Int32) (H : Heap) (locs : List Loc) (ls : Array Slot), (f_X12_goesOver_L9 s_highAt s_many s_shapeAt p1 p2 p3 (f_X12_goesOver_J160 s_marked p3 ) n9) x4_43 x5_44 x6_45 atA__46 atB__47 atD__48 atF__49 atG__50 atH__51 atL__52 atM__53 atN__54 atS__55 atT__56 atU__57 atX__58 first__59 greatest__60 last__61 = some (o_atA, o_atB, o_atD, o_atF, o_atG, o_atH, o_atL, o_atM, o_atN, o_atS, o_atT, o_atU, o_atX, o_first, o_greatest, o_last, o_marked) → kV E A s.heap H locs [(a0, .inr (12, [w0_0, w0_1, w0_2, w0_3, w0_4, w0_5, w0_6, .ref a5, w0_8, w0_9, w0_10, w0_11, w0_12, w0_13, w0_14, w0_15, w0_16, w0_17, w0_18, w0_19, w0_20, w0_21, w0_22, w0_23, w0_24, w0_25, w0_26, w0_27, .int atA__46, .int atB__47, .int atD__48, .int atF__49, .int atG__50, .int atH__51, .int atL__52, .int atM__53, .int atN__54, .int atS__55, .int atT__56, .int atU__57, .int atX__58, w0_41, w0_42, w0_43, w0_44, w0_45, w0_46, w0_47, w0_48, w0_49, .ref a3, .ref a7, .ref a1, .ref a4, .ref a2, .ref a6, w0_56, w0_57, w0_58, w0_59, w0_60, w0_61, w0_62, w0_63, w0_64, w0_65, w0_66])), (a1, .inl (E.2 0, 1440, .inl first__59)), (a2, .inl (E.2 0, 1440, .inl greatest__60)), (a3, .inl (E.2 0, 1440, .inl s_highAt)), (a4, .inl (E.2 0, 1440, .inl last__61)), (a5, .inl (E.2 0, 20, .inl s_many)), (a6, .inl (E.2 0, 2, .inl s_marked)), (a7, .inl (E.2 0, 1440, .inl s_shapeAt))] → lv_has ls 9 [(0, .ref a0), (1, .int p1), (2, .int p2), (3, .int p3), (4, .int x4_43), (5, .int x5_44), (6, .int x6_45)] → W p l e r_X12_goesOver s m args below meth c H locs 0 0 Q (F0 m 9 ls []) := by
    intro n9
    induction n9 with
    | zero =>
      intro x4_43 x5_44 x6_45 atA__46 atB__47 atD__48 atF__49 atG__50 atH__51 atL__52 atM__53 atN__54 atS__55 atT__56 atU__57 atX__58 first__59 greatest__60 last__61 H locs ls hB9 hVB9 hlB9
      rw [f_X12_goesOver_L9] at hB9
      exact nomatch hB9
    | succ n9 ih9 =>
      intro x4_43 x5_44 x6_45 atA__46 atB__47 atD__48 atF__49 atG__50 atH__51 atL__52 atM__53 atN__54 atS__55 atT__56 atU__57 atX__58 first__59 greatest__60 last__61 H locs ls hB9 hVB9 hlB9
      rw [f_X12_goesOver_L9] at hB9
      refine lv_iload hx hb dX12_goesOver_9 (lv_at hlB9 6 rfl) ?_
      refine lv_sipush (v := 1440) hx hb dX12_goesOver_11 (by decide) ?_
      refine lv_icmp_ge (tgt := 160) hx hb dX12_goesOver_14 (by decide) (fun c62 => ?_) (fun c62 => ?_)
      · have h63 := itS c62 hB9
        clear hB9 c62
        exact J160 x4_43 atA__46 atB__47 atD__48 atF__49 atG__50 atH__51 atL__52 atM__53 atN__54 atS__55 atT__56 atU__57 atX__58 first__59 greatest__60 last__61 _ _ _ h63 hVB9 (lv_sub hlB9 [0, 3, 4] rfl)
      · have h64 := ieS c62 hB9
        clear hB9 c62
        refine lv_aload_n hx hb dX12_goesOver_17 rfl (lv_at hlB9 0 rfl) ?_
        refine lv_iload_n hx hb dX12_goesOver_18 rfl (lv_at hlB9 1 rfl) ?_
        refine lv_iload_n hx hb dX12_goesOver_19 rfl (lv_at hlB9 2 rfl) ?_
        refine lv_iload hx hb dX12_goesOver_20 (lv_at hlB9 6 rfl) ?_
        refine lv_iload hx hb dX12_goesOver_22 (lv_at hlB9 5 rfl) ?_
        have J36 : ∀ (t4_65 : Int32) (H : Heap) (locs : List Loc) (ls : Array Slot), (f_X12_goesOver_J36 s_highAt s_many s_shapeAt p1 p2 p3 x4_43 x5_44 x6_45 atA__46 atB__47 atD__48 atF__49 atG__50 atH__51 atL__52 atM__53 atN__54 atS__55 atT__56 atU__57 atX__58 first__59 greatest__60 last__61 (f_X12_goesOver_L9 s_highAt s_many s_shapeAt p1 p2 p3 (f_X12_goesOver_J160 s_marked p3 ) n9)) t4_65 = some (o_atA, o_atB, o_atD, o_atF, o_atG, o_atH, o_atL, o_atM, o_atN, o_atS, o_atT, o_atU, o_atX, o_first, o_greatest, o_last, o_marked) → kV E A s.heap H locs [(a0, .inr (12, [w0_0, w0_1, w0_2, w0_3, w0_4, w0_5, w0_6, .ref a5, w0_8, w0_9, w0_10, w0_11, w0_12, w0_13, w0_14, w0_15, w0_16, w0_17, w0_18, w0_19, w0_20, w0_21, w0_22, w0_23, w0_24, w0_25, w0_26, w0_27, .int atA__46, .int atB__47, .int atD__48, .int atF__49, .int atG__50, .int atH__51, .int atL__52, .int atM__53, .int atN__54, .int atS__55, .int atT__56, .int atU__57, .int atX__58, w0_41, w0_42, w0_43, w0_44, w0_45, w0_46, w0_47, w0_48, w0_49, .ref a3, .ref a7, .ref a1, .ref a4, .ref a2, .ref a6, w0_56, w0_57, w0_58, w0_59, w0_60, w0_61, w0_62, w0_63, w0_64, w0_65, w0_66])), (a1, .inl (E.2 0, 1440, .inl first__59)), (a2, .inl (E.2 0, 1440, .inl greatest__60)), (a3, .inl (E.2 0, 1440, .inl s_highAt)), (a4, .inl (E.2 0, 1440, .inl last__61)), (a5, .inl (E.2 0, 20, .inl s_many)), (a6, .inl (E.2 0, 2, .inl s_marked)), (a7, .inl (E.2 0, 1440, .inl s_shapeAt))] → lv_has ls 9 [(0, .ref a0), (1, .int p1), (2, .int p2), (3, .int p3), (4, .int x4_43), (5, .int x5_44), (6, .int x6_45)] → W p l e r_X12_goesOver s m args below meth c H locs 0 0 Q (F0 m 36 ls [.int t4_65, .int x6_45, .int p2, .int p1, .ref a0]) := by
          intro t4_65 H locs ls hB36 hVB36 hlB36
          rw [f_X12_goesOver_J36] at hB36
          obtain ⟨r36_66, o_atA36_67, o_atB36_68, o_atD36_69, o_atF36_70, o_atG36_71, o_atH36_72, o_atL36_73, o_atM36_74, o_atN36_75, o_atS36_76, o_atT36_77, o_atU36_78, o_atX36_79, hc80, h81⟩ := cb14_s hB36
          clear hB36
          refine kgoiE (krunV (rest := []) X hVB36 [0, 3, 5, 7] (c_X12_isMarked l E _ a0 a3 a5 a7 (w0_0) (w0_1) (w0_2) (w0_3) (w0_4) (w0_5) (w0_6) (w0_8) (w0_9) (w0_10) (w0_11) (w0_12) (w0_13) (w0_14) (w0_15) (w0_16) (w0_17) (w0_18) (w0_19) (w0_20) (w0_21) (w0_22) (w0_23) (w0_24) (w0_25) (w0_26) (w0_27) (w0_41) (w0_42) (w0_43) (w0_44) (w0_45) (w0_46) (w0_47) (w0_48) (w0_49) (.ref a1) (.ref a4) (.ref a2) (.ref a6) (w0_56) (w0_57) (w0_58) (w0_59) (w0_60) (w0_61) (w0_62) (w0_63) (w0_64) (w0_65) (w0_66) atA__46 atB__47 atD__48 atF__49 atG__50 atH__51 atL__52 atM__53 atN__54 atS__55 atT__56 atU__57 atX__58 s_highAt s_many s_shapeAt p1 p2 x6_45 t4_65 r36_66 o_atA36_67 o_atB36_68 o_atD36_69 o_atF36_70 o_atG36_71 o_atH36_72 o_atL36_73 o_atM36_74 o_atN36_75 o_atS36_76 o_atT36_77 o_atU36_78 o_atX36_79 hc80) mw_858 kb_X12_isMarked (ci := 12) rfl rfl (by decide) rfl rfl hlB36.1 rfl (Nat.le_of_ble_eq_true rfl) dX12_goesOver_36 (by decide)) X hVB36 [0, 3, 5, 7] [1, 2, 4, 6] rfl rfl rfl (by decide) (fun u H locs hV82 => ?_)
          have hV82 : kV E A s.heap H locs [(a0, .inr (12, [w0_0, w0_1, w0_2, w0_3, w0_4, w0_5, w0_6, .ref a5, w0_8, w0_9, w0_10, w0_11, w0_12, w0_13, w0_14, w0_15, w0_16, w0_17, w0_18, w0_19, w0_20, w0_21, w0_22, w0_23, w0_24, w0_25, w0_26, w0_27, .int o_atA36_67, .int o_atB36_68, .int o_atD36_69, .int o_atF36_70, .int o_atG36_71, .int o_atH36_72, .int o_atL36_73, .int o_atM36_74, .int o_atN36_75, .int o_atS36_76, .int o_atT36_77, .int o_atU36_78, .int o_atX36_79, w0_41, w0_42, w0_43, w0_44, w0_45, w0_46, w0_47, w0_48, w0_49, .ref a3, .ref a7, .ref a1, .ref a4, .ref a2, .ref a6, w0_56, w0_57, w0_58, w0_59, w0_60, w0_61, w0_62, w0_63, w0_64, w0_65, w0_66])), (a1, .inl (E.2 0, 1440, .inl first__59)), (a2, .inl (E.2 0, 1440, .inl greatest__60)), (a3, .inl (E.2 0, 1440, .inl s_highAt)), (a4, .inl (E.2 0, 1440, .inl last__61)), (a5, .inl (E.2 0, 20, .inl s_many)), (a6, .inl (E.2 0, 2, .inl s_marked)), (a7, .inl (E.2 0, 1440, .inl s_shapeAt))] := hV82.sub [4, 0, 1, 5, 2, 6, 3, 7] rfl rfl
          clear hVB36
          refine lv_istore (lv' := [(7, .int r36_66), (0, .ref a0), (1, .int p1), (2, .int p2), (3, .int p3), (4, .int x4_43), (5, .int x5_44), (6, .int x6_45)]) hx hb dX12_goesOver_39 hlB36 (by decide) rfl (fun ls hl84 => ?_)
          clear hlB36
          refine lv_iload hx hb dX12_goesOver_41 (lv_at hl84 0 rfl) ?_
          have J83 : ∀ (x4_85 : Int32) (first__86 : Nat → Int32) (greatest__87 : Nat → Int32) (H : Heap) (locs : List Loc) (ls : Array Slot), (f_X12_goesOver_J83 s_highAt p3 x6_45 last__61 r36_66 o_atA36_67 o_atB36_68 o_atD36_69 o_atF36_70 o_atG36_71 o_atH36_72 o_atL36_73 o_atM36_74 o_atN36_75 o_atS36_76 o_atT36_77 o_atU36_78 o_atX36_79 (f_X12_goesOver_L9 s_highAt s_many s_shapeAt p1 p2 p3 (f_X12_goesOver_J160 s_marked p3 ) n9)) x4_85 first__86 greatest__87 = some (o_atA, o_atB, o_atD, o_atF, o_atG, o_atH, o_atL, o_atM, o_atN, o_atS, o_atT, o_atU, o_atX, o_first, o_greatest, o_last, o_marked) → kV E A s.heap H locs [(a0, .inr (12, [w0_0, w0_1, w0_2, w0_3, w0_4, w0_5, w0_6, .ref a5, w0_8, w0_9, w0_10, w0_11, w0_12, w0_13, w0_14, w0_15, w0_16, w0_17, w0_18, w0_19, w0_20, w0_21, w0_22, w0_23, w0_24, w0_25, w0_26, w0_27, .int o_atA36_67, .int o_atB36_68, .int o_atD36_69, .int o_atF36_70, .int o_atG36_71, .int o_atH36_72, .int o_atL36_73, .int o_atM36_74, .int o_atN36_75, .int o_atS36_76, .int o_atT36_77, .int o_atU36_78, .int o_atX36_79, w0_41, w0_42, w0_43, w0_44, w0_45, w0_46, w0_47, w0_48, w0_49, .ref a3, .ref a7, .ref a1, .ref a4, .ref a2, .ref a6, w0_56, w0_57, w0_58, w0_59, w0_60, w0_61, w0_62, w0_63, w0_64, w0_65, w0_66])), (a1, .inl (E.2 0, 1440, .inl first__86)), (a2, .inl (E.2 0, 1440, .inl greatest__87)), (a3, .inl (E.2 0, 1440, .inl s_highAt)), (a4, .inl (E.2 0, 1440, .inl last__61)), (a5, .inl (E.2 0, 20, .inl s_many)), (a6, .inl (E.2 0, 2, .inl s_marked)), (a7, .inl (E.2 0, 1440, .inl s_shapeAt))] → lv_has ls 9 [(0, .ref a0), (1, .int p1), (2, .int p2), (3, .int p3), (4, .int x4_85), (6, .int x6_45), (7, .int r36_66)] → W p l e r_X12_goesOver s m args below meth c H locs 0 0 Q (F0 m 83 ls []) := by
            intro x4_85 first__86 greatest__87 H locs ls hB83 hVB83 hlB83
            rw [f_X12_goesOver_J83] at hB83
            refine lv_iload hx hb dX12_goesOver_83 (lv_at hlB83 6 rfl) ?_
            refine lv_if_eq (tgt := 150) hx hb dX12_goesOver_85 (by decide) (fun c88 => ?_) (fun c88 => ?_)
            · have h89 := itS c88 hB83
              clear hB83 c88
              refine lv_iload hx hb dX12_goesOver_150 (lv_at hlB83 6 rfl) ?_
              refine lv_istore (lv' := [(5, .int r36_66), (0, .ref a0), (1, .int p1), (2, .int p2), (3, .int p3), (4, .int x4_85), (6, .int x6_45), (7, .int r36_66)]) hx hb dX12_goesOver_152 hlB83 (by decide) rfl (fun ls hl91 => ?_)
              clear hlB83
              obtain ⟨v154_92, e93, h94⟩ := nmI_s h89
              clear h89
              refine lv_iinc (v := v154_92) (lv' := [(6, .int v154_92), (5, .int r36_66), (0, .ref a0), (1, .int p1), (2, .int p2), (3, .int p3), (4, .int x4_85), (7, .int r36_66)]) hx hb dX12_goesOver_154 hl91 (k := 6) rfl (by rw [e93]; rfl) (by decide) rfl (fun ls hl95 => ?_)
              clear hl91 e93
              refine lv_goto (tgt := 9) hx hb dX12_goesOver_157 (by decide) ?_
              exact ih9 x4_85 r36_66 v154_92 o_atA36_67 o_atB36_68 o_atD36_69 o_atF36_70 o_atG36_71 o_atH36_72 o_atL36_73 o_atM36_74 o_atN36_75 o_atS36_76 o_atT36_77 o_atU36_78 o_atX36_79 first__86 greatest__87 last__61 _ _ _ h94 hVB83 (lv_sub hl95 [2, 3, 4, 5, 6, 1, 0] rfl)
            · have h90 := ieS c88 hB83
              clear hB83 c88
              refine lv_sipush (v := 720) hx hb dX12_goesOver_88 (by decide) ?_
              refine lv_iload_n hx hb dX12_goesOver_91 rfl (lv_at hlB83 3 rfl) ?_
              refine lv_imul hx hb dX12_goesOver_92 ?_
              refine lv_iload hx hb dX12_goesOver_93 (lv_at hlB83 4 rfl) ?_
              refine lv_iadd hx hb dX12_goesOver_95 ?_
              refine lv_iconst (v := 1) hx hb dX12_goesOver_96 (by decide) ?_
              refine lv_isub hx hb dX12_goesOver_97 ?_
              obtain ⟨v98_96, e97, h98⟩ := nmI_s h90
              clear h90
              refine ktopi e97 ?_
              clear e97
              refine lv_istore (lv' := [(8, .int v98_96), (0, .ref a0), (1, .int p1), (2, .int p2), (3, .int p3), (4, .int x4_85), (6, .int x6_45), (7, .int r36_66)]) hx hb dX12_goesOver_98 hlB83 (by decide) rfl (fun ls hl99 => ?_)
              clear hlB83
              refine lv_aload_n hx hb dX12_goesOver_100 rfl (lv_at hl99 1 rfl) ?_
              refine kget X hVB83 (ci := 12) inlX12 rfl 0 rfl 53 (by decide) mw_165 rfl dX12_goesOver_101 ?_
              refine lv_iload hx hb dX12_goesOver_104 (lv_at hl99 0 rfl) ?_
              refine lv_iload hx hb dX12_goesOver_106 (lv_at hl99 6 rfl) ?_
              obtain ⟨hi101, g108_100, e102, h103⟩ := wrI_s h98
              clear h98
              refine kiast X hVB83 4 rfl hi101 e102 dX12_goesOver_108 (fun H locs hV104 => ?_)
              have hV104 : kV E A s.heap H locs [(a0, .inr (12, [w0_0, w0_1, w0_2, w0_3, w0_4, w0_5, w0_6, .ref a5, w0_8, w0_9, w0_10, w0_11, w0_12, w0_13, w0_14, w0_15, w0_16, w0_17, w0_18, w0_19, w0_20, w0_21, w0_22, w0_23, w0_24, w0_25, w0_26, w0_27, .int o_atA36_67, .int o_atB36_68, .int o_atD36_69, .int o_atF36_70, .int o_atG36_71, .int o_atH36_72, .int o_atL36_73, .int o_atM36_74, .int o_atN36_75, .int o_atS36_76, .int o_atT36_77, .int o_atU36_78, .int o_atX36_79, w0_41, w0_42, w0_43, w0_44, w0_45, w0_46, w0_47, w0_48, w0_49, .ref a3, .ref a7, .ref a1, .ref a4, .ref a2, .ref a6, w0_56, w0_57, w0_58, w0_59, w0_60, w0_61, w0_62, w0_63, w0_64, w0_65, w0_66])), (a1, .inl (E.2 0, 1440, .inl first__86)), (a2, .inl (E.2 0, 1440, .inl greatest__87)), (a3, .inl (E.2 0, 1440, .inl s_highAt)), (a4, .inl (E.2 0, 1440, .inl g108_100)), (a5, .inl (E.2 0, 20, .inl s_many)), (a6, .inl (E.2 0, 2, .inl s_marked)), (a7, .inl (E.2 0, 1440, .inl s_shapeAt))] := hV104
              clear hVB83 hi101 e102
              refine lv_aload_n hx hb dX12_goesOver_109 rfl (lv_at hl99 1 rfl) ?_
              refine kget X hV104 (ci := 12) inlX12 rfl 0 rfl 54 (by decide) mw_166 rfl dX12_goesOver_110 ?_
              refine lv_iload hx hb dX12_goesOver_113 (lv_at hl99 0 rfl) ?_
              refine lv_aload_n hx hb dX12_goesOver_115 rfl (lv_at hl99 1 rfl) ?_
              refine kget X hV104 (ci := 12) inlX12 rfl 0 rfl 50 (by decide) mw_162 rfl dX12_goesOver_116 ?_
              refine lv_iload hx hb dX12_goesOver_119 (lv_at hl99 6 rfl) ?_
              obtain ⟨hi106, v121_105, e107, h108⟩ := rdI_s h103
              clear h103
              refine kiald X hV104 3 rfl hi106 e107 dX12_goesOver_121 ?_
              clear hi106 e107
              refine lv_aload_n hx hb dX12_goesOver_122 rfl (lv_at hl99 1 rfl) ?_
              refine kget X hV104 (ci := 12) inlX12 rfl 0 rfl 54 (by decide) mw_166 rfl dX12_goesOver_123 ?_
              refine lv_iload hx hb dX12_goesOver_126 (lv_at hl99 0 rfl) ?_
              obtain ⟨hi110, v128_109, e111, h112⟩ := rdI_s h108
              clear h108
              refine kiald X hV104 2 rfl hi110 e111 dX12_goesOver_128 ?_
              clear hi110 e111
              have J149 : ∀ (t2_113 : Int32) (H : Heap) (locs : List Loc) (ls : Array Slot), (f_X12_goesOver_J149 x6_45 r36_66 o_atA36_67 o_atB36_68 o_atD36_69 o_atF36_70 o_atG36_71 o_atH36_72 o_atL36_73 o_atM36_74 o_atN36_75 o_atS36_76 o_atT36_77 o_atU36_78 o_atX36_79 x4_85 first__86 greatest__87 v98_96 g108_100 (f_X12_goesOver_L9 s_highAt s_many s_shapeAt p1 p2 p3 (f_X12_goesOver_J160 s_marked p3 ) n9)) t2_113 = some (o_atA, o_atB, o_atD, o_atF, o_atG, o_atH, o_atL, o_atM, o_atN, o_atS, o_atT, o_atU, o_atX, o_first, o_greatest, o_last, o_marked) → kV E A s.heap H locs [(a0, .inr (12, [w0_0, w0_1, w0_2, w0_3, w0_4, w0_5, w0_6, .ref a5, w0_8, w0_9, w0_10, w0_11, w0_12, w0_13, w0_14, w0_15, w0_16, w0_17, w0_18, w0_19, w0_20, w0_21, w0_22, w0_23, w0_24, w0_25, w0_26, w0_27, .int o_atA36_67, .int o_atB36_68, .int o_atD36_69, .int o_atF36_70, .int o_atG36_71, .int o_atH36_72, .int o_atL36_73, .int o_atM36_74, .int o_atN36_75, .int o_atS36_76, .int o_atT36_77, .int o_atU36_78, .int o_atX36_79, w0_41, w0_42, w0_43, w0_44, w0_45, w0_46, w0_47, w0_48, w0_49, .ref a3, .ref a7, .ref a1, .ref a4, .ref a2, .ref a6, w0_56, w0_57, w0_58, w0_59, w0_60, w0_61, w0_62, w0_63, w0_64, w0_65, w0_66])), (a1, .inl (E.2 0, 1440, .inl first__86)), (a2, .inl (E.2 0, 1440, .inl greatest__87)), (a3, .inl (E.2 0, 1440, .inl s_highAt)), (a4, .inl (E.2 0, 1440, .inl g108_100)), (a5, .inl (E.2 0, 20, .inl s_many)), (a6, .inl (E.2 0, 2, .inl s_marked)), (a7, .inl (E.2 0, 1440, .inl s_shapeAt))] → lv_has ls 9 [(0, .ref a0), (1, .int p1), (2, .int p2), (3, .int p3), (4, .int x4_85), (6, .int x6_45), (7, .int r36_66)] → W p l e r_X12_goesOver s m args below meth c H locs 0 0 Q (F0 m 149 ls [.int t2_113, .int v98_96, .ref a2]) := by
                intro t2_113 H locs ls hB149 hVB149 hlB149
                rw [f_X12_goesOver_J149] at hB149
                obtain ⟨hi115, g149_114, e116, h117⟩ := wrI_s hB149
                clear hB149
                refine kiast X hVB149 2 rfl hi115 e116 dX12_goesOver_149 (fun H locs hV118 => ?_)
                have hV118 : kV E A s.heap H locs [(a0, .inr (12, [w0_0, w0_1, w0_2, w0_3, w0_4, w0_5, w0_6, .ref a5, w0_8, w0_9, w0_10, w0_11, w0_12, w0_13, w0_14, w0_15, w0_16, w0_17, w0_18, w0_19, w0_20, w0_21, w0_22, w0_23, w0_24, w0_25, w0_26, w0_27, .int o_atA36_67, .int o_atB36_68, .int o_atD36_69, .int o_atF36_70, .int o_atG36_71, .int o_atH36_72, .int o_atL36_73, .int o_atM36_74, .int o_atN36_75, .int o_atS36_76, .int o_atT36_77, .int o_atU36_78, .int o_atX36_79, w0_41, w0_42, w0_43, w0_44, w0_45, w0_46, w0_47, w0_48, w0_49, .ref a3, .ref a7, .ref a1, .ref a4, .ref a2, .ref a6, w0_56, w0_57, w0_58, w0_59, w0_60, w0_61, w0_62, w0_63, w0_64, w0_65, w0_66])), (a1, .inl (E.2 0, 1440, .inl first__86)), (a2, .inl (E.2 0, 1440, .inl g149_114)), (a3, .inl (E.2 0, 1440, .inl s_highAt)), (a4, .inl (E.2 0, 1440, .inl g108_100)), (a5, .inl (E.2 0, 20, .inl s_many)), (a6, .inl (E.2 0, 2, .inl s_marked)), (a7, .inl (E.2 0, 1440, .inl s_shapeAt))] := hV118
                clear hVB149 hi115 e116
                refine lv_iload hx hb dX12_goesOver_150 (lv_at hlB149 6 rfl) ?_
                refine lv_istore (lv' := [(5, .int r36_66), (0, .ref a0), (1, .int p1), (2, .int p2), (3, .int p3), (4, .int x4_85), (6, .int x6_45), (7, .int r36_66)]) hx hb dX12_goesOver_152 hlB149 (by decide) rfl (fun ls hl119 => ?_)
                clear hlB149
                obtain ⟨v154_120, e121, h122⟩ := nmI_s h117
                clear h117
                refine lv_iinc (v := v154_120) (lv' := [(6, .int v154_120), (5, .int r36_66), (0, .ref a0), (1, .int p1), (2, .int p2), (3, .int p3), (4, .int x4_85), (7, .int r36_66)]) hx hb dX12_goesOver_154 hl119 (k := 6) rfl (by rw [e121]; rfl) (by decide) rfl (fun ls hl123 => ?_)
                clear hl119 e121
                refine lv_goto (tgt := 9) hx hb dX12_goesOver_157 (by decide) ?_
                exact ih9 x4_85 r36_66 v154_120 o_atA36_67 o_atB36_68 o_atD36_69 o_atF36_70 o_atG36_71 o_atH36_72 o_atL36_73 o_atM36_74 o_atN36_75 o_atS36_76 o_atT36_77 o_atU36_78 o_atX36_79 first__86 g149_114 g108_100 _ _ _ h122 hV118 (lv_sub hl123 [2, 3, 4, 5, 6, 1, 0] rfl)
              refine lv_icmp_le (tgt := 142) hx hb dX12_goesOver_129 (by decide) (fun c124 => ?_) (fun c124 => ?_)
              · have h125 := itS c124 h112
                clear h112 c124
                refine lv_aload_n hx hb dX12_goesOver_142 rfl (lv_at hl99 1 rfl) ?_
                refine kget X hV104 (ci := 12) inlX12 rfl 0 rfl 54 (by decide) mw_166 rfl dX12_goesOver_143 ?_
                refine lv_iload hx hb dX12_goesOver_146 (lv_at hl99 0 rfl) ?_
                obtain ⟨hi128, v148_127, e129, h130⟩ := rdI_s h125
                clear h125
                refine kiald X hV104 2 rfl hi128 e129 dX12_goesOver_148 ?_
                clear hi128 e129
                exact J149 v148_127 _ _ _ h130 hV104 (lv_sub hl99 [1, 2, 3, 4, 5, 6, 7] rfl)
              · have h126 := ieS c124 h112
                clear h112 c124
                refine lv_aload_n hx hb dX12_goesOver_132 rfl (lv_at hl99 1 rfl) ?_
                refine kget X hV104 (ci := 12) inlX12 rfl 0 rfl 50 (by decide) mw_162 rfl dX12_goesOver_133 ?_
                refine lv_iload hx hb dX12_goesOver_136 (lv_at hl99 6 rfl) ?_
                obtain ⟨hi132, v138_131, e133, h134⟩ := rdI_s h126
                clear h126
                refine kiald X hV104 3 rfl hi132 e133 dX12_goesOver_138 ?_
                clear hi132 e133
                refine lv_goto (tgt := 149) hx hb dX12_goesOver_139 (by decide) ?_
                exact J149 v138_131 _ _ _ h134 hV104 (lv_sub hl99 [1, 2, 3, 4, 5, 6, 7] rfl)
          refine lv_if_eq (tgt := 83) hx hb dX12_goesOver_43 (by decide) (fun c135 => ?_) (fun c135 => ?_)
          · have h136 := itS c135 h81
            clear h81 c135
            exact J83 x4_43 first__59 greatest__60 _ _ _ h136 hV82 (lv_sub hl84 [1, 2, 3, 4, 5, 7, 0] rfl)
          · have h137 := ieS c135 h81
            clear h81 c135
            refine lv_iload hx hb dX12_goesOver_46 (lv_at hl84 6 rfl) ?_
            refine lv_if_ne (tgt := 83) hx hb dX12_goesOver_48 (by decide) (fun c138 => ?_) (fun c138 => ?_)
            · have h139 := ieS c138 h137
              clear h137 c138
              exact J83 x4_43 first__59 greatest__60 _ _ _ h139 hV82 (lv_sub hl84 [1, 2, 3, 4, 5, 7, 0] rfl)
            · have h140 := itS c138 h137
              clear h137 c138
              refine lv_aload_n hx hb dX12_goesOver_51 rfl (lv_at hl84 1 rfl) ?_
              refine kget X hV82 (ci := 12) inlX12 rfl 0 rfl 52 (by decide) mw_164 rfl dX12_goesOver_52 ?_
              refine lv_sipush (v := 720) hx hb dX12_goesOver_55 (by decide) ?_
              refine lv_iload_n hx hb dX12_goesOver_58 rfl (lv_at hl84 4 rfl) ?_
              refine lv_imul hx hb dX12_goesOver_59 ?_
              refine lv_iload hx hb dX12_goesOver_60 (lv_at hl84 5 rfl) ?_
              refine lv_iadd hx hb dX12_goesOver_62 ?_
              refine lv_iload hx hb dX12_goesOver_63 (lv_at hl84 7 rfl) ?_
              obtain ⟨hi142, g65_141, e143, h144⟩ := wrI_s h140
              clear h140
              refine kiast X hV82 1 rfl hi142 e143 dX12_goesOver_65 (fun H locs hV145 => ?_)
              have hV145 : kV E A s.heap H locs [(a0, .inr (12, [w0_0, w0_1, w0_2, w0_3, w0_4, w0_5, w0_6, .ref a5, w0_8, w0_9, w0_10, w0_11, w0_12, w0_13, w0_14, w0_15, w0_16, w0_17, w0_18, w0_19, w0_20, w0_21, w0_22, w0_23, w0_24, w0_25, w0_26, w0_27, .int o_atA36_67, .int o_atB36_68, .int o_atD36_69, .int o_atF36_70, .int o_atG36_71, .int o_atH36_72, .int o_atL36_73, .int o_atM36_74, .int o_atN36_75, .int o_atS36_76, .int o_atT36_77, .int o_atU36_78, .int o_atX36_79, w0_41, w0_42, w0_43, w0_44, w0_45, w0_46, w0_47, w0_48, w0_49, .ref a3, .ref a7, .ref a1, .ref a4, .ref a2, .ref a6, w0_56, w0_57, w0_58, w0_59, w0_60, w0_61, w0_62, w0_63, w0_64, w0_65, w0_66])), (a1, .inl (E.2 0, 1440, .inl g65_141)), (a2, .inl (E.2 0, 1440, .inl greatest__60)), (a3, .inl (E.2 0, 1440, .inl s_highAt)), (a4, .inl (E.2 0, 1440, .inl last__61)), (a5, .inl (E.2 0, 20, .inl s_many)), (a6, .inl (E.2 0, 2, .inl s_marked)), (a7, .inl (E.2 0, 1440, .inl s_shapeAt))] := hV145
              clear hV82 hi142 e143
              refine lv_aload_n hx hb dX12_goesOver_66 rfl (lv_at hl84 1 rfl) ?_
              refine kget X hV145 (ci := 12) inlX12 rfl 0 rfl 54 (by decide) mw_166 rfl dX12_goesOver_67 ?_
              refine lv_sipush (v := 720) hx hb dX12_goesOver_70 (by decide) ?_
              refine lv_iload_n hx hb dX12_goesOver_73 rfl (lv_at hl84 4 rfl) ?_
              refine lv_imul hx hb dX12_goesOver_74 ?_
              refine lv_iload hx hb dX12_goesOver_75 (lv_at hl84 5 rfl) ?_
              refine lv_iadd hx hb dX12_goesOver_77 ?_
              refine lv_iconst (v := 0) hx hb dX12_goesOver_78 (by decide) ?_
              obtain ⟨hi147, g79_146, e148, h149⟩ := wrI_s h144
              clear h144
              refine kiast X hV145 2 rfl hi147 e148 dX12_goesOver_79 (fun H locs hV150 => ?_)
              have hV150 : kV E A s.heap H locs [(a0, .inr (12, [w0_0, w0_1, w0_2, w0_3, w0_4, w0_5, w0_6, .ref a5, w0_8, w0_9, w0_10, w0_11, w0_12, w0_13, w0_14, w0_15, w0_16, w0_17, w0_18, w0_19, w0_20, w0_21, w0_22, w0_23, w0_24, w0_25, w0_26, w0_27, .int o_atA36_67, .int o_atB36_68, .int o_atD36_69, .int o_atF36_70, .int o_atG36_71, .int o_atH36_72, .int o_atL36_73, .int o_atM36_74, .int o_atN36_75, .int o_atS36_76, .int o_atT36_77, .int o_atU36_78, .int o_atX36_79, w0_41, w0_42, w0_43, w0_44, w0_45, w0_46, w0_47, w0_48, w0_49, .ref a3, .ref a7, .ref a1, .ref a4, .ref a2, .ref a6, w0_56, w0_57, w0_58, w0_59, w0_60, w0_61, w0_62, w0_63, w0_64, w0_65, w0_66])), (a1, .inl (E.2 0, 1440, .inl g65_141)), (a2, .inl (E.2 0, 1440, .inl g79_146)), (a3, .inl (E.2 0, 1440, .inl s_highAt)), (a4, .inl (E.2 0, 1440, .inl last__61)), (a5, .inl (E.2 0, 20, .inl s_many)), (a6, .inl (E.2 0, 2, .inl s_marked)), (a7, .inl (E.2 0, 1440, .inl s_shapeAt))] := hV150
              clear hV145 hi147 e148
              obtain ⟨v80_151, e152, h153⟩ := nmI_s h149
              clear h149
              refine lv_iinc (v := v80_151) (lv' := [(4, .int v80_151), (7, .int r36_66), (0, .ref a0), (1, .int p1), (2, .int p2), (3, .int p3), (5, .int x5_44), (6, .int x6_45)]) hx hb dX12_goesOver_80 hl84 (k := 5) rfl (by rw [e152]; rfl) (by decide) rfl (fun ls hl154 => ?_)
              clear hl84 e152
              exact J83 v80_151 g65_141 g79_146 _ _ _ h153 hV150 (lv_sub hl154 [2, 3, 4, 5, 0, 7, 1] rfl)
        refine lv_if_eq (tgt := 34) hx hb dX12_goesOver_24 (by decide) (fun c155 => ?_) (fun c155 => ?_)
        · have h156 := itS c155 h64
          clear h64 c155
          refine lv_iload hx hb dX12_goesOver_34 (lv_at hlB9 4 rfl) ?_
          exact J36 x4_43 _ _ _ h156 hVB9 (lv_sub hlB9 [0, 1, 2, 3, 4, 5, 6] rfl)
        · have h157 := ieS c155 h64
          clear h64 c155
          refine lv_iload hx hb dX12_goesOver_27 (lv_at hlB9 4 rfl) ?_
          refine lv_iconst (v := 1) hx hb dX12_goesOver_29 (by decide) ?_
          refine lv_isub hx hb dX12_goesOver_30 ?_
          refine lv_goto (tgt := 36) hx hb dX12_goesOver_31 (by decide) ?_
          exact J36 (x4_43 - 1) _ _ _ h157 hVB9 (lv_sub hlB9 [0, 1, 2, 3, 4, 5, 6] rfl)
  exact L9 FU 0 0 0 s_atA s_atB s_atD s_atF s_atG s_atH s_atL s_atM s_atN s_atS s_atT s_atU s_atX s_first s_greatest s_last _ _ _ h hV (lv_sub hl3 [3, 4, 5, 6, 2, 1, 0] rfl)
abbrev r_X12_marks : Room := { frames := 3, cells := 0, slots := 0, locals := 74 }
set_option maxHeartbeats 4000000 in
set_option maxRecDepth 100000 in
theorem c_X12_marks (l : Launch) (E : kE) (sz : Nat) (a0 a1 a2 a3 a4 a5 a6 a7 : Nat) (w0_0 w0_1 w0_3 w0_4 w0_5 w0_6 w0_8 w0_9 w0_10 w0_11 w0_12 w0_13 w0_14 w0_15 w0_16 w0_17 w0_18 w0_19 w0_20 w0_21 w0_22 w0_23 w0_24 w0_25 w0_26 w0_27 w0_41 w0_42 w0_43 w0_44 w0_45 w0_46 w0_47 w0_56 w0_57 w0_58 w0_59 w0_60 w0_61 w0_62 w0_63 w0_64 w0_65 w0_66 : Value) (s_sources : Int32) (s_atA : Int32) (s_atB : Int32) (s_atD : Int32) (s_atF : Int32) (s_atG : Int32) (s_atH : Int32) (s_atL : Int32) (s_atM : Int32) (s_atN : Int32) (s_atS : Int32) (s_atT : Int32) (s_atU : Int32) (s_atX : Int32) (s_paperHigh : Int32) (s_paperShape : Int32) (s_first : Nat → Int32) (s_greatest : Nat → Int32) (s_highAt : Nat → Int32) (s_last : Nat → Int32) (s_many : Nat → Int32) (s_marked : Nat → Int32) (s_shapeAt : Nat → Int32) (p1 : Int32) (p2 : Int32) (p3 : Int32) (r : Int32) (o_atA : Int32) (o_atB : Int32) (o_atD : Int32) (o_atF : Int32) (o_atG : Int32) (o_atH : Int32) (o_atL : Int32) (o_atM : Int32) (o_atN : Int32) (o_atS : Int32) (o_atT : Int32) (o_atU : Int32) (o_atX : Int32) (o_paperHigh : Int32) (o_paperShape : Int32) (o_first : Nat → Int32) (o_greatest : Nat → Int32) (o_highAt : Nat → Int32) (o_last : Nat → Int32) (o_marked : Nat → Int32) (o_shapeAt : Nat → Int32) (h : f_X12_marks s_sources s_atA s_atB s_atD s_atF s_atG s_atH s_atL s_atM s_atN s_atS s_atT s_atU s_atX s_paperHigh s_paperShape s_first s_greatest s_highAt s_last s_many s_marked s_shapeAt p1 p2 p3 = some (r, o_atA, o_atB, o_atD, o_atF, o_atG, o_atH, o_atL, o_atM, o_atN, o_atS, o_atT, o_atU, o_atX, o_paperHigh, o_paperShape, o_first, o_greatest, o_highAt, o_last, o_marked, o_shapeAt)) : kMi l yX12_marks cX12_marks 4 (some .int) r_X12_marks [.ref a0, .int p1, .int p2, .int p3] E [(a0, .inr (12, [w0_0, w0_1, .int s_sources, w0_3, w0_4, w0_5, w0_6, .ref a5, w0_8, w0_9, w0_10, w0_11, w0_12, w0_13, w0_14, w0_15, w0_16, w0_17, w0_18, w0_19, w0_20, w0_21, w0_22, w0_23, w0_24, w0_25, w0_26, w0_27, .int s_atA, .int s_atB, .int s_atD, .int s_atF, .int s_atG, .int s_atH, .int s_atL, .int s_atM, .int s_atN, .int s_atS, .int s_atT, .int s_atU, .int s_atX, w0_41, w0_42, w0_43, w0_44, w0_45, w0_46, w0_47, .int s_paperHigh, .int s_paperShape, .ref a3, .ref a7, .ref a1, .ref a4, .ref a2, .ref a6, w0_56, w0_57, w0_58, w0_59, w0_60, w0_61, w0_62, w0_63, w0_64, w0_65, w0_66])), (a1, .inl (E.2 0, 1440, .inl s_first)), (a2, .inl (E.2 0, 1440, .inl s_greatest)), (a3, .inl (E.2 0, 1440, .inl s_highAt)), (a4, .inl (E.2 0, 1440, .inl s_last)), (a5, .inl (E.2 0, 20, .inl s_many)), (a6, .inl (E.2 0, 2, .inl s_marked)), (a7, .inl (E.2 0, 1440, .inl s_shapeAt))] sz 0 0 (fun x (_ : Unit) => x = r) (fun _ => [(a0, .inr (12, [w0_0, w0_1, .int s_sources, w0_3, w0_4, w0_5, w0_6, .ref a5, w0_8, w0_9, w0_10, w0_11, w0_12, w0_13, w0_14, w0_15, w0_16, w0_17, w0_18, w0_19, w0_20, w0_21, w0_22, w0_23, w0_24, w0_25, w0_26, w0_27, .int o_atA, .int o_atB, .int o_atD, .int o_atF, .int o_atG, .int o_atH, .int o_atL, .int o_atM, .int o_atN, .int o_atS, .int o_atT, .int o_atU, .int o_atX, w0_41, w0_42, w0_43, w0_44, w0_45, w0_46, w0_47, .int o_paperHigh, .int o_paperShape, .ref a3, .ref a7, .ref a1, .ref a4, .ref a2, .ref a6, w0_56, w0_57, w0_58, w0_59, w0_60, w0_61, w0_62, w0_63, w0_64, w0_65, w0_66])), (a1, .inl (E.2 0, 1440, .inl o_first)), (a2, .inl (E.2 0, 1440, .inl o_greatest)), (a3, .inl (E.2 0, 1440, .inl o_highAt)), (a4, .inl (E.2 0, 1440, .inl o_last)), (a5, .inl (E.2 0, 20, .inl s_many)), (a6, .inl (E.2 0, 2, .inl o_marked)), (a7, .inl (E.2 0, 1440, .inl o_shapeAt))]) := by
  refine kmeti rfl (Nat.le_of_ble_eq_true rfl) ?_
  intro p e s m args below meth c ls A Q X hV hret hl
  have X : kC p s m c cX12_marks 4 RX12 args E A := X
  have hx := X.1
  have hb := X.2.1
  have hl : lv_has ls 4 [(0, .ref a0), (1, .int p1), (2, .int p2), (3, .int p3)] := hl
  rw [f_X12_marks] at h
  refine lv_iload_n hx hb dX12_marks_0 rfl (lv_at hl 1 rfl) ?_
  obtain ⟨r1_1, hc2, h3⟩ := cb1_s h
  clear h
  refine kgoiE (krunS (rest := []) X hV [] (c_X12_isReader l E _ p1 r1_1 hc2) mw_595 kb_X12_isReader (by decide) rfl rfl hl.1 rfl (Nat.le_of_ble_eq_true rfl) dX12_marks_1 (by decide)) X hV [] [0, 1, 2, 3, 4, 5, 6, 7] rfl rfl rfl (by decide) (fun u H locs hV4 => ?_)
  have hV4 : kV E A s.heap H locs [(a0, .inr (12, [w0_0, w0_1, .int s_sources, w0_3, w0_4, w0_5, w0_6, .ref a5, w0_8, w0_9, w0_10, w0_11, w0_12, w0_13, w0_14, w0_15, w0_16, w0_17, w0_18, w0_19, w0_20, w0_21, w0_22, w0_23, w0_24, w0_25, w0_26, w0_27, .int s_atA, .int s_atB, .int s_atD, .int s_atF, .int s_atG, .int s_atH, .int s_atL, .int s_atM, .int s_atN, .int s_atS, .int s_atT, .int s_atU, .int s_atX, w0_41, w0_42, w0_43, w0_44, w0_45, w0_46, w0_47, .int s_paperHigh, .int s_paperShape, .ref a3, .ref a7, .ref a1, .ref a4, .ref a2, .ref a6, w0_56, w0_57, w0_58, w0_59, w0_60, w0_61, w0_62, w0_63, w0_64, w0_65, w0_66])), (a1, .inl (E.2 0, 1440, .inl s_first)), (a2, .inl (E.2 0, 1440, .inl s_greatest)), (a3, .inl (E.2 0, 1440, .inl s_highAt)), (a4, .inl (E.2 0, 1440, .inl s_last)), (a5, .inl (E.2 0, 20, .inl s_many)), (a6, .inl (E.2 0, 2, .inl s_marked)), (a7, .inl (E.2 0, 1440, .inl s_shapeAt))] := hV4.sub [0, 1, 2, 3, 4, 5, 6, 7] rfl rfl
  clear hV
  refine lv_if_eq (tgt := 19) hx hb dX12_marks_4 (by decide) (fun c6 => ?_) (fun c6 => ?_)
  · have h7 := itS c6 h3
    clear h3 c6
    refine lv_iconst (v := (-1)) hx hb dX12_marks_19 (by decide) ?_
    obtain ⟨q9, q10, q11, q12, q13, q14, q15, q16, q17, q18, q19, q20, q21, q22, q23, q24, q25, q26, q27, q28, q29, q30⟩ := tup22_s h7
    clear h7
    exact hret _ () _ _ _ _ q9 rfl (by rw [← q10, ← q11, ← q12, ← q13, ← q14, ← q15, ← q16, ← q17, ← q18, ← q19, ← q20, ← q21, ← q22, ← q23, ← q24, ← q25, ← q26, ← q27, ← q28, ← q29, ← q30]; exact hV4) dX12_marks_20
  · have h8 := ieS c6 h3
    clear h3 c6
    refine lv_iload_n hx hb dX12_marks_7 rfl (lv_at hl 2 rfl) ?_
    obtain ⟨r8_31, hc32, h33⟩ := cb1_s h8
    clear h8
    refine kgoiE (krunS (rest := []) X hV4 [] (c_X12_isDay l E _ p2 r8_31 hc32) mw_632 kb_X12_isDay (by decide) rfl rfl hl.1 rfl (Nat.le_of_ble_eq_true rfl) dX12_marks_8 (by decide)) X hV4 [] [0, 1, 2, 3, 4, 5, 6, 7] rfl rfl rfl (by decide) (fun u H locs hV34 => ?_)
    have hV34 : kV E A s.heap H locs [(a0, .inr (12, [w0_0, w0_1, .int s_sources, w0_3, w0_4, w0_5, w0_6, .ref a5, w0_8, w0_9, w0_10, w0_11, w0_12, w0_13, w0_14, w0_15, w0_16, w0_17, w0_18, w0_19, w0_20, w0_21, w0_22, w0_23, w0_24, w0_25, w0_26, w0_27, .int s_atA, .int s_atB, .int s_atD, .int s_atF, .int s_atG, .int s_atH, .int s_atL, .int s_atM, .int s_atN, .int s_atS, .int s_atT, .int s_atU, .int s_atX, w0_41, w0_42, w0_43, w0_44, w0_45, w0_46, w0_47, .int s_paperHigh, .int s_paperShape, .ref a3, .ref a7, .ref a1, .ref a4, .ref a2, .ref a6, w0_56, w0_57, w0_58, w0_59, w0_60, w0_61, w0_62, w0_63, w0_64, w0_65, w0_66])), (a1, .inl (E.2 0, 1440, .inl s_first)), (a2, .inl (E.2 0, 1440, .inl s_greatest)), (a3, .inl (E.2 0, 1440, .inl s_highAt)), (a4, .inl (E.2 0, 1440, .inl s_last)), (a5, .inl (E.2 0, 20, .inl s_many)), (a6, .inl (E.2 0, 2, .inl s_marked)), (a7, .inl (E.2 0, 1440, .inl s_shapeAt))] := hV34.sub [0, 1, 2, 3, 4, 5, 6, 7] rfl rfl
    clear hV4
    refine lv_if_eq (tgt := 19) hx hb dX12_marks_11 (by decide) (fun c36 => ?_) (fun c36 => ?_)
    · have h37 := itS c36 h33
      clear h33 c36
      refine lv_iconst (v := (-1)) hx hb dX12_marks_19 (by decide) ?_
      obtain ⟨q39, q40, q41, q42, q43, q44, q45, q46, q47, q48, q49, q50, q51, q52, q53, q54, q55, q56, q57, q58, q59, q60⟩ := tup22_s h37
      clear h37
      exact hret _ () _ _ _ _ q39 rfl (by rw [← q40, ← q41, ← q42, ← q43, ← q44, ← q45, ← q46, ← q47, ← q48, ← q49, ← q50, ← q51, ← q52, ← q53, ← q54, ← q55, ← q56, ← q57, ← q58, ← q59, ← q60]; exact hV34) dX12_marks_20
    · have h38 := ieS c36 h33
      clear h33 c36
      refine lv_iload_n hx hb dX12_marks_14 rfl (lv_at hl 3 rfl) ?_
      refine lv_iconst (v := (-1)) hx hb dX12_marks_15 (by decide) ?_
      refine lv_icmp_ge (tgt := 21) hx hb dX12_marks_16 (by decide) (fun c61 => ?_) (fun c61 => ?_)
      · have h62 := itS c61 h38
        clear h38 c61
        refine lv_aload_n hx hb dX12_marks_21 rfl (lv_at hl 0 rfl) ?_
        refine lv_iload_n hx hb dX12_marks_22 rfl (lv_at hl 2 rfl) ?_
        obtain ⟨o_paperHigh23_64, o_paperShape23_65, o_highAt23_66, o_shapeAt23_67, hc68, h69⟩ := cb4_s h62
        clear h62
        refine kgov (krunV (rest := []) X hV34 [0, 3, 7] (c_X12_lays l E _ a0 a3 a7 (w0_0) (w0_1) (w0_3) (w0_4) (w0_5) (w0_6) (.ref a5) (w0_8) (w0_9) (w0_10) (w0_11) (w0_12) (w0_13) (w0_14) (w0_15) (w0_16) (w0_17) (w0_18) (w0_19) (w0_20) (w0_21) (w0_22) (w0_23) (w0_24) (w0_25) (w0_26) (w0_27) (.int s_atA) (.int s_atB) (.int s_atD) (.int s_atF) (.int s_atG) (.int s_atH) (.int s_atL) (.int s_atM) (.int s_atN) (.int s_atS) (.int s_atT) (.int s_atU) (.int s_atX) (w0_41) (w0_42) (w0_43) (w0_44) (w0_45) (w0_46) (w0_47) (.ref a1) (.ref a4) (.ref a2) (.ref a6) (w0_56) (w0_57) (w0_58) (w0_59) (w0_60) (w0_61) (w0_62) (w0_63) (w0_64) (w0_65) (w0_66) s_sources s_paperHigh s_paperShape s_highAt s_shapeAt p2 o_paperHigh23_64 o_paperShape23_65 o_highAt23_66 o_shapeAt23_67 hc68) mw_850 kb_X12_lays (ci := 12) rfl rfl (by decide) rfl rfl hl.1 rfl (Nat.le_of_ble_eq_true rfl) dX12_marks_23 (by decide)) X hV34 [0, 3, 7] [1, 2, 4, 5, 6] rfl rfl rfl (by decide) (fun u H locs hp71 hV70 => ?_)
        have hV70 : kV E A s.heap H locs [(a0, .inr (12, [w0_0, w0_1, .int s_sources, w0_3, w0_4, w0_5, w0_6, .ref a5, w0_8, w0_9, w0_10, w0_11, w0_12, w0_13, w0_14, w0_15, w0_16, w0_17, w0_18, w0_19, w0_20, w0_21, w0_22, w0_23, w0_24, w0_25, w0_26, w0_27, .int s_atA, .int s_atB, .int s_atD, .int s_atF, .int s_atG, .int s_atH, .int s_atL, .int s_atM, .int s_atN, .int s_atS, .int s_atT, .int s_atU, .int s_atX, w0_41, w0_42, w0_43, w0_44, w0_45, w0_46, w0_47, .int o_paperHigh23_64, .int o_paperShape23_65, .ref a3, .ref a7, .ref a1, .ref a4, .ref a2, .ref a6, w0_56, w0_57, w0_58, w0_59, w0_60, w0_61, w0_62, w0_63, w0_64, w0_65, w0_66])), (a1, .inl (E.2 0, 1440, .inl s_first)), (a2, .inl (E.2 0, 1440, .inl s_greatest)), (a3, .inl (E.2 0, 1440, .inl o_highAt23_66)), (a4, .inl (E.2 0, 1440, .inl s_last)), (a5, .inl (E.2 0, 20, .inl s_many)), (a6, .inl (E.2 0, 2, .inl s_marked)), (a7, .inl (E.2 0, 1440, .inl o_shapeAt23_67))] := hV70.sub [5, 0, 1, 6, 2, 3, 4, 7] rfl rfl
        clear hV34
        refine lv_aload_n hx hb dX12_marks_26 rfl (lv_at hl 0 rfl) ?_
        refine lv_iload_n hx hb dX12_marks_27 rfl (lv_at hl 1 rfl) ?_
        refine lv_iload_n hx hb dX12_marks_28 rfl (lv_at hl 2 rfl) ?_
        refine lv_iconst (v := 0) hx hb dX12_marks_29 (by decide) ?_
        obtain ⟨o_atA30_72, o_atB30_73, o_atD30_74, o_atF30_75, o_atG30_76, o_atH30_77, o_atL30_78, o_atM30_79, o_atN30_80, o_atS30_81, o_atT30_82, o_atU30_83, o_atX30_84, o_first30_85, o_greatest30_86, o_last30_87, o_marked30_88, hc89, h90⟩ := cb17_s h69
        clear h69
        refine kgov (krunV (rest := []) X hV70 [0, 1, 2, 3, 4, 5, 6, 7] (c_X12_goesOver l E _ a0 a1 a2 a3 a4 a5 a6 a7 (w0_0) (w0_1) (.int s_sources) (w0_3) (w0_4) (w0_5) (w0_6) (w0_8) (w0_9) (w0_10) (w0_11) (w0_12) (w0_13) (w0_14) (w0_15) (w0_16) (w0_17) (w0_18) (w0_19) (w0_20) (w0_21) (w0_22) (w0_23) (w0_24) (w0_25) (w0_26) (w0_27) (w0_41) (w0_42) (w0_43) (w0_44) (w0_45) (w0_46) (w0_47) (.int o_paperHigh23_64) (.int o_paperShape23_65) (w0_56) (w0_57) (w0_58) (w0_59) (w0_60) (w0_61) (w0_62) (w0_63) (w0_64) (w0_65) (w0_66) s_atA s_atB s_atD s_atF s_atG s_atH s_atL s_atM s_atN s_atS s_atT s_atU s_atX s_first s_greatest o_highAt23_66 s_last s_many s_marked o_shapeAt23_67 p1 p2 0 o_atA30_72 o_atB30_73 o_atD30_74 o_atF30_75 o_atG30_76 o_atH30_77 o_atL30_78 o_atM30_79 o_atN30_80 o_atS30_81 o_atT30_82 o_atU30_83 o_atX30_84 o_first30_85 o_greatest30_86 o_last30_87 o_marked30_88 hc89) mw_854 kb_X12_goesOver (ci := 12) rfl rfl (by decide) rfl rfl hl.1 rfl (Nat.le_of_ble_eq_true rfl) dX12_marks_30 (by decide)) X hV70 [0, 1, 2, 3, 4, 5, 6, 7] [] rfl rfl rfl (by decide) (fun u H locs hp92 hV91 => ?_)
        have hV91 : kV E A s.heap H locs [(a0, .inr (12, [w0_0, w0_1, .int s_sources, w0_3, w0_4, w0_5, w0_6, .ref a5, w0_8, w0_9, w0_10, w0_11, w0_12, w0_13, w0_14, w0_15, w0_16, w0_17, w0_18, w0_19, w0_20, w0_21, w0_22, w0_23, w0_24, w0_25, w0_26, w0_27, .int o_atA30_72, .int o_atB30_73, .int o_atD30_74, .int o_atF30_75, .int o_atG30_76, .int o_atH30_77, .int o_atL30_78, .int o_atM30_79, .int o_atN30_80, .int o_atS30_81, .int o_atT30_82, .int o_atU30_83, .int o_atX30_84, w0_41, w0_42, w0_43, w0_44, w0_45, w0_46, w0_47, .int o_paperHigh23_64, .int o_paperShape23_65, .ref a3, .ref a7, .ref a1, .ref a4, .ref a2, .ref a6, w0_56, w0_57, w0_58, w0_59, w0_60, w0_61, w0_62, w0_63, w0_64, w0_65, w0_66])), (a1, .inl (E.2 0, 1440, .inl o_first30_85)), (a2, .inl (E.2 0, 1440, .inl o_greatest30_86)), (a3, .inl (E.2 0, 1440, .inl o_highAt23_66)), (a4, .inl (E.2 0, 1440, .inl o_last30_87)), (a5, .inl (E.2 0, 20, .inl s_many)), (a6, .inl (E.2 0, 2, .inl o_marked30_88)), (a7, .inl (E.2 0, 1440, .inl o_shapeAt23_67))] := hV91.sub [0, 1, 2, 3, 4, 5, 6, 7] rfl rfl
        clear hV70
        refine lv_iload_n hx hb dX12_marks_33 rfl (lv_at hl 3 rfl) ?_
        refine lv_iconst (v := (-1)) hx hb dX12_marks_34 (by decide) ?_
        refine lv_icmp_ne (tgt := 45) hx hb dX12_marks_35 (by decide) (fun c93 => ?_) (fun c93 => ?_)
        · have h94 := ieS c93 h90
          clear h90 c93
          refine lv_iload_n hx hb dX12_marks_45 rfl (lv_at hl 3 rfl) ?_
          refine lv_iconst (v := 3) hx hb dX12_marks_46 (by decide) ?_
          refine lv_idiv hx hb dX12_marks_47 (by decide) ?_
          refine lv_aload_n hx hb dX12_marks_48 rfl (lv_at hl 0 rfl) ?_
          refine kget X hV91 (ci := 12) inlX12 rfl 0 rfl 55 (by decide) mw_167 rfl dX12_marks_49 ?_
          refine lv_iconst (v := 0) hx hb dX12_marks_52 (by decide) ?_
          obtain ⟨hi97, v53_96, e98, h99⟩ := rdI_s h94
          clear h94
          refine kiald X hV91 6 rfl hi97 e98 dX12_marks_53 ?_
          clear hi97 e98
          refine lv_icmp_lt (tgt := 59) hx hb dX12_marks_54 (by decide) (fun c100 => ?_) (fun c100 => ?_)
          · have h101 := itS c100 h99
            clear h99 c100
            refine lv_iload_n hx hb dX12_marks_59 rfl (lv_at hl 3 rfl) ?_
            refine lv_iconst (v := 3) hx hb dX12_marks_60 (by decide) ?_
            refine lv_irem hx hb dX12_marks_61 (by decide) ?_
            refine lv_if_ne (tgt := 76) hx hb dX12_marks_62 (by decide) (fun c103 => ?_) (fun c103 => ?_)
            · have h104 := ieS c103 h101
              clear h101 c103
              refine lv_iload_n hx hb dX12_marks_76 rfl (lv_at hl 3 rfl) ?_
              refine lv_iconst (v := 3) hx hb dX12_marks_77 (by decide) ?_
              refine lv_irem hx hb dX12_marks_78 (by decide) ?_
              refine lv_iconst (v := 1) hx hb dX12_marks_79 (by decide) ?_
              refine lv_icmp_ne (tgt := 94) hx hb dX12_marks_80 (by decide) (fun c106 => ?_) (fun c106 => ?_)
              · have h107 := ieS c106 h104
                clear h104 c106
                refine lv_aload_n hx hb dX12_marks_94 rfl (lv_at hl 0 rfl) ?_
                refine kget X hV91 (ci := 12) inlX12 rfl 0 rfl 54 (by decide) mw_166 rfl dX12_marks_95 ?_
                refine lv_iload_n hx hb dX12_marks_98 rfl (lv_at hl 3 rfl) ?_
                refine lv_iconst (v := 3) hx hb dX12_marks_99 (by decide) ?_
                refine lv_idiv hx hb dX12_marks_100 (by decide) ?_
                obtain ⟨hi110, v101_109, e111, h112⟩ := rdI_s h107
                clear h107
                refine kiald X hV91 2 rfl hi110 e111 dX12_marks_101 ?_
                clear hi110 e111
                obtain ⟨q113, q114, q115, q116, q117, q118, q119, q120, q121, q122, q123, q124, q125, q126, q127, q128, q129, q130, q131, q132, q133, q134⟩ := tup22_s h112
                clear h112
                exact hret _ () _ _ _ _ q113 rfl (by rw [← q114, ← q115, ← q116, ← q117, ← q118, ← q119, ← q120, ← q121, ← q122, ← q123, ← q124, ← q125, ← q126, ← q127, ← q128, ← q129, ← q130, ← q131, ← q132, ← q133, ← q134]; exact hV91) dX12_marks_102
              · have h108 := itS c106 h104
                clear h104 c106
                refine lv_aload_n hx hb dX12_marks_83 rfl (lv_at hl 0 rfl) ?_
                refine kget X hV91 (ci := 12) inlX12 rfl 0 rfl 53 (by decide) mw_165 rfl dX12_marks_84 ?_
                refine lv_iload_n hx hb dX12_marks_87 rfl (lv_at hl 3 rfl) ?_
                refine lv_iconst (v := 3) hx hb dX12_marks_88 (by decide) ?_
                refine lv_idiv hx hb dX12_marks_89 (by decide) ?_
                obtain ⟨hi136, v90_135, e137, h138⟩ := rdI_s h108
                clear h108
                refine kiald X hV91 4 rfl hi136 e137 dX12_marks_90 ?_
                clear hi136 e137
                refine lv_goto (tgt := 102) hx hb dX12_marks_91 (by decide) ?_
                obtain ⟨q139, q140, q141, q142, q143, q144, q145, q146, q147, q148, q149, q150, q151, q152, q153, q154, q155, q156, q157, q158, q159, q160⟩ := tup22_s h138
                clear h138
                exact hret _ () _ _ _ _ q139 rfl (by rw [← q140, ← q141, ← q142, ← q143, ← q144, ← q145, ← q146, ← q147, ← q148, ← q149, ← q150, ← q151, ← q152, ← q153, ← q154, ← q155, ← q156, ← q157, ← q158, ← q159, ← q160]; exact hV91) dX12_marks_102
            · have h105 := itS c103 h101
              clear h101 c103
              refine lv_aload_n hx hb dX12_marks_65 rfl (lv_at hl 0 rfl) ?_
              refine kget X hV91 (ci := 12) inlX12 rfl 0 rfl 52 (by decide) mw_164 rfl dX12_marks_66 ?_
              refine lv_iload_n hx hb dX12_marks_69 rfl (lv_at hl 3 rfl) ?_
              refine lv_iconst (v := 3) hx hb dX12_marks_70 (by decide) ?_
              refine lv_idiv hx hb dX12_marks_71 (by decide) ?_
              obtain ⟨hi162, v72_161, e163, h164⟩ := rdI_s h105
              clear h105
              refine kiald X hV91 1 rfl hi162 e163 dX12_marks_72 ?_
              clear hi162 e163
              refine lv_goto (tgt := 102) hx hb dX12_marks_73 (by decide) ?_
              obtain ⟨q165, q166, q167, q168, q169, q170, q171, q172, q173, q174, q175, q176, q177, q178, q179, q180, q181, q182, q183, q184, q185, q186⟩ := tup22_s h164
              clear h164
              exact hret _ () _ _ _ _ q165 rfl (by rw [← q166, ← q167, ← q168, ← q169, ← q170, ← q171, ← q172, ← q173, ← q174, ← q175, ← q176, ← q177, ← q178, ← q179, ← q180, ← q181, ← q182, ← q183, ← q184, ← q185, ← q186]; exact hV91) dX12_marks_102
          · have h102 := ieS c100 h99
            clear h99 c100
            refine lv_iconst (v := (-1)) hx hb dX12_marks_57 (by decide) ?_
            obtain ⟨q187, q188, q189, q190, q191, q192, q193, q194, q195, q196, q197, q198, q199, q200, q201, q202, q203, q204, q205, q206, q207, q208⟩ := tup22_s h102
            clear h102
            exact hret _ () _ _ _ _ q187 rfl (by rw [← q188, ← q189, ← q190, ← q191, ← q192, ← q193, ← q194, ← q195, ← q196, ← q197, ← q198, ← q199, ← q200, ← q201, ← q202, ← q203, ← q204, ← q205, ← q206, ← q207, ← q208]; exact hV91) dX12_marks_58
        · have h95 := itS c93 h90
          clear h90 c93
          refine lv_aload_n hx hb dX12_marks_38 rfl (lv_at hl 0 rfl) ?_
          refine kget X hV91 (ci := 12) inlX12 rfl 0 rfl 55 (by decide) mw_167 rfl dX12_marks_39 ?_
          refine lv_iconst (v := 0) hx hb dX12_marks_42 (by decide) ?_
          obtain ⟨hi210, v43_209, e211, h212⟩ := rdI_s h95
          clear h95
          refine kiald X hV91 6 rfl hi210 e211 dX12_marks_43 ?_
          clear hi210 e211
          obtain ⟨q213, q214, q215, q216, q217, q218, q219, q220, q221, q222, q223, q224, q225, q226, q227, q228, q229, q230, q231, q232, q233, q234⟩ := tup22_s h212
          clear h212
          exact hret _ () _ _ _ _ q213 rfl (by rw [← q214, ← q215, ← q216, ← q217, ← q218, ← q219, ← q220, ← q221, ← q222, ← q223, ← q224, ← q225, ← q226, ← q227, ← q228, ← q229, ← q230, ← q231, ← q232, ← q233, ← q234]; exact hV91) dX12_marks_44
      · have h63 := ieS c61 h38
        clear h38 c61
        refine lv_iconst (v := (-1)) hx hb dX12_marks_19 (by decide) ?_
        obtain ⟨q235, q236, q237, q238, q239, q240, q241, q242, q243, q244, q245, q246, q247, q248, q249, q250, q251, q252, q253, q254, q255, q256⟩ := tup22_s h63
        clear h63
        exact hret _ () _ _ _ _ q235 rfl (by rw [← q236, ← q237, ← q238, ← q239, ← q240, ← q241, ← q242, ← q243, ← q244, ← q245, ← q246, ← q247, ← q248, ← q249, ← q250, ← q251, ← q252, ← q253, ← q254, ← q255, ← q256]; exact hV34) dX12_marks_20
abbrev r_X12_passed : Room := { frames := 3, cells := 0, slots := 0, locals := 74 }
set_option maxHeartbeats 4000000 in
set_option maxRecDepth 100000 in
theorem c_X12_passed (l : Launch) (E : kE) (sz : Nat) (a0 a1 a2 a3 a4 a5 a6 a7 : Nat) (w0_0 w0_1 w0_3 w0_4 w0_5 w0_6 w0_8 w0_9 w0_10 w0_11 w0_12 w0_13 w0_14 w0_15 w0_16 w0_17 w0_18 w0_19 w0_20 w0_21 w0_22 w0_23 w0_24 w0_25 w0_26 w0_27 w0_41 w0_42 w0_43 w0_44 w0_45 w0_46 w0_47 w0_56 w0_57 w0_58 w0_59 w0_60 w0_61 w0_62 w0_63 w0_64 w0_65 w0_66 : Value) (s_sources : Int32) (s_atA : Int32) (s_atB : Int32) (s_atD : Int32) (s_atF : Int32) (s_atG : Int32) (s_atH : Int32) (s_atL : Int32) (s_atM : Int32) (s_atN : Int32) (s_atS : Int32) (s_atT : Int32) (s_atU : Int32) (s_atX : Int32) (s_paperHigh : Int32) (s_paperShape : Int32) (s_first : Nat → Int32) (s_greatest : Nat → Int32) (s_highAt : Nat → Int32) (s_last : Nat → Int32) (s_many : Nat → Int32) (s_marked : Nat → Int32) (s_shapeAt : Nat → Int32) (p1 : Int32) (p2 : Int32) (p3 : Int32) (p4 : Int32) (p5 : Int32) (r : Int32) (o_atA : Int32) (o_atB : Int32) (o_atD : Int32) (o_atF : Int32) (o_atG : Int32) (o_atH : Int32) (o_atL : Int32) (o_atM : Int32) (o_atN : Int32) (o_atS : Int32) (o_atT : Int32) (o_atU : Int32) (o_atX : Int32) (o_paperHigh : Int32) (o_paperShape : Int32) (o_first : Nat → Int32) (o_greatest : Nat → Int32) (o_highAt : Nat → Int32) (o_last : Nat → Int32) (o_marked : Nat → Int32) (o_shapeAt : Nat → Int32) (h : f_X12_passed s_sources s_atA s_atB s_atD s_atF s_atG s_atH s_atL s_atM s_atN s_atS s_atT s_atU s_atX s_paperHigh s_paperShape s_first s_greatest s_highAt s_last s_many s_marked s_shapeAt p1 p2 p3 p4 p5 = some (r, o_atA, o_atB, o_atD, o_atF, o_atG, o_atH, o_atL, o_atM, o_atN, o_atS, o_atT, o_atU, o_atX, o_paperHigh, o_paperShape, o_first, o_greatest, o_highAt, o_last, o_marked, o_shapeAt)) : kMi l yX12_passed cX12_passed 11 (some .int) r_X12_passed [.ref a0, .int p1, .int p2, .int p3, .int p4, .int p5] E [(a0, .inr (12, [w0_0, w0_1, .int s_sources, w0_3, w0_4, w0_5, w0_6, .ref a5, w0_8, w0_9, w0_10, w0_11, w0_12, w0_13, w0_14, w0_15, w0_16, w0_17, w0_18, w0_19, w0_20, w0_21, w0_22, w0_23, w0_24, w0_25, w0_26, w0_27, .int s_atA, .int s_atB, .int s_atD, .int s_atF, .int s_atG, .int s_atH, .int s_atL, .int s_atM, .int s_atN, .int s_atS, .int s_atT, .int s_atU, .int s_atX, w0_41, w0_42, w0_43, w0_44, w0_45, w0_46, w0_47, .int s_paperHigh, .int s_paperShape, .ref a3, .ref a7, .ref a1, .ref a4, .ref a2, .ref a6, w0_56, w0_57, w0_58, w0_59, w0_60, w0_61, w0_62, w0_63, w0_64, w0_65, w0_66])), (a1, .inl (E.2 0, 1440, .inl s_first)), (a2, .inl (E.2 0, 1440, .inl s_greatest)), (a3, .inl (E.2 0, 1440, .inl s_highAt)), (a4, .inl (E.2 0, 1440, .inl s_last)), (a5, .inl (E.2 0, 20, .inl s_many)), (a6, .inl (E.2 0, 2, .inl s_marked)), (a7, .inl (E.2 0, 1440, .inl s_shapeAt))] sz 0 0 (fun x (_ : Unit) => x = r) (fun _ => [(a0, .inr (12, [w0_0, w0_1, .int s_sources, w0_3, w0_4, w0_5, w0_6, .ref a5, w0_8, w0_9, w0_10, w0_11, w0_12, w0_13, w0_14, w0_15, w0_16, w0_17, w0_18, w0_19, w0_20, w0_21, w0_22, w0_23, w0_24, w0_25, w0_26, w0_27, .int o_atA, .int o_atB, .int o_atD, .int o_atF, .int o_atG, .int o_atH, .int o_atL, .int o_atM, .int o_atN, .int o_atS, .int o_atT, .int o_atU, .int o_atX, w0_41, w0_42, w0_43, w0_44, w0_45, w0_46, w0_47, .int o_paperHigh, .int o_paperShape, .ref a3, .ref a7, .ref a1, .ref a4, .ref a2, .ref a6, w0_56, w0_57, w0_58, w0_59, w0_60, w0_61, w0_62, w0_63, w0_64, w0_65, w0_66])), (a1, .inl (E.2 0, 1440, .inl o_first)), (a2, .inl (E.2 0, 1440, .inl o_greatest)), (a3, .inl (E.2 0, 1440, .inl o_highAt)), (a4, .inl (E.2 0, 1440, .inl o_last)), (a5, .inl (E.2 0, 20, .inl s_many)), (a6, .inl (E.2 0, 2, .inl o_marked)), (a7, .inl (E.2 0, 1440, .inl o_shapeAt))]) := by
  refine kmeti rfl (Nat.le_of_ble_eq_true rfl) ?_
  intro p e s m args below meth c ls A Q X hV hret hl
  have X : kC p s m c cX12_passed 11 RX12 args E A := X
  have hx := X.1
  have hb := X.2.1
  have hl : lv_has ls 11 [(0, .ref a0), (1, .int p1), (2, .int p2), (3, .int p3), (4, .int p4), (5, .int p5)] := hl
  rw [f_X12_passed] at h
  refine lv_iload_n hx hb dX12_passed_0 rfl (lv_at hl 1 rfl) ?_
  obtain ⟨r1_1, hc2, h3⟩ := cb1_s h
  clear h
  refine kgoiE (krunS (rest := []) X hV [] (c_X12_isReader l E _ p1 r1_1 hc2) mw_595 kb_X12_isReader (by decide) rfl rfl hl.1 rfl (Nat.le_of_ble_eq_true rfl) dX12_passed_1 (by decide)) X hV [] [0, 1, 2, 3, 4, 5, 6, 7] rfl rfl rfl (by decide) (fun u H locs hV4 => ?_)
  have hV4 : kV E A s.heap H locs [(a0, .inr (12, [w0_0, w0_1, .int s_sources, w0_3, w0_4, w0_5, w0_6, .ref a5, w0_8, w0_9, w0_10, w0_11, w0_12, w0_13, w0_14, w0_15, w0_16, w0_17, w0_18, w0_19, w0_20, w0_21, w0_22, w0_23, w0_24, w0_25, w0_26, w0_27, .int s_atA, .int s_atB, .int s_atD, .int s_atF, .int s_atG, .int s_atH, .int s_atL, .int s_atM, .int s_atN, .int s_atS, .int s_atT, .int s_atU, .int s_atX, w0_41, w0_42, w0_43, w0_44, w0_45, w0_46, w0_47, .int s_paperHigh, .int s_paperShape, .ref a3, .ref a7, .ref a1, .ref a4, .ref a2, .ref a6, w0_56, w0_57, w0_58, w0_59, w0_60, w0_61, w0_62, w0_63, w0_64, w0_65, w0_66])), (a1, .inl (E.2 0, 1440, .inl s_first)), (a2, .inl (E.2 0, 1440, .inl s_greatest)), (a3, .inl (E.2 0, 1440, .inl s_highAt)), (a4, .inl (E.2 0, 1440, .inl s_last)), (a5, .inl (E.2 0, 20, .inl s_many)), (a6, .inl (E.2 0, 2, .inl s_marked)), (a7, .inl (E.2 0, 1440, .inl s_shapeAt))] := hV4.sub [0, 1, 2, 3, 4, 5, 6, 7] rfl rfl
  clear hV
  refine lv_if_eq (tgt := 58) hx hb dX12_passed_4 (by decide) (fun c6 => ?_) (fun c6 => ?_)
  · have h7 := itS c6 h3
    clear h3 c6
    refine lv_iconst (v := (-1)) hx hb dX12_passed_58 (by decide) ?_
    obtain ⟨q9, q10, q11, q12, q13, q14, q15, q16, q17, q18, q19, q20, q21, q22, q23, q24, q25, q26, q27, q28, q29, q30⟩ := tup22_s h7
    clear h7
    exact hret _ () _ _ _ _ q9 rfl (by rw [← q10, ← q11, ← q12, ← q13, ← q14, ← q15, ← q16, ← q17, ← q18, ← q19, ← q20, ← q21, ← q22, ← q23, ← q24, ← q25, ← q26, ← q27, ← q28, ← q29, ← q30]; exact hV4) dX12_passed_59
  · have h8 := ieS c6 h3
    clear h3 c6
    refine lv_iload_n hx hb dX12_passed_7 rfl (lv_at hl 2 rfl) ?_
    obtain ⟨r8_31, hc32, h33⟩ := cb1_s h8
    clear h8
    refine kgoiE (krunS (rest := []) X hV4 [] (c_X12_isReader l E _ p2 r8_31 hc32) mw_595 kb_X12_isReader (by decide) rfl rfl hl.1 rfl (Nat.le_of_ble_eq_true rfl) dX12_passed_8 (by decide)) X hV4 [] [0, 1, 2, 3, 4, 5, 6, 7] rfl rfl rfl (by decide) (fun u H locs hV34 => ?_)
    have hV34 : kV E A s.heap H locs [(a0, .inr (12, [w0_0, w0_1, .int s_sources, w0_3, w0_4, w0_5, w0_6, .ref a5, w0_8, w0_9, w0_10, w0_11, w0_12, w0_13, w0_14, w0_15, w0_16, w0_17, w0_18, w0_19, w0_20, w0_21, w0_22, w0_23, w0_24, w0_25, w0_26, w0_27, .int s_atA, .int s_atB, .int s_atD, .int s_atF, .int s_atG, .int s_atH, .int s_atL, .int s_atM, .int s_atN, .int s_atS, .int s_atT, .int s_atU, .int s_atX, w0_41, w0_42, w0_43, w0_44, w0_45, w0_46, w0_47, .int s_paperHigh, .int s_paperShape, .ref a3, .ref a7, .ref a1, .ref a4, .ref a2, .ref a6, w0_56, w0_57, w0_58, w0_59, w0_60, w0_61, w0_62, w0_63, w0_64, w0_65, w0_66])), (a1, .inl (E.2 0, 1440, .inl s_first)), (a2, .inl (E.2 0, 1440, .inl s_greatest)), (a3, .inl (E.2 0, 1440, .inl s_highAt)), (a4, .inl (E.2 0, 1440, .inl s_last)), (a5, .inl (E.2 0, 20, .inl s_many)), (a6, .inl (E.2 0, 2, .inl s_marked)), (a7, .inl (E.2 0, 1440, .inl s_shapeAt))] := hV34.sub [0, 1, 2, 3, 4, 5, 6, 7] rfl rfl
    clear hV4
    refine lv_if_eq (tgt := 58) hx hb dX12_passed_11 (by decide) (fun c36 => ?_) (fun c36 => ?_)
    · have h37 := itS c36 h33
      clear h33 c36
      refine lv_iconst (v := (-1)) hx hb dX12_passed_58 (by decide) ?_
      obtain ⟨q39, q40, q41, q42, q43, q44, q45, q46, q47, q48, q49, q50, q51, q52, q53, q54, q55, q56, q57, q58, q59, q60⟩ := tup22_s h37
      clear h37
      exact hret _ () _ _ _ _ q39 rfl (by rw [← q40, ← q41, ← q42, ← q43, ← q44, ← q45, ← q46, ← q47, ← q48, ← q49, ← q50, ← q51, ← q52, ← q53, ← q54, ← q55, ← q56, ← q57, ← q58, ← q59, ← q60]; exact hV34) dX12_passed_59
    · have h38 := ieS c36 h33
      clear h33 c36
      refine lv_iload_n hx hb dX12_passed_14 rfl (lv_at hl 3 rfl) ?_
      obtain ⟨r15_61, hc62, h63⟩ := cb1_s h38
      clear h38
      refine kgoiE (krunS (rest := []) X hV34 [] (c_X12_isDay l E _ p3 r15_61 hc62) mw_632 kb_X12_isDay (by decide) rfl rfl hl.1 rfl (Nat.le_of_ble_eq_true rfl) dX12_passed_15 (by decide)) X hV34 [] [0, 1, 2, 3, 4, 5, 6, 7] rfl rfl rfl (by decide) (fun u H locs hV64 => ?_)
      have hV64 : kV E A s.heap H locs [(a0, .inr (12, [w0_0, w0_1, .int s_sources, w0_3, w0_4, w0_5, w0_6, .ref a5, w0_8, w0_9, w0_10, w0_11, w0_12, w0_13, w0_14, w0_15, w0_16, w0_17, w0_18, w0_19, w0_20, w0_21, w0_22, w0_23, w0_24, w0_25, w0_26, w0_27, .int s_atA, .int s_atB, .int s_atD, .int s_atF, .int s_atG, .int s_atH, .int s_atL, .int s_atM, .int s_atN, .int s_atS, .int s_atT, .int s_atU, .int s_atX, w0_41, w0_42, w0_43, w0_44, w0_45, w0_46, w0_47, .int s_paperHigh, .int s_paperShape, .ref a3, .ref a7, .ref a1, .ref a4, .ref a2, .ref a6, w0_56, w0_57, w0_58, w0_59, w0_60, w0_61, w0_62, w0_63, w0_64, w0_65, w0_66])), (a1, .inl (E.2 0, 1440, .inl s_first)), (a2, .inl (E.2 0, 1440, .inl s_greatest)), (a3, .inl (E.2 0, 1440, .inl s_highAt)), (a4, .inl (E.2 0, 1440, .inl s_last)), (a5, .inl (E.2 0, 20, .inl s_many)), (a6, .inl (E.2 0, 2, .inl s_marked)), (a7, .inl (E.2 0, 1440, .inl s_shapeAt))] := hV64.sub [0, 1, 2, 3, 4, 5, 6, 7] rfl rfl
      clear hV34
      refine lv_if_eq (tgt := 58) hx hb dX12_passed_18 (by decide) (fun c66 => ?_) (fun c66 => ?_)
      · have h67 := itS c66 h63
        clear h63 c66
        refine lv_iconst (v := (-1)) hx hb dX12_passed_58 (by decide) ?_
        obtain ⟨q69, q70, q71, q72, q73, q74, q75, q76, q77, q78, q79, q80, q81, q82, q83, q84, q85, q86, q87, q88, q89, q90⟩ := tup22_s h67
        clear h67
        exact hret _ () _ _ _ _ q69 rfl (by rw [← q70, ← q71, ← q72, ← q73, ← q74, ← q75, ← q76, ← q77, ← q78, ← q79, ← q80, ← q81, ← q82, ← q83, ← q84, ← q85, ← q86, ← q87, ← q88, ← q89, ← q90]; exact hV64) dX12_passed_59
      · have h68 := ieS c66 h63
        clear h63 c66
        refine lv_iload hx hb dX12_passed_21 (lv_at hl 4 rfl) ?_
        obtain ⟨r23_91, hc92, h93⟩ := cb1_s h68
        clear h68
        refine kgoiE (krunS (rest := []) X hV64 [] (c_X12_isDay l E _ p4 r23_91 hc92) mw_632 kb_X12_isDay (by decide) rfl rfl hl.1 rfl (Nat.le_of_ble_eq_true rfl) dX12_passed_23 (by decide)) X hV64 [] [0, 1, 2, 3, 4, 5, 6, 7] rfl rfl rfl (by decide) (fun u H locs hV94 => ?_)
        have hV94 : kV E A s.heap H locs [(a0, .inr (12, [w0_0, w0_1, .int s_sources, w0_3, w0_4, w0_5, w0_6, .ref a5, w0_8, w0_9, w0_10, w0_11, w0_12, w0_13, w0_14, w0_15, w0_16, w0_17, w0_18, w0_19, w0_20, w0_21, w0_22, w0_23, w0_24, w0_25, w0_26, w0_27, .int s_atA, .int s_atB, .int s_atD, .int s_atF, .int s_atG, .int s_atH, .int s_atL, .int s_atM, .int s_atN, .int s_atS, .int s_atT, .int s_atU, .int s_atX, w0_41, w0_42, w0_43, w0_44, w0_45, w0_46, w0_47, .int s_paperHigh, .int s_paperShape, .ref a3, .ref a7, .ref a1, .ref a4, .ref a2, .ref a6, w0_56, w0_57, w0_58, w0_59, w0_60, w0_61, w0_62, w0_63, w0_64, w0_65, w0_66])), (a1, .inl (E.2 0, 1440, .inl s_first)), (a2, .inl (E.2 0, 1440, .inl s_greatest)), (a3, .inl (E.2 0, 1440, .inl s_highAt)), (a4, .inl (E.2 0, 1440, .inl s_last)), (a5, .inl (E.2 0, 20, .inl s_many)), (a6, .inl (E.2 0, 2, .inl s_marked)), (a7, .inl (E.2 0, 1440, .inl s_shapeAt))] := hV94.sub [0, 1, 2, 3, 4, 5, 6, 7] rfl rfl
        clear hV64
        refine lv_if_eq (tgt := 58) hx hb dX12_passed_26 (by decide) (fun c96 => ?_) (fun c96 => ?_)
        · have h97 := itS c96 h93
          clear h93 c96
          refine lv_iconst (v := (-1)) hx hb dX12_passed_58 (by decide) ?_
          obtain ⟨q99, q100, q101, q102, q103, q104, q105, q106, q107, q108, q109, q110, q111, q112, q113, q114, q115, q116, q117, q118, q119, q120⟩ := tup22_s h97
          clear h97
          exact hret _ () _ _ _ _ q99 rfl (by rw [← q100, ← q101, ← q102, ← q103, ← q104, ← q105, ← q106, ← q107, ← q108, ← q109, ← q110, ← q111, ← q112, ← q113, ← q114, ← q115, ← q116, ← q117, ← q118, ← q119, ← q120]; exact hV94) dX12_passed_59
        · have h98 := ieS c96 h93
          clear h93 c96
          refine lv_iload hx hb dX12_passed_29 (lv_at hl 4 rfl) ?_
          refine lv_i2l (v := Int32.toInt64 p4) hx hb dX12_passed_31 rfl ?_
          refine lv_iload_n hx hb dX12_passed_32 rfl (lv_at hl 3 rfl) ?_
          refine lv_i2l (v := Int32.toInt64 p3) hx hb dX12_passed_33 rfl ?_
          refine lv_iload_n hx hb dX12_passed_34 rfl (lv_at hl 3 rfl) ?_
          refine lv_bipush (v := 29) hx hb dX12_passed_35 (by decide) ?_
          refine lv_iadd hx hb dX12_passed_37 ?_
          refine lv_i2l (v := Int32.toInt64 (p3 + 29)) hx hb dX12_passed_38 rfl ?_
          obtain ⟨r39_121, hc122, h123⟩ := cb1_s h98
          clear h98
          refine kgoiE (krunS (rest := []) X hV94 [] (c_X12_lies l E _ (Int32.toInt64 p4) (Int32.toInt64 p3) (Int32.toInt64 (p3 + 29)) r39_121 hc122) mw_224 kb_X12_lies (by decide) rfl rfl hl.1 rfl (Nat.le_of_ble_eq_true rfl) dX12_passed_39 (by decide)) X hV94 [] [0, 1, 2, 3, 4, 5, 6, 7] rfl rfl rfl (by decide) (fun u H locs hV124 => ?_)
          have hV124 : kV E A s.heap H locs [(a0, .inr (12, [w0_0, w0_1, .int s_sources, w0_3, w0_4, w0_5, w0_6, .ref a5, w0_8, w0_9, w0_10, w0_11, w0_12, w0_13, w0_14, w0_15, w0_16, w0_17, w0_18, w0_19, w0_20, w0_21, w0_22, w0_23, w0_24, w0_25, w0_26, w0_27, .int s_atA, .int s_atB, .int s_atD, .int s_atF, .int s_atG, .int s_atH, .int s_atL, .int s_atM, .int s_atN, .int s_atS, .int s_atT, .int s_atU, .int s_atX, w0_41, w0_42, w0_43, w0_44, w0_45, w0_46, w0_47, .int s_paperHigh, .int s_paperShape, .ref a3, .ref a7, .ref a1, .ref a4, .ref a2, .ref a6, w0_56, w0_57, w0_58, w0_59, w0_60, w0_61, w0_62, w0_63, w0_64, w0_65, w0_66])), (a1, .inl (E.2 0, 1440, .inl s_first)), (a2, .inl (E.2 0, 1440, .inl s_greatest)), (a3, .inl (E.2 0, 1440, .inl s_highAt)), (a4, .inl (E.2 0, 1440, .inl s_last)), (a5, .inl (E.2 0, 20, .inl s_many)), (a6, .inl (E.2 0, 2, .inl s_marked)), (a7, .inl (E.2 0, 1440, .inl s_shapeAt))] := hV124.sub [0, 1, 2, 3, 4, 5, 6, 7] rfl rfl
          clear hV94
          refine lv_if_eq (tgt := 58) hx hb dX12_passed_42 (by decide) (fun c126 => ?_) (fun c126 => ?_)
          · have h127 := itS c126 h123
            clear h123 c126
            refine lv_iconst (v := (-1)) hx hb dX12_passed_58 (by decide) ?_
            obtain ⟨q129, q130, q131, q132, q133, q134, q135, q136, q137, q138, q139, q140, q141, q142, q143, q144, q145, q146, q147, q148, q149, q150⟩ := tup22_s h127
            clear h127
            exact hret _ () _ _ _ _ q129 rfl (by rw [← q130, ← q131, ← q132, ← q133, ← q134, ← q135, ← q136, ← q137, ← q138, ← q139, ← q140, ← q141, ← q142, ← q143, ← q144, ← q145, ← q146, ← q147, ← q148, ← q149, ← q150]; exact hV124) dX12_passed_59
          · have h128 := ieS c126 h123
            clear h123 c126
            refine lv_iload hx hb dX12_passed_45 (lv_at hl 5 rfl) ?_
            refine lv_i2l (v := Int32.toInt64 p5) hx hb dX12_passed_47 rfl ?_
            refine lv_lconst (v := 0) hx hb dX12_passed_48 (by decide) ?_
            refine lv_ldc2 (v := 2) hx hb X.2.2.2.1 (X.2.2.2.2.1 _ mw_882) dX12_passed_49 ?_
            obtain ⟨r52_151, hc152, h153⟩ := cb1_s h128
            clear h128
            refine kgoiE (krunS (rest := []) X hV124 [] (c_X12_lies l E _ (Int32.toInt64 p5) 0 2 r52_151 hc152) mw_224 kb_X12_lies (by decide) rfl rfl hl.1 rfl (Nat.le_of_ble_eq_true rfl) dX12_passed_52 (by decide)) X hV124 [] [0, 1, 2, 3, 4, 5, 6, 7] rfl rfl rfl (by decide) (fun u H locs hV154 => ?_)
            have hV154 : kV E A s.heap H locs [(a0, .inr (12, [w0_0, w0_1, .int s_sources, w0_3, w0_4, w0_5, w0_6, .ref a5, w0_8, w0_9, w0_10, w0_11, w0_12, w0_13, w0_14, w0_15, w0_16, w0_17, w0_18, w0_19, w0_20, w0_21, w0_22, w0_23, w0_24, w0_25, w0_26, w0_27, .int s_atA, .int s_atB, .int s_atD, .int s_atF, .int s_atG, .int s_atH, .int s_atL, .int s_atM, .int s_atN, .int s_atS, .int s_atT, .int s_atU, .int s_atX, w0_41, w0_42, w0_43, w0_44, w0_45, w0_46, w0_47, .int s_paperHigh, .int s_paperShape, .ref a3, .ref a7, .ref a1, .ref a4, .ref a2, .ref a6, w0_56, w0_57, w0_58, w0_59, w0_60, w0_61, w0_62, w0_63, w0_64, w0_65, w0_66])), (a1, .inl (E.2 0, 1440, .inl s_first)), (a2, .inl (E.2 0, 1440, .inl s_greatest)), (a3, .inl (E.2 0, 1440, .inl s_highAt)), (a4, .inl (E.2 0, 1440, .inl s_last)), (a5, .inl (E.2 0, 20, .inl s_many)), (a6, .inl (E.2 0, 2, .inl s_marked)), (a7, .inl (E.2 0, 1440, .inl s_shapeAt))] := hV154.sub [0, 1, 2, 3, 4, 5, 6, 7] rfl rfl
            clear hV124
            refine lv_if_ne (tgt := 60) hx hb dX12_passed_55 (by decide) (fun c156 => ?_) (fun c156 => ?_)
            · have h157 := ieS c156 h153
              clear h153 c156
              refine lv_iconst (v := 0) hx hb dX12_passed_60 (by decide) ?_
              refine lv_istore (lv' := [(6, .int 0), (0, .ref a0), (1, .int p1), (2, .int p2), (3, .int p3), (4, .int p4), (5, .int p5)]) hx hb dX12_passed_61 hl (by decide) rfl (fun ls hl159 => ?_)
              clear hl
              refine lv_iconst (v := (-1)) hx hb dX12_passed_63 (by decide) ?_
              refine lv_istore (lv' := [(7, .int (-1)), (6, .int 0), (0, .ref a0), (1, .int p1), (2, .int p2), (3, .int p3), (4, .int p4), (5, .int p5)]) hx hb dX12_passed_64 hl159 (by decide) rfl (fun ls hl160 => ?_)
              clear hl159
              refine lv_iconst (v := (-1)) hx hb dX12_passed_66 (by decide) ?_
              refine lv_istore (lv' := [(8, .int (-1)), (7, .int (-1)), (6, .int 0), (0, .ref a0), (1, .int p1), (2, .int p2), (3, .int p3), (4, .int p4), (5, .int p5)]) hx hb dX12_passed_67 hl160 (by decide) rfl (fun ls hl161 => ?_)
              clear hl160
              refine lv_iload_n hx hb dX12_passed_69 rfl (lv_at hl161 6 rfl) ?_
              refine lv_istore (lv' := [(9, .int p3), (8, .int (-1)), (7, .int (-1)), (6, .int 0), (0, .ref a0), (1, .int p1), (2, .int p2), (3, .int p3), (4, .int p4), (5, .int p5)]) hx hb dX12_passed_70 hl161 (by decide) rfl (fun ls hl162 => ?_)
              clear hl161
              have J164 : ∀ (atA__163 : Int32) (atB__164 : Int32) (atD__165 : Int32) (atF__166 : Int32) (atG__167 : Int32) (atH__168 : Int32) (atL__169 : Int32) (atM__170 : Int32) (atN__171 : Int32) (atS__172 : Int32) (atT__173 : Int32) (atU__174 : Int32) (atX__175 : Int32) (paperHigh__176 : Int32) (paperShape__177 : Int32) (first__178 : Nat → Int32) (greatest__179 : Nat → Int32) (highAt__180 : Nat → Int32) (last__181 : Nat → Int32) (marked__182 : Nat → Int32) (shapeAt__183 : Nat → Int32) (H : Heap) (locs : List Loc) (ls : Array Slot), (f_X12_passed_J164 p5 ) atA__163 atB__164 atD__165 atF__166 atG__167 atH__168 atL__169 atM__170 atN__171 atS__172 atT__173 atU__174 atX__175 paperHigh__176 paperShape__177 first__178 greatest__179 highAt__180 last__181 marked__182 shapeAt__183 = some (r, o_atA, o_atB, o_atD, o_atF, o_atG, o_atH, o_atL, o_atM, o_atN, o_atS, o_atT, o_atU, o_atX, o_paperHigh, o_paperShape, o_first, o_greatest, o_highAt, o_last, o_marked, o_shapeAt) → kV E A s.heap H locs [(a0, .inr (12, [w0_0, w0_1, .int s_sources, w0_3, w0_4, w0_5, w0_6, .ref a5, w0_8, w0_9, w0_10, w0_11, w0_12, w0_13, w0_14, w0_15, w0_16, w0_17, w0_18, w0_19, w0_20, w0_21, w0_22, w0_23, w0_24, w0_25, w0_26, w0_27, .int atA__163, .int atB__164, .int atD__165, .int atF__166, .int atG__167, .int atH__168, .int atL__169, .int atM__170, .int atN__171, .int atS__172, .int atT__173, .int atU__174, .int atX__175, w0_41, w0_42, w0_43, w0_44, w0_45, w0_46, w0_47, .int paperHigh__176, .int paperShape__177, .ref a3, .ref a7, .ref a1, .ref a4, .ref a2, .ref a6, w0_56, w0_57, w0_58, w0_59, w0_60, w0_61, w0_62, w0_63, w0_64, w0_65, w0_66])), (a1, .inl (E.2 0, 1440, .inl first__178)), (a2, .inl (E.2 0, 1440, .inl greatest__179)), (a3, .inl (E.2 0, 1440, .inl highAt__180)), (a4, .inl (E.2 0, 1440, .inl last__181)), (a5, .inl (E.2 0, 20, .inl s_many)), (a6, .inl (E.2 0, 2, .inl marked__182)), (a7, .inl (E.2 0, 1440, .inl shapeAt__183))] → lv_has ls 11 [(5, .int p5), (6, .int 0), (7, .int (-1)), (8, .int (-1))] → W p l e r_X12_passed s m args below meth c H locs 0 0 Q (F0 m 164 ls []) := by
                intro atA__163 atB__164 atD__165 atF__166 atG__167 atH__168 atL__169 atM__170 atN__171 atS__172 atT__173 atU__174 atX__175 paperHigh__176 paperShape__177 first__178 greatest__179 highAt__180 last__181 marked__182 shapeAt__183 H locs ls hB164 hVB164 hlB164
                rw [f_X12_passed_J164] at hB164
                refine lv_iload hx hb dX12_passed_164 (lv_at hlB164 0 rfl) ?_
                refine lv_if_ne (tgt := 174) hx hb dX12_passed_166 (by decide) (fun c184 => ?_) (fun c184 => ?_)
                · have h185 := ieS c184 hB164
                  clear hB164 c184
                  refine lv_iload hx hb dX12_passed_174 (lv_at hlB164 0 rfl) ?_
                  refine lv_iconst (v := 1) hx hb dX12_passed_176 (by decide) ?_
                  refine lv_icmp_ne (tgt := 185) hx hb dX12_passed_177 (by decide) (fun c187 => ?_) (fun c187 => ?_)
                  · have h188 := ieS c187 h185
                    clear h185 c187
                    refine lv_iload hx hb dX12_passed_185 (lv_at hlB164 3 rfl) ?_
                    obtain ⟨q190, q191, q192, q193, q194, q195, q196, q197, q198, q199, q200, q201, q202, q203, q204, q205, q206, q207, q208, q209, q210, q211⟩ := tup22_s h188
                    clear h188
                    exact hret _ () _ _ _ _ q190 rfl (by rw [← q191, ← q192, ← q193, ← q194, ← q195, ← q196, ← q197, ← q198, ← q199, ← q200, ← q201, ← q202, ← q203, ← q204, ← q205, ← q206, ← q207, ← q208, ← q209, ← q210, ← q211]; exact hVB164) dX12_passed_187
                  · have h189 := itS c187 h185
                    clear h185 c187
                    refine lv_iload hx hb dX12_passed_180 (lv_at hlB164 2 rfl) ?_
                    refine lv_goto (tgt := 187) hx hb dX12_passed_182 (by decide) ?_
                    obtain ⟨q212, q213, q214, q215, q216, q217, q218, q219, q220, q221, q222, q223, q224, q225, q226, q227, q228, q229, q230, q231, q232, q233⟩ := tup22_s h189
                    clear h189
                    exact hret _ () _ _ _ _ q212 rfl (by rw [← q213, ← q214, ← q215, ← q216, ← q217, ← q218, ← q219, ← q220, ← q221, ← q222, ← q223, ← q224, ← q225, ← q226, ← q227, ← q228, ← q229, ← q230, ← q231, ← q232, ← q233]; exact hVB164) dX12_passed_187
                · have h186 := itS c184 hB164
                  clear hB164 c184
                  refine lv_iload hx hb dX12_passed_169 (lv_at hlB164 1 rfl) ?_
                  refine lv_goto (tgt := 187) hx hb dX12_passed_171 (by decide) ?_
                  obtain ⟨q234, q235, q236, q237, q238, q239, q240, q241, q242, q243, q244, q245, q246, q247, q248, q249, q250, q251, q252, q253, q254, q255⟩ := tup22_s h186
                  clear h186
                  exact hret _ () _ _ _ _ q234 rfl (by rw [← q235, ← q236, ← q237, ← q238, ← q239, ← q240, ← q241, ← q242, ← q243, ← q244, ← q245, ← q246, ← q247, ← q248, ← q249, ← q250, ← q251, ← q252, ← q253, ← q254, ← q255]; exact hVB164) dX12_passed_187
              have L72 : ∀ (n72 : Nat) (x9_256 : Int32) (atA__257 : Int32) (atB__258 : Int32) (atD__259 : Int32) (atF__260 : Int32) (atG__261 : Int32) (atH__262 : Int32) (atL__263 : Int32) (atM__264 : Int32) (atN__265 : Int32) (atS__266 : Int32) (atT__267 : Int32) (atU__268 : Int32) (atX__269 : Int32) (paperHigh__270 : Int32) (paperShape__271 : Int32) (first__272 : Nat → Int32) (greatest__273 : Nat → Int32) (highAt__274 : Nat → Int32) (last__275 : Nat → Int32) (marked__276 : Nat → Int32) (shapeAt__277 : Nat → Int32) (H : Heap) (locs : List Loc) (ls : Array Slot), (f_X12_passed_L72 s_sources s_many p1 p2 p4 (f_X12_passed_J164 p5 ) n72) x9_256 atA__257 atB__258 atD__259 atF__260 atG__261 atH__262 atL__263 atM__264 atN__265 atS__266 atT__267 atU__268 atX__269 paperHigh__270 paperShape__271 first__272 greatest__273 highAt__274 last__275 marked__276 shapeAt__277 = some (r, o_atA, o_atB, o_atD, o_atF, o_atG, o_atH, o_atL, o_atM, o_atN, o_atS, o_atT, o_atU, o_atX, o_paperHigh, o_paperShape, o_first, o_greatest, o_highAt, o_last, o_marked, o_shapeAt) → kV E A s.heap H locs [(a0, .inr (12, [w0_0, w0_1, .int s_sources, w0_3, w0_4, w0_5, w0_6, .ref a5, w0_8, w0_9, w0_10, w0_11, w0_12, w0_13, w0_14, w0_15, w0_16, w0_17, w0_18, w0_19, w0_20, w0_21, w0_22, w0_23, w0_24, w0_25, w0_26, w0_27, .int atA__257, .int atB__258, .int atD__259, .int atF__260, .int atG__261, .int atH__262, .int atL__263, .int atM__264, .int atN__265, .int atS__266, .int atT__267, .int atU__268, .int atX__269, w0_41, w0_42, w0_43, w0_44, w0_45, w0_46, w0_47, .int paperHigh__270, .int paperShape__271, .ref a3, .ref a7, .ref a1, .ref a4, .ref a2, .ref a6, w0_56, w0_57, w0_58, w0_59, w0_60, w0_61, w0_62, w0_63, w0_64, w0_65, w0_66])), (a1, .inl (E.2 0, 1440, .inl first__272)), (a2, .inl (E.2 0, 1440, .inl greatest__273)), (a3, .inl (E.2 0, 1440, .inl highAt__274)), (a4, .inl (E.2 0, 1440, .inl last__275)), (a5, .inl (E.2 0, 20, .inl s_many)), (a6, .inl (E.2 0, 2, .inl marked__276)), (a7, .inl (E.2 0, 1440, .inl shapeAt__277))] → lv_has ls 11 [(0, .ref a0), (1, .int p1), (2, .int p2), (4, .int p4), (5, .int p5), (6, .int 0), (7, .int (-1)), (8, .int (-1)), (9, .int x9_256)] → W p l e r_X12_passed s m args below meth c H locs 0 0 Q (F0 m 72 ls []) := by
                intro n72
                induction n72 with
                | zero =>
                  intro x9_256 atA__257 atB__258 atD__259 atF__260 atG__261 atH__262 atL__263 atM__264 atN__265 atS__266 atT__267 atU__268 atX__269 paperHigh__270 paperShape__271 first__272 greatest__273 highAt__274 last__275 marked__276 shapeAt__277 H locs ls hB72 hVB72 hlB72
                  rw [f_X12_passed_L72] at hB72
                  exact nomatch hB72
                | succ n72 ih72 =>
                  intro x9_256 atA__257 atB__258 atD__259 atF__260 atG__261 atH__262 atL__263 atM__264 atN__265 atS__266 atT__267 atU__268 atX__269 paperHigh__270 paperShape__271 first__272 greatest__273 highAt__274 last__275 marked__276 shapeAt__277 H locs ls hB72 hVB72 hlB72
                  rw [f_X12_passed_L72] at hB72
                  refine lv_iload hx hb dX12_passed_72 (lv_at hlB72 8 rfl) ?_
                  refine lv_iload hx hb dX12_passed_74 (lv_at hlB72 3 rfl) ?_
                  refine lv_icmp_gt (tgt := 164) hx hb dX12_passed_76 (by decide) (fun c278 => ?_) (fun c278 => ?_)
                  · have h279 := itS c278 hB72
                    clear hB72 c278
                    exact J164 atA__257 atB__258 atD__259 atF__260 atG__261 atH__262 atL__263 atM__264 atN__265 atS__266 atT__267 atU__268 atX__269 paperHigh__270 paperShape__271 first__272 greatest__273 highAt__274 last__275 marked__276 shapeAt__277 _ _ _ h279 hVB72 (lv_sub hlB72 [4, 5, 6, 7] rfl)
                  · have h280 := ieS c278 hB72
                    clear hB72 c278
                    refine lv_aload_n hx hb dX12_passed_79 rfl (lv_at hlB72 0 rfl) ?_
                    refine lv_iload hx hb dX12_passed_80 (lv_at hlB72 8 rfl) ?_
                    obtain ⟨o_paperHigh82_281, o_paperShape82_282, o_highAt82_283, o_shapeAt82_284, hc285, h286⟩ := cb4_s h280
                    clear h280
                    refine kgov (krunV (rest := []) X hVB72 [0, 3, 7] (c_X12_lays l E _ a0 a3 a7 (w0_0) (w0_1) (w0_3) (w0_4) (w0_5) (w0_6) (.ref a5) (w0_8) (w0_9) (w0_10) (w0_11) (w0_12) (w0_13) (w0_14) (w0_15) (w0_16) (w0_17) (w0_18) (w0_19) (w0_20) (w0_21) (w0_22) (w0_23) (w0_24) (w0_25) (w0_26) (w0_27) (.int atA__257) (.int atB__258) (.int atD__259) (.int atF__260) (.int atG__261) (.int atH__262) (.int atL__263) (.int atM__264) (.int atN__265) (.int atS__266) (.int atT__267) (.int atU__268) (.int atX__269) (w0_41) (w0_42) (w0_43) (w0_44) (w0_45) (w0_46) (w0_47) (.ref a1) (.ref a4) (.ref a2) (.ref a6) (w0_56) (w0_57) (w0_58) (w0_59) (w0_60) (w0_61) (w0_62) (w0_63) (w0_64) (w0_65) (w0_66) s_sources paperHigh__270 paperShape__271 highAt__274 shapeAt__277 x9_256 o_paperHigh82_281 o_paperShape82_282 o_highAt82_283 o_shapeAt82_284 hc285) mw_850 kb_X12_lays (ci := 12) rfl rfl (by decide) rfl rfl hlB72.1 rfl (Nat.le_of_ble_eq_true rfl) dX12_passed_82 (by decide)) X hVB72 [0, 3, 7] [1, 2, 4, 5, 6] rfl rfl rfl (by decide) (fun u H locs hp288 hV287 => ?_)
                    have hV287 : kV E A s.heap H locs [(a0, .inr (12, [w0_0, w0_1, .int s_sources, w0_3, w0_4, w0_5, w0_6, .ref a5, w0_8, w0_9, w0_10, w0_11, w0_12, w0_13, w0_14, w0_15, w0_16, w0_17, w0_18, w0_19, w0_20, w0_21, w0_22, w0_23, w0_24, w0_25, w0_26, w0_27, .int atA__257, .int atB__258, .int atD__259, .int atF__260, .int atG__261, .int atH__262, .int atL__263, .int atM__264, .int atN__265, .int atS__266, .int atT__267, .int atU__268, .int atX__269, w0_41, w0_42, w0_43, w0_44, w0_45, w0_46, w0_47, .int o_paperHigh82_281, .int o_paperShape82_282, .ref a3, .ref a7, .ref a1, .ref a4, .ref a2, .ref a6, w0_56, w0_57, w0_58, w0_59, w0_60, w0_61, w0_62, w0_63, w0_64, w0_65, w0_66])), (a1, .inl (E.2 0, 1440, .inl first__272)), (a2, .inl (E.2 0, 1440, .inl greatest__273)), (a3, .inl (E.2 0, 1440, .inl o_highAt82_283)), (a4, .inl (E.2 0, 1440, .inl last__275)), (a5, .inl (E.2 0, 20, .inl s_many)), (a6, .inl (E.2 0, 2, .inl marked__276)), (a7, .inl (E.2 0, 1440, .inl o_shapeAt82_284))] := hV287.sub [5, 0, 1, 6, 2, 3, 4, 7] rfl rfl
                    clear hVB72
                    refine lv_aload_n hx hb dX12_passed_85 rfl (lv_at hlB72 0 rfl) ?_
                    refine lv_iload_n hx hb dX12_passed_86 rfl (lv_at hlB72 1 rfl) ?_
                    refine lv_iload hx hb dX12_passed_87 (lv_at hlB72 8 rfl) ?_
                    refine lv_iconst (v := 0) hx hb dX12_passed_89 (by decide) ?_
                    obtain ⟨o_atA90_289, o_atB90_290, o_atD90_291, o_atF90_292, o_atG90_293, o_atH90_294, o_atL90_295, o_atM90_296, o_atN90_297, o_atS90_298, o_atT90_299, o_atU90_300, o_atX90_301, o_first90_302, o_greatest90_303, o_last90_304, o_marked90_305, hc306, h307⟩ := cb17_s h286
                    clear h286
                    refine kgov (krunV (rest := []) X hV287 [0, 1, 2, 3, 4, 5, 6, 7] (c_X12_goesOver l E _ a0 a1 a2 a3 a4 a5 a6 a7 (w0_0) (w0_1) (.int s_sources) (w0_3) (w0_4) (w0_5) (w0_6) (w0_8) (w0_9) (w0_10) (w0_11) (w0_12) (w0_13) (w0_14) (w0_15) (w0_16) (w0_17) (w0_18) (w0_19) (w0_20) (w0_21) (w0_22) (w0_23) (w0_24) (w0_25) (w0_26) (w0_27) (w0_41) (w0_42) (w0_43) (w0_44) (w0_45) (w0_46) (w0_47) (.int o_paperHigh82_281) (.int o_paperShape82_282) (w0_56) (w0_57) (w0_58) (w0_59) (w0_60) (w0_61) (w0_62) (w0_63) (w0_64) (w0_65) (w0_66) atA__257 atB__258 atD__259 atF__260 atG__261 atH__262 atL__263 atM__264 atN__265 atS__266 atT__267 atU__268 atX__269 first__272 greatest__273 o_highAt82_283 last__275 s_many marked__276 o_shapeAt82_284 p1 x9_256 0 o_atA90_289 o_atB90_290 o_atD90_291 o_atF90_292 o_atG90_293 o_atH90_294 o_atL90_295 o_atM90_296 o_atN90_297 o_atS90_298 o_atT90_299 o_atU90_300 o_atX90_301 o_first90_302 o_greatest90_303 o_last90_304 o_marked90_305 hc306) mw_854 kb_X12_goesOver (ci := 12) rfl rfl (by decide) rfl rfl hlB72.1 rfl (Nat.le_of_ble_eq_true rfl) dX12_passed_90 (by decide)) X hV287 [0, 1, 2, 3, 4, 5, 6, 7] [] rfl rfl rfl (by decide) (fun u H locs hp309 hV308 => ?_)
                    have hV308 : kV E A s.heap H locs [(a0, .inr (12, [w0_0, w0_1, .int s_sources, w0_3, w0_4, w0_5, w0_6, .ref a5, w0_8, w0_9, w0_10, w0_11, w0_12, w0_13, w0_14, w0_15, w0_16, w0_17, w0_18, w0_19, w0_20, w0_21, w0_22, w0_23, w0_24, w0_25, w0_26, w0_27, .int o_atA90_289, .int o_atB90_290, .int o_atD90_291, .int o_atF90_292, .int o_atG90_293, .int o_atH90_294, .int o_atL90_295, .int o_atM90_296, .int o_atN90_297, .int o_atS90_298, .int o_atT90_299, .int o_atU90_300, .int o_atX90_301, w0_41, w0_42, w0_43, w0_44, w0_45, w0_46, w0_47, .int o_paperHigh82_281, .int o_paperShape82_282, .ref a3, .ref a7, .ref a1, .ref a4, .ref a2, .ref a6, w0_56, w0_57, w0_58, w0_59, w0_60, w0_61, w0_62, w0_63, w0_64, w0_65, w0_66])), (a1, .inl (E.2 0, 1440, .inl o_first90_302)), (a2, .inl (E.2 0, 1440, .inl o_greatest90_303)), (a3, .inl (E.2 0, 1440, .inl o_highAt82_283)), (a4, .inl (E.2 0, 1440, .inl o_last90_304)), (a5, .inl (E.2 0, 20, .inl s_many)), (a6, .inl (E.2 0, 2, .inl o_marked90_305)), (a7, .inl (E.2 0, 1440, .inl o_shapeAt82_284))] := hV308.sub [0, 1, 2, 3, 4, 5, 6, 7] rfl rfl
                    clear hV287
                    refine lv_aload_n hx hb dX12_passed_93 rfl (lv_at hlB72 0 rfl) ?_
                    refine lv_iload_n hx hb dX12_passed_94 rfl (lv_at hlB72 2 rfl) ?_
                    refine lv_iload hx hb dX12_passed_95 (lv_at hlB72 8 rfl) ?_
                    refine lv_iconst (v := 1) hx hb dX12_passed_97 (by decide) ?_
                    obtain ⟨o_atA98_310, o_atB98_311, o_atD98_312, o_atF98_313, o_atG98_314, o_atH98_315, o_atL98_316, o_atM98_317, o_atN98_318, o_atS98_319, o_atT98_320, o_atU98_321, o_atX98_322, o_first98_323, o_greatest98_324, o_last98_325, o_marked98_326, hc327, h328⟩ := cb17_s h307
                    clear h307
                    refine kgov (krunV (rest := []) X hV308 [0, 1, 2, 3, 4, 5, 6, 7] (c_X12_goesOver l E _ a0 a1 a2 a3 a4 a5 a6 a7 (w0_0) (w0_1) (.int s_sources) (w0_3) (w0_4) (w0_5) (w0_6) (w0_8) (w0_9) (w0_10) (w0_11) (w0_12) (w0_13) (w0_14) (w0_15) (w0_16) (w0_17) (w0_18) (w0_19) (w0_20) (w0_21) (w0_22) (w0_23) (w0_24) (w0_25) (w0_26) (w0_27) (w0_41) (w0_42) (w0_43) (w0_44) (w0_45) (w0_46) (w0_47) (.int o_paperHigh82_281) (.int o_paperShape82_282) (w0_56) (w0_57) (w0_58) (w0_59) (w0_60) (w0_61) (w0_62) (w0_63) (w0_64) (w0_65) (w0_66) o_atA90_289 o_atB90_290 o_atD90_291 o_atF90_292 o_atG90_293 o_atH90_294 o_atL90_295 o_atM90_296 o_atN90_297 o_atS90_298 o_atT90_299 o_atU90_300 o_atX90_301 o_first90_302 o_greatest90_303 o_highAt82_283 o_last90_304 s_many o_marked90_305 o_shapeAt82_284 p2 x9_256 1 o_atA98_310 o_atB98_311 o_atD98_312 o_atF98_313 o_atG98_314 o_atH98_315 o_atL98_316 o_atM98_317 o_atN98_318 o_atS98_319 o_atT98_320 o_atU98_321 o_atX98_322 o_first98_323 o_greatest98_324 o_last98_325 o_marked98_326 hc327) mw_854 kb_X12_goesOver (ci := 12) rfl rfl (by decide) rfl rfl hlB72.1 rfl (Nat.le_of_ble_eq_true rfl) dX12_passed_98 (by decide)) X hV308 [0, 1, 2, 3, 4, 5, 6, 7] [] rfl rfl rfl (by decide) (fun u H locs hp330 hV329 => ?_)
                    have hV329 : kV E A s.heap H locs [(a0, .inr (12, [w0_0, w0_1, .int s_sources, w0_3, w0_4, w0_5, w0_6, .ref a5, w0_8, w0_9, w0_10, w0_11, w0_12, w0_13, w0_14, w0_15, w0_16, w0_17, w0_18, w0_19, w0_20, w0_21, w0_22, w0_23, w0_24, w0_25, w0_26, w0_27, .int o_atA98_310, .int o_atB98_311, .int o_atD98_312, .int o_atF98_313, .int o_atG98_314, .int o_atH98_315, .int o_atL98_316, .int o_atM98_317, .int o_atN98_318, .int o_atS98_319, .int o_atT98_320, .int o_atU98_321, .int o_atX98_322, w0_41, w0_42, w0_43, w0_44, w0_45, w0_46, w0_47, .int o_paperHigh82_281, .int o_paperShape82_282, .ref a3, .ref a7, .ref a1, .ref a4, .ref a2, .ref a6, w0_56, w0_57, w0_58, w0_59, w0_60, w0_61, w0_62, w0_63, w0_64, w0_65, w0_66])), (a1, .inl (E.2 0, 1440, .inl o_first98_323)), (a2, .inl (E.2 0, 1440, .inl o_greatest98_324)), (a3, .inl (E.2 0, 1440, .inl o_highAt82_283)), (a4, .inl (E.2 0, 1440, .inl o_last98_325)), (a5, .inl (E.2 0, 20, .inl s_many)), (a6, .inl (E.2 0, 2, .inl o_marked98_326)), (a7, .inl (E.2 0, 1440, .inl o_shapeAt82_284))] := hV329.sub [0, 1, 2, 3, 4, 5, 6, 7] rfl rfl
                    clear hV308
                    refine lv_iconst (v := 0) hx hb dX12_passed_101 (by decide) ?_
                    refine lv_istore (lv' := [(10, .int 0), (0, .ref a0), (1, .int p1), (2, .int p2), (4, .int p4), (5, .int p5), (6, .int 0), (7, .int (-1)), (8, .int (-1)), (9, .int x9_256)]) hx hb dX12_passed_102 hlB72 (by decide) rfl (fun ls hl331 => ?_)
                    clear hlB72
                    refine lv_iload hx hb dX12_passed_104 (lv_at hl331 0 rfl) ?_
                    refine lv_aload_n hx hb dX12_passed_106 rfl (lv_at hl331 1 rfl) ?_
                    refine kget X hV329 (ci := 12) inlX12 rfl 0 rfl 55 (by decide) mw_167 rfl dX12_passed_107 ?_
                    refine lv_iconst (v := 1) hx hb dX12_passed_110 (by decide) ?_
                    obtain ⟨hi333, v111_332, e334, h335⟩ := rdI_s h328
                    clear h328
                    refine kiald X hV329 6 rfl hi333 e334 dX12_passed_111 ?_
                    clear hi333 e334
                    refine lv_icmp_ge (tgt := 158) hx hb dX12_passed_112 (by decide) (fun c336 => ?_) (fun c336 => ?_)
                    · have h337 := itS c336 h335
                      clear h335 c336
                      obtain ⟨v158_339, e340, h341⟩ := nmI_s h337
                      clear h337
                      refine lv_iinc (v := v158_339) (lv' := [(9, .int v158_339), (10, .int 0), (0, .ref a0), (1, .int p1), (2, .int p2), (4, .int p4), (5, .int p5), (6, .int 0), (7, .int (-1)), (8, .int (-1))]) hx hb dX12_passed_158 hl331 (k := 9) rfl (by rw [e340]; rfl) (by decide) rfl (fun ls hl342 => ?_)
                      clear hl331 e340
                      refine lv_goto (tgt := 72) hx hb dX12_passed_161 (by decide) ?_
                      exact ih72 v158_339 o_atA98_310 o_atB98_311 o_atD98_312 o_atF98_313 o_atG98_314 o_atH98_315 o_atL98_316 o_atM98_317 o_atN98_318 o_atS98_319 o_atT98_320 o_atU98_321 o_atX98_322 o_paperHigh82_281 o_paperShape82_282 o_first98_323 o_greatest98_324 o_highAt82_283 o_last98_325 o_marked98_326 o_shapeAt82_284 _ _ _ h341 hV329 (lv_sub hl342 [2, 3, 4, 5, 6, 7, 8, 9, 0] rfl)
                    · have h338 := ieS c336 h335
                      clear h335 c336
                      refine lv_aload_n hx hb dX12_passed_115 rfl (lv_at hl331 1 rfl) ?_
                      refine lv_iload hx hb dX12_passed_116 (lv_at hl331 0 rfl) ?_
                      exact nomatch h338
              exact L72 FU p3 s_atA s_atB s_atD s_atF s_atG s_atH s_atL s_atM s_atN s_atS s_atT s_atU s_atX s_paperHigh s_paperShape s_first s_greatest s_highAt s_last s_marked s_shapeAt _ _ _ h157 hV154 (lv_sub hl162 [4, 5, 6, 8, 9, 3, 2, 1, 0] rfl)
            · have h158 := itS c156 h153
              clear h153 c156
              refine lv_iconst (v := (-1)) hx hb dX12_passed_58 (by decide) ?_
              obtain ⟨q343, q344, q345, q346, q347, q348, q349, q350, q351, q352, q353, q354, q355, q356, q357, q358, q359, q360, q361, q362, q363, q364⟩ := tup22_s h158
              clear h158
              exact hret _ () _ _ _ _ q343 rfl (by rw [← q344, ← q345, ← q346, ← q347, ← q348, ← q349, ← q350, ← q351, ← q352, ← q353, ← q354, ← q355, ← q356, ← q357, ← q358, ← q359, ← q360, ← q361, ← q362, ← q363, ← q364]; exact hV154) dX12_passed_59
abbrev r_X12_note : Room := { frames := 2, cells := 0, slots := 0, locals := 45 }
set_option maxHeartbeats 4000000 in
set_option maxRecDepth 100000 in
theorem c_X12_note (l : Launch) (E : kE) (sz : Nat) (a0 a1 a2 a3 : Nat) (w0_0 w0_1 w0_2 w0_3 w0_5 w0_6 w0_7 w0_8 w0_9 w0_10 w0_11 w0_12 w0_13 w0_14 w0_15 w0_16 w0_17 w0_18 w0_19 w0_20 w0_21 w0_22 w0_23 w0_24 w0_25 w0_26 w0_27 w0_28 w0_29 w0_30 w0_31 w0_32 w0_33 w0_34 w0_35 w0_36 w0_37 w0_38 w0_39 w0_40 w0_41 w0_42 w0_43 w0_44 w0_45 w0_46 w0_47 w0_48 w0_49 w0_50 w0_51 w0_52 w0_53 w0_54 w0_55 w0_59 w0_60 w0_61 w0_62 w0_63 w0_64 w0_65 w0_66 : Value) (s_notes : Int32) (s_noteDay : Nat → Int32) (s_noteMinute : Nat → Int32) (s_noteShape : Nat → Int32) (p1 : Int32) (p2 : Int32) (p3 : Int32) (r : Int32) (o_notes : Int32) (o_noteDay : Nat → Int32) (o_noteMinute : Nat → Int32) (o_noteShape : Nat → Int32) (h : f_X12_note s_notes s_noteDay s_noteMinute s_noteShape p1 p2 p3 = some (r, o_notes, o_noteDay, o_noteMinute, o_noteShape)) : kMi l yX12_note cX12_note 4 (some .int) r_X12_note [.ref a0, .int p1, .int p2, .int p3] E [(a0, .inr (12, [w0_0, w0_1, w0_2, w0_3, .int s_notes, w0_5, w0_6, w0_7, w0_8, w0_9, w0_10, w0_11, w0_12, w0_13, w0_14, w0_15, w0_16, w0_17, w0_18, w0_19, w0_20, w0_21, w0_22, w0_23, w0_24, w0_25, w0_26, w0_27, w0_28, w0_29, w0_30, w0_31, w0_32, w0_33, w0_34, w0_35, w0_36, w0_37, w0_38, w0_39, w0_40, w0_41, w0_42, w0_43, w0_44, w0_45, w0_46, w0_47, w0_48, w0_49, w0_50, w0_51, w0_52, w0_53, w0_54, w0_55, .ref a1, .ref a2, .ref a3, w0_59, w0_60, w0_61, w0_62, w0_63, w0_64, w0_65, w0_66])), (a1, .inl (E.2 0, 40, .inl s_noteDay)), (a2, .inl (E.2 0, 40, .inl s_noteMinute)), (a3, .inl (E.2 0, 40, .inl s_noteShape))] sz 0 0 (fun x (_ : Unit) => x = r) (fun _ => [(a0, .inr (12, [w0_0, w0_1, w0_2, w0_3, .int o_notes, w0_5, w0_6, w0_7, w0_8, w0_9, w0_10, w0_11, w0_12, w0_13, w0_14, w0_15, w0_16, w0_17, w0_18, w0_19, w0_20, w0_21, w0_22, w0_23, w0_24, w0_25, w0_26, w0_27, w0_28, w0_29, w0_30, w0_31, w0_32, w0_33, w0_34, w0_35, w0_36, w0_37, w0_38, w0_39, w0_40, w0_41, w0_42, w0_43, w0_44, w0_45, w0_46, w0_47, w0_48, w0_49, w0_50, w0_51, w0_52, w0_53, w0_54, w0_55, .ref a1, .ref a2, .ref a3, w0_59, w0_60, w0_61, w0_62, w0_63, w0_64, w0_65, w0_66])), (a1, .inl (E.2 0, 40, .inl o_noteDay)), (a2, .inl (E.2 0, 40, .inl o_noteMinute)), (a3, .inl (E.2 0, 40, .inl o_noteShape))]) := by
  refine kmeti rfl (Nat.le_of_ble_eq_true rfl) ?_
  intro p e s m args below meth c ls A Q X hV hret hl
  have X : kC p s m c cX12_note 4 RX12 args E A := X
  have hx := X.1
  have hb := X.2.1
  have hl : lv_has ls 4 [(0, .ref a0), (1, .int p1), (2, .int p2), (3, .int p3)] := hl
  rw [f_X12_note] at h
  refine lv_aload_n hx hb dX12_note_0 rfl (lv_at hl 0 rfl) ?_
  refine kget X hV (ci := 12) inlX12 rfl 0 rfl 4 (by decide) mw_899 rfl dX12_note_1 ?_
  refine lv_bipush (v := 40) hx hb dX12_note_4 (by decide) ?_
  refine lv_icmp_eq (tgt := 57) hx hb dX12_note_6 (by decide) (fun c1 => ?_) (fun c1 => ?_)
  · have h2 := itS c1 h
    clear h c1
    refine lv_iconst (v := (-1)) hx hb dX12_note_57 (by decide) ?_
    obtain ⟨q4, q5, q6, q7, q8⟩ := tup5_s h2
    clear h2
    exact hret _ () _ _ _ _ q4 rfl (by rw [← q5, ← q6, ← q7, ← q8]; exact hV) dX12_note_58
  · have h3 := ieS c1 h
    clear h c1
    refine lv_iload_n hx hb dX12_note_9 rfl (lv_at hl 1 rfl) ?_
    obtain ⟨r10_9, hc10, h11⟩ := cb1_s h3
    clear h3
    refine kgoiE (krunS (rest := []) X hV [] (c_X12_isDay l E _ p1 r10_9 hc10) mw_632 kb_X12_isDay (by decide) rfl rfl hl.1 rfl (Nat.le_of_ble_eq_true rfl) dX12_note_10 (by decide)) X hV [] [0, 1, 2, 3] rfl rfl rfl (by decide) (fun u H locs hV12 => ?_)
    have hV12 : kV E A s.heap H locs [(a0, .inr (12, [w0_0, w0_1, w0_2, w0_3, .int s_notes, w0_5, w0_6, w0_7, w0_8, w0_9, w0_10, w0_11, w0_12, w0_13, w0_14, w0_15, w0_16, w0_17, w0_18, w0_19, w0_20, w0_21, w0_22, w0_23, w0_24, w0_25, w0_26, w0_27, w0_28, w0_29, w0_30, w0_31, w0_32, w0_33, w0_34, w0_35, w0_36, w0_37, w0_38, w0_39, w0_40, w0_41, w0_42, w0_43, w0_44, w0_45, w0_46, w0_47, w0_48, w0_49, w0_50, w0_51, w0_52, w0_53, w0_54, w0_55, .ref a1, .ref a2, .ref a3, w0_59, w0_60, w0_61, w0_62, w0_63, w0_64, w0_65, w0_66])), (a1, .inl (E.2 0, 40, .inl s_noteDay)), (a2, .inl (E.2 0, 40, .inl s_noteMinute)), (a3, .inl (E.2 0, 40, .inl s_noteShape))] := hV12.sub [0, 1, 2, 3] rfl rfl
    clear hV
    refine lv_if_eq (tgt := 57) hx hb dX12_note_13 (by decide) (fun c14 => ?_) (fun c14 => ?_)
    · have h15 := itS c14 h11
      clear h11 c14
      refine lv_iconst (v := (-1)) hx hb dX12_note_57 (by decide) ?_
      obtain ⟨q17, q18, q19, q20, q21⟩ := tup5_s h15
      clear h15
      exact hret _ () _ _ _ _ q17 rfl (by rw [← q18, ← q19, ← q20, ← q21]; exact hV12) dX12_note_58
    · have h16 := ieS c14 h11
      clear h11 c14
      refine lv_iload_n hx hb dX12_note_16 rfl (lv_at hl 2 rfl) ?_
      obtain ⟨r17_22, hc23, h24⟩ := cb1_s h16
      clear h16
      refine kgoiE (krunS (rest := []) X hV12 [] (c_X12_isMinute l E _ p2 r17_22 hc23) mw_220 kb_X12_isMinute (by decide) rfl rfl hl.1 rfl (Nat.le_of_ble_eq_true rfl) dX12_note_17 (by decide)) X hV12 [] [0, 1, 2, 3] rfl rfl rfl (by decide) (fun u H locs hV25 => ?_)
      have hV25 : kV E A s.heap H locs [(a0, .inr (12, [w0_0, w0_1, w0_2, w0_3, .int s_notes, w0_5, w0_6, w0_7, w0_8, w0_9, w0_10, w0_11, w0_12, w0_13, w0_14, w0_15, w0_16, w0_17, w0_18, w0_19, w0_20, w0_21, w0_22, w0_23, w0_24, w0_25, w0_26, w0_27, w0_28, w0_29, w0_30, w0_31, w0_32, w0_33, w0_34, w0_35, w0_36, w0_37, w0_38, w0_39, w0_40, w0_41, w0_42, w0_43, w0_44, w0_45, w0_46, w0_47, w0_48, w0_49, w0_50, w0_51, w0_52, w0_53, w0_54, w0_55, .ref a1, .ref a2, .ref a3, w0_59, w0_60, w0_61, w0_62, w0_63, w0_64, w0_65, w0_66])), (a1, .inl (E.2 0, 40, .inl s_noteDay)), (a2, .inl (E.2 0, 40, .inl s_noteMinute)), (a3, .inl (E.2 0, 40, .inl s_noteShape))] := hV25.sub [0, 1, 2, 3] rfl rfl
      clear hV12
      refine lv_if_eq (tgt := 57) hx hb dX12_note_20 (by decide) (fun c27 => ?_) (fun c27 => ?_)
      · have h28 := itS c27 h24
        clear h24 c27
        refine lv_iconst (v := (-1)) hx hb dX12_note_57 (by decide) ?_
        obtain ⟨q30, q31, q32, q33, q34⟩ := tup5_s h28
        clear h28
        exact hret _ () _ _ _ _ q30 rfl (by rw [← q31, ← q32, ← q33, ← q34]; exact hV25) dX12_note_58
      · have h29 := ieS c27 h24
        clear h24 c27
        refine lv_iload_n hx hb dX12_note_23 rfl (lv_at hl 3 rfl) ?_
        refine lv_i2l (v := Int32.toInt64 p3) hx hb dX12_note_24 rfl ?_
        refine lv_lconst (v := 0) hx hb dX12_note_25 (by decide) ?_
        refine lv_ldc2 (v := 3) hx hb X.2.2.2.1 (X.2.2.2.2.1 _ mw_218) dX12_note_26 ?_
        obtain ⟨r29_35, hc36, h37⟩ := cb1_s h29
        clear h29
        refine kgoiE (krunS (rest := []) X hV25 [] (c_X12_lies l E _ (Int32.toInt64 p3) 0 3 r29_35 hc36) mw_224 kb_X12_lies (by decide) rfl rfl hl.1 rfl (Nat.le_of_ble_eq_true rfl) dX12_note_29 (by decide)) X hV25 [] [0, 1, 2, 3] rfl rfl rfl (by decide) (fun u H locs hV38 => ?_)
        have hV38 : kV E A s.heap H locs [(a0, .inr (12, [w0_0, w0_1, w0_2, w0_3, .int s_notes, w0_5, w0_6, w0_7, w0_8, w0_9, w0_10, w0_11, w0_12, w0_13, w0_14, w0_15, w0_16, w0_17, w0_18, w0_19, w0_20, w0_21, w0_22, w0_23, w0_24, w0_25, w0_26, w0_27, w0_28, w0_29, w0_30, w0_31, w0_32, w0_33, w0_34, w0_35, w0_36, w0_37, w0_38, w0_39, w0_40, w0_41, w0_42, w0_43, w0_44, w0_45, w0_46, w0_47, w0_48, w0_49, w0_50, w0_51, w0_52, w0_53, w0_54, w0_55, .ref a1, .ref a2, .ref a3, w0_59, w0_60, w0_61, w0_62, w0_63, w0_64, w0_65, w0_66])), (a1, .inl (E.2 0, 40, .inl s_noteDay)), (a2, .inl (E.2 0, 40, .inl s_noteMinute)), (a3, .inl (E.2 0, 40, .inl s_noteShape))] := hV38.sub [0, 1, 2, 3] rfl rfl
        clear hV25
        refine lv_if_eq (tgt := 57) hx hb dX12_note_32 (by decide) (fun c40 => ?_) (fun c40 => ?_)
        · have h41 := itS c40 h37
          clear h37 c40
          refine lv_iconst (v := (-1)) hx hb dX12_note_57 (by decide) ?_
          obtain ⟨q43, q44, q45, q46, q47⟩ := tup5_s h41
          clear h41
          exact hret _ () _ _ _ _ q43 rfl (by rw [← q44, ← q45, ← q46, ← q47]; exact hV38) dX12_note_58
        · have h42 := ieS c40 h37
          clear h37 c40
          refine lv_aload_n hx hb dX12_note_35 rfl (lv_at hl 0 rfl) ?_
          refine kget X hV38 (ci := 12) inlX12 rfl 0 rfl 4 (by decide) mw_899 rfl dX12_note_36 ?_
          have J59 : ∀  (H : Heap) (locs : List Loc) (ls : Array Slot), (f_X12_note_J59 s_notes s_noteDay s_noteMinute s_noteShape p1 p2 p3 ) = some (r, o_notes, o_noteDay, o_noteMinute, o_noteShape) → kV E A s.heap H locs [(a0, .inr (12, [w0_0, w0_1, w0_2, w0_3, .int s_notes, w0_5, w0_6, w0_7, w0_8, w0_9, w0_10, w0_11, w0_12, w0_13, w0_14, w0_15, w0_16, w0_17, w0_18, w0_19, w0_20, w0_21, w0_22, w0_23, w0_24, w0_25, w0_26, w0_27, w0_28, w0_29, w0_30, w0_31, w0_32, w0_33, w0_34, w0_35, w0_36, w0_37, w0_38, w0_39, w0_40, w0_41, w0_42, w0_43, w0_44, w0_45, w0_46, w0_47, w0_48, w0_49, w0_50, w0_51, w0_52, w0_53, w0_54, w0_55, .ref a1, .ref a2, .ref a3, w0_59, w0_60, w0_61, w0_62, w0_63, w0_64, w0_65, w0_66])), (a1, .inl (E.2 0, 40, .inl s_noteDay)), (a2, .inl (E.2 0, 40, .inl s_noteMinute)), (a3, .inl (E.2 0, 40, .inl s_noteShape))] → lv_has ls 4 [(0, .ref a0), (1, .int p1), (2, .int p2), (3, .int p3)] → W p l e r_X12_note s m args below meth c H locs 0 0 Q (F0 m 59 ls []) := by
            intro  H locs ls hB59 hVB59 hlB59
            rw [f_X12_note_J59] at hB59
            refine lv_aload_n hx hb dX12_note_59 rfl (lv_at hlB59 0 rfl) ?_
            refine kget X hVB59 (ci := 12) inlX12 rfl 0 rfl 56 (by decide) mw_168 rfl dX12_note_60 ?_
            refine lv_aload_n hx hb dX12_note_63 rfl (lv_at hlB59 0 rfl) ?_
            refine kget X hVB59 (ci := 12) inlX12 rfl 0 rfl 4 (by decide) mw_899 rfl dX12_note_64 ?_
            refine lv_iload_n hx hb dX12_note_67 rfl (lv_at hlB59 1 rfl) ?_
            obtain ⟨hi49, g68_48, e50, h51⟩ := wrI_s hB59
            clear hB59
            refine kiast X hVB59 1 rfl hi49 e50 dX12_note_68 (fun H locs hV52 => ?_)
            have hV52 : kV E A s.heap H locs [(a0, .inr (12, [w0_0, w0_1, w0_2, w0_3, .int s_notes, w0_5, w0_6, w0_7, w0_8, w0_9, w0_10, w0_11, w0_12, w0_13, w0_14, w0_15, w0_16, w0_17, w0_18, w0_19, w0_20, w0_21, w0_22, w0_23, w0_24, w0_25, w0_26, w0_27, w0_28, w0_29, w0_30, w0_31, w0_32, w0_33, w0_34, w0_35, w0_36, w0_37, w0_38, w0_39, w0_40, w0_41, w0_42, w0_43, w0_44, w0_45, w0_46, w0_47, w0_48, w0_49, w0_50, w0_51, w0_52, w0_53, w0_54, w0_55, .ref a1, .ref a2, .ref a3, w0_59, w0_60, w0_61, w0_62, w0_63, w0_64, w0_65, w0_66])), (a1, .inl (E.2 0, 40, .inl g68_48)), (a2, .inl (E.2 0, 40, .inl s_noteMinute)), (a3, .inl (E.2 0, 40, .inl s_noteShape))] := hV52
            clear hVB59 hi49 e50
            refine lv_aload_n hx hb dX12_note_69 rfl (lv_at hlB59 0 rfl) ?_
            refine kget X hV52 (ci := 12) inlX12 rfl 0 rfl 57 (by decide) mw_169 rfl dX12_note_70 ?_
            refine lv_aload_n hx hb dX12_note_73 rfl (lv_at hlB59 0 rfl) ?_
            refine kget X hV52 (ci := 12) inlX12 rfl 0 rfl 4 (by decide) mw_899 rfl dX12_note_74 ?_
            refine lv_iload_n hx hb dX12_note_77 rfl (lv_at hlB59 2 rfl) ?_
            obtain ⟨hi54, g78_53, e55, h56⟩ := wrI_s h51
            clear h51
            refine kiast X hV52 2 rfl hi54 e55 dX12_note_78 (fun H locs hV57 => ?_)
            have hV57 : kV E A s.heap H locs [(a0, .inr (12, [w0_0, w0_1, w0_2, w0_3, .int s_notes, w0_5, w0_6, w0_7, w0_8, w0_9, w0_10, w0_11, w0_12, w0_13, w0_14, w0_15, w0_16, w0_17, w0_18, w0_19, w0_20, w0_21, w0_22, w0_23, w0_24, w0_25, w0_26, w0_27, w0_28, w0_29, w0_30, w0_31, w0_32, w0_33, w0_34, w0_35, w0_36, w0_37, w0_38, w0_39, w0_40, w0_41, w0_42, w0_43, w0_44, w0_45, w0_46, w0_47, w0_48, w0_49, w0_50, w0_51, w0_52, w0_53, w0_54, w0_55, .ref a1, .ref a2, .ref a3, w0_59, w0_60, w0_61, w0_62, w0_63, w0_64, w0_65, w0_66])), (a1, .inl (E.2 0, 40, .inl g68_48)), (a2, .inl (E.2 0, 40, .inl g78_53)), (a3, .inl (E.2 0, 40, .inl s_noteShape))] := hV57
            clear hV52 hi54 e55
            refine lv_aload_n hx hb dX12_note_79 rfl (lv_at hlB59 0 rfl) ?_
            refine kget X hV57 (ci := 12) inlX12 rfl 0 rfl 58 (by decide) mw_170 rfl dX12_note_80 ?_
            refine lv_aload_n hx hb dX12_note_83 rfl (lv_at hlB59 0 rfl) ?_
            refine kget X hV57 (ci := 12) inlX12 rfl 0 rfl 4 (by decide) mw_899 rfl dX12_note_84 ?_
            refine lv_iload_n hx hb dX12_note_87 rfl (lv_at hlB59 3 rfl) ?_
            obtain ⟨hi59, g88_58, e60, h61⟩ := wrI_s h56
            clear h56
            refine kiast X hV57 3 rfl hi59 e60 dX12_note_88 (fun H locs hV62 => ?_)
            have hV62 : kV E A s.heap H locs [(a0, .inr (12, [w0_0, w0_1, w0_2, w0_3, .int s_notes, w0_5, w0_6, w0_7, w0_8, w0_9, w0_10, w0_11, w0_12, w0_13, w0_14, w0_15, w0_16, w0_17, w0_18, w0_19, w0_20, w0_21, w0_22, w0_23, w0_24, w0_25, w0_26, w0_27, w0_28, w0_29, w0_30, w0_31, w0_32, w0_33, w0_34, w0_35, w0_36, w0_37, w0_38, w0_39, w0_40, w0_41, w0_42, w0_43, w0_44, w0_45, w0_46, w0_47, w0_48, w0_49, w0_50, w0_51, w0_52, w0_53, w0_54, w0_55, .ref a1, .ref a2, .ref a3, w0_59, w0_60, w0_61, w0_62, w0_63, w0_64, w0_65, w0_66])), (a1, .inl (E.2 0, 40, .inl g68_48)), (a2, .inl (E.2 0, 40, .inl g78_53)), (a3, .inl (E.2 0, 40, .inl g88_58))] := hV62
            clear hV57 hi59 e60
            refine lv_aload_n hx hb dX12_note_89 rfl (lv_at hlB59 0 rfl) ?_
            refine lv_dup hx hb dX12_note_90 rfl ?_
            refine kget X hV62 (ci := 12) inlX12 rfl 0 rfl 4 (by decide) mw_899 rfl dX12_note_91 ?_
            refine lv_iconst (v := 1) hx hb dX12_note_94 (by decide) ?_
            refine lv_iadd hx hb dX12_note_95 ?_
            obtain ⟨v96_63, e64, h65⟩ := nmI_s h61
            clear h61
            refine ktopi e64 ?_
            clear e64
            refine kput X hV62 (ci := 12) inlX12 rfl tyX12 tyX12_ok nmX12 0 rfl 4 (by decide) mw_899 rfl rfl rfl (Nat.le_of_ble_eq_true rfl) dX12_note_96 (fun H locs hV66 => ?_)
            have hV66 : kV E A s.heap H locs [(a0, .inr (12, [w0_0, w0_1, w0_2, w0_3, .int v96_63, w0_5, w0_6, w0_7, w0_8, w0_9, w0_10, w0_11, w0_12, w0_13, w0_14, w0_15, w0_16, w0_17, w0_18, w0_19, w0_20, w0_21, w0_22, w0_23, w0_24, w0_25, w0_26, w0_27, w0_28, w0_29, w0_30, w0_31, w0_32, w0_33, w0_34, w0_35, w0_36, w0_37, w0_38, w0_39, w0_40, w0_41, w0_42, w0_43, w0_44, w0_45, w0_46, w0_47, w0_48, w0_49, w0_50, w0_51, w0_52, w0_53, w0_54, w0_55, .ref a1, .ref a2, .ref a3, w0_59, w0_60, w0_61, w0_62, w0_63, w0_64, w0_65, w0_66])), (a1, .inl (E.2 0, 40, .inl g68_48)), (a2, .inl (E.2 0, 40, .inl g78_53)), (a3, .inl (E.2 0, 40, .inl g88_58))] := hV66
            clear hV62
            refine lv_aload_n hx hb dX12_note_99 rfl (lv_at hlB59 0 rfl) ?_
            refine kget X hV66 (ci := 12) inlX12 rfl 0 rfl 4 (by decide) mw_899 rfl dX12_note_100 ?_
            refine lv_iconst (v := 1) hx hb dX12_note_103 (by decide) ?_
            refine lv_isub hx hb dX12_note_104 ?_
            obtain ⟨q67, q68, q69, q70, q71⟩ := tup5_s h65
            clear h65
            exact hret _ () _ _ _ _ q67 rfl (by rw [← q68, ← q69, ← q70, ← q71]; exact hV66) dX12_note_105
          refine lv_if_le (tgt := 59) hx hb dX12_note_39 (by decide) (fun c72 => ?_) (fun c72 => ?_)
          · have h73 := itS c72 h42
            clear h42 c72
            exact J59  _ _ _ h73 hV38 (lv_sub hl [0, 1, 2, 3] rfl)
          · have h74 := ieS c72 h42
            clear h42 c72
            refine lv_iload_n hx hb dX12_note_42 rfl (lv_at hl 1 rfl) ?_
            refine lv_aload_n hx hb dX12_note_43 rfl (lv_at hl 0 rfl) ?_
            refine kget X hV38 (ci := 12) inlX12 rfl 0 rfl 56 (by decide) mw_168 rfl dX12_note_44 ?_
            refine lv_aload_n hx hb dX12_note_47 rfl (lv_at hl 0 rfl) ?_
            refine kget X hV38 (ci := 12) inlX12 rfl 0 rfl 4 (by decide) mw_899 rfl dX12_note_48 ?_
            refine lv_iconst (v := 1) hx hb dX12_note_51 (by decide) ?_
            refine lv_isub hx hb dX12_note_52 ?_
            obtain ⟨hi76, v53_75, e77, h78⟩ := rdI_s h74
            clear h74
            refine kiald X hV38 1 rfl hi76 e77 dX12_note_53 ?_
            clear hi76 e77
            refine lv_icmp_ge (tgt := 59) hx hb dX12_note_54 (by decide) (fun c79 => ?_) (fun c79 => ?_)
            · have h80 := itS c79 h78
              clear h78 c79
              exact J59  _ _ _ h80 hV38 (lv_sub hl [0, 1, 2, 3] rfl)
            · have h81 := ieS c79 h78
              clear h78 c79
              refine lv_iconst (v := (-1)) hx hb dX12_note_57 (by decide) ?_
              obtain ⟨q82, q83, q84, q85, q86⟩ := tup5_s h81
              clear h81
              exact hret _ () _ _ _ _ q82 rfl (by rw [← q83, ← q84, ← q85, ← q86]; exact hV38) dX12_note_58
abbrev r_X12_isWithin : Room := { frames := 1, cells := 0, slots := 0, locals := 25 }
set_option maxHeartbeats 4000000 in
set_option maxRecDepth 100000 in
theorem c_X12_isWithin (l : Launch) (E : kE) (sz : Nat) (p1 : Int32) (r : Int32) (h : f_X12_isWithin p1 = some (r)) : kMi l yX12_isWithin cX12_isWithin 1 (some .boolean) r_X12_isWithin [.int p1] E [] sz 0 0 (fun x (_ : Unit) => x = r) (fun _ => []) := by
  refine kmeti rfl (Nat.le_of_ble_eq_true rfl) ?_
  intro p e s m args below meth c ls A Q X hV hret hl
  have X : kC p s m c cX12_isWithin 1 RX12 args E A := X
  have hx := X.1
  have hb := X.2.1
  have hl : lv_has ls 1 [(0, .int p1)] := hl
  rw [f_X12_isWithin] at h
  refine lv_iload_n hx hb dX12_isWithin_0 rfl (lv_at hl 0 rfl) ?_
  refine lv_i2l (v := Int32.toInt64 p1) hx hb dX12_isWithin_1 rfl ?_
  refine lv_lconst (v := 0) hx hb dX12_isWithin_2 (by decide) ?_
  refine lv_ldc2 (v := 700) hx hb X.2.2.2.1 (X.2.2.2.2.1 _ mw_927) dX12_isWithin_3 ?_
  obtain ⟨r6_1, hc2, h3⟩ := cb1_s h
  clear h
  refine kgoiE (krunS (rest := []) X hV [] (c_X12_lies l E _ (Int32.toInt64 p1) 0 700 r6_1 hc2) mw_224 kb_X12_lies (by decide) rfl rfl hl.1 rfl (Nat.le_of_ble_eq_true rfl) dX12_isWithin_6 (by decide)) X hV [] [] rfl rfl rfl (by decide) (fun u H locs hV4 => ?_)
  have hV4 : kV E A s.heap H locs [] := hV4.sub [] rfl rfl
  clear hV
  obtain ⟨hb6, h7⟩ := bo_s h3
  clear h3
  have q8 := tup1_s h7
  clear h7
  exact hret _ () _ _ _ _ q8 hb6 hV4 dX12_isWithin_9
abbrev r_X12_isShape : Room := { frames := 1, cells := 0, slots := 0, locals := 25 }
set_option maxHeartbeats 4000000 in
set_option maxRecDepth 100000 in
theorem c_X12_isShape (l : Launch) (E : kE) (sz : Nat) (p1 : Int32) (r : Int32) (h : f_X12_isShape p1 = some (r)) : kMi l yX12_isShape cX12_isShape 1 (some .boolean) r_X12_isShape [.int p1] E [] sz 0 0 (fun x (_ : Unit) => x = r) (fun _ => []) := by
  refine kmeti rfl (Nat.le_of_ble_eq_true rfl) ?_
  intro p e s m args below meth c ls A Q X hV hret hl
  have X : kC p s m c cX12_isShape 1 RX12 args E A := X
  have hx := X.1
  have hb := X.2.1
  have hl : lv_has ls 1 [(0, .int p1)] := hl
  rw [f_X12_isShape] at h
  refine lv_iload_n hx hb dX12_isShape_0 rfl (lv_at hl 0 rfl) ?_
  refine lv_i2l (v := Int32.toInt64 p1) hx hb dX12_isShape_1 rfl ?_
  refine lv_lconst (v := 0) hx hb dX12_isShape_2 (by decide) ?_
  refine lv_ldc2 (v := 3) hx hb X.2.2.2.1 (X.2.2.2.2.1 _ mw_218) dX12_isShape_3 ?_
  obtain ⟨r6_1, hc2, h3⟩ := cb1_s h
  clear h
  refine kgoiE (krunS (rest := []) X hV [] (c_X12_lies l E _ (Int32.toInt64 p1) 0 3 r6_1 hc2) mw_224 kb_X12_lies (by decide) rfl rfl hl.1 rfl (Nat.le_of_ble_eq_true rfl) dX12_isShape_6 (by decide)) X hV [] [] rfl rfl rfl (by decide) (fun u H locs hV4 => ?_)
  have hV4 : kV E A s.heap H locs [] := hV4.sub [] rfl rfl
  clear hV
  obtain ⟨hb6, h7⟩ := bo_s h3
  clear h3
  have q8 := tup1_s h7
  clear h7
  exact hret _ () _ _ _ _ q8 hb6 hV4 dX12_isShape_9
abbrev r_X12_manyOf : Room := { frames := 0, cells := 0, slots := 0, locals := 0 }
set_option maxHeartbeats 4000000 in
set_option maxRecDepth 100000 in
theorem c_X12_manyOf (l : Launch) (E : kE) (sz : Nat) (a0 a1 a2 : Nat) (w0_0 w0_1 w0_2 w0_3 w0_5 w0_6 w0_7 w0_8 w0_9 w0_10 w0_11 w0_12 w0_13 w0_14 w0_15 w0_16 w0_17 w0_18 w0_19 w0_20 w0_21 w0_22 w0_23 w0_24 w0_25 w0_26 w0_27 w0_28 w0_29 w0_30 w0_31 w0_32 w0_33 w0_34 w0_35 w0_36 w0_37 w0_38 w0_39 w0_40 w0_41 w0_42 w0_43 w0_44 w0_45 w0_46 w0_47 w0_48 w0_49 w0_50 w0_51 w0_52 w0_53 w0_54 w0_55 w0_57 w0_59 w0_60 w0_61 w0_62 w0_63 w0_64 w0_65 w0_66 : Value) (s_notes : Int32) (s_noteDay : Nat → Int32) (s_noteShape : Nat → Int32) (p1 : Int32) (p2 : Int32) (r : Int32) (h : f_X12_manyOf s_notes s_noteDay s_noteShape p1 p2 = some (r)) : kMi l yX12_manyOf cX12_manyOf 5 (some .int) r_X12_manyOf [.ref a0, .int p1, .int p2] E [(a0, .inr (12, [w0_0, w0_1, w0_2, w0_3, .int s_notes, w0_5, w0_6, w0_7, w0_8, w0_9, w0_10, w0_11, w0_12, w0_13, w0_14, w0_15, w0_16, w0_17, w0_18, w0_19, w0_20, w0_21, w0_22, w0_23, w0_24, w0_25, w0_26, w0_27, w0_28, w0_29, w0_30, w0_31, w0_32, w0_33, w0_34, w0_35, w0_36, w0_37, w0_38, w0_39, w0_40, w0_41, w0_42, w0_43, w0_44, w0_45, w0_46, w0_47, w0_48, w0_49, w0_50, w0_51, w0_52, w0_53, w0_54, w0_55, .ref a1, w0_57, .ref a2, w0_59, w0_60, w0_61, w0_62, w0_63, w0_64, w0_65, w0_66])), (a1, .inl (E.2 0, 40, .inl s_noteDay)), (a2, .inl (E.2 0, 40, .inl s_noteShape))] sz 0 0 (fun x (_ : Unit) => x = r) (fun _ => [(a0, .inr (12, [w0_0, w0_1, w0_2, w0_3, .int s_notes, w0_5, w0_6, w0_7, w0_8, w0_9, w0_10, w0_11, w0_12, w0_13, w0_14, w0_15, w0_16, w0_17, w0_18, w0_19, w0_20, w0_21, w0_22, w0_23, w0_24, w0_25, w0_26, w0_27, w0_28, w0_29, w0_30, w0_31, w0_32, w0_33, w0_34, w0_35, w0_36, w0_37, w0_38, w0_39, w0_40, w0_41, w0_42, w0_43, w0_44, w0_45, w0_46, w0_47, w0_48, w0_49, w0_50, w0_51, w0_52, w0_53, w0_54, w0_55, .ref a1, w0_57, .ref a2, w0_59, w0_60, w0_61, w0_62, w0_63, w0_64, w0_65, w0_66])), (a1, .inl (E.2 0, 40, .inl s_noteDay)), (a2, .inl (E.2 0, 40, .inl s_noteShape))]) := by
  refine kmeti rfl (Nat.le_of_ble_eq_true rfl) ?_
  intro p e s m args below meth c ls A Q X hV hret hl
  have X : kC p s m c cX12_manyOf 5 RX12 args E A := X
  have hx := X.1
  have hb := X.2.1
  have hl : lv_has ls 5 [(0, .ref a0), (1, .int p1), (2, .int p2)] := hl
  rw [f_X12_manyOf] at h
  refine lv_iconst (v := 0) hx hb dX12_manyOf_0 (by decide) ?_
  refine lv_istore_n (lv' := [(3, .int 0), (0, .ref a0), (1, .int p1), (2, .int p2)]) hx hb dX12_manyOf_1 rfl hl (by decide) rfl (fun ls hl1 => ?_)
  clear hl
  refine lv_iconst (v := 0) hx hb dX12_manyOf_2 (by decide) ?_
  refine lv_istore (lv' := [(4, .int 0), (3, .int 0), (0, .ref a0), (1, .int p1), (2, .int p2)]) hx hb dX12_manyOf_3 hl1 (by decide) rfl (fun ls hl2 => ?_)
  clear hl1
  have L5 : ∀ (n5 : Nat) (x3_3 : Int32) (x4_4 : Int32) (H : Heap) (locs : List Loc) (ls : Array Slot), (f_X12_manyOf_L5 s_notes s_noteDay s_noteShape p1 p2  n5) x3_3 x4_4 = some (r) → kV E A s.heap H locs [(a0, .inr (12, [w0_0, w0_1, w0_2, w0_3, .int s_notes, w0_5, w0_6, w0_7, w0_8, w0_9, w0_10, w0_11, w0_12, w0_13, w0_14, w0_15, w0_16, w0_17, w0_18, w0_19, w0_20, w0_21, w0_22, w0_23, w0_24, w0_25, w0_26, w0_27, w0_28, w0_29, w0_30, w0_31, w0_32, w0_33, w0_34, w0_35, w0_36, w0_37, w0_38, w0_39, w0_40, w0_41, w0_42, w0_43, w0_44, w0_45, w0_46, w0_47, w0_48, w0_49, w0_50, w0_51, w0_52, w0_53, w0_54, w0_55, .ref a1, w0_57, .ref a2, w0_59, w0_60, w0_61, w0_62, w0_63, w0_64, w0_65, w0_66])), (a1, .inl (E.2 0, 40, .inl s_noteDay)), (a2, .inl (E.2 0, 40, .inl s_noteShape))] → lv_has ls 5 [(0, .ref a0), (1, .int p1), (2, .int p2), (3, .int x3_3), (4, .int x4_4)] → W p l e r_X12_manyOf s m args below meth c H locs 0 0 Q (F0 m 5 ls []) := by
    intro n5
    induction n5 with
    | zero =>
      intro x3_3 x4_4 H locs ls hB5 hVB5 hlB5
      rw [f_X12_manyOf_L5] at hB5
      exact nomatch hB5
    | succ n5 ih5 =>
      intro x3_3 x4_4 H locs ls hB5 hVB5 hlB5
      rw [f_X12_manyOf_L5] at hB5
      refine lv_iload hx hb dX12_manyOf_5 (lv_at hlB5 4 rfl) ?_
      refine lv_aload_n hx hb dX12_manyOf_7 rfl (lv_at hlB5 0 rfl) ?_
      refine kget X hVB5 (ci := 12) inlX12 rfl 0 rfl 4 (by decide) mw_899 rfl dX12_manyOf_8 ?_
      refine lv_icmp_ge (tgt := 50) hx hb dX12_manyOf_11 (by decide) (fun c5 => ?_) (fun c5 => ?_)
      · have h6 := itS c5 hB5
        clear hB5 c5
        refine lv_iload_n hx hb dX12_manyOf_50 rfl (lv_at hlB5 3 rfl) ?_
        have q8 := tup1_s h6
        clear h6
        exact hret _ () _ _ _ _ q8 rfl hVB5 dX12_manyOf_51
      · have h7 := ieS c5 hB5
        clear hB5 c5
        refine lv_iload_n hx hb dX12_manyOf_14 rfl (lv_at hlB5 3 rfl) ?_
        refine lv_aload_n hx hb dX12_manyOf_15 rfl (lv_at hlB5 0 rfl) ?_
        refine kget X hVB5 (ci := 12) inlX12 rfl 0 rfl 58 (by decide) mw_170 rfl dX12_manyOf_16 ?_
        refine lv_iload hx hb dX12_manyOf_19 (lv_at hlB5 4 rfl) ?_
        obtain ⟨hi10, v21_9, e11, h12⟩ := rdI_s h7
        clear h7
        refine kiald X hVB5 2 rfl hi10 e11 dX12_manyOf_21 ?_
        clear hi10 e11
        refine lv_iload_n hx hb dX12_manyOf_22 rfl (lv_at hlB5 1 rfl) ?_
        refine lv_icmp_ne (tgt := 41) hx hb dX12_manyOf_23 (by decide) (fun c13 => ?_) (fun c13 => ?_)
        · have h14 := ieS c13 h12
          clear h12 c13
          refine lv_iconst (v := 0) hx hb dX12_manyOf_41 (by decide) ?_
          refine lv_iadd hx hb dX12_manyOf_42 ?_
          obtain ⟨v43_16, e17, h18⟩ := nmI_s h14
          clear h14
          refine ktopi e17 ?_
          clear e17
          refine lv_istore_n (lv' := [(3, .int v43_16), (0, .ref a0), (1, .int p1), (2, .int p2), (4, .int x4_4)]) hx hb dX12_manyOf_43 rfl hlB5 (by decide) rfl (fun ls hl19 => ?_)
          clear hlB5
          obtain ⟨v44_20, e21, h22⟩ := nmI_s h18
          clear h18
          refine lv_iinc (v := v44_20) (lv' := [(4, .int v44_20), (3, .int v43_16), (0, .ref a0), (1, .int p1), (2, .int p2)]) hx hb dX12_manyOf_44 hl19 (k := 4) rfl (by rw [e21]; rfl) (by decide) rfl (fun ls hl23 => ?_)
          clear hl19 e21
          refine lv_goto (tgt := 5) hx hb dX12_manyOf_47 (by decide) ?_
          exact ih5 v43_16 v44_20 _ _ _ h22 hVB5 (lv_sub hl23 [2, 3, 4, 1, 0] rfl)
        · have h15 := itS c13 h12
          clear h12 c13
          refine lv_aload_n hx hb dX12_manyOf_26 rfl (lv_at hlB5 0 rfl) ?_
          refine kget X hVB5 (ci := 12) inlX12 rfl 0 rfl 56 (by decide) mw_168 rfl dX12_manyOf_27 ?_
          refine lv_iload hx hb dX12_manyOf_30 (lv_at hlB5 4 rfl) ?_
          obtain ⟨hi25, v32_24, e26, h27⟩ := rdI_s h15
          clear h15
          refine kiald X hVB5 1 rfl hi25 e26 dX12_manyOf_32 ?_
          clear hi25 e26
          refine lv_iload_n hx hb dX12_manyOf_33 rfl (lv_at hlB5 2 rfl) ?_
          refine lv_icmp_gt (tgt := 41) hx hb dX12_manyOf_34 (by decide) (fun c28 => ?_) (fun c28 => ?_)
          · have h29 := itS c28 h27
            clear h27 c28
            refine lv_iconst (v := 0) hx hb dX12_manyOf_41 (by decide) ?_
            refine lv_iadd hx hb dX12_manyOf_42 ?_
            obtain ⟨v43_31, e32, h33⟩ := nmI_s h29
            clear h29
            refine ktopi e32 ?_
            clear e32
            refine lv_istore_n (lv' := [(3, .int v43_31), (0, .ref a0), (1, .int p1), (2, .int p2), (4, .int x4_4)]) hx hb dX12_manyOf_43 rfl hlB5 (by decide) rfl (fun ls hl34 => ?_)
            clear hlB5
            obtain ⟨v44_35, e36, h37⟩ := nmI_s h33
            clear h33
            refine lv_iinc (v := v44_35) (lv' := [(4, .int v44_35), (3, .int v43_31), (0, .ref a0), (1, .int p1), (2, .int p2)]) hx hb dX12_manyOf_44 hl34 (k := 4) rfl (by rw [e36]; rfl) (by decide) rfl (fun ls hl38 => ?_)
            clear hl34 e36
            refine lv_goto (tgt := 5) hx hb dX12_manyOf_47 (by decide) ?_
            exact ih5 v43_31 v44_35 _ _ _ h37 hVB5 (lv_sub hl38 [2, 3, 4, 1, 0] rfl)
          · have h30 := ieS c28 h27
            clear h27 c28
            refine lv_iconst (v := 1) hx hb dX12_manyOf_37 (by decide) ?_
            refine lv_goto (tgt := 42) hx hb dX12_manyOf_38 (by decide) ?_
            refine lv_iadd hx hb dX12_manyOf_42 ?_
            obtain ⟨v43_39, e40, h41⟩ := nmI_s h30
            clear h30
            refine ktopi e40 ?_
            clear e40
            refine lv_istore_n (lv' := [(3, .int v43_39), (0, .ref a0), (1, .int p1), (2, .int p2), (4, .int x4_4)]) hx hb dX12_manyOf_43 rfl hlB5 (by decide) rfl (fun ls hl42 => ?_)
            clear hlB5
            obtain ⟨v44_43, e44, h45⟩ := nmI_s h41
            clear h41
            refine lv_iinc (v := v44_43) (lv' := [(4, .int v44_43), (3, .int v43_39), (0, .ref a0), (1, .int p1), (2, .int p2)]) hx hb dX12_manyOf_44 hl42 (k := 4) rfl (by rw [e44]; rfl) (by decide) rfl (fun ls hl46 => ?_)
            clear hl42 e44
            refine lv_goto (tgt := 5) hx hb dX12_manyOf_47 (by decide) ?_
            exact ih5 v43_39 v44_43 _ _ _ h45 hVB5 (lv_sub hl46 [2, 3, 4, 1, 0] rfl)
  exact L5 FU 0 0 _ _ _ h hV (lv_sub hl2 [2, 3, 4, 1, 0] rfl)
abbrev r_X12_one : Room := { frames := 2, cells := 0, slots := 0, locals := 45 }
set_option maxHeartbeats 4000000 in
set_option maxRecDepth 100000 in
theorem c_X12_one (l : Launch) (E : kE) (sz : Nat) (a0 a1 a2 : Nat) (w0_0 w0_1 w0_2 w0_3 w0_5 w0_6 w0_7 w0_8 w0_9 w0_10 w0_11 w0_12 w0_13 w0_14 w0_15 w0_16 w0_17 w0_18 w0_19 w0_20 w0_21 w0_22 w0_23 w0_24 w0_25 w0_26 w0_27 w0_28 w0_29 w0_30 w0_31 w0_32 w0_33 w0_34 w0_35 w0_36 w0_37 w0_38 w0_39 w0_40 w0_41 w0_42 w0_43 w0_44 w0_45 w0_46 w0_47 w0_48 w0_49 w0_50 w0_51 w0_52 w0_53 w0_54 w0_55 w0_57 w0_59 w0_60 w0_61 w0_62 w0_63 w0_64 w0_65 w0_66 : Value) (s_notes : Int32) (s_noteDay : Nat → Int32) (s_noteShape : Nat → Int32) (p1 : Int32) (p2 : Int32) (r : Int32) (h : f_X12_one s_notes s_noteDay s_noteShape p1 p2 = some (r)) : kMi l yX12_one cX12_one 3 (some .int) r_X12_one [.ref a0, .int p1, .int p2] E [(a0, .inr (12, [w0_0, w0_1, w0_2, w0_3, .int s_notes, w0_5, w0_6, w0_7, w0_8, w0_9, w0_10, w0_11, w0_12, w0_13, w0_14, w0_15, w0_16, w0_17, w0_18, w0_19, w0_20, w0_21, w0_22, w0_23, w0_24, w0_25, w0_26, w0_27, w0_28, w0_29, w0_30, w0_31, w0_32, w0_33, w0_34, w0_35, w0_36, w0_37, w0_38, w0_39, w0_40, w0_41, w0_42, w0_43, w0_44, w0_45, w0_46, w0_47, w0_48, w0_49, w0_50, w0_51, w0_52, w0_53, w0_54, w0_55, .ref a1, w0_57, .ref a2, w0_59, w0_60, w0_61, w0_62, w0_63, w0_64, w0_65, w0_66])), (a1, .inl (E.2 0, 40, .inl s_noteDay)), (a2, .inl (E.2 0, 40, .inl s_noteShape))] sz 0 0 (fun x (_ : Unit) => x = r) (fun _ => [(a0, .inr (12, [w0_0, w0_1, w0_2, w0_3, .int s_notes, w0_5, w0_6, w0_7, w0_8, w0_9, w0_10, w0_11, w0_12, w0_13, w0_14, w0_15, w0_16, w0_17, w0_18, w0_19, w0_20, w0_21, w0_22, w0_23, w0_24, w0_25, w0_26, w0_27, w0_28, w0_29, w0_30, w0_31, w0_32, w0_33, w0_34, w0_35, w0_36, w0_37, w0_38, w0_39, w0_40, w0_41, w0_42, w0_43, w0_44, w0_45, w0_46, w0_47, w0_48, w0_49, w0_50, w0_51, w0_52, w0_53, w0_54, w0_55, .ref a1, w0_57, .ref a2, w0_59, w0_60, w0_61, w0_62, w0_63, w0_64, w0_65, w0_66])), (a1, .inl (E.2 0, 40, .inl s_noteDay)), (a2, .inl (E.2 0, 40, .inl s_noteShape))]) := by
  refine kmeti rfl (Nat.le_of_ble_eq_true rfl) ?_
  intro p e s m args below meth c ls A Q X hV hret hl
  have X : kC p s m c cX12_one 3 RX12 args E A := X
  have hx := X.1
  have hb := X.2.1
  have hl : lv_has ls 3 [(0, .ref a0), (1, .int p1), (2, .int p2)] := hl
  rw [f_X12_one] at h
  refine lv_iload_n hx hb dX12_one_0 rfl (lv_at hl 1 rfl) ?_
  obtain ⟨r1_1, hc2, h3⟩ := cb1_s h
  clear h
  refine kgoiE (krunS (rest := []) X hV [] (c_X12_isShape l E _ p1 r1_1 hc2) mw_921 kb_X12_isShape (by decide) rfl rfl hl.1 rfl (Nat.le_of_ble_eq_true rfl) dX12_one_1 (by decide)) X hV [] [0, 1, 2] rfl rfl rfl (by decide) (fun u H locs hV4 => ?_)
  have hV4 : kV E A s.heap H locs [(a0, .inr (12, [w0_0, w0_1, w0_2, w0_3, .int s_notes, w0_5, w0_6, w0_7, w0_8, w0_9, w0_10, w0_11, w0_12, w0_13, w0_14, w0_15, w0_16, w0_17, w0_18, w0_19, w0_20, w0_21, w0_22, w0_23, w0_24, w0_25, w0_26, w0_27, w0_28, w0_29, w0_30, w0_31, w0_32, w0_33, w0_34, w0_35, w0_36, w0_37, w0_38, w0_39, w0_40, w0_41, w0_42, w0_43, w0_44, w0_45, w0_46, w0_47, w0_48, w0_49, w0_50, w0_51, w0_52, w0_53, w0_54, w0_55, .ref a1, w0_57, .ref a2, w0_59, w0_60, w0_61, w0_62, w0_63, w0_64, w0_65, w0_66])), (a1, .inl (E.2 0, 40, .inl s_noteDay)), (a2, .inl (E.2 0, 40, .inl s_noteShape))] := hV4.sub [0, 1, 2] rfl rfl
  clear hV
  refine lv_if_eq (tgt := 38) hx hb dX12_one_4 (by decide) (fun c6 => ?_) (fun c6 => ?_)
  · have h7 := itS c6 h3
    clear h3 c6
    refine lv_iconst (v := (-1)) hx hb dX12_one_38 (by decide) ?_
    have q9 := tup1_s h7
    clear h7
    exact hret _ () _ _ _ _ q9 rfl hV4 dX12_one_39
  · have h8 := ieS c6 h3
    clear h3 c6
    refine lv_iload_n hx hb dX12_one_7 rfl (lv_at hl 2 rfl) ?_
    obtain ⟨r8_10, hc11, h12⟩ := cb1_s h8
    clear h8
    refine kgoiE (krunS (rest := []) X hV4 [] (c_X12_isWithin l E _ p2 r8_10 hc11) mw_924 kb_X12_isWithin (by decide) rfl rfl hl.1 rfl (Nat.le_of_ble_eq_true rfl) dX12_one_8 (by decide)) X hV4 [] [0, 1, 2] rfl rfl rfl (by decide) (fun u H locs hV13 => ?_)
    have hV13 : kV E A s.heap H locs [(a0, .inr (12, [w0_0, w0_1, w0_2, w0_3, .int s_notes, w0_5, w0_6, w0_7, w0_8, w0_9, w0_10, w0_11, w0_12, w0_13, w0_14, w0_15, w0_16, w0_17, w0_18, w0_19, w0_20, w0_21, w0_22, w0_23, w0_24, w0_25, w0_26, w0_27, w0_28, w0_29, w0_30, w0_31, w0_32, w0_33, w0_34, w0_35, w0_36, w0_37, w0_38, w0_39, w0_40, w0_41, w0_42, w0_43, w0_44, w0_45, w0_46, w0_47, w0_48, w0_49, w0_50, w0_51, w0_52, w0_53, w0_54, w0_55, .ref a1, w0_57, .ref a2, w0_59, w0_60, w0_61, w0_62, w0_63, w0_64, w0_65, w0_66])), (a1, .inl (E.2 0, 40, .inl s_noteDay)), (a2, .inl (E.2 0, 40, .inl s_noteShape))] := hV13.sub [0, 1, 2] rfl rfl
    clear hV4
    refine lv_if_eq (tgt := 38) hx hb dX12_one_11 (by decide) (fun c15 => ?_) (fun c15 => ?_)
    · have h16 := itS c15 h12
      clear h12 c15
      refine lv_iconst (v := (-1)) hx hb dX12_one_38 (by decide) ?_
      have q18 := tup1_s h16
      clear h16
      exact hret _ () _ _ _ _ q18 rfl hV13 dX12_one_39
    · have h17 := ieS c15 h12
      clear h12 c15
      refine lv_aload_n hx hb dX12_one_14 rfl (lv_at hl 0 rfl) ?_
      refine lv_iload_n hx hb dX12_one_15 rfl (lv_at hl 1 rfl) ?_
      refine lv_sipush (v := 400) hx hb dX12_one_16 (by decide) ?_
      obtain ⟨r19_19, hc20, h21⟩ := cb1_s h17
      clear h17
      refine kgoiE (krunV (rest := []) X hV13 [0, 1, 2] (c_X12_manyOf l E _ a0 a1 a2 (w0_0) (w0_1) (w0_2) (w0_3) (w0_5) (w0_6) (w0_7) (w0_8) (w0_9) (w0_10) (w0_11) (w0_12) (w0_13) (w0_14) (w0_15) (w0_16) (w0_17) (w0_18) (w0_19) (w0_20) (w0_21) (w0_22) (w0_23) (w0_24) (w0_25) (w0_26) (w0_27) (w0_28) (w0_29) (w0_30) (w0_31) (w0_32) (w0_33) (w0_34) (w0_35) (w0_36) (w0_37) (w0_38) (w0_39) (w0_40) (w0_41) (w0_42) (w0_43) (w0_44) (w0_45) (w0_46) (w0_47) (w0_48) (w0_49) (w0_50) (w0_51) (w0_52) (w0_53) (w0_54) (w0_55) (w0_57) (w0_59) (w0_60) (w0_61) (w0_62) (w0_63) (w0_64) (w0_65) (w0_66) s_notes s_noteDay s_noteShape p1 400 r19_19 hc20) mw_928 kb_X12_manyOf (ci := 12) rfl rfl (by decide) rfl rfl hl.1 rfl (Nat.le_of_ble_eq_true rfl) dX12_one_19 (by decide)) X hV13 [0, 1, 2] [] rfl rfl rfl (by decide) (fun u H locs hV22 => ?_)
      have hV22 : kV E A s.heap H locs [(a0, .inr (12, [w0_0, w0_1, w0_2, w0_3, .int s_notes, w0_5, w0_6, w0_7, w0_8, w0_9, w0_10, w0_11, w0_12, w0_13, w0_14, w0_15, w0_16, w0_17, w0_18, w0_19, w0_20, w0_21, w0_22, w0_23, w0_24, w0_25, w0_26, w0_27, w0_28, w0_29, w0_30, w0_31, w0_32, w0_33, w0_34, w0_35, w0_36, w0_37, w0_38, w0_39, w0_40, w0_41, w0_42, w0_43, w0_44, w0_45, w0_46, w0_47, w0_48, w0_49, w0_50, w0_51, w0_52, w0_53, w0_54, w0_55, .ref a1, w0_57, .ref a2, w0_59, w0_60, w0_61, w0_62, w0_63, w0_64, w0_65, w0_66])), (a1, .inl (E.2 0, 40, .inl s_noteDay)), (a2, .inl (E.2 0, 40, .inl s_noteShape))] := hV22.sub [0, 1, 2] rfl rfl
      clear hV13
      refine lv_iconst (v := 1) hx hb dX12_one_22 (by decide) ?_
      refine lv_icmp_le (tgt := 38) hx hb dX12_one_23 (by decide) (fun c24 => ?_) (fun c24 => ?_)
      · have h25 := itS c24 h21
        clear h21 c24
        refine lv_iconst (v := (-1)) hx hb dX12_one_38 (by decide) ?_
        have q27 := tup1_s h25
        clear h25
        exact hret _ () _ _ _ _ q27 rfl hV22 dX12_one_39
      · have h26 := ieS c24 h21
        clear h21 c24
        refine lv_aload_n hx hb dX12_one_26 rfl (lv_at hl 0 rfl) ?_
        refine lv_iload_n hx hb dX12_one_27 rfl (lv_at hl 1 rfl) ?_
        refine lv_sipush (v := 400) hx hb dX12_one_28 (by decide) ?_
        refine lv_iload_n hx hb dX12_one_31 rfl (lv_at hl 2 rfl) ?_
        exact nomatch h26
abbrev r_X12_known : Room := { frames := 2, cells := 0, slots := 0, locals := 45 }
set_option maxHeartbeats 4000000 in
set_option maxRecDepth 100000 in
theorem c_X12_known (l : Launch) (E : kE) (sz : Nat) (a0 a1 a2 : Nat) (w0_0 w0_1 w0_2 w0_3 w0_5 w0_6 w0_7 w0_8 w0_9 w0_10 w0_11 w0_12 w0_13 w0_14 w0_15 w0_16 w0_17 w0_18 w0_19 w0_20 w0_21 w0_22 w0_23 w0_24 w0_25 w0_26 w0_27 w0_28 w0_29 w0_30 w0_31 w0_32 w0_33 w0_34 w0_35 w0_36 w0_37 w0_38 w0_39 w0_40 w0_41 w0_42 w0_43 w0_44 w0_45 w0_46 w0_47 w0_48 w0_49 w0_50 w0_51 w0_52 w0_53 w0_54 w0_55 w0_57 w0_59 w0_60 w0_61 w0_62 w0_63 w0_64 w0_65 w0_66 : Value) (s_notes : Int32) (s_noteDay : Nat → Int32) (s_noteShape : Nat → Int32) (p1 : Int32) (p2 : Int32) (r : Int32) (h : f_X12_known s_notes s_noteDay s_noteShape p1 p2 = some (r)) : kMi l yX12_known cX12_known 5 (some .int) r_X12_known [.ref a0, .int p1, .int p2] E [(a0, .inr (12, [w0_0, w0_1, w0_2, w0_3, .int s_notes, w0_5, w0_6, w0_7, w0_8, w0_9, w0_10, w0_11, w0_12, w0_13, w0_14, w0_15, w0_16, w0_17, w0_18, w0_19, w0_20, w0_21, w0_22, w0_23, w0_24, w0_25, w0_26, w0_27, w0_28, w0_29, w0_30, w0_31, w0_32, w0_33, w0_34, w0_35, w0_36, w0_37, w0_38, w0_39, w0_40, w0_41, w0_42, w0_43, w0_44, w0_45, w0_46, w0_47, w0_48, w0_49, w0_50, w0_51, w0_52, w0_53, w0_54, w0_55, .ref a1, w0_57, .ref a2, w0_59, w0_60, w0_61, w0_62, w0_63, w0_64, w0_65, w0_66])), (a1, .inl (E.2 0, 40, .inl s_noteDay)), (a2, .inl (E.2 0, 40, .inl s_noteShape))] sz 0 0 (fun x (_ : Unit) => x = r) (fun _ => [(a0, .inr (12, [w0_0, w0_1, w0_2, w0_3, .int s_notes, w0_5, w0_6, w0_7, w0_8, w0_9, w0_10, w0_11, w0_12, w0_13, w0_14, w0_15, w0_16, w0_17, w0_18, w0_19, w0_20, w0_21, w0_22, w0_23, w0_24, w0_25, w0_26, w0_27, w0_28, w0_29, w0_30, w0_31, w0_32, w0_33, w0_34, w0_35, w0_36, w0_37, w0_38, w0_39, w0_40, w0_41, w0_42, w0_43, w0_44, w0_45, w0_46, w0_47, w0_48, w0_49, w0_50, w0_51, w0_52, w0_53, w0_54, w0_55, .ref a1, w0_57, .ref a2, w0_59, w0_60, w0_61, w0_62, w0_63, w0_64, w0_65, w0_66])), (a1, .inl (E.2 0, 40, .inl s_noteDay)), (a2, .inl (E.2 0, 40, .inl s_noteShape))]) := by
  refine kmeti rfl (Nat.le_of_ble_eq_true rfl) ?_
  intro p e s m args below meth c ls A Q X hV hret hl
  have X : kC p s m c cX12_known 5 RX12 args E A := X
  have hx := X.1
  have hb := X.2.1
  have hl : lv_has ls 5 [(0, .ref a0), (1, .int p1), (2, .int p2)] := hl
  rw [f_X12_known] at h
  refine lv_iload_n hx hb dX12_known_0 rfl (lv_at hl 1 rfl) ?_
  obtain ⟨r1_1, hc2, h3⟩ := cb1_s h
  clear h
  refine kgoiE (krunS (rest := []) X hV [] (c_X12_isShape l E _ p1 r1_1 hc2) mw_921 kb_X12_isShape (by decide) rfl rfl hl.1 rfl (Nat.le_of_ble_eq_true rfl) dX12_known_1 (by decide)) X hV [] [0, 1, 2] rfl rfl rfl (by decide) (fun u H locs hV4 => ?_)
  have hV4 : kV E A s.heap H locs [(a0, .inr (12, [w0_0, w0_1, w0_2, w0_3, .int s_notes, w0_5, w0_6, w0_7, w0_8, w0_9, w0_10, w0_11, w0_12, w0_13, w0_14, w0_15, w0_16, w0_17, w0_18, w0_19, w0_20, w0_21, w0_22, w0_23, w0_24, w0_25, w0_26, w0_27, w0_28, w0_29, w0_30, w0_31, w0_32, w0_33, w0_34, w0_35, w0_36, w0_37, w0_38, w0_39, w0_40, w0_41, w0_42, w0_43, w0_44, w0_45, w0_46, w0_47, w0_48, w0_49, w0_50, w0_51, w0_52, w0_53, w0_54, w0_55, .ref a1, w0_57, .ref a2, w0_59, w0_60, w0_61, w0_62, w0_63, w0_64, w0_65, w0_66])), (a1, .inl (E.2 0, 40, .inl s_noteDay)), (a2, .inl (E.2 0, 40, .inl s_noteShape))] := hV4.sub [0, 1, 2] rfl rfl
  clear hV
  refine lv_if_eq (tgt := 14) hx hb dX12_known_4 (by decide) (fun c6 => ?_) (fun c6 => ?_)
  · have h7 := itS c6 h3
    clear h3 c6
    refine lv_iconst (v := (-1)) hx hb dX12_known_14 (by decide) ?_
    have q9 := tup1_s h7
    clear h7
    exact hret _ () _ _ _ _ q9 rfl hV4 dX12_known_15
  · have h8 := ieS c6 h3
    clear h3 c6
    refine lv_iload_n hx hb dX12_known_7 rfl (lv_at hl 2 rfl) ?_
    obtain ⟨r8_10, hc11, h12⟩ := cb1_s h8
    clear h8
    refine kgoiE (krunS (rest := []) X hV4 [] (c_X12_isWithin l E _ p2 r8_10 hc11) mw_924 kb_X12_isWithin (by decide) rfl rfl hl.1 rfl (Nat.le_of_ble_eq_true rfl) dX12_known_8 (by decide)) X hV4 [] [0, 1, 2] rfl rfl rfl (by decide) (fun u H locs hV13 => ?_)
    have hV13 : kV E A s.heap H locs [(a0, .inr (12, [w0_0, w0_1, w0_2, w0_3, .int s_notes, w0_5, w0_6, w0_7, w0_8, w0_9, w0_10, w0_11, w0_12, w0_13, w0_14, w0_15, w0_16, w0_17, w0_18, w0_19, w0_20, w0_21, w0_22, w0_23, w0_24, w0_25, w0_26, w0_27, w0_28, w0_29, w0_30, w0_31, w0_32, w0_33, w0_34, w0_35, w0_36, w0_37, w0_38, w0_39, w0_40, w0_41, w0_42, w0_43, w0_44, w0_45, w0_46, w0_47, w0_48, w0_49, w0_50, w0_51, w0_52, w0_53, w0_54, w0_55, .ref a1, w0_57, .ref a2, w0_59, w0_60, w0_61, w0_62, w0_63, w0_64, w0_65, w0_66])), (a1, .inl (E.2 0, 40, .inl s_noteDay)), (a2, .inl (E.2 0, 40, .inl s_noteShape))] := hV13.sub [0, 1, 2] rfl rfl
    clear hV4
    refine lv_if_ne (tgt := 16) hx hb dX12_known_11 (by decide) (fun c15 => ?_) (fun c15 => ?_)
    · have h16 := ieS c15 h12
      clear h12 c15
      refine lv_iconst (v := 0) hx hb dX12_known_16 (by decide) ?_
      refine lv_istore_n (lv' := [(3, .int 0), (0, .ref a0), (1, .int p1), (2, .int p2)]) hx hb dX12_known_17 rfl hl (by decide) rfl (fun ls hl18 => ?_)
      clear hl
      have J54 : ∀ (x3_19 : Int32) (H : Heap) (locs : List Loc) (ls : Array Slot), (f_X12_known_J54 s_noteDay ) x3_19 = some (r) → kV E A s.heap H locs [(a0, .inr (12, [w0_0, w0_1, w0_2, w0_3, .int s_notes, w0_5, w0_6, w0_7, w0_8, w0_9, w0_10, w0_11, w0_12, w0_13, w0_14, w0_15, w0_16, w0_17, w0_18, w0_19, w0_20, w0_21, w0_22, w0_23, w0_24, w0_25, w0_26, w0_27, w0_28, w0_29, w0_30, w0_31, w0_32, w0_33, w0_34, w0_35, w0_36, w0_37, w0_38, w0_39, w0_40, w0_41, w0_42, w0_43, w0_44, w0_45, w0_46, w0_47, w0_48, w0_49, w0_50, w0_51, w0_52, w0_53, w0_54, w0_55, .ref a1, w0_57, .ref a2, w0_59, w0_60, w0_61, w0_62, w0_63, w0_64, w0_65, w0_66])), (a1, .inl (E.2 0, 40, .inl s_noteDay)), (a2, .inl (E.2 0, 40, .inl s_noteShape))] → lv_has ls 5 [(0, .ref a0), (1, .int p1), (2, .int p2), (3, .int x3_19)] → W p l e r_X12_known s m args below meth c H locs 0 0 Q (F0 m 54 ls []) := by
        intro x3_19 H locs ls hB54 hVB54 hlB54
        rw [f_X12_known_J54] at hB54
        refine lv_aload_n hx hb dX12_known_54 rfl (lv_at hlB54 0 rfl) ?_
        refine lv_iload_n hx hb dX12_known_55 rfl (lv_at hlB54 1 rfl) ?_
        refine lv_aload_n hx hb dX12_known_56 rfl (lv_at hlB54 0 rfl) ?_
        refine kget X hVB54 (ci := 12) inlX12 rfl 0 rfl 56 (by decide) mw_168 rfl dX12_known_57 ?_
        refine lv_iload_n hx hb dX12_known_60 rfl (lv_at hlB54 3 rfl) ?_
        obtain ⟨hi21, v61_20, e22, h23⟩ := rdI_s hB54
        clear hB54
        refine kiald X hVB54 1 rfl hi21 e22 dX12_known_61 ?_
        clear hi21 e22
        refine lv_iload_n hx hb dX12_known_62 rfl (lv_at hlB54 2 rfl) ?_
        exact nomatch h23
      have L18 : ∀ (n18 : Nat) (x3_24 : Int32) (H : Heap) (locs : List Loc) (ls : Array Slot), (f_X12_known_L18 s_notes s_noteDay s_noteShape p1 (f_X12_known_J54 s_noteDay ) n18) x3_24 = some (r) → kV E A s.heap H locs [(a0, .inr (12, [w0_0, w0_1, w0_2, w0_3, .int s_notes, w0_5, w0_6, w0_7, w0_8, w0_9, w0_10, w0_11, w0_12, w0_13, w0_14, w0_15, w0_16, w0_17, w0_18, w0_19, w0_20, w0_21, w0_22, w0_23, w0_24, w0_25, w0_26, w0_27, w0_28, w0_29, w0_30, w0_31, w0_32, w0_33, w0_34, w0_35, w0_36, w0_37, w0_38, w0_39, w0_40, w0_41, w0_42, w0_43, w0_44, w0_45, w0_46, w0_47, w0_48, w0_49, w0_50, w0_51, w0_52, w0_53, w0_54, w0_55, .ref a1, w0_57, .ref a2, w0_59, w0_60, w0_61, w0_62, w0_63, w0_64, w0_65, w0_66])), (a1, .inl (E.2 0, 40, .inl s_noteDay)), (a2, .inl (E.2 0, 40, .inl s_noteShape))] → lv_has ls 5 [(0, .ref a0), (1, .int p1), (2, .int p2), (3, .int x3_24)] → W p l e r_X12_known s m args below meth c H locs 0 0 Q (F0 m 18 ls []) := by
        intro n18
        induction n18 with
        | zero =>
          intro x3_24 H locs ls hB18 hVB18 hlB18
          rw [f_X12_known_L18] at hB18
          exact nomatch hB18
        | succ n18 ih18 =>
          intro x3_24 H locs ls hB18 hVB18 hlB18
          rw [f_X12_known_L18] at hB18
          refine lv_iload_n hx hb dX12_known_18 rfl (lv_at hlB18 3 rfl) ?_
          refine lv_aload_n hx hb dX12_known_19 rfl (lv_at hlB18 0 rfl) ?_
          refine kget X hVB18 (ci := 12) inlX12 rfl 0 rfl 4 (by decide) mw_899 rfl dX12_known_20 ?_
          refine lv_icmp_ge (tgt := 93) hx hb dX12_known_23 (by decide) (fun c25 => ?_) (fun c25 => ?_)
          · have h26 := itS c25 hB18
            clear hB18 c25
            refine lv_iconst (v := (-1)) hx hb dX12_known_93 (by decide) ?_
            have q28 := tup1_s h26
            clear h26
            exact hret _ () _ _ _ _ q28 rfl hVB18 dX12_known_94
          · have h27 := ieS c25 hB18
            clear hB18 c25
            refine lv_aload_n hx hb dX12_known_26 rfl (lv_at hlB18 0 rfl) ?_
            refine kget X hVB18 (ci := 12) inlX12 rfl 0 rfl 58 (by decide) mw_170 rfl dX12_known_27 ?_
            refine lv_iload_n hx hb dX12_known_30 rfl (lv_at hlB18 3 rfl) ?_
            obtain ⟨hi30, v31_29, e31, h32⟩ := rdI_s h27
            clear h27
            refine kiald X hVB18 2 rfl hi30 e31 dX12_known_31 ?_
            clear hi30 e31
            refine lv_iload_n hx hb dX12_known_32 rfl (lv_at hlB18 1 rfl) ?_
            refine lv_icmp_ne (tgt := 87) hx hb dX12_known_33 (by decide) (fun c33 => ?_) (fun c33 => ?_)
            · have h34 := ieS c33 h32
              clear h32 c33
              obtain ⟨v87_36, e37, h38⟩ := nmI_s h34
              clear h34
              refine lv_iinc (v := v87_36) (lv' := [(3, .int v87_36), (0, .ref a0), (1, .int p1), (2, .int p2)]) hx hb dX12_known_87 hlB18 (k := 3) rfl (by rw [e37]; rfl) (by decide) rfl (fun ls hl39 => ?_)
              clear hlB18 e37
              refine lv_goto (tgt := 18) hx hb dX12_known_90 (by decide) ?_
              exact ih18 v87_36 _ _ _ h38 hVB18 (lv_sub hl39 [1, 2, 3, 0] rfl)
            · have h35 := itS c33 h32
              clear h32 c33
              refine lv_aload_n hx hb dX12_known_36 rfl (lv_at hlB18 0 rfl) ?_
              refine lv_iload_n hx hb dX12_known_37 rfl (lv_at hlB18 1 rfl) ?_
              refine lv_aload_n hx hb dX12_known_38 rfl (lv_at hlB18 0 rfl) ?_
              refine kget X hVB18 (ci := 12) inlX12 rfl 0 rfl 56 (by decide) mw_168 rfl dX12_known_39 ?_
              refine lv_iload_n hx hb dX12_known_42 rfl (lv_at hlB18 3 rfl) ?_
              obtain ⟨hi41, v43_40, e42, h43⟩ := rdI_s h35
              clear h35
              refine kiald X hVB18 1 rfl hi41 e42 dX12_known_43 ?_
              clear hi41 e42
              obtain ⟨r44_44, hc45, h46⟩ := cb1_s h43
              clear h43
              refine kgoiE (krunV (rest := []) X hVB18 [0, 1, 2] (c_X12_manyOf l E _ a0 a1 a2 (w0_0) (w0_1) (w0_2) (w0_3) (w0_5) (w0_6) (w0_7) (w0_8) (w0_9) (w0_10) (w0_11) (w0_12) (w0_13) (w0_14) (w0_15) (w0_16) (w0_17) (w0_18) (w0_19) (w0_20) (w0_21) (w0_22) (w0_23) (w0_24) (w0_25) (w0_26) (w0_27) (w0_28) (w0_29) (w0_30) (w0_31) (w0_32) (w0_33) (w0_34) (w0_35) (w0_36) (w0_37) (w0_38) (w0_39) (w0_40) (w0_41) (w0_42) (w0_43) (w0_44) (w0_45) (w0_46) (w0_47) (w0_48) (w0_49) (w0_50) (w0_51) (w0_52) (w0_53) (w0_54) (w0_55) (w0_57) (w0_59) (w0_60) (w0_61) (w0_62) (w0_63) (w0_64) (w0_65) (w0_66) s_notes s_noteDay s_noteShape p1 v43_40 r44_44 hc45) mw_928 kb_X12_manyOf (ci := 12) rfl rfl (by decide) rfl rfl hlB18.1 rfl (Nat.le_of_ble_eq_true rfl) dX12_known_44 (by decide)) X hVB18 [0, 1, 2] [] rfl rfl rfl (by decide) (fun u H locs hV47 => ?_)
              have hV47 : kV E A s.heap H locs [(a0, .inr (12, [w0_0, w0_1, w0_2, w0_3, .int s_notes, w0_5, w0_6, w0_7, w0_8, w0_9, w0_10, w0_11, w0_12, w0_13, w0_14, w0_15, w0_16, w0_17, w0_18, w0_19, w0_20, w0_21, w0_22, w0_23, w0_24, w0_25, w0_26, w0_27, w0_28, w0_29, w0_30, w0_31, w0_32, w0_33, w0_34, w0_35, w0_36, w0_37, w0_38, w0_39, w0_40, w0_41, w0_42, w0_43, w0_44, w0_45, w0_46, w0_47, w0_48, w0_49, w0_50, w0_51, w0_52, w0_53, w0_54, w0_55, .ref a1, w0_57, .ref a2, w0_59, w0_60, w0_61, w0_62, w0_63, w0_64, w0_65, w0_66])), (a1, .inl (E.2 0, 40, .inl s_noteDay)), (a2, .inl (E.2 0, 40, .inl s_noteShape))] := hV47.sub [0, 1, 2] rfl rfl
              clear hVB18
              refine lv_iconst (v := 2) hx hb dX12_known_47 (by decide) ?_
              refine lv_icmp_ge (tgt := 54) hx hb dX12_known_48 (by decide) (fun c49 => ?_) (fun c49 => ?_)
              · have h50 := itS c49 h46
                clear h46 c49
                exact J54 x3_24 _ _ _ h50 hV47 (lv_sub hlB18 [0, 1, 2, 3] rfl)
              · have h51 := ieS c49 h46
                clear h46 c49
                refine lv_goto (tgt := 87) hx hb dX12_known_51 (by decide) ?_
                obtain ⟨v87_52, e53, h54⟩ := nmI_s h51
                clear h51
                refine lv_iinc (v := v87_52) (lv' := [(3, .int v87_52), (0, .ref a0), (1, .int p1), (2, .int p2)]) hx hb dX12_known_87 hlB18 (k := 3) rfl (by rw [e53]; rfl) (by decide) rfl (fun ls hl55 => ?_)
                clear hlB18 e53
                refine lv_goto (tgt := 18) hx hb dX12_known_90 (by decide) ?_
                exact ih18 v87_52 _ _ _ h54 hV47 (lv_sub hl55 [1, 2, 3, 0] rfl)
      exact L18 FU 0 _ _ _ h16 hV13 (lv_sub hl18 [1, 2, 3, 0] rfl)
    · have h17 := itS c15 h12
      clear h12 c15
      refine lv_iconst (v := (-1)) hx hb dX12_known_14 (by decide) ?_
      have q56 := tup1_s h17
      clear h17
      exact hret _ () _ _ _ _ q56 rfl hV13 dX12_known_15
