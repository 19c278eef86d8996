abbrev r_X12_manyOf : Room := { frames := 0, cells := 0, slots := 0, locals := 0 }
set_option maxHeartbeats 4000000 in
set_option maxRecDepth 100000 in
theorem c_X12_manyOf (l : Launch) (E : kE) (sz : Nat) (a0 a1 a2 : Nat) (w0_0 w0_1 w0_2 w0_3 w0_5 w0_6 w0_7 w0_8 w0_9 w0_10 w0_11 w0_12 w0_13 w0_14 w0_15 w0_16 w0_17 w0_18 w0_19 w0_20 w0_21 w0_22 w0_23 w0_24 w0_25 w0_26 w0_27 w0_28 w0_29 w0_30 w0_31 w0_32 w0_33 w0_34 w0_35 w0_36 w0_37 w0_38 w0_39 w0_40 w0_41 w0_42 w0_43 w0_44 w0_45 w0_46 w0_47 w0_48 w0_49 w0_50 w0_51 w0_52 w0_53 w0_54 w0_55 w0_57 w0_59 w0_60 w0_61 w0_62 w0_63 w0_64 w0_65 w0_66 : Value) (s_notes : Int32) (s_noteDay : Nat → Int32) (s_noteShape : Nat → Int32) (p1 : Int32) (p2 : Int32) (r : Int32) (h : f_X12_manyOf s_notes s_noteDay s_noteShape p1 p2 = some (r)) : kMi l yX12_manyOf cX12_manyOf 5 (some .int) r_X12_manyOf [.ref a0, .int p1, .int p2] E [(a0, .inr (12, [w0_0, w0_1, w0_2, w0_3, .int s_notes, w0_5, w0_6, w0_7, w0_8, w0_9, w0_10, w0_11, w0_12, w0_13, w0_14, w0_15, w0_16, w0_17, w0_18, w0_19, w0_20, w0_21, w0_22, w0_23, w0_24, w0_25, w0_26, w0_27, w0_28, w0_29, w0_30, w0_31, w0_32, w0_33, w0_34, w0_35, w0_36, w0_37, w0_38, w0_39, w0_40, w0_41, w0_42, w0_43, w0_44, w0_45, w0_46, w0_47, w0_48, w0_49, w0_50, w0_51, w0_52, w0_53, w0_54, w0_55, .ref a1, w0_57, .ref a2, w0_59, w0_60, w0_61, w0_62, w0_63, w0_64, w0_65, w0_66])), (a1, .inl (E.2 0, 40, .inl s_noteDay)), (a2, .inl (E.2 0, 40, .inl s_noteShape))] sz 0 0 (fun x (_ : Unit) => x = r) (fun _ => [(a0, .inr (12, [w0_0, w0_1, w0_2, w0_3, .int s_notes, w0_5, w0_6, w0_7, w0_8, w0_9, w0_10, w0_11, w0_12, w0_13, w0_14, w0_15, w0_16, w0_17, w0_18, w0_19, w0_20, w0_21, w0_22, w0_23, w0_24, w0_25, w0_26, w0_27, w0_28, w0_29, w0_30, w0_31, w0_32, w0_33, w0_34, w0_35, w0_36, w0_37, w0_38, w0_39, w0_40, w0_41, w0_42, w0_43, w0_44, w0_45, w0_46, w0_47, w0_48, w0_49, w0_50, w0_51, w0_52, w0_53, w0_54, w0_55, .ref a1, w0_57, .ref a2, w0_59, w0_60, w0_61, w0_62, w0_63, w0_64, w0_65, w0_66])), (a1, .inl (E.2 0, 40, .inl s_noteDay)), (a2, .inl (E.2 0, 40, .inl s_noteShape))]) := by
  refine kmeti rfl (Nat.le_of_ble_eq_true rfl) ?_
  intro p e s m args below meth c ls A Q X hV hret hl
  have X : kC p s m c cX12_manyOf 5 RX12 args E A := X
  have hx := X.1
  have hb := X.2.1
  have hl : lv_has ls 5 [(0, .ref a0), (1, .int p1), (2, .int p2)] := hl
  rw [f_X12_manyOf] at h
  refine lv_iconst (v := 0) hx hb dX12_manyOf_0 (by decide) ?_
  refine lv_istore_n (lv' := [(3, .int 0), (0, .ref a0), (1, .int p1), (2, .int p2)]) hx hb dX12_manyOf_1 rfl hl (by decide) rfl (fun ls hl1 => ?_)
  clear hl
  refine lv_iconst (v := 0) hx hb dX12_manyOf_2 (by decide) ?_
  refine lv_istore (lv' := [(4, .int 0), (3, .int 0), (0, .ref a0), (1, .int p1), (2, .int p2)]) hx hb dX12_manyOf_3 hl1 (by decide) rfl (fun ls hl2 => ?_)
  clear hl1
  have L5 : ∀ (n5 : Nat) (x3_3 : Int32) (x4_4 : Int32) (H : Heap) (locs : List Loc) (ls : Array Slot), (f_X12_manyOf_L5 s_notes s_noteDay s_noteShape p1 p2  n5) x3_3 x4_4 = some (r) → kV E A s.heap H locs [(a0, .inr (12, [w0_0, w0_1, w0_2, w0_3, .int s_notes, w0_5, w0_6, w0_7, w0_8, w0_9, w0_10, w0_11, w0_12, w0_13, w0_14, w0_15, w0_16, w0_17, w0_18, w0_19, w0_20, w0_21, w0_22, w0_23, w0_24, w0_25, w0_26, w0_27, w0_28, w0_29, w0_30, w0_31, w0_32, w0_33, w0_34, w0_35, w0_36, w0_37, w0_38, w0_39, w0_40, w0_41, w0_42, w0_43, w0_44, w0_45, w0_46, w0_47, w0_48, w0_49, w0_50, w0_51, w0_52, w0_53, w0_54, w0_55, .ref a1, w0_57, .ref a2, w0_59, w0_60, w0_61, w0_62, w0_63, w0_64, w0_65, w0_66])), (a1, .inl (E.2 0, 40, .inl s_noteDay)), (a2, .inl (E.2 0, 40, .inl s_noteShape))] → lv_has ls 5 [(0, .ref a0), (1, .int p1), (2, .int p2), (3, .int x3_3), (4, .int x4_4)] → W p l e r_X12_manyOf s m args below meth c H locs 0 0 Q (F0 m 5 ls []) := by
    intro n5
    induction n5 with
    | zero =>
      intro x3_3 x4_4 H locs ls hB5 hVB5 hlB5
      rw [f_X12_manyOf_L5] at hB5
      exact nomatch hB5
    | succ n5 ih5 =>
      intro x3_3 x4_4 H locs ls hB5 hVB5 hlB5
      rw [f_X12_manyOf_L5] at hB5
      refine lv_iload hx hb dX12_manyOf_5 (lv_at hlB5 4 rfl) ?_
      refine lv_aload_n hx hb dX12_manyOf_7 rfl (lv_at hlB5 0 rfl) ?_
      refine kget X hVB5 (ci := 12) inlX12 rfl 0 rfl 4 (by decide) mw_899 rfl dX12_manyOf_8 ?_
      refine lv_icmp_ge (tgt := 50) hx hb dX12_manyOf_11 (by decide) (fun c5 => ?_) (fun c5 => ?_)
      · have h6 := itS c5 hB5
        clear hB5 c5
        refine lv_iload_n hx hb dX12_manyOf_50 rfl (lv_at hlB5 3 rfl) ?_
        have q8 := tup1_s h6
        clear h6
        exact hret _ () _ _ _ _ q8 rfl hVB5 dX12_manyOf_51
      · have h7 := ieS c5 hB5
        clear hB5 c5
        refine lv_iload_n hx hb dX12_manyOf_14 rfl (lv_at hlB5 3 rfl) ?_
        refine lv_aload_n hx hb dX12_manyOf_15 rfl (lv_at hlB5 0 rfl) ?_
        refine kget X hVB5 (ci := 12) inlX12 rfl 0 rfl 58 (by decide) mw_170 rfl dX12_manyOf_16 ?_
        refine lv_iload hx hb dX12_manyOf_19 (lv_at hlB5 4 rfl) ?_
        obtain ⟨hi10, v21_9, e11, h12⟩ := rdI_s h7
        clear h7
        refine kiald X hVB5 2 rfl hi10 e11 dX12_manyOf_21 ?_
        clear hi10 e11
        refine lv_iload_n hx hb dX12_manyOf_22 rfl (lv_at hlB5 1 rfl) ?_
        refine lv_icmp_ne (tgt := 41) hx hb dX12_manyOf_23 (by decide) (fun c13 => ?_) (fun c13 => ?_)
        · have h14 := ieS c13 h12
          clear h12 c13
          refine lv_iconst (v := 0) hx hb dX12_manyOf_41 (by decide) ?_
          refine lv_iadd hx hb dX12_manyOf_42 ?_
          obtain ⟨v43_16, e17, h18⟩ := nmI_s h14
          clear h14
          refine ktopi e17 ?_
          clear e17
          refine lv_istore_n (lv' := [(3, .int v43_16), (0, .ref a0), (1, .int p1), (2, .int p2), (4, .int x4_4)]) hx hb dX12_manyOf_43 rfl hlB5 (by decide) rfl (fun ls hl19 => ?_)
          clear hlB5
          obtain ⟨v44_20, e21, h22⟩ := nmI_s h18
          clear h18
          refine lv_iinc (v := v44_20) (lv' := [(4, .int v44_20), (3, .int v43_16), (0, .ref a0), (1, .int p1), (2, .int p2)]) hx hb dX12_manyOf_44 hl19 (k := 4) rfl (by rw [e21]; rfl) (by decide) rfl (fun ls hl23 => ?_)
          clear hl19 e21
          refine lv_goto (tgt := 5) hx hb dX12_manyOf_47 (by decide) ?_
          exact ih5 v43_16 v44_20 _ _ _ h22 hVB5 (lv_sub hl23 [2, 3, 4, 1, 0] rfl)
        · have h15 := itS c13 h12
          clear h12 c13
          refine lv_aload_n hx hb dX12_manyOf_26 rfl (lv_at hlB5 0 rfl) ?_
          refine kget X hVB5 (ci := 12) inlX12 rfl 0 rfl 56 (by decide) mw_168 rfl dX12_manyOf_27 ?_
          refine lv_iload hx hb dX12_manyOf_30 (lv_at hlB5 4 rfl) ?_
          obtain ⟨hi25, v32_24, e26, h27⟩ := rdI_s h15
          clear h15
          refine kiald X hVB5 1 rfl hi25 e26 dX12_manyOf_32 ?_
          clear hi25 e26
          refine lv_iload_n hx hb dX12_manyOf_33 rfl (lv_at hlB5 2 rfl) ?_
          refine lv_icmp_gt (tgt := 41) hx hb dX12_manyOf_34 (by decide) (fun c28 => ?_) (fun c28 => ?_)
          · have h29 := itS c28 h27
            clear h27 c28
            refine lv_iconst (v := 0) hx hb dX12_manyOf_41 (by decide) ?_
            refine lv_iadd hx hb dX12_manyOf_42 ?_
            obtain ⟨v43_31, e32, h33⟩ := nmI_s h29
            clear h29
            refine ktopi e32 ?_
            clear e32
            refine lv_istore_n (lv' := [(3, .int v43_31), (0, .ref a0), (1, .int p1), (2, .int p2), (4, .int x4_4)]) hx hb dX12_manyOf_43 rfl hlB5 (by decide) rfl (fun ls hl34 => ?_)
            clear hlB5
            obtain ⟨v44_35, e36, h37⟩ := nmI_s h33
            clear h33
            refine lv_iinc (v := v44_35) (lv' := [(4, .int v44_35), (3, .int v43_31), (0, .ref a0), (1, .int p1), (2, .int p2)]) hx hb dX12_manyOf_44 hl34 (k := 4) rfl (by rw [e36]; rfl) (by decide) rfl (fun ls hl38 => ?_)
            clear hl34 e36
            refine lv_goto (tgt := 5) hx hb dX12_manyOf_47 (by decide) ?_
            exact ih5 v43_31 v44_35 _ _ _ h37 hVB5 (lv_sub hl38 [2, 3, 4, 1, 0] rfl)
          · have h30 := ieS c28 h27
            clear h27 c28
            refine lv_iconst (v := 1) hx hb dX12_manyOf_37 (by decide) ?_
            refine lv_goto (tgt := 42) hx hb dX12_manyOf_38 (by decide) ?_
            refine lv_iadd hx hb dX12_manyOf_42 ?_
            obtain ⟨v43_39, e40, h41⟩ := nmI_s h30
            clear h30
            refine ktopi e40 ?_
            clear e40
            refine lv_istore_n (lv' := [(3, .int v43_39), (0, .ref a0), (1, .int p1), (2, .int p2), (4, .int x4_4)]) hx hb dX12_manyOf_43 rfl hlB5 (by decide) rfl (fun ls hl42 => ?_)
            clear hlB5
            obtain ⟨v44_43, e44, h45⟩ := nmI_s h41
            clear h41
            refine lv_iinc (v := v44_43) (lv' := [(4, .int v44_43), (3, .int v43_39), (0, .ref a0), (1, .int p1), (2, .int p2)]) hx hb dX12_manyOf_44 hl42 (k := 4) rfl (by rw [e44]; rfl) (by decide) rfl (fun ls hl46 => ?_)
            clear hl42 e44
            refine lv_goto (tgt := 5) hx hb dX12_manyOf_47 (by decide) ?_
            exact ih5 v43_39 v44_43 _ _ _ h45 hVB5 (lv_sub hl46 [2, 3, 4, 1, 0] rfl)
  exact L5 FU 0 0 _ _ _ h hV (lv_sub hl2 [2, 3, 4, 1, 0] rfl)
abbrev r_X12_isOne : Room := { frames := 3, cells := 0, slots := 0, locals := 70 }
set_option maxHeartbeats 4000000 in
set_option maxRecDepth 100000 in
theorem c_X12_isOne (l : Launch) (E : kE) (sz : Nat) (a0 a1 a2 a3 : Nat) (w0_0 w0_1 w0_2 w0_3 w0_5 w0_6 w0_7 w0_8 w0_9 w0_10 w0_11 w0_12 w0_13 w0_14 w0_15 w0_16 w0_17 w0_18 w0_19 w0_20 w0_21 w0_22 w0_23 w0_24 w0_25 w0_26 w0_27 w0_28 w0_29 w0_30 w0_31 w0_32 w0_33 w0_34 w0_35 w0_36 w0_37 w0_38 w0_39 w0_40 w0_41 w0_42 w0_43 w0_44 w0_45 w0_46 w0_47 w0_48 w0_49 w0_50 w0_51 w0_52 w0_53 w0_54 w0_55 w0_59 w0_60 w0_61 w0_62 w0_63 w0_64 w0_65 w0_66 : Value) (s_notes : Int32) (s_noteDay : Nat → Int32) (s_noteMinute : Nat → Int32) (s_noteShape : Nat → Int32) (p1 : Int32) (p2 : Int32) (p3 : Int32) (p4 : Int32) (r : Int32) (h : f_X12_isOne s_notes s_noteDay s_noteMinute s_noteShape p1 p2 p3 p4 = some (r)) : kMi l yX12_isOne cX12_isOne 7 (some .boolean) r_X12_isOne [.ref a0, .int p1, .int p2, .int p3, .int p4] E [(a0, .inr (12, [w0_0, w0_1, w0_2, w0_3, .int s_notes, w0_5, w0_6, w0_7, w0_8, w0_9, w0_10, w0_11, w0_12, w0_13, w0_14, w0_15, w0_16, w0_17, w0_18, w0_19, w0_20, w0_21, w0_22, w0_23, w0_24, w0_25, w0_26, w0_27, w0_28, w0_29, w0_30, w0_31, w0_32, w0_33, w0_34, w0_35, w0_36, w0_37, w0_38, w0_39, w0_40, w0_41, w0_42, w0_43, w0_44, w0_45, w0_46, w0_47, w0_48, w0_49, w0_50, w0_51, w0_52, w0_53, w0_54, w0_55, .ref a1, .ref a2, .ref a3, w0_59, w0_60, w0_61, w0_62, w0_63, w0_64, w0_65, w0_66])), (a1, .inl (E.2 0, 40, .inl s_noteDay)), (a2, .inl (E.2 0, 40, .inl s_noteMinute)), (a3, .inl (E.2 0, 40, .inl s_noteShape))] sz 0 0 (fun x (_ : Unit) => x = r) (fun _ => [(a0, .inr (12, [w0_0, w0_1, w0_2, w0_3, .int s_notes, w0_5, w0_6, w0_7, w0_8, w0_9, w0_10, w0_11, w0_12, w0_13, w0_14, w0_15, w0_16, w0_17, w0_18, w0_19, w0_20, w0_21, w0_22, w0_23, w0_24, w0_25, w0_26, w0_27, w0_28, w0_29, w0_30, w0_31, w0_32, w0_33, w0_34, w0_35, w0_36, w0_37, w0_38, w0_39, w0_40, w0_41, w0_42, w0_43, w0_44, w0_45, w0_46, w0_47, w0_48, w0_49, w0_50, w0_51, w0_52, w0_53, w0_54, w0_55, .ref a1, .ref a2, .ref a3, w0_59, w0_60, w0_61, w0_62, w0_63, w0_64, w0_65, w0_66])), (a1, .inl (E.2 0, 40, .inl s_noteDay)), (a2, .inl (E.2 0, 40, .inl s_noteMinute)), (a3, .inl (E.2 0, 40, .inl s_noteShape))]) := by
  refine kmeti rfl (Nat.le_of_ble_eq_true rfl) ?_
  intro p e s m args below meth c ls A Q X hV hret hl
  have X : kC p s m c cX12_isOne 7 RX12 args E A := X
  have hx := X.1
  have hb := X.2.1
  have hl : lv_has ls 7 [(0, .ref a0), (1, .int p1), (2, .int p2), (3, .int p3), (4, .int p4)] := hl
  rw [f_X12_isOne] at h
  refine lv_aload_n hx hb dX12_isOne_0 rfl (lv_at hl 0 rfl) ?_
  refine lv_iload_n hx hb dX12_isOne_1 rfl (lv_at hl 1 rfl) ?_
  refine lv_iload_n hx hb dX12_isOne_2 rfl (lv_at hl 2 rfl) ?_
  obtain ⟨r3_1, hc2, h3⟩ := cb1_s h
  clear h
  refine kgoiE (krunV (rest := []) X hV [0, 1, 3] (c_X12_manyOf l E _ a0 a1 a3 (w0_0) (w0_1) (w0_2) (w0_3) (w0_5) (w0_6) (w0_7) (w0_8) (w0_9) (w0_10) (w0_11) (w0_12) (w0_13) (w0_14) (w0_15) (w0_16) (w0_17) (w0_18) (w0_19) (w0_20) (w0_21) (w0_22) (w0_23) (w0_24) (w0_25) (w0_26) (w0_27) (w0_28) (w0_29) (w0_30) (w0_31) (w0_32) (w0_33) (w0_34) (w0_35) (w0_36) (w0_37) (w0_38) (w0_39) (w0_40) (w0_41) (w0_42) (w0_43) (w0_44) (w0_45) (w0_46) (w0_47) (w0_48) (w0_49) (w0_50) (w0_51) (w0_52) (w0_53) (w0_54) (w0_55) (.ref a2) (w0_59) (w0_60) (w0_61) (w0_62) (w0_63) (w0_64) (w0_65) (w0_66) s_notes s_noteDay s_noteShape p1 p2 r3_1 hc2) mw_928 kb_X12_manyOf (ci := 12) rfl rfl (by decide) rfl rfl hl.1 rfl (Nat.le_of_ble_eq_true rfl) dX12_isOne_3 (by decide)) X hV [0, 1, 3] [2] rfl rfl rfl (by decide) (fun u H locs hV4 => ?_)
  have hV4 : kV E A s.heap H locs [(a0, .inr (12, [w0_0, w0_1, w0_2, w0_3, .int s_notes, w0_5, w0_6, w0_7, w0_8, w0_9, w0_10, w0_11, w0_12, w0_13, w0_14, w0_15, w0_16, w0_17, w0_18, w0_19, w0_20, w0_21, w0_22, w0_23, w0_24, w0_25, w0_26, w0_27, w0_28, w0_29, w0_30, w0_31, w0_32, w0_33, w0_34, w0_35, w0_36, w0_37, w0_38, w0_39, w0_40, w0_41, w0_42, w0_43, w0_44, w0_45, w0_46, w0_47, w0_48, w0_49, w0_50, w0_51, w0_52, w0_53, w0_54, w0_55, .ref a1, .ref a2, .ref a3, w0_59, w0_60, w0_61, w0_62, w0_63, w0_64, w0_65, w0_66])), (a1, .inl (E.2 0, 40, .inl s_noteDay)), (a2, .inl (E.2 0, 40, .inl s_noteMinute)), (a3, .inl (E.2 0, 40, .inl s_noteShape))] := hV4.sub [1, 2, 0, 3] rfl rfl
  clear hV
  refine lv_istore (lv' := [(5, .int r3_1), (0, .ref a0), (1, .int p1), (2, .int p2), (3, .int p3), (4, .int p4)]) hx hb dX12_isOne_6 hl (by decide) rfl (fun ls hl6 => ?_)
  clear hl
  refine lv_iconst (v := 0) hx hb dX12_isOne_8 (by decide) ?_
  refine lv_istore (lv' := [(6, .int 0), (5, .int r3_1), (0, .ref a0), (1, .int p1), (2, .int p2), (3, .int p3), (4, .int p4)]) hx hb dX12_isOne_9 hl6 (by decide) rfl (fun ls hl7 => ?_)
  clear hl6
  have L11 : ∀ (n11 : Nat) (x6_8 : Int32) (H : Heap) (locs : List Loc) (ls : Array Slot), (f_X12_isOne_L11 s_notes s_noteDay s_noteMinute s_noteShape p1 p2 p3 p4 r3_1  n11) x6_8 = some (r) → kV E A s.heap H locs [(a0, .inr (12, [w0_0, w0_1, w0_2, w0_3, .int s_notes, w0_5, w0_6, w0_7, w0_8, w0_9, w0_10, w0_11, w0_12, w0_13, w0_14, w0_15, w0_16, w0_17, w0_18, w0_19, w0_20, w0_21, w0_22, w0_23, w0_24, w0_25, w0_26, w0_27, w0_28, w0_29, w0_30, w0_31, w0_32, w0_33, w0_34, w0_35, w0_36, w0_37, w0_38, w0_39, w0_40, w0_41, w0_42, w0_43, w0_44, w0_45, w0_46, w0_47, w0_48, w0_49, w0_50, w0_51, w0_52, w0_53, w0_54, w0_55, .ref a1, .ref a2, .ref a3, w0_59, w0_60, w0_61, w0_62, w0_63, w0_64, w0_65, w0_66])), (a1, .inl (E.2 0, 40, .inl s_noteDay)), (a2, .inl (E.2 0, 40, .inl s_noteMinute)), (a3, .inl (E.2 0, 40, .inl s_noteShape))] → lv_has ls 7 [(0, .ref a0), (1, .int p1), (2, .int p2), (3, .int p3), (4, .int p4), (5, .int r3_1), (6, .int x6_8)] → W p l e r_X12_isOne s m args below meth c H locs 0 0 Q (F0 m 11 ls []) := by
    intro n11
    induction n11 with
    | zero =>
      intro x6_8 H locs ls hB11 hVB11 hlB11
      rw [f_X12_isOne_L11] at hB11
      exact nomatch hB11
    | succ n11 ih11 =>
      intro x6_8 H locs ls hB11 hVB11 hlB11
      rw [f_X12_isOne_L11] at hB11
      refine lv_iload hx hb dX12_isOne_11 (lv_at hlB11 6 rfl) ?_
      refine lv_aload_n hx hb dX12_isOne_13 rfl (lv_at hlB11 0 rfl) ?_
      refine kget X hVB11 (ci := 12) inlX12 rfl 0 rfl 4 (by decide) mw_899 rfl dX12_isOne_14 ?_
      refine lv_icmp_ge (tgt := 71) hx hb dX12_isOne_17 (by decide) (fun c9 => ?_) (fun c9 => ?_)
      · have h10 := itS c9 hB11
        clear hB11 c9
        refine lv_iconst (v := 0) hx hb dX12_isOne_71 (by decide) ?_
        have q12 := tup1_s h10
        clear h10
        exact hret _ () _ _ _ _ q12 rfl hVB11 dX12_isOne_72
      · have h11 := ieS c9 hB11
        clear hB11 c9
        refine lv_aload_n hx hb dX12_isOne_20 rfl (lv_at hlB11 0 rfl) ?_
        refine kget X hVB11 (ci := 12) inlX12 rfl 0 rfl 58 (by decide) mw_170 rfl dX12_isOne_21 ?_
        refine lv_iload hx hb dX12_isOne_24 (lv_at hlB11 6 rfl) ?_
        obtain ⟨hi14, v26_13, e15, h16⟩ := rdI_s h11
        clear h11
        refine kiald X hVB11 3 rfl hi14 e15 dX12_isOne_26 ?_
        clear hi14 e15
        refine lv_iload_n hx hb dX12_isOne_27 rfl (lv_at hlB11 1 rfl) ?_
        refine lv_icmp_ne (tgt := 65) hx hb dX12_isOne_28 (by decide) (fun c17 => ?_) (fun c17 => ?_)
        · have h18 := ieS c17 h16
          clear h16 c17
          obtain ⟨v65_20, e21, h22⟩ := nmI_s h18
          clear h18
          refine lv_iinc (v := v65_20) (lv' := [(6, .int v65_20), (0, .ref a0), (1, .int p1), (2, .int p2), (3, .int p3), (4, .int p4), (5, .int r3_1)]) hx hb dX12_isOne_65 hlB11 (k := 6) rfl (by rw [e21]; rfl) (by decide) rfl (fun ls hl23 => ?_)
          clear hlB11 e21
          refine lv_goto (tgt := 11) hx hb dX12_isOne_68 (by decide) ?_
          exact ih11 v65_20 _ _ _ h22 hVB11 (lv_sub hl23 [1, 2, 3, 4, 5, 6, 0] rfl)
        · have h19 := itS c17 h16
          clear h16 c17
          refine lv_aload_n hx hb dX12_isOne_31 rfl (lv_at hlB11 0 rfl) ?_
          refine kget X hVB11 (ci := 12) inlX12 rfl 0 rfl 56 (by decide) mw_168 rfl dX12_isOne_32 ?_
          refine lv_iload hx hb dX12_isOne_35 (lv_at hlB11 6 rfl) ?_
          obtain ⟨hi25, v37_24, e26, h27⟩ := rdI_s h19
          clear h19
          refine kiald X hVB11 1 rfl hi25 e26 dX12_isOne_37 ?_
          clear hi25 e26
          refine lv_iload_n hx hb dX12_isOne_38 rfl (lv_at hlB11 2 rfl) ?_
          refine lv_icmp_gt (tgt := 65) hx hb dX12_isOne_39 (by decide) (fun c28 => ?_) (fun c28 => ?_)
          · have h29 := itS c28 h27
            clear h27 c28
            obtain ⟨v65_31, e32, h33⟩ := nmI_s h29
            clear h29
            refine lv_iinc (v := v65_31) (lv' := [(6, .int v65_31), (0, .ref a0), (1, .int p1), (2, .int p2), (3, .int p3), (4, .int p4), (5, .int r3_1)]) hx hb dX12_isOne_65 hlB11 (k := 6) rfl (by rw [e32]; rfl) (by decide) rfl (fun ls hl34 => ?_)
            clear hlB11 e32
            refine lv_goto (tgt := 11) hx hb dX12_isOne_68 (by decide) ?_
            exact ih11 v65_31 _ _ _ h33 hVB11 (lv_sub hl34 [1, 2, 3, 4, 5, 6, 0] rfl)
          · have h30 := ieS c28 h27
            clear h27 c28
            refine lv_aload_n hx hb dX12_isOne_42 rfl (lv_at hlB11 0 rfl) ?_
            refine lv_iload_n hx hb dX12_isOne_43 rfl (lv_at hlB11 1 rfl) ?_
            refine lv_iload_n hx hb dX12_isOne_44 rfl (lv_at hlB11 2 rfl) ?_
            refine lv_iload_n hx hb dX12_isOne_45 rfl (lv_at hlB11 3 rfl) ?_
            refine lv_aload_n hx hb dX12_isOne_46 rfl (lv_at hlB11 0 rfl) ?_
            refine lv_iload hx hb dX12_isOne_47 (lv_at hlB11 6 rfl) ?_
            refine lv_iload_n hx hb dX12_isOne_49 rfl (lv_at hlB11 3 rfl) ?_
            obtain ⟨r50_35, hc36, h37⟩ := cb1_s h30
            clear h30
            refine kgoiE (krunV (rest := [.int p3, .int p2, .int p1, .ref a0]) X hVB11 [0, 1, 2] (c_X12_minuteBy l E _ a0 a1 a2 (w0_0) (w0_1) (w0_2) (w0_3) (.int s_notes) (w0_5) (w0_6) (w0_7) (w0_8) (w0_9) (w0_10) (w0_11) (w0_12) (w0_13) (w0_14) (w0_15) (w0_16) (w0_17) (w0_18) (w0_19) (w0_20) (w0_21) (w0_22) (w0_23) (w0_24) (w0_25) (w0_26) (w0_27) (w0_28) (w0_29) (w0_30) (w0_31) (w0_32) (w0_33) (w0_34) (w0_35) (w0_36) (w0_37) (w0_38) (w0_39) (w0_40) (w0_41) (w0_42) (w0_43) (w0_44) (w0_45) (w0_46) (w0_47) (w0_48) (w0_49) (w0_50) (w0_51) (w0_52) (w0_53) (w0_54) (w0_55) (.ref a3) (w0_59) (w0_60) (w0_61) (w0_62) (w0_63) (w0_64) (w0_65) (w0_66) s_noteDay s_noteMinute x6_8 p3 r50_35 hc36) mw_940 kb_X12_minuteBy (ci := 12) rfl rfl (by decide) rfl rfl hlB11.1 rfl (Nat.le_of_ble_eq_true rfl) dX12_isOne_50 (by decide)) X hVB11 [0, 1, 2] [3] rfl rfl rfl (by decide) (fun u H locs hV38 => ?_)
            have hV38 : kV E A s.heap H locs [(a0, .inr (12, [w0_0, w0_1, w0_2, w0_3, .int s_notes, w0_5, w0_6, w0_7, w0_8, w0_9, w0_10, w0_11, w0_12, w0_13, w0_14, w0_15, w0_16, w0_17, w0_18, w0_19, w0_20, w0_21, w0_22, w0_23, w0_24, w0_25, w0_26, w0_27, w0_28, w0_29, w0_30, w0_31, w0_32, w0_33, w0_34, w0_35, w0_36, w0_37, w0_38, w0_39, w0_40, w0_41, w0_42, w0_43, w0_44, w0_45, w0_46, w0_47, w0_48, w0_49, w0_50, w0_51, w0_52, w0_53, w0_54, w0_55, .ref a1, .ref a2, .ref a3, w0_59, w0_60, w0_61, w0_62, w0_63, w0_64, w0_65, w0_66])), (a1, .inl (E.2 0, 40, .inl s_noteDay)), (a2, .inl (E.2 0, 40, .inl s_noteMinute)), (a3, .inl (E.2 0, 40, .inl s_noteShape))] := hV38.sub [1, 2, 3, 0] rfl rfl
            clear hVB11
            refine lv_iload hx hb dX12_isOne_53 (lv_at hlB11 4 rfl) ?_
            obtain ⟨r55_40, hc41, h42⟩ := cb1_s h37
            clear h37
            refine kgoiE (krunV (rest := []) X hV38 [0, 1, 2, 3] (c_X12_onArc l E _ a0 a1 a2 a3 (w0_0) (w0_1) (w0_2) (w0_3) (w0_5) (w0_6) (w0_7) (w0_8) (w0_9) (w0_10) (w0_11) (w0_12) (w0_13) (w0_14) (w0_15) (w0_16) (w0_17) (w0_18) (w0_19) (w0_20) (w0_21) (w0_22) (w0_23) (w0_24) (w0_25) (w0_26) (w0_27) (w0_28) (w0_29) (w0_30) (w0_31) (w0_32) (w0_33) (w0_34) (w0_35) (w0_36) (w0_37) (w0_38) (w0_39) (w0_40) (w0_41) (w0_42) (w0_43) (w0_44) (w0_45) (w0_46) (w0_47) (w0_48) (w0_49) (w0_50) (w0_51) (w0_52) (w0_53) (w0_54) (w0_55) (w0_59) (w0_60) (w0_61) (w0_62) (w0_63) (w0_64) (w0_65) (w0_66) s_notes s_noteDay s_noteMinute s_noteShape p1 p2 p3 r50_35 p4 r55_40 hc41) mw_944 kb_X12_onArc (ci := 12) rfl rfl (by decide) rfl rfl hlB11.1 rfl (Nat.le_of_ble_eq_true rfl) dX12_isOne_55 (by decide)) X hV38 [0, 1, 2, 3] [] rfl rfl rfl (by decide) (fun u H locs hV43 => ?_)
            have hV43 : kV E A s.heap H locs [(a0, .inr (12, [w0_0, w0_1, w0_2, w0_3, .int s_notes, w0_5, w0_6, w0_7, w0_8, w0_9, w0_10, w0_11, w0_12, w0_13, w0_14, w0_15, w0_16, w0_17, w0_18, w0_19, w0_20, w0_21, w0_22, w0_23, w0_24, w0_25, w0_26, w0_27, w0_28, w0_29, w0_30, w0_31, w0_32, w0_33, w0_34, w0_35, w0_36, w0_37, w0_38, w0_39, w0_40, w0_41, w0_42, w0_43, w0_44, w0_45, w0_46, w0_47, w0_48, w0_49, w0_50, w0_51, w0_52, w0_53, w0_54, w0_55, .ref a1, .ref a2, .ref a3, w0_59, w0_60, w0_61, w0_62, w0_63, w0_64, w0_65, w0_66])), (a1, .inl (E.2 0, 40, .inl s_noteDay)), (a2, .inl (E.2 0, 40, .inl s_noteMinute)), (a3, .inl (E.2 0, 40, .inl s_noteShape))] := hV43.sub [0, 1, 2, 3] rfl rfl
            clear hV38
            refine lv_iload hx hb dX12_isOne_58 (lv_at hlB11 5 rfl) ?_
            refine lv_icmp_ne (tgt := 65) hx hb dX12_isOne_60 (by decide) (fun c45 => ?_) (fun c45 => ?_)
            · have h46 := ieS c45 h42
              clear h42 c45
              obtain ⟨v65_48, e49, h50⟩ := nmI_s h46
              clear h46
              refine lv_iinc (v := v65_48) (lv' := [(6, .int v65_48), (0, .ref a0), (1, .int p1), (2, .int p2), (3, .int p3), (4, .int p4), (5, .int r3_1)]) hx hb dX12_isOne_65 hlB11 (k := 6) rfl (by rw [e49]; rfl) (by decide) rfl (fun ls hl51 => ?_)
              clear hlB11 e49
              refine lv_goto (tgt := 11) hx hb dX12_isOne_68 (by decide) ?_
              exact ih11 v65_48 _ _ _ h50 hV43 (lv_sub hl51 [1, 2, 3, 4, 5, 6, 0] rfl)
            · have h47 := itS c45 h42
              clear h42 c45
              refine lv_iconst (v := 1) hx hb dX12_isOne_63 (by decide) ?_
              have q52 := tup1_s h47
              clear h47
              exact hret _ () _ _ _ _ q52 rfl hV43 dX12_isOne_64
  exact L11 FU 0 _ _ _ h3 hV4 (lv_sub hl7 [2, 3, 4, 5, 6, 1, 0] rfl)
abbrev r_X12_oneBits : Room := { frames := 4, cells := 0, slots := 0, locals := 96 }
set_option maxHeartbeats 4000000 in
set_option maxRecDepth 100000 in
theorem c_X12_oneBits (l : Launch) (E : kE) (sz : Nat) (a0 a1 a2 a3 : Nat) (w0_0 w0_1 w0_2 w0_3 w0_5 w0_6 w0_7 w0_8 w0_9 w0_10 w0_11 w0_12 w0_13 w0_14 w0_15 w0_16 w0_17 w0_18 w0_19 w0_20 w0_21 w0_22 w0_23 w0_24 w0_25 w0_26 w0_27 w0_28 w0_29 w0_30 w0_31 w0_32 w0_33 w0_34 w0_35 w0_36 w0_37 w0_38 w0_39 w0_40 w0_41 w0_42 w0_43 w0_44 w0_45 w0_46 w0_47 w0_48 w0_49 w0_50 w0_51 w0_52 w0_53 w0_54 w0_55 w0_59 w0_60 w0_61 w0_62 w0_63 w0_64 w0_65 w0_66 : Value) (s_notes : Int32) (s_noteDay : Nat → Int32) (s_noteMinute : Nat → Int32) (s_noteShape : Nat → Int32) (p1 : Int32) (p2 : Int32) (p3 : Int32) (r : Int32) (h : f_X12_oneBits s_notes s_noteDay s_noteMinute s_noteShape p1 p2 p3 = some (r)) : kMi l yX12_oneBits cX12_oneBits 4 (some .int) r_X12_oneBits [.ref a0, .int p1, .int p2, .int p3] E [(a0, .inr (12, [w0_0, w0_1, w0_2, w0_3, .int s_notes, w0_5, w0_6, w0_7, w0_8, w0_9, w0_10, w0_11, w0_12, w0_13, w0_14, w0_15, w0_16, w0_17, w0_18, w0_19, w0_20, w0_21, w0_22, w0_23, w0_24, w0_25, w0_26, w0_27, w0_28, w0_29, w0_30, w0_31, w0_32, w0_33, w0_34, w0_35, w0_36, w0_37, w0_38, w0_39, w0_40, w0_41, w0_42, w0_43, w0_44, w0_45, w0_46, w0_47, w0_48, w0_49, w0_50, w0_51, w0_52, w0_53, w0_54, w0_55, .ref a1, .ref a2, .ref a3, w0_59, w0_60, w0_61, w0_62, w0_63, w0_64, w0_65, w0_66])), (a1, .inl (E.2 0, 40, .inl s_noteDay)), (a2, .inl (E.2 0, 40, .inl s_noteMinute)), (a3, .inl (E.2 0, 40, .inl s_noteShape))] sz 0 0 (fun x (_ : Unit) => x = r) (fun _ => [(a0, .inr (12, [w0_0, w0_1, w0_2, w0_3, .int s_notes, w0_5, w0_6, w0_7, w0_8, w0_9, w0_10, w0_11, w0_12, w0_13, w0_14, w0_15, w0_16, w0_17, w0_18, w0_19, w0_20, w0_21, w0_22, w0_23, w0_24, w0_25, w0_26, w0_27, w0_28, w0_29, w0_30, w0_31, w0_32, w0_33, w0_34, w0_35, w0_36, w0_37, w0_38, w0_39, w0_40, w0_41, w0_42, w0_43, w0_44, w0_45, w0_46, w0_47, w0_48, w0_49, w0_50, w0_51, w0_52, w0_53, w0_54, w0_55, .ref a1, .ref a2, .ref a3, w0_59, w0_60, w0_61, w0_62, w0_63, w0_64, w0_65, w0_66])), (a1, .inl (E.2 0, 40, .inl s_noteDay)), (a2, .inl (E.2 0, 40, .inl s_noteMinute)), (a3, .inl (E.2 0, 40, .inl s_noteShape))]) := by
  refine kmeti rfl (Nat.le_of_ble_eq_true rfl) ?_
  intro p e s m args below meth c ls A Q X hV hret hl
  have X : kC p s m c cX12_oneBits 4 RX12 args E A := X
  have hx := X.1
  have hb := X.2.1
  have hl : lv_has ls 4 [(0, .ref a0), (1, .int p1), (2, .int p2), (3, .int p3)] := hl
  rw [f_X12_oneBits] at h
  refine lv_aload_n hx hb dX12_oneBits_0 rfl (lv_at hl 0 rfl) ?_
  refine lv_iload_n hx hb dX12_oneBits_1 rfl (lv_at hl 1 rfl) ?_
  refine lv_iload_n hx hb dX12_oneBits_2 rfl (lv_at hl 2 rfl) ?_
  refine lv_iconst (v := 1) hx hb dX12_oneBits_3 (by decide) ?_
  refine lv_iload_n hx hb dX12_oneBits_4 rfl (lv_at hl 3 rfl) ?_
  obtain ⟨r5_1, hc2, h3⟩ := cb1_s h
  clear h
  refine kgoiE (krunV (rest := []) X hV [0, 1, 2, 3] (c_X12_isOne l E _ a0 a1 a2 a3 (w0_0) (w0_1) (w0_2) (w0_3) (w0_5) (w0_6) (w0_7) (w0_8) (w0_9) (w0_10) (w0_11) (w0_12) (w0_13) (w0_14) (w0_15) (w0_16) (w0_17) (w0_18) (w0_19) (w0_20) (w0_21) (w0_22) (w0_23) (w0_24) (w0_25) (w0_26) (w0_27) (w0_28) (w0_29) (w0_30) (w0_31) (w0_32) (w0_33) (w0_34) (w0_35) (w0_36) (w0_37) (w0_38) (w0_39) (w0_40) (w0_41) (w0_42) (w0_43) (w0_44) (w0_45) (w0_46) (w0_47) (w0_48) (w0_49) (w0_50) (w0_51) (w0_52) (w0_53) (w0_54) (w0_55) (w0_59) (w0_60) (w0_61) (w0_62) (w0_63) (w0_64) (w0_65) (w0_66) s_notes s_noteDay s_noteMinute s_noteShape p1 p2 1 p3 r5_1 hc2) mw_936 kb_X12_isOne (ci := 12) rfl rfl (by decide) rfl rfl hl.1 rfl (Nat.le_of_ble_eq_true rfl) dX12_oneBits_5 (by decide)) X hV [0, 1, 2, 3] [] rfl rfl rfl (by decide) (fun u H locs hV4 => ?_)
  have hV4 : kV E A s.heap H locs [(a0, .inr (12, [w0_0, w0_1, w0_2, w0_3, .int s_notes, w0_5, w0_6, w0_7, w0_8, w0_9, w0_10, w0_11, w0_12, w0_13, w0_14, w0_15, w0_16, w0_17, w0_18, w0_19, w0_20, w0_21, w0_22, w0_23, w0_24, w0_25, w0_26, w0_27, w0_28, w0_29, w0_30, w0_31, w0_32, w0_33, w0_34, w0_35, w0_36, w0_37, w0_38, w0_39, w0_40, w0_41, w0_42, w0_43, w0_44, w0_45, w0_46, w0_47, w0_48, w0_49, w0_50, w0_51, w0_52, w0_53, w0_54, w0_55, .ref a1, .ref a2, .ref a3, w0_59, w0_60, w0_61, w0_62, w0_63, w0_64, w0_65, w0_66])), (a1, .inl (E.2 0, 40, .inl s_noteDay)), (a2, .inl (E.2 0, 40, .inl s_noteMinute)), (a3, .inl (E.2 0, 40, .inl s_noteShape))] := hV4.sub [0, 1, 2, 3] rfl rfl
  clear hV
  have J16 : ∀ (t0_6 : Int32) (H : Heap) (locs : List Loc) (ls : Array Slot), (f_X12_oneBits_J16 s_notes s_noteDay s_noteMinute s_noteShape p1 p2 p3 ) t0_6 = some (r) → kV E A s.heap H locs [(a0, .inr (12, [w0_0, w0_1, w0_2, w0_3, .int s_notes, w0_5, w0_6, w0_7, w0_8, w0_9, w0_10, w0_11, w0_12, w0_13, w0_14, w0_15, w0_16, w0_17, w0_18, w0_19, w0_20, w0_21, w0_22, w0_23, w0_24, w0_25, w0_26, w0_27, w0_28, w0_29, w0_30, w0_31, w0_32, w0_33, w0_34, w0_35, w0_36, w0_37, w0_38, w0_39, w0_40, w0_41, w0_42, w0_43, w0_44, w0_45, w0_46, w0_47, w0_48, w0_49, w0_50, w0_51, w0_52, w0_53, w0_54, w0_55, .ref a1, .ref a2, .ref a3, w0_59, w0_60, w0_61, w0_62, w0_63, w0_64, w0_65, w0_66])), (a1, .inl (E.2 0, 40, .inl s_noteDay)), (a2, .inl (E.2 0, 40, .inl s_noteMinute)), (a3, .inl (E.2 0, 40, .inl s_noteShape))] → lv_has ls 4 [(0, .ref a0), (1, .int p1), (2, .int p2), (3, .int p3)] → W p l e r_X12_oneBits s m args below meth c H locs 0 0 Q (F0 m 16 ls [.int t0_6]) := by
    intro t0_6 H locs ls hB16 hVB16 hlB16
    rw [f_X12_oneBits_J16] at hB16
    refine lv_aload_n hx hb dX12_oneBits_16 rfl (lv_at hlB16 0 rfl) ?_
    refine lv_iload_n hx hb dX12_oneBits_17 rfl (lv_at hlB16 1 rfl) ?_
    refine lv_iload_n hx hb dX12_oneBits_18 rfl (lv_at hlB16 2 rfl) ?_
    refine lv_iconst (v := 0) hx hb dX12_oneBits_19 (by decide) ?_
    refine lv_iload_n hx hb dX12_oneBits_20 rfl (lv_at hlB16 3 rfl) ?_
    obtain ⟨r21_7, hc8, h9⟩ := cb1_s hB16
    clear hB16
    refine kgoiE (krunV (rest := [.int t0_6]) X hVB16 [0, 1, 2, 3] (c_X12_isOne l E _ a0 a1 a2 a3 (w0_0) (w0_1) (w0_2) (w0_3) (w0_5) (w0_6) (w0_7) (w0_8) (w0_9) (w0_10) (w0_11) (w0_12) (w0_13) (w0_14) (w0_15) (w0_16) (w0_17) (w0_18) (w0_19) (w0_20) (w0_21) (w0_22) (w0_23) (w0_24) (w0_25) (w0_26) (w0_27) (w0_28) (w0_29) (w0_30) (w0_31) (w0_32) (w0_33) (w0_34) (w0_35) (w0_36) (w0_37) (w0_38) (w0_39) (w0_40) (w0_41) (w0_42) (w0_43) (w0_44) (w0_45) (w0_46) (w0_47) (w0_48) (w0_49) (w0_50) (w0_51) (w0_52) (w0_53) (w0_54) (w0_55) (w0_59) (w0_60) (w0_61) (w0_62) (w0_63) (w0_64) (w0_65) (w0_66) s_notes s_noteDay s_noteMinute s_noteShape p1 p2 0 p3 r21_7 hc8) mw_936 kb_X12_isOne (ci := 12) rfl rfl (by decide) rfl rfl hlB16.1 rfl (Nat.le_of_ble_eq_true rfl) dX12_oneBits_21 (by decide)) X hVB16 [0, 1, 2, 3] [] rfl rfl rfl (by decide) (fun u H locs hV10 => ?_)
    have hV10 : kV E A s.heap H locs [(a0, .inr (12, [w0_0, w0_1, w0_2, w0_3, .int s_notes, w0_5, w0_6, w0_7, w0_8, w0_9, w0_10, w0_11, w0_12, w0_13, w0_14, w0_15, w0_16, w0_17, w0_18, w0_19, w0_20, w0_21, w0_22, w0_23, w0_24, w0_25, w0_26, w0_27, w0_28, w0_29, w0_30, w0_31, w0_32, w0_33, w0_34, w0_35, w0_36, w0_37, w0_38, w0_39, w0_40, w0_41, w0_42, w0_43, w0_44, w0_45, w0_46, w0_47, w0_48, w0_49, w0_50, w0_51, w0_52, w0_53, w0_54, w0_55, .ref a1, .ref a2, .ref a3, w0_59, w0_60, w0_61, w0_62, w0_63, w0_64, w0_65, w0_66])), (a1, .inl (E.2 0, 40, .inl s_noteDay)), (a2, .inl (E.2 0, 40, .inl s_noteMinute)), (a3, .inl (E.2 0, 40, .inl s_noteShape))] := hV10.sub [0, 1, 2, 3] rfl rfl
    clear hVB16
    refine lv_if_eq (tgt := 31) hx hb dX12_oneBits_24 (by decide) (fun c12 => ?_) (fun c12 => ?_)
    · have h13 := itS c12 h9
      clear h9 c12
      refine lv_iconst (v := 0) hx hb dX12_oneBits_31 (by decide) ?_
      refine lv_iadd hx hb dX12_oneBits_32 ?_
      have q15 := tup1_s h13
      clear h13
      exact hret _ () _ _ _ _ q15 rfl hV10 dX12_oneBits_33
    · have h14 := ieS c12 h9
      clear h9 c12
      refine lv_iconst (v := 2) hx hb dX12_oneBits_27 (by decide) ?_
      refine lv_goto (tgt := 32) hx hb dX12_oneBits_28 (by decide) ?_
      refine lv_iadd hx hb dX12_oneBits_32 ?_
      have q16 := tup1_s h14
      clear h14
      exact hret _ () _ _ _ _ q16 rfl hV10 dX12_oneBits_33
  refine lv_if_eq (tgt := 15) hx hb dX12_oneBits_8 (by decide) (fun c17 => ?_) (fun c17 => ?_)
  · have h18 := itS c17 h3
    clear h3 c17
    refine lv_iconst (v := 0) hx hb dX12_oneBits_15 (by decide) ?_
    exact J16 0 _ _ _ h18 hV4 (lv_sub hl [0, 1, 2, 3] rfl)
  · have h19 := ieS c17 h3
    clear h3 c17
    refine lv_iconst (v := 1) hx hb dX12_oneBits_11 (by decide) ?_
    refine lv_goto (tgt := 16) hx hb dX12_oneBits_12 (by decide) ?_
    exact J16 1 _ _ _ h19 hV4 (lv_sub hl [0, 1, 2, 3] rfl)
abbrev r_X12_one : Room := { frames := 5, cells := 0, slots := 0, locals := 119 }
set_option maxHeartbeats 4000000 in
set_option maxRecDepth 100000 in
theorem c_X12_one (l : Launch) (E : kE) (sz : Nat) (a0 a1 a2 a3 : Nat) (w0_0 w0_1 w0_2 w0_3 w0_5 w0_6 w0_7 w0_8 w0_9 w0_10 w0_11 w0_12 w0_13 w0_14 w0_15 w0_16 w0_17 w0_18 w0_19 w0_20 w0_21 w0_22 w0_23 w0_24 w0_25 w0_26 w0_27 w0_28 w0_29 w0_30 w0_31 w0_32 w0_33 w0_34 w0_35 w0_36 w0_37 w0_38 w0_39 w0_40 w0_41 w0_42 w0_43 w0_44 w0_45 w0_46 w0_47 w0_48 w0_49 w0_50 w0_51 w0_52 w0_53 w0_54 w0_55 w0_59 w0_60 w0_61 w0_62 w0_63 w0_64 w0_65 w0_66 : Value) (s_notes : Int32) (s_noteDay : Nat → Int32) (s_noteMinute : Nat → Int32) (s_noteShape : Nat → Int32) (p1 : Int32) (p2 : Int32) (r : Int32) (h : f_X12_one s_notes s_noteDay s_noteMinute s_noteShape p1 p2 = some (r)) : kMi l yX12_one cX12_one 3 (some .int) r_X12_one [.ref a0, .int p1, .int p2] E [(a0, .inr (12, [w0_0, w0_1, w0_2, w0_3, .int s_notes, w0_5, w0_6, w0_7, w0_8, w0_9, w0_10, w0_11, w0_12, w0_13, w0_14, w0_15, w0_16, w0_17, w0_18, w0_19, w0_20, w0_21, w0_22, w0_23, w0_24, w0_25, w0_26, w0_27, w0_28, w0_29, w0_30, w0_31, w0_32, w0_33, w0_34, w0_35, w0_36, w0_37, w0_38, w0_39, w0_40, w0_41, w0_42, w0_43, w0_44, w0_45, w0_46, w0_47, w0_48, w0_49, w0_50, w0_51, w0_52, w0_53, w0_54, w0_55, .ref a1, .ref a2, .ref a3, w0_59, w0_60, w0_61, w0_62, w0_63, w0_64, w0_65, w0_66])), (a1, .inl (E.2 0, 40, .inl s_noteDay)), (a2, .inl (E.2 0, 40, .inl s_noteMinute)), (a3, .inl (E.2 0, 40, .inl s_noteShape))] sz 0 0 (fun x (_ : Unit) => x = r) (fun _ => [(a0, .inr (12, [w0_0, w0_1, w0_2, w0_3, .int s_notes, w0_5, w0_6, w0_7, w0_8, w0_9, w0_10, w0_11, w0_12, w0_13, w0_14, w0_15, w0_16, w0_17, w0_18, w0_19, w0_20, w0_21, w0_22, w0_23, w0_24, w0_25, w0_26, w0_27, w0_28, w0_29, w0_30, w0_31, w0_32, w0_33, w0_34, w0_35, w0_36, w0_37, w0_38, w0_39, w0_40, w0_41, w0_42, w0_43, w0_44, w0_45, w0_46, w0_47, w0_48, w0_49, w0_50, w0_51, w0_52, w0_53, w0_54, w0_55, .ref a1, .ref a2, .ref a3, w0_59, w0_60, w0_61, w0_62, w0_63, w0_64, w0_65, w0_66])), (a1, .inl (E.2 0, 40, .inl s_noteDay)), (a2, .inl (E.2 0, 40, .inl s_noteMinute)), (a3, .inl (E.2 0, 40, .inl s_noteShape))]) := by
  refine kmeti rfl (Nat.le_of_ble_eq_true rfl) ?_
  intro p e s m args below meth c ls A Q X hV hret hl
  have X : kC p s m c cX12_one 3 RX12 args E A := X
  have hx := X.1
  have hb := X.2.1
  have hl : lv_has ls 3 [(0, .ref a0), (1, .int p1), (2, .int p2)] := hl
  rw [f_X12_one] at h
  refine lv_iload_n hx hb dX12_one_0 rfl (lv_at hl 1 rfl) ?_
  obtain ⟨r1_1, hc2, h3⟩ := cb1_s h
  clear h
  refine kgoiE (krunS (rest := []) X hV [] (c_X12_isShape l E _ p1 r1_1 hc2) mw_921 kb_X12_isShape (by decide) rfl rfl hl.1 rfl (Nat.le_of_ble_eq_true rfl) dX12_one_1 (by decide)) X hV [] [0, 1, 2, 3] rfl rfl rfl (by decide) (fun u H locs hV4 => ?_)
  have hV4 : kV E A s.heap H locs [(a0, .inr (12, [w0_0, w0_1, w0_2, w0_3, .int s_notes, w0_5, w0_6, w0_7, w0_8, w0_9, w0_10, w0_11, w0_12, w0_13, w0_14, w0_15, w0_16, w0_17, w0_18, w0_19, w0_20, w0_21, w0_22, w0_23, w0_24, w0_25, w0_26, w0_27, w0_28, w0_29, w0_30, w0_31, w0_32, w0_33, w0_34, w0_35, w0_36, w0_37, w0_38, w0_39, w0_40, w0_41, w0_42, w0_43, w0_44, w0_45, w0_46, w0_47, w0_48, w0_49, w0_50, w0_51, w0_52, w0_53, w0_54, w0_55, .ref a1, .ref a2, .ref a3, w0_59, w0_60, w0_61, w0_62, w0_63, w0_64, w0_65, w0_66])), (a1, .inl (E.2 0, 40, .inl s_noteDay)), (a2, .inl (E.2 0, 40, .inl s_noteMinute)), (a3, .inl (E.2 0, 40, .inl s_noteShape))] := hV4.sub [0, 1, 2, 3] rfl rfl
  clear hV
  refine lv_if_eq (tgt := 38) hx hb dX12_one_4 (by decide) (fun c6 => ?_) (fun c6 => ?_)
  · have h7 := itS c6 h3
    clear h3 c6
    refine lv_iconst (v := (-1)) hx hb dX12_one_38 (by decide) ?_
    have q9 := tup1_s h7
    clear h7
    exact hret _ () _ _ _ _ q9 rfl hV4 dX12_one_39
  · have h8 := ieS c6 h3
    clear h3 c6
    refine lv_iload_n hx hb dX12_one_7 rfl (lv_at hl 2 rfl) ?_
    obtain ⟨r8_10, hc11, h12⟩ := cb1_s h8
    clear h8
    refine kgoiE (krunS (rest := []) X hV4 [] (c_X12_isWithin l E _ p2 r8_10 hc11) mw_924 kb_X12_isWithin (by decide) rfl rfl hl.1 rfl (Nat.le_of_ble_eq_true rfl) dX12_one_8 (by decide)) X hV4 [] [0, 1, 2, 3] rfl rfl rfl (by decide) (fun u H locs hV13 => ?_)
    have hV13 : kV E A s.heap H locs [(a0, .inr (12, [w0_0, w0_1, w0_2, w0_3, .int s_notes, w0_5, w0_6, w0_7, w0_8, w0_9, w0_10, w0_11, w0_12, w0_13, w0_14, w0_15, w0_16, w0_17, w0_18, w0_19, w0_20, w0_21, w0_22, w0_23, w0_24, w0_25, w0_26, w0_27, w0_28, w0_29, w0_30, w0_31, w0_32, w0_33, w0_34, w0_35, w0_36, w0_37, w0_38, w0_39, w0_40, w0_41, w0_42, w0_43, w0_44, w0_45, w0_46, w0_47, w0_48, w0_49, w0_50, w0_51, w0_52, w0_53, w0_54, w0_55, .ref a1, .ref a2, .ref a3, w0_59, w0_60, w0_61, w0_62, w0_63, w0_64, w0_65, w0_66])), (a1, .inl (E.2 0, 40, .inl s_noteDay)), (a2, .inl (E.2 0, 40, .inl s_noteMinute)), (a3, .inl (E.2 0, 40, .inl s_noteShape))] := hV13.sub [0, 1, 2, 3] rfl rfl
    clear hV4
    refine lv_if_eq (tgt := 38) hx hb dX12_one_11 (by decide) (fun c15 => ?_) (fun c15 => ?_)
    · have h16 := itS c15 h12
      clear h12 c15
      refine lv_iconst (v := (-1)) hx hb dX12_one_38 (by decide) ?_
      have q18 := tup1_s h16
      clear h16
      exact hret _ () _ _ _ _ q18 rfl hV13 dX12_one_39
    · have h17 := ieS c15 h12
      clear h12 c15
      refine lv_aload_n hx hb dX12_one_14 rfl (lv_at hl 0 rfl) ?_
      refine lv_iload_n hx hb dX12_one_15 rfl (lv_at hl 1 rfl) ?_
      refine lv_sipush (v := 400) hx hb dX12_one_16 (by decide) ?_
      obtain ⟨r19_19, hc20, h21⟩ := cb1_s h17
      clear h17
      refine kgoiE (krunV (rest := []) X hV13 [0, 1, 3] (c_X12_manyOf l E _ a0 a1 a3 (w0_0) (w0_1) (w0_2) (w0_3) (w0_5) (w0_6) (w0_7) (w0_8) (w0_9) (w0_10) (w0_11) (w0_12) (w0_13) (w0_14) (w0_15) (w0_16) (w0_17) (w0_18) (w0_19) (w0_20) (w0_21) (w0_22) (w0_23) (w0_24) (w0_25) (w0_26) (w0_27) (w0_28) (w0_29) (w0_30) (w0_31) (w0_32) (w0_33) (w0_34) (w0_35) (w0_36) (w0_37) (w0_38) (w0_39) (w0_40) (w0_41) (w0_42) (w0_43) (w0_44) (w0_45) (w0_46) (w0_47) (w0_48) (w0_49) (w0_50) (w0_51) (w0_52) (w0_53) (w0_54) (w0_55) (.ref a2) (w0_59) (w0_60) (w0_61) (w0_62) (w0_63) (w0_64) (w0_65) (w0_66) s_notes s_noteDay s_noteShape p1 400 r19_19 hc20) mw_928 kb_X12_manyOf (ci := 12) rfl rfl (by decide) rfl rfl hl.1 rfl (Nat.le_of_ble_eq_true rfl) dX12_one_19 (by decide)) X hV13 [0, 1, 3] [2] rfl rfl rfl (by decide) (fun u H locs hV22 => ?_)
      have hV22 : kV E A s.heap H locs [(a0, .inr (12, [w0_0, w0_1, w0_2, w0_3, .int s_notes, w0_5, w0_6, w0_7, w0_8, w0_9, w0_10, w0_11, w0_12, w0_13, w0_14, w0_15, w0_16, w0_17, w0_18, w0_19, w0_20, w0_21, w0_22, w0_23, w0_24, w0_25, w0_26, w0_27, w0_28, w0_29, w0_30, w0_31, w0_32, w0_33, w0_34, w0_35, w0_36, w0_37, w0_38, w0_39, w0_40, w0_41, w0_42, w0_43, w0_44, w0_45, w0_46, w0_47, w0_48, w0_49, w0_50, w0_51, w0_52, w0_53, w0_54, w0_55, .ref a1, .ref a2, .ref a3, w0_59, w0_60, w0_61, w0_62, w0_63, w0_64, w0_65, w0_66])), (a1, .inl (E.2 0, 40, .inl s_noteDay)), (a2, .inl (E.2 0, 40, .inl s_noteMinute)), (a3, .inl (E.2 0, 40, .inl s_noteShape))] := hV22.sub [1, 2, 0, 3] rfl rfl
      clear hV13
      refine lv_iconst (v := 1) hx hb dX12_one_22 (by decide) ?_
      refine lv_icmp_le (tgt := 38) hx hb dX12_one_23 (by decide) (fun c24 => ?_) (fun c24 => ?_)
      · have h25 := itS c24 h21
        clear h21 c24
        refine lv_iconst (v := (-1)) hx hb dX12_one_38 (by decide) ?_
        have q27 := tup1_s h25
        clear h25
        exact hret _ () _ _ _ _ q27 rfl hV22 dX12_one_39
      · have h26 := ieS c24 h21
        clear h21 c24
        refine lv_aload_n hx hb dX12_one_26 rfl (lv_at hl 0 rfl) ?_
        refine lv_iload_n hx hb dX12_one_27 rfl (lv_at hl 1 rfl) ?_
        refine lv_sipush (v := 400) hx hb dX12_one_28 (by decide) ?_
        refine lv_iload_n hx hb dX12_one_31 rfl (lv_at hl 2 rfl) ?_
        obtain ⟨r32_28, hc29, h30⟩ := cb1_s h26
        clear h26
        refine kgoiE (krunV (rest := []) X hV22 [0, 1, 2, 3] (c_X12_oneBits l E _ a0 a1 a2 a3 (w0_0) (w0_1) (w0_2) (w0_3) (w0_5) (w0_6) (w0_7) (w0_8) (w0_9) (w0_10) (w0_11) (w0_12) (w0_13) (w0_14) (w0_15) (w0_16) (w0_17) (w0_18) (w0_19) (w0_20) (w0_21) (w0_22) (w0_23) (w0_24) (w0_25) (w0_26) (w0_27) (w0_28) (w0_29) (w0_30) (w0_31) (w0_32) (w0_33) (w0_34) (w0_35) (w0_36) (w0_37) (w0_38) (w0_39) (w0_40) (w0_41) (w0_42) (w0_43) (w0_44) (w0_45) (w0_46) (w0_47) (w0_48) (w0_49) (w0_50) (w0_51) (w0_52) (w0_53) (w0_54) (w0_55) (w0_59) (w0_60) (w0_61) (w0_62) (w0_63) (w0_64) (w0_65) (w0_66) s_notes s_noteDay s_noteMinute s_noteShape p1 400 p2 r32_28 hc29) mw_932 kb_X12_oneBits (ci := 12) rfl rfl (by decide) rfl rfl hl.1 rfl (Nat.le_of_ble_eq_true rfl) dX12_one_32 (by decide)) X hV22 [0, 1, 2, 3] [] rfl rfl rfl (by decide) (fun u H locs hV31 => ?_)
        have hV31 : kV E A s.heap H locs [(a0, .inr (12, [w0_0, w0_1, w0_2, w0_3, .int s_notes, w0_5, w0_6, w0_7, w0_8, w0_9, w0_10, w0_11, w0_12, w0_13, w0_14, w0_15, w0_16, w0_17, w0_18, w0_19, w0_20, w0_21, w0_22, w0_23, w0_24, w0_25, w0_26, w0_27, w0_28, w0_29, w0_30, w0_31, w0_32, w0_33, w0_34, w0_35, w0_36, w0_37, w0_38, w0_39, w0_40, w0_41, w0_42, w0_43, w0_44, w0_45, w0_46, w0_47, w0_48, w0_49, w0_50, w0_51, w0_52, w0_53, w0_54, w0_55, .ref a1, .ref a2, .ref a3, w0_59, w0_60, w0_61, w0_62, w0_63, w0_64, w0_65, w0_66])), (a1, .inl (E.2 0, 40, .inl s_noteDay)), (a2, .inl (E.2 0, 40, .inl s_noteMinute)), (a3, .inl (E.2 0, 40, .inl s_noteShape))] := hV31.sub [0, 1, 2, 3] rfl rfl
        clear hV22
        refine lv_goto (tgt := 39) hx hb dX12_one_35 (by decide) ?_
        have q33 := tup1_s h30
        clear h30
        exact hret _ () _ _ _ _ q33 rfl hV31 dX12_one_39
abbrev r_X12_known : Room := { frames := 5, cells := 0, slots := 0, locals := 119 }
set_option maxHeartbeats 4000000 in
set_option maxRecDepth 100000 in
theorem c_X12_known (l : Launch) (E : kE) (sz : Nat) (a0 a1 a2 a3 : Nat) (w0_0 w0_1 w0_2 w0_3 w0_5 w0_6 w0_7 w0_8 w0_9 w0_10 w0_11 w0_12 w0_13 w0_14 w0_15 w0_16 w0_17 w0_18 w0_19 w0_20 w0_21 w0_22 w0_23 w0_24 w0_25 w0_26 w0_27 w0_28 w0_29 w0_30 w0_31 w0_32 w0_33 w0_34 w0_35 w0_36 w0_37 w0_38 w0_39 w0_40 w0_41 w0_42 w0_43 w0_44 w0_45 w0_46 w0_47 w0_48 w0_49 w0_50 w0_51 w0_52 w0_53 w0_54 w0_55 w0_59 w0_60 w0_61 w0_62 w0_63 w0_64 w0_65 w0_66 : Value) (s_notes : Int32) (s_noteDay : Nat → Int32) (s_noteMinute : Nat → Int32) (s_noteShape : Nat → Int32) (p1 : Int32) (p2 : Int32) (r : Int32) (h : f_X12_known s_notes s_noteDay s_noteMinute s_noteShape p1 p2 = some (r)) : kMi l yX12_known cX12_known 5 (some .int) r_X12_known [.ref a0, .int p1, .int p2] E [(a0, .inr (12, [w0_0, w0_1, w0_2, w0_3, .int s_notes, w0_5, w0_6, w0_7, w0_8, w0_9, w0_10, w0_11, w0_12, w0_13, w0_14, w0_15, w0_16, w0_17, w0_18, w0_19, w0_20, w0_21, w0_22, w0_23, w0_24, w0_25, w0_26, w0_27, w0_28, w0_29, w0_30, w0_31, w0_32, w0_33, w0_34, w0_35, w0_36, w0_37, w0_38, w0_39, w0_40, w0_41, w0_42, w0_43, w0_44, w0_45, w0_46, w0_47, w0_48, w0_49, w0_50, w0_51, w0_52, w0_53, w0_54, w0_55, .ref a1, .ref a2, .ref a3, w0_59, w0_60, w0_61, w0_62, w0_63, w0_64, w0_65, w0_66])), (a1, .inl (E.2 0, 40, .inl s_noteDay)), (a2, .inl (E.2 0, 40, .inl s_noteMinute)), (a3, .inl (E.2 0, 40, .inl s_noteShape))] sz 0 0 (fun x (_ : Unit) => x = r) (fun _ => [(a0, .inr (12, [w0_0, w0_1, w0_2, w0_3, .int s_notes, w0_5, w0_6, w0_7, w0_8, w0_9, w0_10, w0_11, w0_12, w0_13, w0_14, w0_15, w0_16, w0_17, w0_18, w0_19, w0_20, w0_21, w0_22, w0_23, w0_24, w0_25, w0_26, w0_27, w0_28, w0_29, w0_30, w0_31, w0_32, w0_33, w0_34, w0_35, w0_36, w0_37, w0_38, w0_39, w0_40, w0_41, w0_42, w0_43, w0_44, w0_45, w0_46, w0_47, w0_48, w0_49, w0_50, w0_51, w0_52, w0_53, w0_54, w0_55, .ref a1, .ref a2, .ref a3, w0_59, w0_60, w0_61, w0_62, w0_63, w0_64, w0_65, w0_66])), (a1, .inl (E.2 0, 40, .inl s_noteDay)), (a2, .inl (E.2 0, 40, .inl s_noteMinute)), (a3, .inl (E.2 0, 40, .inl s_noteShape))]) := by
  refine kmeti rfl (Nat.le_of_ble_eq_true rfl) ?_
  intro p e s m args below meth c ls A Q X hV hret hl
  have X : kC p s m c cX12_known 5 RX12 args E A := X
  have hx := X.1
  have hb := X.2.1
  have hl : lv_has ls 5 [(0, .ref a0), (1, .int p1), (2, .int p2)] := hl
  rw [f_X12_known] at h
  refine lv_iload_n hx hb dX12_known_0 rfl (lv_at hl 1 rfl) ?_
  obtain ⟨r1_1, hc2, h3⟩ := cb1_s h
  clear h
  refine kgoiE (krunS (rest := []) X hV [] (c_X12_isShape l E _ p1 r1_1 hc2) mw_921 kb_X12_isShape (by decide) rfl rfl hl.1 rfl (Nat.le_of_ble_eq_true rfl) dX12_known_1 (by decide)) X hV [] [0, 1, 2, 3] rfl rfl rfl (by decide) (fun u H locs hV4 => ?_)
  have hV4 : kV E A s.heap H locs [(a0, .inr (12, [w0_0, w0_1, w0_2, w0_3, .int s_notes, w0_5, w0_6, w0_7, w0_8, w0_9, w0_10, w0_11, w0_12, w0_13, w0_14, w0_15, w0_16, w0_17, w0_18, w0_19, w0_20, w0_21, w0_22, w0_23, w0_24, w0_25, w0_26, w0_27, w0_28, w0_29, w0_30, w0_31, w0_32, w0_33, w0_34, w0_35, w0_36, w0_37, w0_38, w0_39, w0_40, w0_41, w0_42, w0_43, w0_44, w0_45, w0_46, w0_47, w0_48, w0_49, w0_50, w0_51, w0_52, w0_53, w0_54, w0_55, .ref a1, .ref a2, .ref a3, w0_59, w0_60, w0_61, w0_62, w0_63, w0_64, w0_65, w0_66])), (a1, .inl (E.2 0, 40, .inl s_noteDay)), (a2, .inl (E.2 0, 40, .inl s_noteMinute)), (a3, .inl (E.2 0, 40, .inl s_noteShape))] := hV4.sub [0, 1, 2, 3] rfl rfl
  clear hV
  refine lv_if_eq (tgt := 14) hx hb dX12_known_4 (by decide) (fun c6 => ?_) (fun c6 => ?_)
  · have h7 := itS c6 h3
    clear h3 c6
    refine lv_iconst (v := (-1)) hx hb dX12_known_14 (by decide) ?_
    have q9 := tup1_s h7
    clear h7
    exact hret _ () _ _ _ _ q9 rfl hV4 dX12_known_15
  · have h8 := ieS c6 h3
    clear h3 c6
    refine lv_iload_n hx hb dX12_known_7 rfl (lv_at hl 2 rfl) ?_
    obtain ⟨r8_10, hc11, h12⟩ := cb1_s h8
    clear h8
    refine kgoiE (krunS (rest := []) X hV4 [] (c_X12_isWithin l E _ p2 r8_10 hc11) mw_924 kb_X12_isWithin (by decide) rfl rfl hl.1 rfl (Nat.le_of_ble_eq_true rfl) dX12_known_8 (by decide)) X hV4 [] [0, 1, 2, 3] rfl rfl rfl (by decide) (fun u H locs hV13 => ?_)
    have hV13 : kV E A s.heap H locs [(a0, .inr (12, [w0_0, w0_1, w0_2, w0_3, .int s_notes, w0_5, w0_6, w0_7, w0_8, w0_9, w0_10, w0_11, w0_12, w0_13, w0_14, w0_15, w0_16, w0_17, w0_18, w0_19, w0_20, w0_21, w0_22, w0_23, w0_24, w0_25, w0_26, w0_27, w0_28, w0_29, w0_30, w0_31, w0_32, w0_33, w0_34, w0_35, w0_36, w0_37, w0_38, w0_39, w0_40, w0_41, w0_42, w0_43, w0_44, w0_45, w0_46, w0_47, w0_48, w0_49, w0_50, w0_51, w0_52, w0_53, w0_54, w0_55, .ref a1, .ref a2, .ref a3, w0_59, w0_60, w0_61, w0_62, w0_63, w0_64, w0_65, w0_66])), (a1, .inl (E.2 0, 40, .inl s_noteDay)), (a2, .inl (E.2 0, 40, .inl s_noteMinute)), (a3, .inl (E.2 0, 40, .inl s_noteShape))] := hV13.sub [0, 1, 2, 3] rfl rfl
    clear hV4
    refine lv_if_ne (tgt := 16) hx hb dX12_known_11 (by decide) (fun c15 => ?_) (fun c15 => ?_)
    · have h16 := ieS c15 h12
      clear h12 c15
      refine lv_iconst (v := 0) hx hb dX12_known_16 (by decide) ?_
      refine lv_istore_n (lv' := [(3, .int 0), (0, .ref a0), (1, .int p1), (2, .int p2)]) hx hb dX12_known_17 rfl hl (by decide) rfl (fun ls hl18 => ?_)
      clear hl
      have L18 : ∀ (n18 : Nat) (x3_19 : Int32) (H : Heap) (locs : List Loc) (ls : Array Slot), (f_X12_known_L18 s_notes s_noteDay s_noteMinute s_noteShape p1 p2  n18) x3_19 = some (r) → kV E A s.heap H locs [(a0, .inr (12, [w0_0, w0_1, w0_2, w0_3, .int s_notes, w0_5, w0_6, w0_7, w0_8, w0_9, w0_10, w0_11, w0_12, w0_13, w0_14, w0_15, w0_16, w0_17, w0_18, w0_19, w0_20, w0_21, w0_22, w0_23, w0_24, w0_25, w0_26, w0_27, w0_28, w0_29, w0_30, w0_31, w0_32, w0_33, w0_34, w0_35, w0_36, w0_37, w0_38, w0_39, w0_40, w0_41, w0_42, w0_43, w0_44, w0_45, w0_46, w0_47, w0_48, w0_49, w0_50, w0_51, w0_52, w0_53, w0_54, w0_55, .ref a1, .ref a2, .ref a3, w0_59, w0_60, w0_61, w0_62, w0_63, w0_64, w0_65, w0_66])), (a1, .inl (E.2 0, 40, .inl s_noteDay)), (a2, .inl (E.2 0, 40, .inl s_noteMinute)), (a3, .inl (E.2 0, 40, .inl s_noteShape))] → lv_has ls 5 [(0, .ref a0), (1, .int p1), (2, .int p2), (3, .int x3_19)] → W p l e r_X12_known s m args below meth c H locs 0 0 Q (F0 m 18 ls []) := by
        intro n18
        induction n18 with
        | zero =>
          intro x3_19 H locs ls hB18 hVB18 hlB18
          rw [f_X12_known_L18] at hB18
          exact nomatch hB18
        | succ n18 ih18 =>
          intro x3_19 H locs ls hB18 hVB18 hlB18
          rw [f_X12_known_L18] at hB18
          refine lv_iload_n hx hb dX12_known_18 rfl (lv_at hlB18 3 rfl) ?_
          refine lv_aload_n hx hb dX12_known_19 rfl (lv_at hlB18 0 rfl) ?_
          refine kget X hVB18 (ci := 12) inlX12 rfl 0 rfl 4 (by decide) mw_899 rfl dX12_known_20 ?_
          refine lv_icmp_ge (tgt := 93) hx hb dX12_known_23 (by decide) (fun c20 => ?_) (fun c20 => ?_)
          · have h21 := itS c20 hB18
            clear hB18 c20
            refine lv_iconst (v := (-1)) hx hb dX12_known_93 (by decide) ?_
            have q23 := tup1_s h21
            clear h21
            exact hret _ () _ _ _ _ q23 rfl hVB18 dX12_known_94
          · have h22 := ieS c20 hB18
            clear hB18 c20
            refine lv_aload_n hx hb dX12_known_26 rfl (lv_at hlB18 0 rfl) ?_
            refine kget X hVB18 (ci := 12) inlX12 rfl 0 rfl 58 (by decide) mw_170 rfl dX12_known_27 ?_
            refine lv_iload_n hx hb dX12_known_30 rfl (lv_at hlB18 3 rfl) ?_
            obtain ⟨hi25, v31_24, e26, h27⟩ := rdI_s h22
            clear h22
            refine kiald X hVB18 3 rfl hi25 e26 dX12_known_31 ?_
            clear hi25 e26
            refine lv_iload_n hx hb dX12_known_32 rfl (lv_at hlB18 1 rfl) ?_
            refine lv_icmp_ne (tgt := 87) hx hb dX12_known_33 (by decide) (fun c28 => ?_) (fun c28 => ?_)
            · have h29 := ieS c28 h27
              clear h27 c28
              obtain ⟨v87_31, e32, h33⟩ := nmI_s h29
              clear h29
              refine lv_iinc (v := v87_31) (lv' := [(3, .int v87_31), (0, .ref a0), (1, .int p1), (2, .int p2)]) hx hb dX12_known_87 hlB18 (k := 3) rfl (by rw [e32]; rfl) (by decide) rfl (fun ls hl34 => ?_)
              clear hlB18 e32
              refine lv_goto (tgt := 18) hx hb dX12_known_90 (by decide) ?_
              exact ih18 v87_31 _ _ _ h33 hVB18 (lv_sub hl34 [1, 2, 3, 0] rfl)
            · have h30 := itS c28 h27
              clear h27 c28
              refine lv_aload_n hx hb dX12_known_36 rfl (lv_at hlB18 0 rfl) ?_
              refine lv_iload_n hx hb dX12_known_37 rfl (lv_at hlB18 1 rfl) ?_
              refine lv_aload_n hx hb dX12_known_38 rfl (lv_at hlB18 0 rfl) ?_
              refine kget X hVB18 (ci := 12) inlX12 rfl 0 rfl 56 (by decide) mw_168 rfl dX12_known_39 ?_
              refine lv_iload_n hx hb dX12_known_42 rfl (lv_at hlB18 3 rfl) ?_
              obtain ⟨hi36, v43_35, e37, h38⟩ := rdI_s h30
              clear h30
              refine kiald X hVB18 1 rfl hi36 e37 dX12_known_43 ?_
              clear hi36 e37
              obtain ⟨r44_39, hc40, h41⟩ := cb1_s h38
              clear h38
              refine kgoiE (krunV (rest := []) X hVB18 [0, 1, 3] (c_X12_manyOf l E _ a0 a1 a3 (w0_0) (w0_1) (w0_2) (w0_3) (w0_5) (w0_6) (w0_7) (w0_8) (w0_9) (w0_10) (w0_11) (w0_12) (w0_13) (w0_14) (w0_15) (w0_16) (w0_17) (w0_18) (w0_19) (w0_20) (w0_21) (w0_22) (w0_23) (w0_24) (w0_25) (w0_26) (w0_27) (w0_28) (w0_29) (w0_30) (w0_31) (w0_32) (w0_33) (w0_34) (w0_35) (w0_36) (w0_37) (w0_38) (w0_39) (w0_40) (w0_41) (w0_42) (w0_43) (w0_44) (w0_45) (w0_46) (w0_47) (w0_48) (w0_49) (w0_50) (w0_51) (w0_52) (w0_53) (w0_54) (w0_55) (.ref a2) (w0_59) (w0_60) (w0_61) (w0_62) (w0_63) (w0_64) (w0_65) (w0_66) s_notes s_noteDay s_noteShape p1 v43_35 r44_39 hc40) mw_928 kb_X12_manyOf (ci := 12) rfl rfl (by decide) rfl rfl hlB18.1 rfl (Nat.le_of_ble_eq_true rfl) dX12_known_44 (by decide)) X hVB18 [0, 1, 3] [2] rfl rfl rfl (by decide) (fun u H locs hV42 => ?_)
              have hV42 : kV E A s.heap H locs [(a0, .inr (12, [w0_0, w0_1, w0_2, w0_3, .int s_notes, w0_5, w0_6, w0_7, w0_8, w0_9, w0_10, w0_11, w0_12, w0_13, w0_14, w0_15, w0_16, w0_17, w0_18, w0_19, w0_20, w0_21, w0_22, w0_23, w0_24, w0_25, w0_26, w0_27, w0_28, w0_29, w0_30, w0_31, w0_32, w0_33, w0_34, w0_35, w0_36, w0_37, w0_38, w0_39, w0_40, w0_41, w0_42, w0_43, w0_44, w0_45, w0_46, w0_47, w0_48, w0_49, w0_50, w0_51, w0_52, w0_53, w0_54, w0_55, .ref a1, .ref a2, .ref a3, w0_59, w0_60, w0_61, w0_62, w0_63, w0_64, w0_65, w0_66])), (a1, .inl (E.2 0, 40, .inl s_noteDay)), (a2, .inl (E.2 0, 40, .inl s_noteMinute)), (a3, .inl (E.2 0, 40, .inl s_noteShape))] := hV42.sub [1, 2, 0, 3] rfl rfl
              clear hVB18
              refine lv_iconst (v := 2) hx hb dX12_known_47 (by decide) ?_
              refine lv_icmp_ge (tgt := 54) hx hb dX12_known_48 (by decide) (fun c44 => ?_) (fun c44 => ?_)
              · have h45 := itS c44 h41
                clear h41 c44
                refine lv_aload_n hx hb dX12_known_54 rfl (lv_at hlB18 0 rfl) ?_
                refine lv_iload_n hx hb dX12_known_55 rfl (lv_at hlB18 1 rfl) ?_
                refine lv_aload_n hx hb dX12_known_56 rfl (lv_at hlB18 0 rfl) ?_
                refine kget X hV42 (ci := 12) inlX12 rfl 0 rfl 56 (by decide) mw_168 rfl dX12_known_57 ?_
                refine lv_iload_n hx hb dX12_known_60 rfl (lv_at hlB18 3 rfl) ?_
                obtain ⟨hi48, v61_47, e49, h50⟩ := rdI_s h45
                clear h45
                refine kiald X hV42 1 rfl hi48 e49 dX12_known_61 ?_
                clear hi48 e49
                refine lv_iload_n hx hb dX12_known_62 rfl (lv_at hlB18 2 rfl) ?_
                obtain ⟨r63_51, hc52, h53⟩ := cb1_s h50
                clear h50
                refine kgoiE (krunV (rest := []) X hV42 [0, 1, 2, 3] (c_X12_oneBits l E _ a0 a1 a2 a3 (w0_0) (w0_1) (w0_2) (w0_3) (w0_5) (w0_6) (w0_7) (w0_8) (w0_9) (w0_10) (w0_11) (w0_12) (w0_13) (w0_14) (w0_15) (w0_16) (w0_17) (w0_18) (w0_19) (w0_20) (w0_21) (w0_22) (w0_23) (w0_24) (w0_25) (w0_26) (w0_27) (w0_28) (w0_29) (w0_30) (w0_31) (w0_32) (w0_33) (w0_34) (w0_35) (w0_36) (w0_37) (w0_38) (w0_39) (w0_40) (w0_41) (w0_42) (w0_43) (w0_44) (w0_45) (w0_46) (w0_47) (w0_48) (w0_49) (w0_50) (w0_51) (w0_52) (w0_53) (w0_54) (w0_55) (w0_59) (w0_60) (w0_61) (w0_62) (w0_63) (w0_64) (w0_65) (w0_66) s_notes s_noteDay s_noteMinute s_noteShape p1 v61_47 p2 r63_51 hc52) mw_932 kb_X12_oneBits (ci := 12) rfl rfl (by decide) rfl rfl hlB18.1 rfl (Nat.le_of_ble_eq_true rfl) dX12_known_63 (by decide)) X hV42 [0, 1, 2, 3] [] rfl rfl rfl (by decide) (fun u H locs hV54 => ?_)
                have hV54 : kV E A s.heap H locs [(a0, .inr (12, [w0_0, w0_1, w0_2, w0_3, .int s_notes, w0_5, w0_6, w0_7, w0_8, w0_9, w0_10, w0_11, w0_12, w0_13, w0_14, w0_15, w0_16, w0_17, w0_18, w0_19, w0_20, w0_21, w0_22, w0_23, w0_24, w0_25, w0_26, w0_27, w0_28, w0_29, w0_30, w0_31, w0_32, w0_33, w0_34, w0_35, w0_36, w0_37, w0_38, w0_39, w0_40, w0_41, w0_42, w0_43, w0_44, w0_45, w0_46, w0_47, w0_48, w0_49, w0_50, w0_51, w0_52, w0_53, w0_54, w0_55, .ref a1, .ref a2, .ref a3, w0_59, w0_60, w0_61, w0_62, w0_63, w0_64, w0_65, w0_66])), (a1, .inl (E.2 0, 40, .inl s_noteDay)), (a2, .inl (E.2 0, 40, .inl s_noteMinute)), (a3, .inl (E.2 0, 40, .inl s_noteShape))] := hV54.sub [0, 1, 2, 3] rfl rfl
                clear hV42
                refine lv_istore (lv' := [(4, .int r63_51), (0, .ref a0), (1, .int p1), (2, .int p2), (3, .int x3_19)]) hx hb dX12_known_66 hlB18 (by decide) rfl (fun ls hl56 => ?_)
                clear hlB18
                refine lv_iload hx hb dX12_known_68 (lv_at hl56 0 rfl) ?_
                refine lv_iconst (v := 1) hx hb dX12_known_70 (by decide) ?_
                refine lv_icmp_eq (tgt := 80) hx hb dX12_known_71 (by decide) (fun c57 => ?_) (fun c57 => ?_)
                · have h58 := itS c57 h53
                  clear h53 c57
                  refine lv_aload_n hx hb dX12_known_80 rfl (lv_at hl56 1 rfl) ?_
                  refine kget X hV54 (ci := 12) inlX12 rfl 0 rfl 56 (by decide) mw_168 rfl dX12_known_81 ?_
                  refine lv_iload_n hx hb dX12_known_84 rfl (lv_at hl56 4 rfl) ?_
                  obtain ⟨hi61, v85_60, e62, h63⟩ := rdI_s h58
                  clear h58
                  refine kiald X hV54 1 rfl hi61 e62 dX12_known_85 ?_
                  clear hi61 e62
                  have q64 := tup1_s h63
                  clear h63
                  exact hret _ () _ _ _ _ q64 rfl hV54 dX12_known_86
                · have h59 := ieS c57 h53
                  clear h53 c57
                  refine lv_iload hx hb dX12_known_74 (lv_at hl56 0 rfl) ?_
                  refine lv_iconst (v := 2) hx hb dX12_known_76 (by decide) ?_
                  refine lv_icmp_ne (tgt := 87) hx hb dX12_known_77 (by decide) (fun c65 => ?_) (fun c65 => ?_)
                  · have h66 := ieS c65 h59
                    clear h59 c65
                    obtain ⟨v87_68, e69, h70⟩ := nmI_s h66
                    clear h66
                    refine lv_iinc (v := v87_68) (lv' := [(3, .int v87_68), (4, .int r63_51), (0, .ref a0), (1, .int p1), (2, .int p2)]) hx hb dX12_known_87 hl56 (k := 4) rfl (by rw [e69]; rfl) (by decide) rfl (fun ls hl71 => ?_)
                    clear hl56 e69
                    refine lv_goto (tgt := 18) hx hb dX12_known_90 (by decide) ?_
                    exact ih18 v87_68 _ _ _ h70 hV54 (lv_sub hl71 [2, 3, 4, 0] rfl)
                  · have h67 := itS c65 h59
                    clear h59 c65
                    refine lv_aload_n hx hb dX12_known_80 rfl (lv_at hl56 1 rfl) ?_
                    refine kget X hV54 (ci := 12) inlX12 rfl 0 rfl 56 (by decide) mw_168 rfl dX12_known_81 ?_
                    refine lv_iload_n hx hb dX12_known_84 rfl (lv_at hl56 4 rfl) ?_
                    obtain ⟨hi73, v85_72, e74, h75⟩ := rdI_s h67
                    clear h67
                    refine kiald X hV54 1 rfl hi73 e74 dX12_known_85 ?_
                    clear hi73 e74
                    have q76 := tup1_s h75
                    clear h75
                    exact hret _ () _ _ _ _ q76 rfl hV54 dX12_known_86
              · have h46 := ieS c44 h41
                clear h41 c44
                refine lv_goto (tgt := 87) hx hb dX12_known_51 (by decide) ?_
                obtain ⟨v87_77, e78, h79⟩ := nmI_s h46
                clear h46
                refine lv_iinc (v := v87_77) (lv' := [(3, .int v87_77), (0, .ref a0), (1, .int p1), (2, .int p2)]) hx hb dX12_known_87 hlB18 (k := 3) rfl (by rw [e78]; rfl) (by decide) rfl (fun ls hl80 => ?_)
                clear hlB18 e78
                refine lv_goto (tgt := 18) hx hb dX12_known_90 (by decide) ?_
                exact ih18 v87_77 _ _ _ h79 hV42 (lv_sub hl80 [1, 2, 3, 0] rfl)
      exact L18 FU 0 _ _ _ h16 hV13 (lv_sub hl18 [1, 2, 3, 0] rfl)
    · have h17 := itS c15 h12
      clear h12 c15
      refine lv_iconst (v := (-1)) hx hb dX12_known_14 (by decide) ?_
      have q81 := tup1_s h17
      clear h17
      exact hret _ () _ _ _ _ q81 rfl hV13 dX12_known_15
abbrev r_X12_row : Room := { frames := 3, cells := 0, slots := 0, locals := 70 }
set_option maxHeartbeats 4000000 in
set_option maxRecDepth 100000 in
theorem c_X12_row (l : Launch) (E : kE) (sz : Nat) (a0 a1 a2 a3 : Nat) (w0_0 w0_1 w0_2 w0_3 w0_5 w0_6 w0_7 w0_8 w0_9 w0_10 w0_11 w0_12 w0_13 w0_14 w0_15 w0_16 w0_17 w0_18 w0_19 w0_20 w0_21 w0_22 w0_23 w0_24 w0_25 w0_26 w0_27 w0_28 w0_29 w0_30 w0_31 w0_32 w0_33 w0_34 w0_35 w0_36 w0_37 w0_38 w0_39 w0_40 w0_41 w0_42 w0_43 w0_44 w0_45 w0_46 w0_47 w0_48 w0_49 w0_50 w0_51 w0_52 w0_53 w0_54 w0_55 w0_59 w0_60 w0_61 w0_62 w0_63 w0_64 w0_65 w0_66 : Value) (s_notes : Int32) (s_noteDay : Nat → Int32) (s_noteMinute : Nat → Int32) (s_noteShape : Nat → Int32) (p1 : Int32) (p2 : Int32) (p3 : Int32) (r : Int32) (h : f_X12_row s_notes s_noteDay s_noteMinute s_noteShape p1 p2 p3 = some (r)) : kMi l yX12_row cX12_row 9 (some .int) r_X12_row [.ref a0, .int p1, .int p2, .int p3] E [(a0, .inr (12, [w0_0, w0_1, w0_2, w0_3, .int s_notes, w0_5, w0_6, w0_7, w0_8, w0_9, w0_10, w0_11, w0_12, w0_13, w0_14, w0_15, w0_16, w0_17, w0_18, w0_19, w0_20, w0_21, w0_22, w0_23, w0_24, w0_25, w0_26, w0_27, w0_28, w0_29, w0_30, w0_31, w0_32, w0_33, w0_34, w0_35, w0_36, w0_37, w0_38, w0_39, w0_40, w0_41, w0_42, w0_43, w0_44, w0_45, w0_46, w0_47, w0_48, w0_49, w0_50, w0_51, w0_52, w0_53, w0_54, w0_55, .ref a1, .ref a2, .ref a3, w0_59, w0_60, w0_61, w0_62, w0_63, w0_64, w0_65, w0_66])), (a1, .inl (E.2 0, 40, .inl s_noteDay)), (a2, .inl (E.2 0, 40, .inl s_noteMinute)), (a3, .inl (E.2 0, 40, .inl s_noteShape))] sz 0 0 (fun x (_ : Unit) => x = r) (fun _ => [(a0, .inr (12, [w0_0, w0_1, w0_2, w0_3, .int s_notes, w0_5, w0_6, w0_7, w0_8, w0_9, w0_10, w0_11, w0_12, w0_13, w0_14, w0_15, w0_16, w0_17, w0_18, w0_19, w0_20, w0_21, w0_22, w0_23, w0_24, w0_25, w0_26, w0_27, w0_28, w0_29, w0_30, w0_31, w0_32, w0_33, w0_34, w0_35, w0_36, w0_37, w0_38, w0_39, w0_40, w0_41, w0_42, w0_43, w0_44, w0_45, w0_46, w0_47, w0_48, w0_49, w0_50, w0_51, w0_52, w0_53, w0_54, w0_55, .ref a1, .ref a2, .ref a3, w0_59, w0_60, w0_61, w0_62, w0_63, w0_64, w0_65, w0_66])), (a1, .inl (E.2 0, 40, .inl s_noteDay)), (a2, .inl (E.2 0, 40, .inl s_noteMinute)), (a3, .inl (E.2 0, 40, .inl s_noteShape))]) := by
  refine kmeti rfl (Nat.le_of_ble_eq_true rfl) ?_
  intro p e s m args below meth c ls A Q X hV hret hl
  have X : kC p s m c cX12_row 9 RX12 args E A := X
  have hx := X.1
  have hb := X.2.1
  have hl : lv_has ls 9 [(0, .ref a0), (1, .int p1), (2, .int p2), (3, .int p3)] := hl
  rw [f_X12_row] at h
  refine lv_iload_n hx hb dX12_row_0 rfl (lv_at hl 1 rfl) ?_
  obtain ⟨r1_1, hc2, h3⟩ := cb1_s h
  clear h
  refine kgoiE (krunS (rest := []) X hV [] (c_X12_isShape l E _ p1 r1_1 hc2) mw_921 kb_X12_isShape (by decide) rfl rfl hl.1 rfl (Nat.le_of_ble_eq_true rfl) dX12_row_1 (by decide)) X hV [] [0, 1, 2, 3] rfl rfl rfl (by decide) (fun u H locs hV4 => ?_)
  have hV4 : kV E A s.heap H locs [(a0, .inr (12, [w0_0, w0_1, w0_2, w0_3, .int s_notes, w0_5, w0_6, w0_7, w0_8, w0_9, w0_10, w0_11, w0_12, w0_13, w0_14, w0_15, w0_16, w0_17, w0_18, w0_19, w0_20, w0_21, w0_22, w0_23, w0_24, w0_25, w0_26, w0_27, w0_28, w0_29, w0_30, w0_31, w0_32, w0_33, w0_34, w0_35, w0_36, w0_37, w0_38, w0_39, w0_40, w0_41, w0_42, w0_43, w0_44, w0_45, w0_46, w0_47, w0_48, w0_49, w0_50, w0_51, w0_52, w0_53, w0_54, w0_55, .ref a1, .ref a2, .ref a3, w0_59, w0_60, w0_61, w0_62, w0_63, w0_64, w0_65, w0_66])), (a1, .inl (E.2 0, 40, .inl s_noteDay)), (a2, .inl (E.2 0, 40, .inl s_noteMinute)), (a3, .inl (E.2 0, 40, .inl s_noteShape))] := hV4.sub [0, 1, 2, 3] rfl rfl
  clear hV
  refine lv_if_eq (tgt := 35) hx hb dX12_row_4 (by decide) (fun c6 => ?_) (fun c6 => ?_)
  · have h7 := itS c6 h3
    clear h3 c6
    refine lv_iconst (v := (-1)) hx hb dX12_row_35 (by decide) ?_
    have q9 := tup1_s h7
    clear h7
    exact hret _ () _ _ _ _ q9 rfl hV4 dX12_row_36
  · have h8 := ieS c6 h3
    clear h3 c6
    refine lv_iload_n hx hb dX12_row_7 rfl (lv_at hl 2 rfl) ?_
    obtain ⟨r8_10, hc11, h12⟩ := cb1_s h8
    clear h8
    refine kgoiE (krunS (rest := []) X hV4 [] (c_X12_isWithin l E _ p2 r8_10 hc11) mw_924 kb_X12_isWithin (by decide) rfl rfl hl.1 rfl (Nat.le_of_ble_eq_true rfl) dX12_row_8 (by decide)) X hV4 [] [0, 1, 2, 3] rfl rfl rfl (by decide) (fun u H locs hV13 => ?_)
    have hV13 : kV E A s.heap H locs [(a0, .inr (12, [w0_0, w0_1, w0_2, w0_3, .int s_notes, w0_5, w0_6, w0_7, w0_8, w0_9, w0_10, w0_11, w0_12, w0_13, w0_14, w0_15, w0_16, w0_17, w0_18, w0_19, w0_20, w0_21, w0_22, w0_23, w0_24, w0_25, w0_26, w0_27, w0_28, w0_29, w0_30, w0_31, w0_32, w0_33, w0_34, w0_35, w0_36, w0_37, w0_38, w0_39, w0_40, w0_41, w0_42, w0_43, w0_44, w0_45, w0_46, w0_47, w0_48, w0_49, w0_50, w0_51, w0_52, w0_53, w0_54, w0_55, .ref a1, .ref a2, .ref a3, w0_59, w0_60, w0_61, w0_62, w0_63, w0_64, w0_65, w0_66])), (a1, .inl (E.2 0, 40, .inl s_noteDay)), (a2, .inl (E.2 0, 40, .inl s_noteMinute)), (a3, .inl (E.2 0, 40, .inl s_noteShape))] := hV13.sub [0, 1, 2, 3] rfl rfl
    clear hV4
    refine lv_if_eq (tgt := 35) hx hb dX12_row_11 (by decide) (fun c15 => ?_) (fun c15 => ?_)
    · have h16 := itS c15 h12
      clear h12 c15
      refine lv_iconst (v := (-1)) hx hb dX12_row_35 (by decide) ?_
      have q18 := tup1_s h16
      clear h16
      exact hret _ () _ _ _ _ q18 rfl hV13 dX12_row_36
    · have h17 := ieS c15 h12
      clear h12 c15
      refine lv_iload_n hx hb dX12_row_14 rfl (lv_at hl 3 rfl) ?_
      refine lv_i2l (v := Int32.toInt64 p3) hx hb dX12_row_15 rfl ?_
      refine lv_lconst (v := 0) hx hb dX12_row_16 (by decide) ?_
      refine lv_lconst (v := 1) hx hb dX12_row_17 (by decide) ?_
      obtain ⟨r18_19, hc20, h21⟩ := cb1_s h17
      clear h17
      refine kgoiE (krunS (rest := []) X hV13 [] (c_X12_lies l E _ (Int32.toInt64 p3) 0 1 r18_19 hc20) mw_224 kb_X12_lies (by decide) rfl rfl hl.1 rfl (Nat.le_of_ble_eq_true rfl) dX12_row_18 (by decide)) X hV13 [] [0, 1, 2, 3] rfl rfl rfl (by decide) (fun u H locs hV22 => ?_)
      have hV22 : kV E A s.heap H locs [(a0, .inr (12, [w0_0, w0_1, w0_2, w0_3, .int s_notes, w0_5, w0_6, w0_7, w0_8, w0_9, w0_10, w0_11, w0_12, w0_13, w0_14, w0_15, w0_16, w0_17, w0_18, w0_19, w0_20, w0_21, w0_22, w0_23, w0_24, w0_25, w0_26, w0_27, w0_28, w0_29, w0_30, w0_31, w0_32, w0_33, w0_34, w0_35, w0_36, w0_37, w0_38, w0_39, w0_40, w0_41, w0_42, w0_43, w0_44, w0_45, w0_46, w0_47, w0_48, w0_49, w0_50, w0_51, w0_52, w0_53, w0_54, w0_55, .ref a1, .ref a2, .ref a3, w0_59, w0_60, w0_61, w0_62, w0_63, w0_64, w0_65, w0_66])), (a1, .inl (E.2 0, 40, .inl s_noteDay)), (a2, .inl (E.2 0, 40, .inl s_noteMinute)), (a3, .inl (E.2 0, 40, .inl s_noteShape))] := hV22.sub [0, 1, 2, 3] rfl rfl
      clear hV13
      refine lv_if_eq (tgt := 35) hx hb dX12_row_21 (by decide) (fun c24 => ?_) (fun c24 => ?_)
      · have h25 := itS c24 h21
        clear h21 c24
        refine lv_iconst (v := (-1)) hx hb dX12_row_35 (by decide) ?_
        have q27 := tup1_s h25
        clear h25
        exact hret _ () _ _ _ _ q27 rfl hV22 dX12_row_36
      · have h26 := ieS c24 h21
        clear h21 c24
        refine lv_aload_n hx hb dX12_row_24 rfl (lv_at hl 0 rfl) ?_
        refine lv_iload_n hx hb dX12_row_25 rfl (lv_at hl 1 rfl) ?_
        refine lv_sipush (v := 400) hx hb dX12_row_26 (by decide) ?_
        obtain ⟨r29_28, hc29, h30⟩ := cb1_s h26
        clear h26
        refine kgoiE (krunV (rest := []) X hV22 [0, 1, 3] (c_X12_manyOf l E _ a0 a1 a3 (w0_0) (w0_1) (w0_2) (w0_3) (w0_5) (w0_6) (w0_7) (w0_8) (w0_9) (w0_10) (w0_11) (w0_12) (w0_13) (w0_14) (w0_15) (w0_16) (w0_17) (w0_18) (w0_19) (w0_20) (w0_21) (w0_22) (w0_23) (w0_24) (w0_25) (w0_26) (w0_27) (w0_28) (w0_29) (w0_30) (w0_31) (w0_32) (w0_33) (w0_34) (w0_35) (w0_36) (w0_37) (w0_38) (w0_39) (w0_40) (w0_41) (w0_42) (w0_43) (w0_44) (w0_45) (w0_46) (w0_47) (w0_48) (w0_49) (w0_50) (w0_51) (w0_52) (w0_53) (w0_54) (w0_55) (.ref a2) (w0_59) (w0_60) (w0_61) (w0_62) (w0_63) (w0_64) (w0_65) (w0_66) s_notes s_noteDay s_noteShape p1 400 r29_28 hc29) mw_928 kb_X12_manyOf (ci := 12) rfl rfl (by decide) rfl rfl hl.1 rfl (Nat.le_of_ble_eq_true rfl) dX12_row_29 (by decide)) X hV22 [0, 1, 3] [2] rfl rfl rfl (by decide) (fun u H locs hV31 => ?_)
        have hV31 : kV E A s.heap H locs [(a0, .inr (12, [w0_0, w0_1, w0_2, w0_3, .int s_notes, w0_5, w0_6, w0_7, w0_8, w0_9, w0_10, w0_11, w0_12, w0_13, w0_14, w0_15, w0_16, w0_17, w0_18, w0_19, w0_20, w0_21, w0_22, w0_23, w0_24, w0_25, w0_26, w0_27, w0_28, w0_29, w0_30, w0_31, w0_32, w0_33, w0_34, w0_35, w0_36, w0_37, w0_38, w0_39, w0_40, w0_41, w0_42, w0_43, w0_44, w0_45, w0_46, w0_47, w0_48, w0_49, w0_50, w0_51, w0_52, w0_53, w0_54, w0_55, .ref a1, .ref a2, .ref a3, w0_59, w0_60, w0_61, w0_62, w0_63, w0_64, w0_65, w0_66])), (a1, .inl (E.2 0, 40, .inl s_noteDay)), (a2, .inl (E.2 0, 40, .inl s_noteMinute)), (a3, .inl (E.2 0, 40, .inl s_noteShape))] := hV31.sub [1, 2, 0, 3] rfl rfl
        clear hV22
        refine lv_if_ne (tgt := 37) hx hb dX12_row_32 (by decide) (fun c33 => ?_) (fun c33 => ?_)
        · have h34 := ieS c33 h30
          clear h30 c33
          refine lv_iconst (v := 0) hx hb dX12_row_37 (by decide) ?_
          refine lv_istore (lv' := [(4, .int 0), (0, .ref a0), (1, .int p1), (2, .int p2), (3, .int p3)]) hx hb dX12_row_38 hl (by decide) rfl (fun ls hl36 => ?_)
          clear hl
          refine lv_iconst (v := 0) hx hb dX12_row_40 (by decide) ?_
          refine lv_istore (lv' := [(5, .int 0), (4, .int 0), (0, .ref a0), (1, .int p1), (2, .int p2), (3, .int p3)]) hx hb dX12_row_41 hl36 (by decide) rfl (fun ls hl37 => ?_)
          clear hl36
          refine lv_iconst (v := 0) hx hb dX12_row_43 (by decide) ?_
          refine lv_istore (lv' := [(6, .int 0), (5, .int 0), (4, .int 0), (0, .ref a0), (1, .int p1), (2, .int p2), (3, .int p3)]) hx hb dX12_row_44 hl37 (by decide) rfl (fun ls hl38 => ?_)
          clear hl37
          have J130 : ∀ (x4_39 : Int32) (x5_40 : Int32) (H : Heap) (locs : List Loc) (ls : Array Slot), (f_X12_row_J130 p3 ) x4_39 x5_40 = some (r) → kV E A s.heap H locs [(a0, .inr (12, [w0_0, w0_1, w0_2, w0_3, .int s_notes, w0_5, w0_6, w0_7, w0_8, w0_9, w0_10, w0_11, w0_12, w0_13, w0_14, w0_15, w0_16, w0_17, w0_18, w0_19, w0_20, w0_21, w0_22, w0_23, w0_24, w0_25, w0_26, w0_27, w0_28, w0_29, w0_30, w0_31, w0_32, w0_33, w0_34, w0_35, w0_36, w0_37, w0_38, w0_39, w0_40, w0_41, w0_42, w0_43, w0_44, w0_45, w0_46, w0_47, w0_48, w0_49, w0_50, w0_51, w0_52, w0_53, w0_54, w0_55, .ref a1, .ref a2, .ref a3, w0_59, w0_60, w0_61, w0_62, w0_63, w0_64, w0_65, w0_66])), (a1, .inl (E.2 0, 40, .inl s_noteDay)), (a2, .inl (E.2 0, 40, .inl s_noteMinute)), (a3, .inl (E.2 0, 40, .inl s_noteShape))] → lv_has ls 9 [(3, .int p3), (4, .int x4_39), (5, .int x5_40)] → W p l e r_X12_row s m args below meth c H locs 0 0 Q (F0 m 130 ls []) := by
            intro x4_39 x5_40 H locs ls hB130 hVB130 hlB130
            rw [f_X12_row_J130] at hB130
            refine lv_iload_n hx hb dX12_row_130 rfl (lv_at hlB130 0 rfl) ?_
            refine lv_if_ne (tgt := 139) hx hb dX12_row_131 (by decide) (fun c41 => ?_) (fun c41 => ?_)
            · have h42 := ieS c41 hB130
              clear hB130 c41
              refine lv_iload hx hb dX12_row_139 (lv_at hlB130 2 rfl) ?_
              have q44 := tup1_s h42
              clear h42
              exact hret _ () _ _ _ _ q44 rfl hVB130 dX12_row_141
            · have h43 := itS c41 hB130
              clear hB130 c41
              refine lv_iload hx hb dX12_row_134 (lv_at hlB130 1 rfl) ?_
              refine lv_goto (tgt := 141) hx hb dX12_row_136 (by decide) ?_
              have q45 := tup1_s h43
              clear h43
              exact hret _ () _ _ _ _ q45 rfl hVB130 dX12_row_141
          have L46 : ∀ (n46 : Nat) (x4_46 : Int32) (x5_47 : Int32) (x6_48 : Int32) (H : Heap) (locs : List Loc) (ls : Array Slot), (f_X12_row_L46 s_notes s_noteDay s_noteMinute s_noteShape p1 p2 (f_X12_row_J130 p3 ) n46) x4_46 x5_47 x6_48 = some (r) → kV E A s.heap H locs [(a0, .inr (12, [w0_0, w0_1, w0_2, w0_3, .int s_notes, w0_5, w0_6, w0_7, w0_8, w0_9, w0_10, w0_11, w0_12, w0_13, w0_14, w0_15, w0_16, w0_17, w0_18, w0_19, w0_20, w0_21, w0_22, w0_23, w0_24, w0_25, w0_26, w0_27, w0_28, w0_29, w0_30, w0_31, w0_32, w0_33, w0_34, w0_35, w0_36, w0_37, w0_38, w0_39, w0_40, w0_41, w0_42, w0_43, w0_44, w0_45, w0_46, w0_47, w0_48, w0_49, w0_50, w0_51, w0_52, w0_53, w0_54, w0_55, .ref a1, .ref a2, .ref a3, w0_59, w0_60, w0_61, w0_62, w0_63, w0_64, w0_65, w0_66])), (a1, .inl (E.2 0, 40, .inl s_noteDay)), (a2, .inl (E.2 0, 40, .inl s_noteMinute)), (a3, .inl (E.2 0, 40, .inl s_noteShape))] → lv_has ls 9 [(0, .ref a0), (1, .int p1), (2, .int p2), (3, .int p3), (4, .int x4_46), (5, .int x5_47), (6, .int x6_48)] → W p l e r_X12_row s m args below meth c H locs 0 0 Q (F0 m 46 ls []) := by
            intro n46
            induction n46 with
            | zero =>
              intro x4_46 x5_47 x6_48 H locs ls hB46 hVB46 hlB46
              rw [f_X12_row_L46] at hB46
              exact nomatch hB46
            | succ n46 ih46 =>
              intro x4_46 x5_47 x6_48 H locs ls hB46 hVB46 hlB46
              rw [f_X12_row_L46] at hB46
              refine lv_iload hx hb dX12_row_46 (lv_at hlB46 6 rfl) ?_
              refine lv_aload_n hx hb dX12_row_48 rfl (lv_at hlB46 0 rfl) ?_
              refine kget X hVB46 (ci := 12) inlX12 rfl 0 rfl 4 (by decide) mw_899 rfl dX12_row_49 ?_
              refine lv_icmp_ge (tgt := 130) hx hb dX12_row_52 (by decide) (fun c49 => ?_) (fun c49 => ?_)
              · have h50 := itS c49 hB46
                clear hB46 c49
                exact J130 x4_46 x5_47 _ _ _ h50 hVB46 (lv_sub hlB46 [3, 4, 5] rfl)
              · have h51 := ieS c49 hB46
                clear hB46 c49
                refine lv_aload_n hx hb dX12_row_55 rfl (lv_at hlB46 0 rfl) ?_
                refine kget X hVB46 (ci := 12) inlX12 rfl 0 rfl 58 (by decide) mw_170 rfl dX12_row_56 ?_
                refine lv_iload hx hb dX12_row_59 (lv_at hlB46 6 rfl) ?_
                obtain ⟨hi53, v61_52, e54, h55⟩ := rdI_s h51
                clear h51
                refine kiald X hVB46 3 rfl hi53 e54 dX12_row_61 ?_
                clear hi53 e54
                refine lv_iload_n hx hb dX12_row_62 rfl (lv_at hlB46 1 rfl) ?_
                refine lv_icmp_eq (tgt := 69) hx hb dX12_row_63 (by decide) (fun c56 => ?_) (fun c56 => ?_)
                · have h57 := itS c56 h55
                  clear h55 c56
                  refine lv_aload_n hx hb dX12_row_69 rfl (lv_at hlB46 0 rfl) ?_
                  refine lv_iload hx hb dX12_row_70 (lv_at hlB46 6 rfl) ?_
                  refine lv_iconst (v := 1) hx hb dX12_row_72 (by decide) ?_
                  obtain ⟨r73_59, hc60, h61⟩ := cb1_s h57
                  clear h57
                  refine kgoiE (krunV (rest := []) X hVB46 [0, 1, 2] (c_X12_minuteBy l E _ a0 a1 a2 (w0_0) (w0_1) (w0_2) (w0_3) (.int s_notes) (w0_5) (w0_6) (w0_7) (w0_8) (w0_9) (w0_10) (w0_11) (w0_12) (w0_13) (w0_14) (w0_15) (w0_16) (w0_17) (w0_18) (w0_19) (w0_20) (w0_21) (w0_22) (w0_23) (w0_24) (w0_25) (w0_26) (w0_27) (w0_28) (w0_29) (w0_30) (w0_31) (w0_32) (w0_33) (w0_34) (w0_35) (w0_36) (w0_37) (w0_38) (w0_39) (w0_40) (w0_41) (w0_42) (w0_43) (w0_44) (w0_45) (w0_46) (w0_47) (w0_48) (w0_49) (w0_50) (w0_51) (w0_52) (w0_53) (w0_54) (w0_55) (.ref a3) (w0_59) (w0_60) (w0_61) (w0_62) (w0_63) (w0_64) (w0_65) (w0_66) s_noteDay s_noteMinute x6_48 1 r73_59 hc60) mw_940 kb_X12_minuteBy (ci := 12) rfl rfl (by decide) rfl rfl hlB46.1 rfl (Nat.le_of_ble_eq_true rfl) dX12_row_73 (by decide)) X hVB46 [0, 1, 2] [3] rfl rfl rfl (by decide) (fun u H locs hV62 => ?_)
                  have hV62 : kV E A s.heap H locs [(a0, .inr (12, [w0_0, w0_1, w0_2, w0_3, .int s_notes, w0_5, w0_6, w0_7, w0_8, w0_9, w0_10, w0_11, w0_12, w0_13, w0_14, w0_15, w0_16, w0_17, w0_18, w0_19, w0_20, w0_21, w0_22, w0_23, w0_24, w0_25, w0_26, w0_27, w0_28, w0_29, w0_30, w0_31, w0_32, w0_33, w0_34, w0_35, w0_36, w0_37, w0_38, w0_39, w0_40, w0_41, w0_42, w0_43, w0_44, w0_45, w0_46, w0_47, w0_48, w0_49, w0_50, w0_51, w0_52, w0_53, w0_54, w0_55, .ref a1, .ref a2, .ref a3, w0_59, w0_60, w0_61, w0_62, w0_63, w0_64, w0_65, w0_66])), (a1, .inl (E.2 0, 40, .inl s_noteDay)), (a2, .inl (E.2 0, 40, .inl s_noteMinute)), (a3, .inl (E.2 0, 40, .inl s_noteShape))] := hV62.sub [1, 2, 3, 0] rfl rfl
                  clear hVB46
                  refine lv_istore (lv' := [(7, .int r73_59), (0, .ref a0), (1, .int p1), (2, .int p2), (3, .int p3), (4, .int x4_46), (5, .int x5_47), (6, .int x6_48)]) hx hb dX12_row_76 hlB46 (by decide) rfl (fun ls hl64 => ?_)
                  clear hlB46
                  refine lv_aload_n hx hb dX12_row_78 rfl (lv_at hl64 1 rfl) ?_
                  refine lv_iload_n hx hb dX12_row_79 rfl (lv_at hl64 2 rfl) ?_
                  refine lv_sipush (v := 400) hx hb dX12_row_80 (by decide) ?_
                  refine lv_iconst (v := 1) hx hb dX12_row_83 (by decide) ?_
                  refine lv_iload hx hb dX12_row_84 (lv_at hl64 0 rfl) ?_
                  refine lv_iload_n hx hb dX12_row_86 rfl (lv_at hl64 3 rfl) ?_
                  obtain ⟨r87_65, hc66, h67⟩ := cb1_s h61
                  clear h61
                  refine kgoiE (krunV (rest := []) X hV62 [0, 1, 2, 3] (c_X12_onArc l E _ a0 a1 a2 a3 (w0_0) (w0_1) (w0_2) (w0_3) (w0_5) (w0_6) (w0_7) (w0_8) (w0_9) (w0_10) (w0_11) (w0_12) (w0_13) (w0_14) (w0_15) (w0_16) (w0_17) (w0_18) (w0_19) (w0_20) (w0_21) (w0_22) (w0_23) (w0_24) (w0_25) (w0_26) (w0_27) (w0_28) (w0_29) (w0_30) (w0_31) (w0_32) (w0_33) (w0_34) (w0_35) (w0_36) (w0_37) (w0_38) (w0_39) (w0_40) (w0_41) (w0_42) (w0_43) (w0_44) (w0_45) (w0_46) (w0_47) (w0_48) (w0_49) (w0_50) (w0_51) (w0_52) (w0_53) (w0_54) (w0_55) (w0_59) (w0_60) (w0_61) (w0_62) (w0_63) (w0_64) (w0_65) (w0_66) s_notes s_noteDay s_noteMinute s_noteShape p1 400 1 r73_59 p2 r87_65 hc66) mw_944 kb_X12_onArc (ci := 12) rfl rfl (by decide) rfl rfl hl64.1 rfl (Nat.le_of_ble_eq_true rfl) dX12_row_87 (by decide)) X hV62 [0, 1, 2, 3] [] rfl rfl rfl (by decide) (fun u H locs hV68 => ?_)
                  have hV68 : kV E A s.heap H locs [(a0, .inr (12, [w0_0, w0_1, w0_2, w0_3, .int s_notes, w0_5, w0_6, w0_7, w0_8, w0_9, w0_10, w0_11, w0_12, w0_13, w0_14, w0_15, w0_16, w0_17, w0_18, w0_19, w0_20, w0_21, w0_22, w0_23, w0_24, w0_25, w0_26, w0_27, w0_28, w0_29, w0_30, w0_31, w0_32, w0_33, w0_34, w0_35, w0_36, w0_37, w0_38, w0_39, w0_40, w0_41, w0_42, w0_43, w0_44, w0_45, w0_46, w0_47, w0_48, w0_49, w0_50, w0_51, w0_52, w0_53, w0_54, w0_55, .ref a1, .ref a2, .ref a3, w0_59, w0_60, w0_61, w0_62, w0_63, w0_64, w0_65, w0_66])), (a1, .inl (E.2 0, 40, .inl s_noteDay)), (a2, .inl (E.2 0, 40, .inl s_noteMinute)), (a3, .inl (E.2 0, 40, .inl s_noteShape))] := hV68.sub [0, 1, 2, 3] rfl rfl
                  clear hV62
                  refine lv_istore (lv' := [(8, .int r87_65), (7, .int r73_59), (0, .ref a0), (1, .int p1), (2, .int p2), (3, .int p3), (4, .int x4_46), (5, .int x5_47), (6, .int x6_48)]) hx hb dX12_row_90 hl64 (by decide) rfl (fun ls hl70 => ?_)
                  clear hl64
                  refine lv_iload hx hb dX12_row_92 (lv_at hl70 0 rfl) ?_
                  refine lv_iload hx hb dX12_row_94 (lv_at hl70 6 rfl) ?_
                  refine lv_icmp_lt (tgt := 124) hx hb dX12_row_96 (by decide) (fun c71 => ?_) (fun c71 => ?_)
                  · have h72 := itS c71 h67
                    clear h67 c71
                    obtain ⟨v124_74, e75, h76⟩ := nmI_s h72
                    clear h72
                    refine lv_iinc (v := v124_74) (lv' := [(6, .int v124_74), (8, .int r87_65), (7, .int r73_59), (0, .ref a0), (1, .int p1), (2, .int p2), (3, .int p3), (4, .int x4_46), (5, .int x5_47)]) hx hb dX12_row_124 hl70 (k := 8) rfl (by rw [e75]; rfl) (by decide) rfl (fun ls hl77 => ?_)
                    clear hl70 e75
                    refine lv_goto (tgt := 46) hx hb dX12_row_127 (by decide) ?_
                    exact ih46 x4_46 x5_47 v124_74 _ _ _ h76 hV68 (lv_sub hl77 [3, 4, 5, 6, 7, 8, 0] rfl)
                  · have h73 := ieS c71 h67
                    clear h67 c71
                    refine lv_iload hx hb dX12_row_99 (lv_at hl70 0 rfl) ?_
                    refine lv_iload hx hb dX12_row_101 (lv_at hl70 6 rfl) ?_
                    have J116 : ∀ (x6_78 : Int32) (H : Heap) (locs : List Loc) (ls : Array Slot), (f_X12_row_J116 r73_59 r87_65 (f_X12_row_L46 s_notes s_noteDay s_noteMinute s_noteShape p1 p2 (f_X12_row_J130 p3 ) n46)) x6_78 = some (r) → kV E A s.heap H locs [(a0, .inr (12, [w0_0, w0_1, w0_2, w0_3, .int s_notes, w0_5, w0_6, w0_7, w0_8, w0_9, w0_10, w0_11, w0_12, w0_13, w0_14, w0_15, w0_16, w0_17, w0_18, w0_19, w0_20, w0_21, w0_22, w0_23, w0_24, w0_25, w0_26, w0_27, w0_28, w0_29, w0_30, w0_31, w0_32, w0_33, w0_34, w0_35, w0_36, w0_37, w0_38, w0_39, w0_40, w0_41, w0_42, w0_43, w0_44, w0_45, w0_46, w0_47, w0_48, w0_49, w0_50, w0_51, w0_52, w0_53, w0_54, w0_55, .ref a1, .ref a2, .ref a3, w0_59, w0_60, w0_61, w0_62, w0_63, w0_64, w0_65, w0_66])), (a1, .inl (E.2 0, 40, .inl s_noteDay)), (a2, .inl (E.2 0, 40, .inl s_noteMinute)), (a3, .inl (E.2 0, 40, .inl s_noteShape))] → lv_has ls 9 [(0, .ref a0), (1, .int p1), (2, .int p2), (3, .int p3), (6, .int x6_78), (7, .int r73_59), (8, .int r87_65)] → W p l e r_X12_row s m args below meth c H locs 0 0 Q (F0 m 116 ls []) := by
                      intro x6_78 H locs ls hB116 hVB116 hlB116
                      rw [f_X12_row_J116] at hB116
                      refine lv_iload hx hb dX12_row_116 (lv_at hlB116 6 rfl) ?_
                      refine lv_istore (lv' := [(4, .int r87_65), (0, .ref a0), (1, .int p1), (2, .int p2), (3, .int p3), (6, .int x6_78), (7, .int r73_59), (8, .int r87_65)]) hx hb dX12_row_118 hlB116 (by decide) rfl (fun ls hl79 => ?_)
                      clear hlB116
                      refine lv_iload hx hb dX12_row_120 (lv_at hl79 6 rfl) ?_
                      refine lv_istore (lv' := [(5, .int r73_59), (4, .int r87_65), (0, .ref a0), (1, .int p1), (2, .int p2), (3, .int p3), (6, .int x6_78), (7, .int r73_59), (8, .int r87_65)]) hx hb dX12_row_122 hl79 (by decide) rfl (fun ls hl80 => ?_)
                      clear hl79
                      obtain ⟨v124_81, e82, h83⟩ := nmI_s hB116
                      clear hB116
                      refine lv_iinc (v := v124_81) (lv' := [(6, .int v124_81), (5, .int r73_59), (4, .int r87_65), (0, .ref a0), (1, .int p1), (2, .int p2), (3, .int p3), (7, .int r73_59), (8, .int r87_65)]) hx hb dX12_row_124 hl80 (k := 6) rfl (by rw [e82]; rfl) (by decide) rfl (fun ls hl84 => ?_)
                      clear hl80 e82
                      refine lv_goto (tgt := 46) hx hb dX12_row_127 (by decide) ?_
                      exact ih46 r87_65 r73_59 v124_81 _ _ _ h83 hVB116 (lv_sub hl84 [3, 4, 5, 6, 2, 1, 0] rfl)
                    refine lv_icmp_ne (tgt := 116) hx hb dX12_row_103 (by decide) (fun c85 => ?_) (fun c85 => ?_)
                    · have h86 := ieS c85 h73
                      clear h73 c85
                      exact J116 x6_48 _ _ _ h86 hV68 (lv_sub hl70 [2, 3, 4, 5, 8, 1, 0] rfl)
                    · have h87 := itS c85 h73
                      clear h73 c85
                      refine lv_iload hx hb dX12_row_106 (lv_at hl70 1 rfl) ?_
                      refine lv_iload hx hb dX12_row_108 (lv_at hl70 7 rfl) ?_
                      refine lv_icmp_lt (tgt := 116) hx hb dX12_row_110 (by decide) (fun c88 => ?_) (fun c88 => ?_)
                      · have h89 := itS c88 h87
                        clear h87 c88
                        exact J116 x6_48 _ _ _ h89 hV68 (lv_sub hl70 [2, 3, 4, 5, 8, 1, 0] rfl)
                      · have h90 := ieS c88 h87
                        clear h87 c88
                        refine lv_goto (tgt := 124) hx hb dX12_row_113 (by decide) ?_
                        obtain ⟨v124_91, e92, h93⟩ := nmI_s h90
                        clear h90
                        refine lv_iinc (v := v124_91) (lv' := [(6, .int v124_91), (8, .int r87_65), (7, .int r73_59), (0, .ref a0), (1, .int p1), (2, .int p2), (3, .int p3), (4, .int x4_46), (5, .int x5_47)]) hx hb dX12_row_124 hl70 (k := 8) rfl (by rw [e92]; rfl) (by decide) rfl (fun ls hl94 => ?_)
                        clear hl70 e92
                        refine lv_goto (tgt := 46) hx hb dX12_row_127 (by decide) ?_
                        exact ih46 x4_46 x5_47 v124_91 _ _ _ h93 hV68 (lv_sub hl94 [3, 4, 5, 6, 7, 8, 0] rfl)
                · have h58 := ieS c56 h55
                  clear h55 c56
                  refine lv_goto (tgt := 124) hx hb dX12_row_66 (by decide) ?_
                  obtain ⟨v124_95, e96, h97⟩ := nmI_s h58
                  clear h58
                  refine lv_iinc (v := v124_95) (lv' := [(6, .int v124_95), (0, .ref a0), (1, .int p1), (2, .int p2), (3, .int p3), (4, .int x4_46), (5, .int x5_47)]) hx hb dX12_row_124 hlB46 (k := 6) rfl (by rw [e96]; rfl) (by decide) rfl (fun ls hl98 => ?_)
                  clear hlB46 e96
                  refine lv_goto (tgt := 46) hx hb dX12_row_127 (by decide) ?_
                  exact ih46 x4_46 x5_47 v124_95 _ _ _ h97 hVB46 (lv_sub hl98 [1, 2, 3, 4, 5, 6, 0] rfl)
          exact L46 FU 0 0 0 _ _ _ h34 hV31 (lv_sub hl38 [3, 4, 5, 6, 2, 1, 0] rfl)
        · have h35 := itS c33 h30
          clear h30 c33
          refine lv_iconst (v := (-1)) hx hb dX12_row_35 (by decide) ?_
          have q99 := tup1_s h35
          clear h35
          exact hret _ () _ _ _ _ q99 rfl hV31 dX12_row_36
abbrev r_X12_blip : Room := { frames := 1, cells := 0, slots := 0, locals := 25 }
set_option maxHeartbeats 4000000 in
set_option maxRecDepth 100000 in
theorem c_X12_blip (l : Launch) (E : kE) (sz : Nat) (a0 a1 : Nat) (w0_0 w0_1 w0_2 w0_3 w0_4 w0_6 w0_7 w0_8 w0_9 w0_10 w0_11 w0_12 w0_13 w0_14 w0_15 w0_16 w0_17 w0_18 w0_19 w0_20 w0_21 w0_22 w0_23 w0_24 w0_25 w0_26 w0_27 w0_28 w0_29 w0_30 w0_31 w0_32 w0_33 w0_34 w0_35 w0_36 w0_37 w0_38 w0_39 w0_40 w0_41 w0_42 w0_43 w0_44 w0_45 w0_46 w0_47 w0_48 w0_49 w0_50 w0_51 w0_52 w0_53 w0_54 w0_55 w0_56 w0_57 w0_58 w0_60 w0_61 w0_62 w0_63 w0_64 w0_65 w0_66 : Value) (s_blips : Int32) (s_time : Nat → Int32) (p1 : Int32) (r : Int32) (o_blips : Int32) (o_time : Nat → Int32) (h : f_X12_blip s_blips s_time p1 = some (r, o_blips, o_time)) : kMi l yX12_blip cX12_blip 2 (some .int) r_X12_blip [.ref a0, .int p1] E [(a0, .inr (12, [w0_0, w0_1, w0_2, w0_3, w0_4, .int s_blips, w0_6, w0_7, w0_8, w0_9, w0_10, w0_11, w0_12, w0_13, w0_14, w0_15, w0_16, w0_17, w0_18, w0_19, w0_20, w0_21, w0_22, w0_23, w0_24, w0_25, w0_26, w0_27, w0_28, w0_29, w0_30, w0_31, w0_32, w0_33, w0_34, w0_35, w0_36, w0_37, w0_38, w0_39, w0_40, w0_41, w0_42, w0_43, w0_44, w0_45, w0_46, w0_47, w0_48, w0_49, w0_50, w0_51, w0_52, w0_53, w0_54, w0_55, w0_56, w0_57, w0_58, .ref a1, w0_60, w0_61, w0_62, w0_63, w0_64, w0_65, w0_66])), (a1, .inl (E.2 0, 40, .inl s_time))] sz 0 0 (fun x (_ : Unit) => x = r) (fun _ => [(a0, .inr (12, [w0_0, w0_1, w0_2, w0_3, w0_4, .int o_blips, w0_6, w0_7, w0_8, w0_9, w0_10, w0_11, w0_12, w0_13, w0_14, w0_15, w0_16, w0_17, w0_18, w0_19, w0_20, w0_21, w0_22, w0_23, w0_24, w0_25, w0_26, w0_27, w0_28, w0_29, w0_30, w0_31, w0_32, w0_33, w0_34, w0_35, w0_36, w0_37, w0_38, w0_39, w0_40, w0_41, w0_42, w0_43, w0_44, w0_45, w0_46, w0_47, w0_48, w0_49, w0_50, w0_51, w0_52, w0_53, w0_54, w0_55, w0_56, w0_57, w0_58, .ref a1, w0_60, w0_61, w0_62, w0_63, w0_64, w0_65, w0_66])), (a1, .inl (E.2 0, 40, .inl o_time))]) := by
  refine kmeti rfl (Nat.le_of_ble_eq_true rfl) ?_
  intro p e s m args below meth c ls A Q X hV hret hl
  have X : kC p s m c cX12_blip 2 RX12 args E A := X
  have hx := X.1
  have hb := X.2.1
  have hl : lv_has ls 2 [(0, .ref a0), (1, .int p1)] := hl
  rw [f_X12_blip] at h
  refine lv_aload_n hx hb dX12_blip_0 rfl (lv_at hl 0 rfl) ?_
  refine kget X hV (ci := 12) inlX12 rfl 0 rfl 5 (by decide) mw_991 rfl dX12_blip_1 ?_
  refine lv_bipush (v := 40) hx hb dX12_blip_4 (by decide) ?_
  refine lv_icmp_eq (tgt := 43) hx hb dX12_blip_6 (by decide) (fun c1 => ?_) (fun c1 => ?_)
  · have h2 := itS c1 h
    clear h c1
    refine lv_iconst (v := (-1)) hx hb dX12_blip_43 (by decide) ?_
    obtain ⟨q4, q5, q6⟩ := tup3_s h2
    clear h2
    exact hret _ () _ _ _ _ q4 rfl (by rw [← q5, ← q6]; exact hV) dX12_blip_44
  · have h3 := ieS c1 h
    clear h c1
    refine lv_iload_n hx hb dX12_blip_9 rfl (lv_at hl 1 rfl) ?_
    refine lv_i2l (v := Int32.toInt64 p1) hx hb dX12_blip_10 rfl ?_
    refine lv_lconst (v := 0) hx hb dX12_blip_11 (by decide) ?_
    refine lv_ldc2 (v := 1000000000) hx hb X.2.2.2.1 (X.2.2.2.2.1 _ mw_992) dX12_blip_12 ?_
    obtain ⟨r15_7, hc8, h9⟩ := cb1_s h3
    clear h3
    refine kgoiE (krunS (rest := []) X hV [] (c_X12_lies l E _ (Int32.toInt64 p1) 0 1000000000 r15_7 hc8) mw_224 kb_X12_lies (by decide) rfl rfl hl.1 rfl (Nat.le_of_ble_eq_true rfl) dX12_blip_15 (by decide)) X hV [] [0, 1] rfl rfl rfl (by decide) (fun u H locs hV10 => ?_)
    have hV10 : kV E A s.heap H locs [(a0, .inr (12, [w0_0, w0_1, w0_2, w0_3, w0_4, .int s_blips, w0_6, w0_7, w0_8, w0_9, w0_10, w0_11, w0_12, w0_13, w0_14, w0_15, w0_16, w0_17, w0_18, w0_19, w0_20, w0_21, w0_22, w0_23, w0_24, w0_25, w0_26, w0_27, w0_28, w0_29, w0_30, w0_31, w0_32, w0_33, w0_34, w0_35, w0_36, w0_37, w0_38, w0_39, w0_40, w0_41, w0_42, w0_43, w0_44, w0_45, w0_46, w0_47, w0_48, w0_49, w0_50, w0_51, w0_52, w0_53, w0_54, w0_55, w0_56, w0_57, w0_58, .ref a1, w0_60, w0_61, w0_62, w0_63, w0_64, w0_65, w0_66])), (a1, .inl (E.2 0, 40, .inl s_time))] := hV10.sub [0, 1] rfl rfl
    clear hV
    refine lv_if_eq (tgt := 43) hx hb dX12_blip_18 (by decide) (fun c12 => ?_) (fun c12 => ?_)
    · have h13 := itS c12 h9
      clear h9 c12
      refine lv_iconst (v := (-1)) hx hb dX12_blip_43 (by decide) ?_
      obtain ⟨q15, q16, q17⟩ := tup3_s h13
      clear h13
      exact hret _ () _ _ _ _ q15 rfl (by rw [← q16, ← q17]; exact hV10) dX12_blip_44
    · have h14 := ieS c12 h9
      clear h9 c12
      refine lv_aload_n hx hb dX12_blip_21 rfl (lv_at hl 0 rfl) ?_
      refine kget X hV10 (ci := 12) inlX12 rfl 0 rfl 5 (by decide) mw_991 rfl dX12_blip_22 ?_
      have J45 : ∀  (H : Heap) (locs : List Loc) (ls : Array Slot), (f_X12_blip_J45 s_blips s_time p1 ) = some (r, o_blips, o_time) → kV E A s.heap H locs [(a0, .inr (12, [w0_0, w0_1, w0_2, w0_3, w0_4, .int s_blips, w0_6, w0_7, w0_8, w0_9, w0_10, w0_11, w0_12, w0_13, w0_14, w0_15, w0_16, w0_17, w0_18, w0_19, w0_20, w0_21, w0_22, w0_23, w0_24, w0_25, w0_26, w0_27, w0_28, w0_29, w0_30, w0_31, w0_32, w0_33, w0_34, w0_35, w0_36, w0_37, w0_38, w0_39, w0_40, w0_41, w0_42, w0_43, w0_44, w0_45, w0_46, w0_47, w0_48, w0_49, w0_50, w0_51, w0_52, w0_53, w0_54, w0_55, w0_56, w0_57, w0_58, .ref a1, w0_60, w0_61, w0_62, w0_63, w0_64, w0_65, w0_66])), (a1, .inl (E.2 0, 40, .inl s_time))] → lv_has ls 2 [(0, .ref a0), (1, .int p1)] → W p l e r_X12_blip s m args below meth c H locs 0 0 Q (F0 m 45 ls []) := by
        intro  H locs ls hB45 hVB45 hlB45
        rw [f_X12_blip_J45] at hB45
        refine lv_aload_n hx hb dX12_blip_45 rfl (lv_at hlB45 0 rfl) ?_
        refine kget X hVB45 (ci := 12) inlX12 rfl 0 rfl 59 (by decide) mw_171 rfl dX12_blip_46 ?_
        refine lv_aload_n hx hb dX12_blip_49 rfl (lv_at hlB45 0 rfl) ?_
        refine kget X hVB45 (ci := 12) inlX12 rfl 0 rfl 5 (by decide) mw_991 rfl dX12_blip_50 ?_
        refine lv_iload_n hx hb dX12_blip_53 rfl (lv_at hlB45 1 rfl) ?_
        obtain ⟨hi19, g54_18, e20, h21⟩ := wrI_s hB45
        clear hB45
        refine kiast X hVB45 1 rfl hi19 e20 dX12_blip_54 (fun H locs hV22 => ?_)
        have hV22 : kV E A s.heap H locs [(a0, .inr (12, [w0_0, w0_1, w0_2, w0_3, w0_4, .int s_blips, w0_6, w0_7, w0_8, w0_9, w0_10, w0_11, w0_12, w0_13, w0_14, w0_15, w0_16, w0_17, w0_18, w0_19, w0_20, w0_21, w0_22, w0_23, w0_24, w0_25, w0_26, w0_27, w0_28, w0_29, w0_30, w0_31, w0_32, w0_33, w0_34, w0_35, w0_36, w0_37, w0_38, w0_39, w0_40, w0_41, w0_42, w0_43, w0_44, w0_45, w0_46, w0_47, w0_48, w0_49, w0_50, w0_51, w0_52, w0_53, w0_54, w0_55, w0_56, w0_57, w0_58, .ref a1, w0_60, w0_61, w0_62, w0_63, w0_64, w0_65, w0_66])), (a1, .inl (E.2 0, 40, .inl g54_18))] := hV22
        clear hVB45 hi19 e20
        refine lv_aload_n hx hb dX12_blip_55 rfl (lv_at hlB45 0 rfl) ?_
        refine lv_dup hx hb dX12_blip_56 rfl ?_
        refine kget X hV22 (ci := 12) inlX12 rfl 0 rfl 5 (by decide) mw_991 rfl dX12_blip_57 ?_
        refine lv_iconst (v := 1) hx hb dX12_blip_60 (by decide) ?_
        refine lv_iadd hx hb dX12_blip_61 ?_
        obtain ⟨v62_23, e24, h25⟩ := nmI_s h21
        clear h21
        refine ktopi e24 ?_
        clear e24
        refine kput X hV22 (ci := 12) inlX12 rfl tyX12 tyX12_ok nmX12 0 rfl 5 (by decide) mw_991 rfl rfl rfl (Nat.le_of_ble_eq_true rfl) dX12_blip_62 (fun H locs hV26 => ?_)
        have hV26 : kV E A s.heap H locs [(a0, .inr (12, [w0_0, w0_1, w0_2, w0_3, w0_4, .int v62_23, w0_6, w0_7, w0_8, w0_9, w0_10, w0_11, w0_12, w0_13, w0_14, w0_15, w0_16, w0_17, w0_18, w0_19, w0_20, w0_21, w0_22, w0_23, w0_24, w0_25, w0_26, w0_27, w0_28, w0_29, w0_30, w0_31, w0_32, w0_33, w0_34, w0_35, w0_36, w0_37, w0_38, w0_39, w0_40, w0_41, w0_42, w0_43, w0_44, w0_45, w0_46, w0_47, w0_48, w0_49, w0_50, w0_51, w0_52, w0_53, w0_54, w0_55, w0_56, w0_57, w0_58, .ref a1, w0_60, w0_61, w0_62, w0_63, w0_64, w0_65, w0_66])), (a1, .inl (E.2 0, 40, .inl g54_18))] := hV26
        clear hV22
        refine lv_aload_n hx hb dX12_blip_65 rfl (lv_at hlB45 0 rfl) ?_
        refine kget X hV26 (ci := 12) inlX12 rfl 0 rfl 5 (by decide) mw_991 rfl dX12_blip_66 ?_
        refine lv_iconst (v := 1) hx hb dX12_blip_69 (by decide) ?_
        refine lv_isub hx hb dX12_blip_70 ?_
        obtain ⟨q27, q28, q29⟩ := tup3_s h25
        clear h25
        exact hret _ () _ _ _ _ q27 rfl (by rw [← q28, ← q29]; exact hV26) dX12_blip_71
      refine lv_if_le (tgt := 45) hx hb dX12_blip_25 (by decide) (fun c30 => ?_) (fun c30 => ?_)
      · have h31 := itS c30 h14
        clear h14 c30
        exact J45  _ _ _ h31 hV10 (lv_sub hl [0, 1] rfl)
      · have h32 := ieS c30 h14
        clear h14 c30
        refine lv_iload_n hx hb dX12_blip_28 rfl (lv_at hl 1 rfl) ?_
        refine lv_aload_n hx hb dX12_blip_29 rfl (lv_at hl 0 rfl) ?_
        refine kget X hV10 (ci := 12) inlX12 rfl 0 rfl 59 (by decide) mw_171 rfl dX12_blip_30 ?_
        refine lv_aload_n hx hb dX12_blip_33 rfl (lv_at hl 0 rfl) ?_
        refine kget X hV10 (ci := 12) inlX12 rfl 0 rfl 5 (by decide) mw_991 rfl dX12_blip_34 ?_
        refine lv_iconst (v := 1) hx hb dX12_blip_37 (by decide) ?_
        refine lv_isub hx hb dX12_blip_38 ?_
        obtain ⟨hi34, v39_33, e35, h36⟩ := rdI_s h32
        clear h32
        refine kiald X hV10 1 rfl hi34 e35 dX12_blip_39 ?_
        clear hi34 e35
        refine lv_icmp_gt (tgt := 45) hx hb dX12_blip_40 (by decide) (fun c37 => ?_) (fun c37 => ?_)
        · have h38 := itS c37 h36
          clear h36 c37
          exact J45  _ _ _ h38 hV10 (lv_sub hl [0, 1] rfl)
        · have h39 := ieS c37 h36
          clear h36 c37
          refine lv_iconst (v := (-1)) hx hb dX12_blip_43 (by decide) ?_
          obtain ⟨q40, q41, q42⟩ := tup3_s h39
          clear h39
          exact hret _ () _ _ _ _ q40 rfl (by rw [← q41, ← q42]; exact hV10) dX12_blip_44
abbrev r_X12_isFit : Room := { frames := 0, cells := 0, slots := 0, locals := 0 }
set_option maxHeartbeats 4000000 in
set_option maxRecDepth 100000 in
theorem c_X12_isFit (l : Launch) (E : kE) (sz : Nat) (a0 a1 : Nat) (w0_0 w0_1 w0_2 w0_3 w0_4 w0_6 w0_7 w0_8 w0_9 w0_10 w0_11 w0_12 w0_13 w0_14 w0_15 w0_16 w0_17 w0_18 w0_19 w0_20 w0_21 w0_22 w0_23 w0_24 w0_25 w0_26 w0_27 w0_28 w0_29 w0_30 w0_31 w0_32 w0_33 w0_34 w0_35 w0_36 w0_37 w0_38 w0_39 w0_40 w0_41 w0_42 w0_43 w0_44 w0_45 w0_46 w0_47 w0_48 w0_49 w0_50 w0_51 w0_52 w0_53 w0_54 w0_55 w0_56 w0_57 w0_58 w0_60 w0_61 w0_62 w0_63 w0_64 w0_65 w0_66 : Value) (s_blips : Int32) (s_time : Nat → Int32) (p1 : Int32) (p2 : Int32) (r : Int32) (h : f_X12_isFit s_blips s_time p1 p2 = some (r)) : kMi l yX12_isFit cX12_isFit 6 (some .boolean) r_X12_isFit [.ref a0, .int p1, .int p2] E [(a0, .inr (12, [w0_0, w0_1, w0_2, w0_3, w0_4, .int s_blips, w0_6, w0_7, w0_8, w0_9, w0_10, w0_11, w0_12, w0_13, w0_14, w0_15, w0_16, w0_17, w0_18, w0_19, w0_20, w0_21, w0_22, w0_23, w0_24, w0_25, w0_26, w0_27, w0_28, w0_29, w0_30, w0_31, w0_32, w0_33, w0_34, w0_35, w0_36, w0_37, w0_38, w0_39, w0_40, w0_41, w0_42, w0_43, w0_44, w0_45, w0_46, w0_47, w0_48, w0_49, w0_50, w0_51, w0_52, w0_53, w0_54, w0_55, w0_56, w0_57, w0_58, .ref a1, w0_60, w0_61, w0_62, w0_63, w0_64, w0_65, w0_66])), (a1, .inl (E.2 0, 40, .inl s_time))] sz 0 0 (fun x (_ : Unit) => x = r) (fun _ => [(a0, .inr (12, [w0_0, w0_1, w0_2, w0_3, w0_4, .int s_blips, w0_6, w0_7, w0_8, w0_9, w0_10, w0_11, w0_12, w0_13, w0_14, w0_15, w0_16, w0_17, w0_18, w0_19, w0_20, w0_21, w0_22, w0_23, w0_24, w0_25, w0_26, w0_27, w0_28, w0_29, w0_30, w0_31, w0_32, w0_33, w0_34, w0_35, w0_36, w0_37, w0_38, w0_39, w0_40, w0_41, w0_42, w0_43, w0_44, w0_45, w0_46, w0_47, w0_48, w0_49, w0_50, w0_51, w0_52, w0_53, w0_54, w0_55, w0_56, w0_57, w0_58, .ref a1, w0_60, w0_61, w0_62, w0_63, w0_64, w0_65, w0_66])), (a1, .inl (E.2 0, 40, .inl s_time))]) := by
  refine kmeti rfl (Nat.le_of_ble_eq_true rfl) ?_
  intro p e s m args below meth c ls A Q X hV hret hl
  have X : kC p s m c cX12_isFit 6 RX12 args E A := X
  have hx := X.1
  have hb := X.2.1
  have hl : lv_has ls 6 [(0, .ref a0), (1, .int p1), (2, .int p2)] := hl
  rw [f_X12_isFit] at h
  refine lv_iconst (v := 0) hx hb dX12_isFit_0 (by decide) ?_
  refine lv_istore_n (lv' := [(3, .int 0), (0, .ref a0), (1, .int p1), (2, .int p2)]) hx hb dX12_isFit_1 rfl hl (by decide) rfl (fun ls hl1 => ?_)
  clear hl
  have L2 : ∀ (n2 : Nat) (x3_2 : Int32) (H : Heap) (locs : List Loc) (ls : Array Slot), (f_X12_isFit_L2 s_blips s_time p1 p2  n2) x3_2 = some (r) → kV E A s.heap H locs [(a0, .inr (12, [w0_0, w0_1, w0_2, w0_3, w0_4, .int s_blips, w0_6, w0_7, w0_8, w0_9, w0_10, w0_11, w0_12, w0_13, w0_14, w0_15, w0_16, w0_17, w0_18, w0_19, w0_20, w0_21, w0_22, w0_23, w0_24, w0_25, w0_26, w0_27, w0_28, w0_29, w0_30, w0_31, w0_32, w0_33, w0_34, w0_35, w0_36, w0_37, w0_38, w0_39, w0_40, w0_41, w0_42, w0_43, w0_44, w0_45, w0_46, w0_47, w0_48, w0_49, w0_50, w0_51, w0_52, w0_53, w0_54, w0_55, w0_56, w0_57, w0_58, .ref a1, w0_60, w0_61, w0_62, w0_63, w0_64, w0_65, w0_66])), (a1, .inl (E.2 0, 40, .inl s_time))] → lv_has ls 6 [(0, .ref a0), (1, .int p1), (2, .int p2), (3, .int x3_2)] → W p l e r_X12_isFit s m args below meth c H locs 0 0 Q (F0 m 2 ls []) := by
    intro n2
    induction n2 with
    | zero =>
      intro x3_2 H locs ls hB2 hVB2 hlB2
      rw [f_X12_isFit_L2] at hB2
      exact nomatch hB2
    | succ n2 ih2 =>
      intro x3_2 H locs ls hB2 hVB2 hlB2
      rw [f_X12_isFit_L2] at hB2
      refine lv_iload_n hx hb dX12_isFit_2 rfl (lv_at hlB2 3 rfl) ?_
      refine lv_aload_n hx hb dX12_isFit_3 rfl (lv_at hlB2 0 rfl) ?_
      refine kget X hVB2 (ci := 12) inlX12 rfl 0 rfl 5 (by decide) mw_991 rfl dX12_isFit_4 ?_
      refine lv_icmp_ge (tgt := 86) hx hb dX12_isFit_7 (by decide) (fun c3 => ?_) (fun c3 => ?_)
      · have h4 := itS c3 hB2
        clear hB2 c3
        refine lv_iconst (v := 0) hx hb dX12_isFit_86 (by decide) ?_
        have q6 := tup1_s h4
        clear h4
        exact hret _ () _ _ _ _ q6 rfl hVB2 dX12_isFit_87
      · have h5 := ieS c3 hB2
        clear hB2 c3
        refine lv_iconst (v := 0) hx hb dX12_isFit_10 (by decide) ?_
        refine lv_istore (lv' := [(4, .int 0), (0, .ref a0), (1, .int p1), (2, .int p2), (3, .int x3_2)]) hx hb dX12_isFit_11 hlB2 (by decide) rfl (fun ls hl7 => ?_)
        clear hlB2
        refine lv_iconst (v := 0) hx hb dX12_isFit_13 (by decide) ?_
        refine lv_istore (lv' := [(5, .int 0), (4, .int 0), (0, .ref a0), (1, .int p1), (2, .int p2), (3, .int x3_2)]) hx hb dX12_isFit_14 hl7 (by decide) rfl (fun ls hl8 => ?_)
        clear hl7
        have J69 : ∀ (x4_9 : Int32) (H : Heap) (locs : List Loc) (ls : Array Slot), (f_X12_isFit_J69 s_blips x3_2 (f_X12_isFit_L2 s_blips s_time p1 p2  n2)) x4_9 = some (r) → kV E A s.heap H locs [(a0, .inr (12, [w0_0, w0_1, w0_2, w0_3, w0_4, .int s_blips, w0_6, w0_7, w0_8, w0_9, w0_10, w0_11, w0_12, w0_13, w0_14, w0_15, w0_16, w0_17, w0_18, w0_19, w0_20, w0_21, w0_22, w0_23, w0_24, w0_25, w0_26, w0_27, w0_28, w0_29, w0_30, w0_31, w0_32, w0_33, w0_34, w0_35, w0_36, w0_37, w0_38, w0_39, w0_40, w0_41, w0_42, w0_43, w0_44, w0_45, w0_46, w0_47, w0_48, w0_49, w0_50, w0_51, w0_52, w0_53, w0_54, w0_55, w0_56, w0_57, w0_58, .ref a1, w0_60, w0_61, w0_62, w0_63, w0_64, w0_65, w0_66])), (a1, .inl (E.2 0, 40, .inl s_time))] → lv_has ls 6 [(0, .ref a0), (1, .int p1), (2, .int p2), (3, .int x3_2), (4, .int x4_9)] → W p l e r_X12_isFit s m args below meth c H locs 0 0 Q (F0 m 69 ls []) := by
          intro x4_9 H locs ls hB69 hVB69 hlB69
          rw [f_X12_isFit_J69] at hB69
          refine lv_iload hx hb dX12_isFit_69 (lv_at hlB69 4 rfl) ?_
          refine lv_aload_n hx hb dX12_isFit_71 rfl (lv_at hlB69 0 rfl) ?_
          refine kget X hVB69 (ci := 12) inlX12 rfl 0 rfl 5 (by decide) mw_991 rfl dX12_isFit_72 ?_
          refine lv_icmp_ne (tgt := 80) hx hb dX12_isFit_75 (by decide) (fun c10 => ?_) (fun c10 => ?_)
          · have h11 := ieS c10 hB69
            clear hB69 c10
            obtain ⟨v80_13, e14, h15⟩ := nmI_s h11
            clear h11
            refine lv_iinc (v := v80_13) (lv' := [(3, .int v80_13), (0, .ref a0), (1, .int p1), (2, .int p2), (4, .int x4_9)]) hx hb dX12_isFit_80 hlB69 (k := 3) rfl (by rw [e14]; rfl) (by decide) rfl (fun ls hl16 => ?_)
            clear hlB69 e14
            refine lv_goto (tgt := 2) hx hb dX12_isFit_83 (by decide) ?_
            exact ih2 v80_13 _ _ _ h15 hVB69 (lv_sub hl16 [1, 2, 3, 0] rfl)
          · have h12 := itS c10 hB69
            clear hB69 c10
            refine lv_iconst (v := 1) hx hb dX12_isFit_78 (by decide) ?_
            have q17 := tup1_s h12
            clear h12
            exact hret _ () _ _ _ _ q17 rfl hVB69 dX12_isFit_79
        have L16 : ∀ (n16 : Nat) (x4_18 : Int32) (x5_19 : Int32) (H : Heap) (locs : List Loc) (ls : Array Slot), (f_X12_isFit_L16 s_blips s_time p1 p2 x3_2 (f_X12_isFit_J69 s_blips x3_2 (f_X12_isFit_L2 s_blips s_time p1 p2  n2)) n16) x4_18 x5_19 = some (r) → kV E A s.heap H locs [(a0, .inr (12, [w0_0, w0_1, w0_2, w0_3, w0_4, .int s_blips, w0_6, w0_7, w0_8, w0_9, w0_10, w0_11, w0_12, w0_13, w0_14, w0_15, w0_16, w0_17, w0_18, w0_19, w0_20, w0_21, w0_22, w0_23, w0_24, w0_25, w0_26, w0_27, w0_28, w0_29, w0_30, w0_31, w0_32, w0_33, w0_34, w0_35, w0_36, w0_37, w0_38, w0_39, w0_40, w0_41, w0_42, w0_43, w0_44, w0_45, w0_46, w0_47, w0_48, w0_49, w0_50, w0_51, w0_52, w0_53, w0_54, w0_55, w0_56, w0_57, w0_58, .ref a1, w0_60, w0_61, w0_62, w0_63, w0_64, w0_65, w0_66])), (a1, .inl (E.2 0, 40, .inl s_time))] → lv_has ls 6 [(0, .ref a0), (1, .int p1), (2, .int p2), (3, .int x3_2), (4, .int x4_18), (5, .int x5_19)] → W p l e r_X12_isFit s m args below meth c H locs 0 0 Q (F0 m 16 ls []) := by
          intro n16
          induction n16 with
          | zero =>
            intro x4_18 x5_19 H locs ls hB16 hVB16 hlB16
            rw [f_X12_isFit_L16] at hB16
            exact nomatch hB16
          | succ n16 ih16 =>
            intro x4_18 x5_19 H locs ls hB16 hVB16 hlB16
            rw [f_X12_isFit_L16] at hB16
            refine lv_iload hx hb dX12_isFit_16 (lv_at hlB16 5 rfl) ?_
            refine lv_aload_n hx hb dX12_isFit_18 rfl (lv_at hlB16 0 rfl) ?_
            refine kget X hVB16 (ci := 12) inlX12 rfl 0 rfl 5 (by decide) mw_991 rfl dX12_isFit_19 ?_
            refine lv_icmp_ge (tgt := 69) hx hb dX12_isFit_22 (by decide) (fun c20 => ?_) (fun c20 => ?_)
            · have h21 := itS c20 hB16
              clear hB16 c20
              exact J69 x4_18 _ _ _ h21 hVB16 (lv_sub hlB16 [0, 1, 2, 3, 4] rfl)
            · have h22 := ieS c20 hB16
              clear hB16 c20
              refine lv_iload hx hb dX12_isFit_25 (lv_at hlB16 4 rfl) ?_
              refine lv_aload_n hx hb dX12_isFit_27 rfl (lv_at hlB16 0 rfl) ?_
              refine kget X hVB16 (ci := 12) inlX12 rfl 0 rfl 59 (by decide) mw_171 rfl dX12_isFit_28 ?_
              refine lv_iload hx hb dX12_isFit_31 (lv_at hlB16 5 rfl) ?_
              obtain ⟨hi24, v33_23, e25, h26⟩ := rdI_s h22
              clear h22
              refine kiald X hVB16 1 rfl hi24 e25 dX12_isFit_33 ?_
              clear hi24 e25
              refine lv_iload_n hx hb dX12_isFit_34 rfl (lv_at hlB16 1 rfl) ?_
              obtain ⟨hn27, h28⟩ := dvI_s h26
              clear h26
              refine lv_irem hx hb dX12_isFit_35 hn27 ?_
              refine lv_aload_n hx hb dX12_isFit_36 rfl (lv_at hlB16 0 rfl) ?_
              refine kget X hVB16 (ci := 12) inlX12 rfl 0 rfl 59 (by decide) mw_171 rfl dX12_isFit_37 ?_
              refine lv_iload_n hx hb dX12_isFit_40 rfl (lv_at hlB16 3 rfl) ?_
              obtain ⟨hi30, v41_29, e31, h32⟩ := rdI_s h28
              clear h28
              refine kiald X hVB16 1 rfl hi30 e31 dX12_isFit_41 ?_
              clear hi30 e31
              refine lv_iload_n hx hb dX12_isFit_42 rfl (lv_at hlB16 1 rfl) ?_
              obtain ⟨hn33, h34⟩ := dvI_s h32
              clear h32
              refine lv_irem hx hb dX12_isFit_43 hn33 ?_
              refine lv_isub hx hb dX12_isFit_44 ?_
              refine lv_iload_n hx hb dX12_isFit_45 rfl (lv_at hlB16 1 rfl) ?_
              refine lv_iadd hx hb dX12_isFit_46 ?_
              refine lv_iload_n hx hb dX12_isFit_47 rfl (lv_at hlB16 1 rfl) ?_
              obtain ⟨hn35, h36⟩ := dvI_s h34
              clear h34
              refine lv_irem hx hb dX12_isFit_48 hn35 ?_
              refine lv_iconst (v := 2) hx hb dX12_isFit_49 (by decide) ?_
              refine lv_iload_n hx hb dX12_isFit_50 rfl (lv_at hlB16 2 rfl) ?_
              refine lv_imul hx hb dX12_isFit_51 ?_
              refine lv_icmp_gt (tgt := 59) hx hb dX12_isFit_52 (by decide) (fun c37 => ?_) (fun c37 => ?_)
              · have h38 := itS c37 h36
                clear h36 c37
                refine lv_iconst (v := 0) hx hb dX12_isFit_59 (by decide) ?_
                refine lv_iadd hx hb dX12_isFit_60 ?_
                obtain ⟨v61_40, e41, h42⟩ := nmI_s h38
                clear h38
                refine ktopi e41 ?_
                clear e41
                refine lv_istore (lv' := [(4, .int v61_40), (0, .ref a0), (1, .int p1), (2, .int p2), (3, .int x3_2), (5, .int x5_19)]) hx hb dX12_isFit_61 hlB16 (by decide) rfl (fun ls hl43 => ?_)
                clear hlB16
                obtain ⟨v63_44, e45, h46⟩ := nmI_s h42
                clear h42
                refine lv_iinc (v := v63_44) (lv' := [(5, .int v63_44), (4, .int v61_40), (0, .ref a0), (1, .int p1), (2, .int p2), (3, .int x3_2)]) hx hb dX12_isFit_63 hl43 (k := 5) rfl (by rw [e45]; rfl) (by decide) rfl (fun ls hl47 => ?_)
                clear hl43 e45
                refine lv_goto (tgt := 16) hx hb dX12_isFit_66 (by decide) ?_
                exact ih16 v61_40 v63_44 _ _ _ h46 hVB16 (lv_sub hl47 [2, 3, 4, 5, 1, 0] rfl)
              · have h39 := ieS c37 h36
                clear h36 c37
                refine lv_iconst (v := 1) hx hb dX12_isFit_55 (by decide) ?_
                refine lv_goto (tgt := 60) hx hb dX12_isFit_56 (by decide) ?_
                refine lv_iadd hx hb dX12_isFit_60 ?_
                obtain ⟨v61_48, e49, h50⟩ := nmI_s h39
                clear h39
                refine ktopi e49 ?_
                clear e49
                refine lv_istore (lv' := [(4, .int v61_48), (0, .ref a0), (1, .int p1), (2, .int p2), (3, .int x3_2), (5, .int x5_19)]) hx hb dX12_isFit_61 hlB16 (by decide) rfl (fun ls hl51 => ?_)
                clear hlB16
                obtain ⟨v63_52, e53, h54⟩ := nmI_s h50
                clear h50
                refine lv_iinc (v := v63_52) (lv' := [(5, .int v63_52), (4, .int v61_48), (0, .ref a0), (1, .int p1), (2, .int p2), (3, .int x3_2)]) hx hb dX12_isFit_63 hl51 (k := 5) rfl (by rw [e53]; rfl) (by decide) rfl (fun ls hl55 => ?_)
                clear hl51 e53
                refine lv_goto (tgt := 16) hx hb dX12_isFit_66 (by decide) ?_
                exact ih16 v61_48 v63_52 _ _ _ h54 hVB16 (lv_sub hl55 [2, 3, 4, 5, 1, 0] rfl)
        exact L16 FU 0 0 _ _ _ h5 hVB2 (lv_sub hl8 [2, 3, 4, 5, 1, 0] rfl)
  exact L2 FU 0 _ _ _ h hV (lv_sub hl1 [1, 2, 3, 0] rfl)
abbrev r_X12_isBeat : Room := { frames := 1, cells := 0, slots := 0, locals := 25 }
set_option maxHeartbeats 4000000 in
set_option maxRecDepth 100000 in
theorem c_X12_isBeat (l : Launch) (E : kE) (sz : Nat) (p1 : Int32) (r : Int32) (h : f_X12_isBeat p1 = some (r)) : kMi l yX12_isBeat cX12_isBeat 1 (some .boolean) r_X12_isBeat [.int p1] E [] sz 0 0 (fun x (_ : Unit) => x = r) (fun _ => []) := by
  refine kmeti rfl (Nat.le_of_ble_eq_true rfl) ?_
  intro p e s m args below meth c ls A Q X hV hret hl
  have X : kC p s m c cX12_isBeat 1 RX12 args E A := X
  have hx := X.1
  have hb := X.2.1
  have hl : lv_has ls 1 [(0, .int p1)] := hl
  rw [f_X12_isBeat] at h
  refine lv_iload_n hx hb dX12_isBeat_0 rfl (lv_at hl 0 rfl) ?_
  refine lv_i2l (v := Int32.toInt64 p1) hx hb dX12_isBeat_1 rfl ?_
  refine lv_lconst (v := 1) hx hb dX12_isBeat_2 (by decide) ?_
  refine lv_ldc2 (v := 1000000) hx hb X.2.2.2.1 (X.2.2.2.2.1 _ mw_1014) dX12_isBeat_3 ?_
  obtain ⟨r6_1, hc2, h3⟩ := cb1_s h
  clear h
  refine kgoiE (krunS (rest := []) X hV [] (c_X12_lies l E _ (Int32.toInt64 p1) 1 1000000 r6_1 hc2) mw_224 kb_X12_lies (by decide) rfl rfl hl.1 rfl (Nat.le_of_ble_eq_true rfl) dX12_isBeat_6 (by decide)) X hV [] [] rfl rfl rfl (by decide) (fun u H locs hV4 => ?_)
  have hV4 : kV E A s.heap H locs [] := hV4.sub [] rfl rfl
  clear hV
  obtain ⟨hb6, h7⟩ := bo_s h3
  clear h3
  have q8 := tup1_s h7
  clear h7
  exact hret _ () _ _ _ _ q8 hb6 hV4 dX12_isBeat_9
abbrev r_X12_fits : Room := { frames := 2, cells := 0, slots := 0, locals := 45 }
set_option maxHeartbeats 4000000 in
set_option maxRecDepth 100000 in
theorem c_X12_fits (l : Launch) (E : kE) (sz : Nat) (a0 a1 : Nat) (w0_0 w0_1 w0_2 w0_3 w0_4 w0_6 w0_7 w0_8 w0_9 w0_10 w0_11 w0_12 w0_13 w0_14 w0_15 w0_16 w0_17 w0_18 w0_19 w0_20 w0_21 w0_22 w0_23 w0_24 w0_25 w0_26 w0_27 w0_28 w0_29 w0_30 w0_31 w0_32 w0_33 w0_34 w0_35 w0_36 w0_37 w0_38 w0_39 w0_40 w0_41 w0_42 w0_43 w0_44 w0_45 w0_46 w0_47 w0_48 w0_49 w0_50 w0_51 w0_52 w0_53 w0_54 w0_55 w0_56 w0_57 w0_58 w0_60 w0_61 w0_62 w0_63 w0_64 w0_65 w0_66 : Value) (s_blips : Int32) (s_time : Nat → Int32) (p1 : Int32) (p2 : Int32) (r : Int32) (h : f_X12_fits s_blips s_time p1 p2 = some (r)) : kMi l yX12_fits cX12_fits 3 (some .int) r_X12_fits [.ref a0, .int p1, .int p2] E [(a0, .inr (12, [w0_0, w0_1, w0_2, w0_3, w0_4, .int s_blips, w0_6, w0_7, w0_8, w0_9, w0_10, w0_11, w0_12, w0_13, w0_14, w0_15, w0_16, w0_17, w0_18, w0_19, w0_20, w0_21, w0_22, w0_23, w0_24, w0_25, w0_26, w0_27, w0_28, w0_29, w0_30, w0_31, w0_32, w0_33, w0_34, w0_35, w0_36, w0_37, w0_38, w0_39, w0_40, w0_41, w0_42, w0_43, w0_44, w0_45, w0_46, w0_47, w0_48, w0_49, w0_50, w0_51, w0_52, w0_53, w0_54, w0_55, w0_56, w0_57, w0_58, .ref a1, w0_60, w0_61, w0_62, w0_63, w0_64, w0_65, w0_66])), (a1, .inl (E.2 0, 40, .inl s_time))] sz 0 0 (fun x (_ : Unit) => x = r) (fun _ => [(a0, .inr (12, [w0_0, w0_1, w0_2, w0_3, w0_4, .int s_blips, w0_6, w0_7, w0_8, w0_9, w0_10, w0_11, w0_12, w0_13, w0_14, w0_15, w0_16, w0_17, w0_18, w0_19, w0_20, w0_21, w0_22, w0_23, w0_24, w0_25, w0_26, w0_27, w0_28, w0_29, w0_30, w0_31, w0_32, w0_33, w0_34, w0_35, w0_36, w0_37, w0_38, w0_39, w0_40, w0_41, w0_42, w0_43, w0_44, w0_45, w0_46, w0_47, w0_48, w0_49, w0_50, w0_51, w0_52, w0_53, w0_54, w0_55, w0_56, w0_57, w0_58, .ref a1, w0_60, w0_61, w0_62, w0_63, w0_64, w0_65, w0_66])), (a1, .inl (E.2 0, 40, .inl s_time))]) := by
  refine kmeti rfl (Nat.le_of_ble_eq_true rfl) ?_
  intro p e s m args below meth c ls A Q X hV hret hl
  have X : kC p s m c cX12_fits 3 RX12 args E A := X
  have hx := X.1
  have hb := X.2.1
  have hl : lv_has ls 3 [(0, .ref a0), (1, .int p1), (2, .int p2)] := hl
  rw [f_X12_fits] at h
  refine lv_iload_n hx hb dX12_fits_0 rfl (lv_at hl 1 rfl) ?_
  obtain ⟨r1_1, hc2, h3⟩ := cb1_s h
  clear h
  refine kgoiE (krunS (rest := []) X hV [] (c_X12_isBeat l E _ p1 r1_1 hc2) mw_1011 kb_X12_isBeat (by decide) rfl rfl hl.1 rfl (Nat.le_of_ble_eq_true rfl) dX12_fits_1 (by decide)) X hV [] [0, 1] rfl rfl rfl (by decide) (fun u H locs hV4 => ?_)
  have hV4 : kV E A s.heap H locs [(a0, .inr (12, [w0_0, w0_1, w0_2, w0_3, w0_4, .int s_blips, w0_6, w0_7, w0_8, w0_9, w0_10, w0_11, w0_12, w0_13, w0_14, w0_15, w0_16, w0_17, w0_18, w0_19, w0_20, w0_21, w0_22, w0_23, w0_24, w0_25, w0_26, w0_27, w0_28, w0_29, w0_30, w0_31, w0_32, w0_33, w0_34, w0_35, w0_36, w0_37, w0_38, w0_39, w0_40, w0_41, w0_42, w0_43, w0_44, w0_45, w0_46, w0_47, w0_48, w0_49, w0_50, w0_51, w0_52, w0_53, w0_54, w0_55, w0_56, w0_57, w0_58, .ref a1, w0_60, w0_61, w0_62, w0_63, w0_64, w0_65, w0_66])), (a1, .inl (E.2 0, 40, .inl s_time))] := hV4.sub [0, 1] rfl rfl
  clear hV
  refine lv_if_eq (tgt := 51) hx hb dX12_fits_4 (by decide) (fun c6 => ?_) (fun c6 => ?_)
  · have h7 := itS c6 h3
    clear h3 c6
    refine lv_iconst (v := (-1)) hx hb dX12_fits_51 (by decide) ?_
    have q9 := tup1_s h7
    clear h7
    exact hret _ () _ _ _ _ q9 rfl hV4 dX12_fits_52
  · have h8 := ieS c6 h3
    clear h3 c6
    refine lv_iload_n hx hb dX12_fits_7 rfl (lv_at hl 2 rfl) ?_
    refine lv_i2l (v := Int32.toInt64 p2) hx hb dX12_fits_8 rfl ?_
    refine lv_lconst (v := 0) hx hb dX12_fits_9 (by decide) ?_
    refine lv_ldc2 (v := 1000) hx hb X.2.2.2.1 (X.2.2.2.2.1 _ mw_1010) dX12_fits_10 ?_
    obtain ⟨r13_10, hc11, h12⟩ := cb1_s h8
    clear h8
    refine kgoiE (krunS (rest := []) X hV4 [] (c_X12_lies l E _ (Int32.toInt64 p2) 0 1000 r13_10 hc11) mw_224 kb_X12_lies (by decide) rfl rfl hl.1 rfl (Nat.le_of_ble_eq_true rfl) dX12_fits_13 (by decide)) X hV4 [] [0, 1] rfl rfl rfl (by decide) (fun u H locs hV13 => ?_)
    have hV13 : kV E A s.heap H locs [(a0, .inr (12, [w0_0, w0_1, w0_2, w0_3, w0_4, .int s_blips, w0_6, w0_7, w0_8, w0_9, w0_10, w0_11, w0_12, w0_13, w0_14, w0_15, w0_16, w0_17, w0_18, w0_19, w0_20, w0_21, w0_22, w0_23, w0_24, w0_25, w0_26, w0_27, w0_28, w0_29, w0_30, w0_31, w0_32, w0_33, w0_34, w0_35, w0_36, w0_37, w0_38, w0_39, w0_40, w0_41, w0_42, w0_43, w0_44, w0_45, w0_46, w0_47, w0_48, w0_49, w0_50, w0_51, w0_52, w0_53, w0_54, w0_55, w0_56, w0_57, w0_58, .ref a1, w0_60, w0_61, w0_62, w0_63, w0_64, w0_65, w0_66])), (a1, .inl (E.2 0, 40, .inl s_time))] := hV13.sub [0, 1] rfl rfl
    clear hV4
    refine lv_if_eq (tgt := 51) hx hb dX12_fits_16 (by decide) (fun c15 => ?_) (fun c15 => ?_)
    · have h16 := itS c15 h12
      clear h12 c15
      refine lv_iconst (v := (-1)) hx hb dX12_fits_51 (by decide) ?_
      have q18 := tup1_s h16
      clear h16
      exact hret _ () _ _ _ _ q18 rfl hV13 dX12_fits_52
    · have h17 := ieS c15 h12
      clear h12 c15
      refine lv_iconst (v := 2) hx hb dX12_fits_19 (by decide) ?_
      refine lv_iload_n hx hb dX12_fits_20 rfl (lv_at hl 2 rfl) ?_
      refine lv_imul hx hb dX12_fits_21 ?_
      refine lv_iload_n hx hb dX12_fits_22 rfl (lv_at hl 1 rfl) ?_
      refine lv_icmp_ge (tgt := 51) hx hb dX12_fits_23 (by decide) (fun c19 => ?_) (fun c19 => ?_)
      · have h20 := itS c19 h17
        clear h17 c19
        refine lv_iconst (v := (-1)) hx hb dX12_fits_51 (by decide) ?_
        have q22 := tup1_s h20
        clear h20
        exact hret _ () _ _ _ _ q22 rfl hV13 dX12_fits_52
      · have h21 := ieS c19 h17
        clear h17 c19
        refine lv_aload_n hx hb dX12_fits_26 rfl (lv_at hl 0 rfl) ?_
        refine kget X hV13 (ci := 12) inlX12 rfl 0 rfl 5 (by decide) mw_991 rfl dX12_fits_27 ?_
        refine lv_iconst (v := 1) hx hb dX12_fits_30 (by decide) ?_
        refine lv_icmp_le (tgt := 51) hx hb dX12_fits_31 (by decide) (fun c23 => ?_) (fun c23 => ?_)
        · have h24 := itS c23 h21
          clear h21 c23
          refine lv_iconst (v := (-1)) hx hb dX12_fits_51 (by decide) ?_
          have q26 := tup1_s h24
          clear h24
          exact hret _ () _ _ _ _ q26 rfl hV13 dX12_fits_52
        · have h25 := ieS c23 h21
          clear h21 c23
          refine lv_aload_n hx hb dX12_fits_34 rfl (lv_at hl 0 rfl) ?_
          refine lv_iload_n hx hb dX12_fits_35 rfl (lv_at hl 1 rfl) ?_
          refine lv_iload_n hx hb dX12_fits_36 rfl (lv_at hl 2 rfl) ?_
          obtain ⟨r37_27, hc28, h29⟩ := cb1_s h25
          clear h25
          refine kgoiE (krunV (rest := []) X hV13 [0, 1] (c_X12_isFit l E _ a0 a1 (w0_0) (w0_1) (w0_2) (w0_3) (w0_4) (w0_6) (w0_7) (w0_8) (w0_9) (w0_10) (w0_11) (w0_12) (w0_13) (w0_14) (w0_15) (w0_16) (w0_17) (w0_18) (w0_19) (w0_20) (w0_21) (w0_22) (w0_23) (w0_24) (w0_25) (w0_26) (w0_27) (w0_28) (w0_29) (w0_30) (w0_31) (w0_32) (w0_33) (w0_34) (w0_35) (w0_36) (w0_37) (w0_38) (w0_39) (w0_40) (w0_41) (w0_42) (w0_43) (w0_44) (w0_45) (w0_46) (w0_47) (w0_48) (w0_49) (w0_50) (w0_51) (w0_52) (w0_53) (w0_54) (w0_55) (w0_56) (w0_57) (w0_58) (w0_60) (w0_61) (w0_62) (w0_63) (w0_64) (w0_65) (w0_66) s_blips s_time p1 p2 r37_27 hc28) mw_1015 kb_X12_isFit (ci := 12) rfl rfl (by decide) rfl rfl hl.1 rfl (Nat.le_of_ble_eq_true rfl) dX12_fits_37 (by decide)) X hV13 [0, 1] [] rfl rfl rfl (by decide) (fun u H locs hV30 => ?_)
          have hV30 : kV E A s.heap H locs [(a0, .inr (12, [w0_0, w0_1, w0_2, w0_3, w0_4, .int s_blips, w0_6, w0_7, w0_8, w0_9, w0_10, w0_11, w0_12, w0_13, w0_14, w0_15, w0_16, w0_17, w0_18, w0_19, w0_20, w0_21, w0_22, w0_23, w0_24, w0_25, w0_26, w0_27, w0_28, w0_29, w0_30, w0_31, w0_32, w0_33, w0_34, w0_35, w0_36, w0_37, w0_38, w0_39, w0_40, w0_41, w0_42, w0_43, w0_44, w0_45, w0_46, w0_47, w0_48, w0_49, w0_50, w0_51, w0_52, w0_53, w0_54, w0_55, w0_56, w0_57, w0_58, .ref a1, w0_60, w0_61, w0_62, w0_63, w0_64, w0_65, w0_66])), (a1, .inl (E.2 0, 40, .inl s_time))] := hV30.sub [0, 1] rfl rfl
          clear hV13
          refine lv_if_eq (tgt := 47) hx hb dX12_fits_40 (by decide) (fun c32 => ?_) (fun c32 => ?_)
          · have h33 := itS c32 h29
            clear h29 c32
            refine lv_iconst (v := 0) hx hb dX12_fits_47 (by decide) ?_
            refine lv_goto (tgt := 52) hx hb dX12_fits_48 (by decide) ?_
            have q35 := tup1_s h33
            clear h33
            exact hret _ () _ _ _ _ q35 rfl hV30 dX12_fits_52
          · have h34 := ieS c32 h29
            clear h29 c32
            refine lv_iconst (v := 1) hx hb dX12_fits_43 (by decide) ?_
            refine lv_goto (tgt := 52) hx hb dX12_fits_44 (by decide) ?_
            have q36 := tup1_s h34
            clear h34
            exact hret _ () _ _ _ _ q36 rfl hV30 dX12_fits_52
abbrev r_X12_canBeat : Room := { frames := 2, cells := 0, slots := 0, locals := 45 }
set_option maxHeartbeats 4000000 in
set_option maxRecDepth 100000 in
theorem c_X12_canBeat (l : Launch) (E : kE) (sz : Nat) (a0 : Nat) (w0_0 w0_1 w0_2 w0_3 w0_4 w0_6 w0_7 w0_8 w0_9 w0_10 w0_11 w0_12 w0_13 w0_14 w0_15 w0_16 w0_17 w0_18 w0_19 w0_20 w0_21 w0_22 w0_23 w0_24 w0_25 w0_26 w0_27 w0_28 w0_29 w0_30 w0_31 w0_32 w0_33 w0_34 w0_35 w0_36 w0_37 w0_38 w0_39 w0_40 w0_41 w0_42 w0_43 w0_44 w0_45 w0_46 w0_47 w0_48 w0_49 w0_50 w0_51 w0_52 w0_53 w0_54 w0_55 w0_56 w0_57 w0_58 w0_59 w0_60 w0_61 w0_62 w0_63 w0_64 w0_65 w0_66 : Value) (s_blips : Int32) (p1 : Int32) (p2 : Int32) (p3 : Int32) (r : Int32) (h : f_X12_canBeat s_blips p1 p2 p3 = some (r)) : kMi l yX12_canBeat cX12_canBeat 4 (some .boolean) r_X12_canBeat [.ref a0, .int p1, .int p2, .int p3] E [(a0, .inr (12, [w0_0, w0_1, w0_2, w0_3, w0_4, .int s_blips, w0_6, w0_7, w0_8, w0_9, w0_10, w0_11, w0_12, w0_13, w0_14, w0_15, w0_16, w0_17, w0_18, w0_19, w0_20, w0_21, w0_22, w0_23, w0_24, w0_25, w0_26, w0_27, w0_28, w0_29, w0_30, w0_31, w0_32, w0_33, w0_34, w0_35, w0_36, w0_37, w0_38, w0_39, w0_40, w0_41, w0_42, w0_43, w0_44, w0_45, w0_46, w0_47, w0_48, w0_49, w0_50, w0_51, w0_52, w0_53, w0_54, w0_55, w0_56, w0_57, w0_58, w0_59, w0_60, w0_61, w0_62, w0_63, w0_64, w0_65, w0_66]))] sz 0 0 (fun x (_ : Unit) => x = r) (fun _ => [(a0, .inr (12, [w0_0, w0_1, w0_2, w0_3, w0_4, .int s_blips, w0_6, w0_7, w0_8, w0_9, w0_10, w0_11, w0_12, w0_13, w0_14, w0_15, w0_16, w0_17, w0_18, w0_19, w0_20, w0_21, w0_22, w0_23, w0_24, w0_25, w0_26, w0_27, w0_28, w0_29, w0_30, w0_31, w0_32, w0_33, w0_34, w0_35, w0_36, w0_37, w0_38, w0_39, w0_40, w0_41, w0_42, w0_43, w0_44, w0_45, w0_46, w0_47, w0_48, w0_49, w0_50, w0_51, w0_52, w0_53, w0_54, w0_55, w0_56, w0_57, w0_58, w0_59, w0_60, w0_61, w0_62, w0_63, w0_64, w0_65, w0_66]))]) := by
  refine kmeti rfl (Nat.le_of_ble_eq_true rfl) ?_
  intro p e s m args below meth c ls A Q X hV hret hl
  have X : kC p s m c cX12_canBeat 4 RX12 args E A := X
  have hx := X.1
  have hb := X.2.1
  have hl : lv_has ls 4 [(0, .ref a0), (1, .int p1), (2, .int p2), (3, .int p3)] := hl
  rw [f_X12_canBeat] at h
  refine lv_iload_n hx hb dX12_canBeat_0 rfl (lv_at hl 1 rfl) ?_
  obtain ⟨r1_1, hc2, h3⟩ := cb1_s h
  clear h
  refine kgoiE (krunS (rest := []) X hV [] (c_X12_isBeat l E _ p1 r1_1 hc2) mw_1011 kb_X12_isBeat (by decide) rfl rfl hl.1 rfl (Nat.le_of_ble_eq_true rfl) dX12_canBeat_1 (by decide)) X hV [] [0] rfl rfl rfl (by decide) (fun u H locs hV4 => ?_)
  have hV4 : kV E A s.heap H locs [(a0, .inr (12, [w0_0, w0_1, w0_2, w0_3, w0_4, .int s_blips, w0_6, w0_7, w0_8, w0_9, w0_10, w0_11, w0_12, w0_13, w0_14, w0_15, w0_16, w0_17, w0_18, w0_19, w0_20, w0_21, w0_22, w0_23, w0_24, w0_25, w0_26, w0_27, w0_28, w0_29, w0_30, w0_31, w0_32, w0_33, w0_34, w0_35, w0_36, w0_37, w0_38, w0_39, w0_40, w0_41, w0_42, w0_43, w0_44, w0_45, w0_46, w0_47, w0_48, w0_49, w0_50, w0_51, w0_52, w0_53, w0_54, w0_55, w0_56, w0_57, w0_58, w0_59, w0_60, w0_61, w0_62, w0_63, w0_64, w0_65, w0_66]))] := hV4.sub [0] rfl rfl
  clear hV
  refine lv_if_eq (tgt := 61) hx hb dX12_canBeat_4 (by decide) (fun c6 => ?_) (fun c6 => ?_)
  · have h7 := itS c6 h3
    clear h3 c6
    refine lv_iconst (v := 0) hx hb dX12_canBeat_61 (by decide) ?_
    have q9 := tup1_s h7
    clear h7
    exact hret _ () _ _ _ _ q9 rfl hV4 dX12_canBeat_62
  · have h8 := ieS c6 h3
    clear h3 c6
    refine lv_iload_n hx hb dX12_canBeat_7 rfl (lv_at hl 2 rfl) ?_
    obtain ⟨r8_10, hc11, h12⟩ := cb1_s h8
    clear h8
    refine kgoiE (krunS (rest := []) X hV4 [] (c_X12_isBeat l E _ p2 r8_10 hc11) mw_1011 kb_X12_isBeat (by decide) rfl rfl hl.1 rfl (Nat.le_of_ble_eq_true rfl) dX12_canBeat_8 (by decide)) X hV4 [] [0] rfl rfl rfl (by decide) (fun u H locs hV13 => ?_)
    have hV13 : kV E A s.heap H locs [(a0, .inr (12, [w0_0, w0_1, w0_2, w0_3, w0_4, .int s_blips, w0_6, w0_7, w0_8, w0_9, w0_10, w0_11, w0_12, w0_13, w0_14, w0_15, w0_16, w0_17, w0_18, w0_19, w0_20, w0_21, w0_22, w0_23, w0_24, w0_25, w0_26, w0_27, w0_28, w0_29, w0_30, w0_31, w0_32, w0_33, w0_34, w0_35, w0_36, w0_37, w0_38, w0_39, w0_40, w0_41, w0_42, w0_43, w0_44, w0_45, w0_46, w0_47, w0_48, w0_49, w0_50, w0_51, w0_52, w0_53, w0_54, w0_55, w0_56, w0_57, w0_58, w0_59, w0_60, w0_61, w0_62, w0_63, w0_64, w0_65, w0_66]))] := hV13.sub [0] rfl rfl
    clear hV4
    refine lv_if_eq (tgt := 61) hx hb dX12_canBeat_11 (by decide) (fun c15 => ?_) (fun c15 => ?_)
    · have h16 := itS c15 h12
      clear h12 c15
      refine lv_iconst (v := 0) hx hb dX12_canBeat_61 (by decide) ?_
      have q18 := tup1_s h16
      clear h16
      exact hret _ () _ _ _ _ q18 rfl hV13 dX12_canBeat_62
    · have h17 := ieS c15 h12
      clear h12 c15
      refine lv_iload_n hx hb dX12_canBeat_14 rfl (lv_at hl 2 rfl) ?_
      refine lv_i2l (v := Int32.toInt64 p2) hx hb dX12_canBeat_15 rfl ?_
      refine lv_iload_n hx hb dX12_canBeat_16 rfl (lv_at hl 1 rfl) ?_
      refine lv_i2l (v := Int32.toInt64 p1) hx hb dX12_canBeat_17 rfl ?_
      refine lv_iload_n hx hb dX12_canBeat_18 rfl (lv_at hl 1 rfl) ?_
      refine lv_sipush (v := 2000) hx hb dX12_canBeat_19 (by decide) ?_
      refine lv_iadd hx hb dX12_canBeat_22 ?_
      refine lv_i2l (v := Int32.toInt64 (p1 + 2000)) hx hb dX12_canBeat_23 rfl ?_
      obtain ⟨r24_19, hc20, h21⟩ := cb1_s h17
      clear h17
      refine kgoiE (krunS (rest := []) X hV13 [] (c_X12_lies l E _ (Int32.toInt64 p2) (Int32.toInt64 p1) (Int32.toInt64 (p1 + 2000)) r24_19 hc20) mw_224 kb_X12_lies (by decide) rfl rfl hl.1 rfl (Nat.le_of_ble_eq_true rfl) dX12_canBeat_24 (by decide)) X hV13 [] [0] rfl rfl rfl (by decide) (fun u H locs hV22 => ?_)
      have hV22 : kV E A s.heap H locs [(a0, .inr (12, [w0_0, w0_1, w0_2, w0_3, w0_4, .int s_blips, w0_6, w0_7, w0_8, w0_9, w0_10, w0_11, w0_12, w0_13, w0_14, w0_15, w0_16, w0_17, w0_18, w0_19, w0_20, w0_21, w0_22, w0_23, w0_24, w0_25, w0_26, w0_27, w0_28, w0_29, w0_30, w0_31, w0_32, w0_33, w0_34, w0_35, w0_36, w0_37, w0_38, w0_39, w0_40, w0_41, w0_42, w0_43, w0_44, w0_45, w0_46, w0_47, w0_48, w0_49, w0_50, w0_51, w0_52, w0_53, w0_54, w0_55, w0_56, w0_57, w0_58, w0_59, w0_60, w0_61, w0_62, w0_63, w0_64, w0_65, w0_66]))] := hV22.sub [0] rfl rfl
      clear hV13
      refine lv_if_eq (tgt := 61) hx hb dX12_canBeat_27 (by decide) (fun c24 => ?_) (fun c24 => ?_)
      · have h25 := itS c24 h21
        clear h21 c24
        refine lv_iconst (v := 0) hx hb dX12_canBeat_61 (by decide) ?_
        have q27 := tup1_s h25
        clear h25
        exact hret _ () _ _ _ _ q27 rfl hV22 dX12_canBeat_62
      · have h26 := ieS c24 h21
        clear h21 c24
        refine lv_iload_n hx hb dX12_canBeat_30 rfl (lv_at hl 3 rfl) ?_
        refine lv_i2l (v := Int32.toInt64 p3) hx hb dX12_canBeat_31 rfl ?_
        refine lv_lconst (v := 0) hx hb dX12_canBeat_32 (by decide) ?_
        refine lv_ldc2 (v := 1000) hx hb X.2.2.2.1 (X.2.2.2.2.1 _ mw_1010) dX12_canBeat_33 ?_
        obtain ⟨r36_28, hc29, h30⟩ := cb1_s h26
        clear h26
        refine kgoiE (krunS (rest := []) X hV22 [] (c_X12_lies l E _ (Int32.toInt64 p3) 0 1000 r36_28 hc29) mw_224 kb_X12_lies (by decide) rfl rfl hl.1 rfl (Nat.le_of_ble_eq_true rfl) dX12_canBeat_36 (by decide)) X hV22 [] [0] rfl rfl rfl (by decide) (fun u H locs hV31 => ?_)
        have hV31 : kV E A s.heap H locs [(a0, .inr (12, [w0_0, w0_1, w0_2, w0_3, w0_4, .int s_blips, w0_6, w0_7, w0_8, w0_9, w0_10, w0_11, w0_12, w0_13, w0_14, w0_15, w0_16, w0_17, w0_18, w0_19, w0_20, w0_21, w0_22, w0_23, w0_24, w0_25, w0_26, w0_27, w0_28, w0_29, w0_30, w0_31, w0_32, w0_33, w0_34, w0_35, w0_36, w0_37, w0_38, w0_39, w0_40, w0_41, w0_42, w0_43, w0_44, w0_45, w0_46, w0_47, w0_48, w0_49, w0_50, w0_51, w0_52, w0_53, w0_54, w0_55, w0_56, w0_57, w0_58, w0_59, w0_60, w0_61, w0_62, w0_63, w0_64, w0_65, w0_66]))] := hV31.sub [0] rfl rfl
        clear hV22
        refine lv_if_eq (tgt := 61) hx hb dX12_canBeat_39 (by decide) (fun c33 => ?_) (fun c33 => ?_)
        · have h34 := itS c33 h30
          clear h30 c33
          refine lv_iconst (v := 0) hx hb dX12_canBeat_61 (by decide) ?_
          have q36 := tup1_s h34
          clear h34
          exact hret _ () _ _ _ _ q36 rfl hV31 dX12_canBeat_62
        · have h35 := ieS c33 h30
          clear h30 c33
          refine lv_iconst (v := 2) hx hb dX12_canBeat_42 (by decide) ?_
          refine lv_iload_n hx hb dX12_canBeat_43 rfl (lv_at hl 3 rfl) ?_
          refine lv_imul hx hb dX12_canBeat_44 ?_
          refine lv_iload_n hx hb dX12_canBeat_45 rfl (lv_at hl 1 rfl) ?_
          refine lv_icmp_ge (tgt := 61) hx hb dX12_canBeat_46 (by decide) (fun c37 => ?_) (fun c37 => ?_)
          · have h38 := itS c37 h35
            clear h35 c37
            refine lv_iconst (v := 0) hx hb dX12_canBeat_61 (by decide) ?_
            have q40 := tup1_s h38
            clear h38
            exact hret _ () _ _ _ _ q40 rfl hV31 dX12_canBeat_62
          · have h39 := ieS c37 h35
            clear h35 c37
            refine lv_aload_n hx hb dX12_canBeat_49 rfl (lv_at hl 0 rfl) ?_
            refine kget X hV31 (ci := 12) inlX12 rfl 0 rfl 5 (by decide) mw_991 rfl dX12_canBeat_50 ?_
            refine lv_iconst (v := 1) hx hb dX12_canBeat_53 (by decide) ?_
            refine lv_icmp_le (tgt := 61) hx hb dX12_canBeat_54 (by decide) (fun c41 => ?_) (fun c41 => ?_)
            · have h42 := itS c41 h39
              clear h39 c41
              refine lv_iconst (v := 0) hx hb dX12_canBeat_61 (by decide) ?_
              have q44 := tup1_s h42
              clear h42
              exact hret _ () _ _ _ _ q44 rfl hV31 dX12_canBeat_62
            · have h43 := ieS c41 h39
              clear h39 c41
              refine lv_iconst (v := 1) hx hb dX12_canBeat_57 (by decide) ?_
              refine lv_goto (tgt := 62) hx hb dX12_canBeat_58 (by decide) ?_
              have q45 := tup1_s h43
              clear h43
              exact hret _ () _ _ _ _ q45 rfl hV31 dX12_canBeat_62
abbrev r_X12_fitsAll : Room := { frames := 1, cells := 0, slots := 0, locals := 25 }
set_option maxHeartbeats 4000000 in
set_option maxRecDepth 100000 in
theorem c_X12_fitsAll (l : Launch) (E : kE) (sz : Nat) (a0 a1 : Nat) (w0_0 w0_1 w0_2 w0_3 w0_4 w0_6 w0_7 w0_8 w0_9 w0_10 w0_11 w0_12 w0_13 w0_14 w0_15 w0_16 w0_17 w0_18 w0_19 w0_20 w0_21 w0_22 w0_23 w0_24 w0_25 w0_26 w0_27 w0_28 w0_29 w0_30 w0_31 w0_32 w0_33 w0_34 w0_35 w0_36 w0_37 w0_38 w0_39 w0_40 w0_41 w0_42 w0_43 w0_44 w0_45 w0_46 w0_47 w0_48 w0_49 w0_50 w0_51 w0_52 w0_53 w0_54 w0_55 w0_56 w0_57 w0_58 w0_63 w0_64 w0_65 w0_66 : Value) (s_blips : Int32) (s_fitMany : Int32) (s_fitLeast : Int32) (s_fitMost : Int32) (s_time : Nat → Int32) (p1 : Int32) (p2 : Int32) (p3 : Int32) (o_fitMany : Int32) (o_fitLeast : Int32) (o_fitMost : Int32) (h : f_X12_fitsAll s_blips s_fitMany s_fitLeast s_fitMost s_time p1 p2 p3 = some (o_fitMany, o_fitLeast, o_fitMost)) : kMv l yX12_fitsAll cX12_fitsAll 5 r_X12_fitsAll [.ref a0, .int p1, .int p2, .int p3] E [(a0, .inr (12, [w0_0, w0_1, w0_2, w0_3, w0_4, .int s_blips, w0_6, w0_7, w0_8, w0_9, w0_10, w0_11, w0_12, w0_13, w0_14, w0_15, w0_16, w0_17, w0_18, w0_19, w0_20, w0_21, w0_22, w0_23, w0_24, w0_25, w0_26, w0_27, w0_28, w0_29, w0_30, w0_31, w0_32, w0_33, w0_34, w0_35, w0_36, w0_37, w0_38, w0_39, w0_40, w0_41, w0_42, w0_43, w0_44, w0_45, w0_46, w0_47, w0_48, w0_49, w0_50, w0_51, w0_52, w0_53, w0_54, w0_55, w0_56, w0_57, w0_58, .ref a1, .int s_fitMany, .int s_fitLeast, .int s_fitMost, w0_63, w0_64, w0_65, w0_66])), (a1, .inl (E.2 0, 40, .inl s_time))] sz 0 0 (fun (_ : Unit) => True) (fun _ => [(a0, .inr (12, [w0_0, w0_1, w0_2, w0_3, w0_4, .int s_blips, w0_6, w0_7, w0_8, w0_9, w0_10, w0_11, w0_12, w0_13, w0_14, w0_15, w0_16, w0_17, w0_18, w0_19, w0_20, w0_21, w0_22, w0_23, w0_24, w0_25, w0_26, w0_27, w0_28, w0_29, w0_30, w0_31, w0_32, w0_33, w0_34, w0_35, w0_36, w0_37, w0_38, w0_39, w0_40, w0_41, w0_42, w0_43, w0_44, w0_45, w0_46, w0_47, w0_48, w0_49, w0_50, w0_51, w0_52, w0_53, w0_54, w0_55, w0_56, w0_57, w0_58, .ref a1, .int o_fitMany, .int o_fitLeast, .int o_fitMost, w0_63, w0_64, w0_65, w0_66])), (a1, .inl (E.2 0, 40, .inl s_time))]) := by
  refine kmetv rfl (Nat.le_of_ble_eq_true rfl) ?_
  intro p e s m args below meth c ls A Q X hnm hV hret hl
  have X : kC p s m c cX12_fitsAll 5 RX12 args E A := X
  have hx := X.1
  have hb := X.2.1
  have hl : lv_has ls 5 [(0, .ref a0), (1, .int p1), (2, .int p2), (3, .int p3)] := hl
  rw [f_X12_fitsAll] at h
  refine lv_aload_n hx hb dX12_fitsAll_0 rfl (lv_at hl 0 rfl) ?_
  refine lv_iconst (v := 0) hx hb dX12_fitsAll_1 (by decide) ?_
  refine kput X hV (ci := 12) inlX12 rfl tyX12 tyX12_ok nmX12 0 rfl 60 (by decide) mw_1039 rfl rfl rfl (Nat.le_of_ble_eq_true rfl) dX12_fitsAll_2 (fun H locs hV1 => ?_)
  have hV1 : kV E A s.heap H locs [(a0, .inr (12, [w0_0, w0_1, w0_2, w0_3, w0_4, .int s_blips, w0_6, w0_7, w0_8, w0_9, w0_10, w0_11, w0_12, w0_13, w0_14, w0_15, w0_16, w0_17, w0_18, w0_19, w0_20, w0_21, w0_22, w0_23, w0_24, w0_25, w0_26, w0_27, w0_28, w0_29, w0_30, w0_31, w0_32, w0_33, w0_34, w0_35, w0_36, w0_37, w0_38, w0_39, w0_40, w0_41, w0_42, w0_43, w0_44, w0_45, w0_46, w0_47, w0_48, w0_49, w0_50, w0_51, w0_52, w0_53, w0_54, w0_55, w0_56, w0_57, w0_58, .ref a1, .int 0, .int s_fitLeast, .int s_fitMost, w0_63, w0_64, w0_65, w0_66])), (a1, .inl (E.2 0, 40, .inl s_time))] := hV1
  clear hV
  refine lv_aload_n hx hb dX12_fitsAll_5 rfl (lv_at hl 0 rfl) ?_
  refine lv_iconst (v := (-1)) hx hb dX12_fitsAll_6 (by decide) ?_
  refine kput X hV1 (ci := 12) inlX12 rfl tyX12 tyX12_ok nmX12 0 rfl 61 (by decide) mw_1040 rfl rfl rfl (Nat.le_of_ble_eq_true rfl) dX12_fitsAll_7 (fun H locs hV2 => ?_)
  have hV2 : kV E A s.heap H locs [(a0, .inr (12, [w0_0, w0_1, w0_2, w0_3, w0_4, .int s_blips, w0_6, w0_7, w0_8, w0_9, w0_10, w0_11, w0_12, w0_13, w0_14, w0_15, w0_16, w0_17, w0_18, w0_19, w0_20, w0_21, w0_22, w0_23, w0_24, w0_25, w0_26, w0_27, w0_28, w0_29, w0_30, w0_31, w0_32, w0_33, w0_34, w0_35, w0_36, w0_37, w0_38, w0_39, w0_40, w0_41, w0_42, w0_43, w0_44, w0_45, w0_46, w0_47, w0_48, w0_49, w0_50, w0_51, w0_52, w0_53, w0_54, w0_55, w0_56, w0_57, w0_58, .ref a1, .int 0, .int (-1), .int s_fitMost, w0_63, w0_64, w0_65, w0_66])), (a1, .inl (E.2 0, 40, .inl s_time))] := hV2
  clear hV1
  refine lv_aload_n hx hb dX12_fitsAll_10 rfl (lv_at hl 0 rfl) ?_
  refine lv_iconst (v := (-1)) hx hb dX12_fitsAll_11 (by decide) ?_
  refine kput X hV2 (ci := 12) inlX12 rfl tyX12 tyX12_ok nmX12 0 rfl 62 (by decide) mw_1041 rfl rfl rfl (Nat.le_of_ble_eq_true rfl) dX12_fitsAll_12 (fun H locs hV3 => ?_)
  have hV3 : kV E A s.heap H locs [(a0, .inr (12, [w0_0, w0_1, w0_2, w0_3, w0_4, .int s_blips, w0_6, w0_7, w0_8, w0_9, w0_10, w0_11, w0_12, w0_13, w0_14, w0_15, w0_16, w0_17, w0_18, w0_19, w0_20, w0_21, w0_22, w0_23, w0_24, w0_25, w0_26, w0_27, w0_28, w0_29, w0_30, w0_31, w0_32, w0_33, w0_34, w0_35, w0_36, w0_37, w0_38, w0_39, w0_40, w0_41, w0_42, w0_43, w0_44, w0_45, w0_46, w0_47, w0_48, w0_49, w0_50, w0_51, w0_52, w0_53, w0_54, w0_55, w0_56, w0_57, w0_58, .ref a1, .int 0, .int (-1), .int (-1), w0_63, w0_64, w0_65, w0_66])), (a1, .inl (E.2 0, 40, .inl s_time))] := hV3
  clear hV2
  refine lv_iload_n hx hb dX12_fitsAll_15 rfl (lv_at hl 1 rfl) ?_
  refine lv_istore (lv' := [(4, .int p1), (0, .ref a0), (1, .int p1), (2, .int p2), (3, .int p3)]) hx hb dX12_fitsAll_16 hl (by decide) rfl (fun ls hl4 => ?_)
  clear hl
  have L18 : ∀ (n18 : Nat) (x4_5 : Int32) (fitLeast__6 : Int32) (fitMany__7 : Int32) (fitMost__8 : Int32) (H : Heap) (locs : List Loc) (ls : Array Slot), (f_X12_fitsAll_L18 s_blips s_time p2 p3  n18) x4_5 fitLeast__6 fitMany__7 fitMost__8 = some (o_fitMany, o_fitLeast, o_fitMost) → kV E A s.heap H locs [(a0, .inr (12, [w0_0, w0_1, w0_2, w0_3, w0_4, .int s_blips, w0_6, w0_7, w0_8, w0_9, w0_10, w0_11, w0_12, w0_13, w0_14, w0_15, w0_16, w0_17, w0_18, w0_19, w0_20, w0_21, w0_22, w0_23, w0_24, w0_25, w0_26, w0_27, w0_28, w0_29, w0_30, w0_31, w0_32, w0_33, w0_34, w0_35, w0_36, w0_37, w0_38, w0_39, w0_40, w0_41, w0_42, w0_43, w0_44, w0_45, w0_46, w0_47, w0_48, w0_49, w0_50, w0_51, w0_52, w0_53, w0_54, w0_55, w0_56, w0_57, w0_58, .ref a1, .int fitMany__7, .int fitLeast__6, .int fitMost__8, w0_63, w0_64, w0_65, w0_66])), (a1, .inl (E.2 0, 40, .inl s_time))] → lv_has ls 5 [(0, .ref a0), (2, .int p2), (3, .int p3), (4, .int x4_5)] → W p l e r_X12_fitsAll s m args below meth c H locs 0 0 Q (F0 m 18 ls []) := by
    intro n18
    induction n18 with
    | zero =>
      intro x4_5 fitLeast__6 fitMany__7 fitMost__8 H locs ls hB18 hVB18 hlB18
      rw [f_X12_fitsAll_L18] at hB18
      exact nomatch hB18
    | succ n18 ih18 =>
      intro x4_5 fitLeast__6 fitMany__7 fitMost__8 H locs ls hB18 hVB18 hlB18
      rw [f_X12_fitsAll_L18] at hB18
      refine lv_iload hx hb dX12_fitsAll_18 (lv_at hlB18 3 rfl) ?_
      refine lv_iload_n hx hb dX12_fitsAll_20 rfl (lv_at hlB18 1 rfl) ?_
      refine lv_icmp_gt (tgt := 80) hx hb dX12_fitsAll_21 (by decide) (fun c9 => ?_) (fun c9 => ?_)
      · have h10 := itS c9 hB18
        clear hB18 c9
        obtain ⟨q12, q13, q14⟩ := tup3_s h10
        clear h10
        exact hret () _ _ _ _ trivial (by rw [← q12, ← q13, ← q14]; exact hVB18) dX12_fitsAll_80
      · have h11 := ieS c9 hB18
        clear hB18 c9
        refine lv_aload_n hx hb dX12_fitsAll_24 rfl (lv_at hlB18 0 rfl) ?_
        refine lv_iload hx hb dX12_fitsAll_25 (lv_at hlB18 3 rfl) ?_
        refine lv_iload_n hx hb dX12_fitsAll_27 rfl (lv_at hlB18 2 rfl) ?_
        obtain ⟨r28_15, hc16, h17⟩ := cb1_s h11
        clear h11
        refine kgoiE (krunV (rest := []) X hVB18 [0, 1] (c_X12_isFit l E _ a0 a1 (w0_0) (w0_1) (w0_2) (w0_3) (w0_4) (w0_6) (w0_7) (w0_8) (w0_9) (w0_10) (w0_11) (w0_12) (w0_13) (w0_14) (w0_15) (w0_16) (w0_17) (w0_18) (w0_19) (w0_20) (w0_21) (w0_22) (w0_23) (w0_24) (w0_25) (w0_26) (w0_27) (w0_28) (w0_29) (w0_30) (w0_31) (w0_32) (w0_33) (w0_34) (w0_35) (w0_36) (w0_37) (w0_38) (w0_39) (w0_40) (w0_41) (w0_42) (w0_43) (w0_44) (w0_45) (w0_46) (w0_47) (w0_48) (w0_49) (w0_50) (w0_51) (w0_52) (w0_53) (w0_54) (w0_55) (w0_56) (w0_57) (w0_58) (.int fitMany__7) (.int fitLeast__6) (.int fitMost__8) (w0_63) (w0_64) (w0_65) (w0_66) s_blips s_time x4_5 p3 r28_15 hc16) mw_1015 kb_X12_isFit (ci := 12) rfl rfl (by decide) rfl rfl hlB18.1 rfl (Nat.le_of_ble_eq_true rfl) dX12_fitsAll_28 (by decide)) X hVB18 [0, 1] [] rfl rfl rfl (by decide) (fun u H locs hV18 => ?_)
        have hV18 : kV E A s.heap H locs [(a0, .inr (12, [w0_0, w0_1, w0_2, w0_3, w0_4, .int s_blips, w0_6, w0_7, w0_8, w0_9, w0_10, w0_11, w0_12, w0_13, w0_14, w0_15, w0_16, w0_17, w0_18, w0_19, w0_20, w0_21, w0_22, w0_23, w0_24, w0_25, w0_26, w0_27, w0_28, w0_29, w0_30, w0_31, w0_32, w0_33, w0_34, w0_35, w0_36, w0_37, w0_38, w0_39, w0_40, w0_41, w0_42, w0_43, w0_44, w0_45, w0_46, w0_47, w0_48, w0_49, w0_50, w0_51, w0_52, w0_53, w0_54, w0_55, w0_56, w0_57, w0_58, .ref a1, .int fitMany__7, .int fitLeast__6, .int fitMost__8, w0_63, w0_64, w0_65, w0_66])), (a1, .inl (E.2 0, 40, .inl s_time))] := hV18.sub [0, 1] rfl rfl
        clear hVB18
        refine lv_if_ne (tgt := 37) hx hb dX12_fitsAll_31 (by decide) (fun c20 => ?_) (fun c20 => ?_)
        · have h21 := ieS c20 h17
          clear h17 c20
          refine lv_aload_n hx hb dX12_fitsAll_37 rfl (lv_at hlB18 0 rfl) ?_
          refine lv_dup hx hb dX12_fitsAll_38 rfl ?_
          refine kget X hV18 (ci := 12) inlX12 rfl 0 rfl 60 (by decide) mw_1039 rfl dX12_fitsAll_39 ?_
          refine lv_iconst (v := 1) hx hb dX12_fitsAll_42 (by decide) ?_
          refine lv_iadd hx hb dX12_fitsAll_43 ?_
          obtain ⟨v44_23, e24, h25⟩ := nmI_s h21
          clear h21
          refine ktopi e24 ?_
          clear e24
          refine kput X hV18 (ci := 12) inlX12 rfl tyX12 tyX12_ok nmX12 0 rfl 60 (by decide) mw_1039 rfl rfl rfl (Nat.le_of_ble_eq_true rfl) dX12_fitsAll_44 (fun H locs hV26 => ?_)
          have hV26 : kV E A s.heap H locs [(a0, .inr (12, [w0_0, w0_1, w0_2, w0_3, w0_4, .int s_blips, w0_6, w0_7, w0_8, w0_9, w0_10, w0_11, w0_12, w0_13, w0_14, w0_15, w0_16, w0_17, w0_18, w0_19, w0_20, w0_21, w0_22, w0_23, w0_24, w0_25, w0_26, w0_27, w0_28, w0_29, w0_30, w0_31, w0_32, w0_33, w0_34, w0_35, w0_36, w0_37, w0_38, w0_39, w0_40, w0_41, w0_42, w0_43, w0_44, w0_45, w0_46, w0_47, w0_48, w0_49, w0_50, w0_51, w0_52, w0_53, w0_54, w0_55, w0_56, w0_57, w0_58, .ref a1, .int v44_23, .int fitLeast__6, .int fitMost__8, w0_63, w0_64, w0_65, w0_66])), (a1, .inl (E.2 0, 40, .inl s_time))] := hV26
          clear hV18
          refine lv_aload_n hx hb dX12_fitsAll_47 rfl (lv_at hlB18 0 rfl) ?_
          refine lv_aload_n hx hb dX12_fitsAll_48 rfl (lv_at hlB18 0 rfl) ?_
          refine kget X hV26 (ci := 12) inlX12 rfl 0 rfl 61 (by decide) mw_1040 rfl dX12_fitsAll_49 ?_
          refine lv_iconst (v := (-1)) hx hb dX12_fitsAll_52 (by decide) ?_
          have J65 : ∀ (t1_27 : Int32) (H : Heap) (locs : List Loc) (ls : Array Slot), (f_X12_fitsAll_J65 x4_5 v44_23 (f_X12_fitsAll_L18 s_blips s_time p2 p3  n18)) t1_27 = some (o_fitMany, o_fitLeast, o_fitMost) → kV E A s.heap H locs [(a0, .inr (12, [w0_0, w0_1, w0_2, w0_3, w0_4, .int s_blips, w0_6, w0_7, w0_8, w0_9, w0_10, w0_11, w0_12, w0_13, w0_14, w0_15, w0_16, w0_17, w0_18, w0_19, w0_20, w0_21, w0_22, w0_23, w0_24, w0_25, w0_26, w0_27, w0_28, w0_29, w0_30, w0_31, w0_32, w0_33, w0_34, w0_35, w0_36, w0_37, w0_38, w0_39, w0_40, w0_41, w0_42, w0_43, w0_44, w0_45, w0_46, w0_47, w0_48, w0_49, w0_50, w0_51, w0_52, w0_53, w0_54, w0_55, w0_56, w0_57, w0_58, .ref a1, .int v44_23, .int fitLeast__6, .int fitMost__8, w0_63, w0_64, w0_65, w0_66])), (a1, .inl (E.2 0, 40, .inl s_time))] → lv_has ls 5 [(0, .ref a0), (2, .int p2), (3, .int p3), (4, .int x4_5)] → W p l e r_X12_fitsAll s m args below meth c H locs 0 0 Q (F0 m 65 ls [.int t1_27, .ref a0]) := by
            intro t1_27 H locs ls hB65 hVB65 hlB65
            rw [f_X12_fitsAll_J65] at hB65
            refine kput X hVB65 (ci := 12) inlX12 rfl tyX12 tyX12_ok nmX12 0 rfl 61 (by decide) mw_1040 rfl rfl rfl (Nat.le_of_ble_eq_true rfl) dX12_fitsAll_65 (fun H locs hV28 => ?_)
            have hV28 : kV E A s.heap H locs [(a0, .inr (12, [w0_0, w0_1, w0_2, w0_3, w0_4, .int s_blips, w0_6, w0_7, w0_8, w0_9, w0_10, w0_11, w0_12, w0_13, w0_14, w0_15, w0_16, w0_17, w0_18, w0_19, w0_20, w0_21, w0_22, w0_23, w0_24, w0_25, w0_26, w0_27, w0_28, w0_29, w0_30, w0_31, w0_32, w0_33, w0_34, w0_35, w0_36, w0_37, w0_38, w0_39, w0_40, w0_41, w0_42, w0_43, w0_44, w0_45, w0_46, w0_47, w0_48, w0_49, w0_50, w0_51, w0_52, w0_53, w0_54, w0_55, w0_56, w0_57, w0_58, .ref a1, .int v44_23, .int t1_27, .int fitMost__8, w0_63, w0_64, w0_65, w0_66])), (a1, .inl (E.2 0, 40, .inl s_time))] := hV28
            clear hVB65
            refine lv_aload_n hx hb dX12_fitsAll_68 rfl (lv_at hlB65 0 rfl) ?_
            refine lv_iload hx hb dX12_fitsAll_69 (lv_at hlB65 3 rfl) ?_
            refine kput X hV28 (ci := 12) inlX12 rfl tyX12 tyX12_ok nmX12 0 rfl 62 (by decide) mw_1041 rfl rfl rfl (Nat.le_of_ble_eq_true rfl) dX12_fitsAll_71 (fun H locs hV29 => ?_)
            have hV29 : kV E A s.heap H locs [(a0, .inr (12, [w0_0, w0_1, w0_2, w0_3, w0_4, .int s_blips, w0_6, w0_7, w0_8, w0_9, w0_10, w0_11, w0_12, w0_13, w0_14, w0_15, w0_16, w0_17, w0_18, w0_19, w0_20, w0_21, w0_22, w0_23, w0_24, w0_25, w0_26, w0_27, w0_28, w0_29, w0_30, w0_31, w0_32, w0_33, w0_34, w0_35, w0_36, w0_37, w0_38, w0_39, w0_40, w0_41, w0_42, w0_43, w0_44, w0_45, w0_46, w0_47, w0_48, w0_49, w0_50, w0_51, w0_52, w0_53, w0_54, w0_55, w0_56, w0_57, w0_58, .ref a1, .int v44_23, .int t1_27, .int x4_5, w0_63, w0_64, w0_65, w0_66])), (a1, .inl (E.2 0, 40, .inl s_time))] := hV29
            clear hV28
            obtain ⟨v74_30, e31, h32⟩ := nmI_s hB65
            clear hB65
            refine lv_iinc (v := v74_30) (lv' := [(4, .int v74_30), (0, .ref a0), (2, .int p2), (3, .int p3)]) hx hb dX12_fitsAll_74 hlB65 (k := 3) rfl (by rw [e31]; rfl) (by decide) rfl (fun ls hl33 => ?_)
            clear hlB65 e31
            refine lv_goto (tgt := 18) hx hb dX12_fitsAll_77 (by decide) ?_
            exact ih18 v74_30 t1_27 v44_23 x4_5 _ _ _ h32 hV29 (lv_sub hl33 [1, 2, 3, 0] rfl)
          refine lv_icmp_ne (tgt := 61) hx hb dX12_fitsAll_53 (by decide) (fun c34 => ?_) (fun c34 => ?_)
          · have h35 := ieS c34 h25
            clear h25 c34
            refine lv_aload_n hx hb dX12_fitsAll_61 rfl (lv_at hlB18 0 rfl) ?_
            refine kget X hV26 (ci := 12) inlX12 rfl 0 rfl 61 (by decide) mw_1040 rfl dX12_fitsAll_62 ?_
            exact J65 fitLeast__6 _ _ _ h35 hV26 (lv_sub hlB18 [0, 1, 2, 3] rfl)
          · have h36 := itS c34 h25
            clear h25 c34
            refine lv_iload hx hb dX12_fitsAll_56 (lv_at hlB18 3 rfl) ?_
            refine lv_goto (tgt := 65) hx hb dX12_fitsAll_58 (by decide) ?_
            exact J65 x4_5 _ _ _ h36 hV26 (lv_sub hlB18 [0, 1, 2, 3] rfl)
        · have h22 := itS c20 h17
          clear h17 c20
          refine lv_goto (tgt := 74) hx hb dX12_fitsAll_34 (by decide) ?_
          obtain ⟨v74_37, e38, h39⟩ := nmI_s h22
          clear h22
          refine lv_iinc (v := v74_37) (lv' := [(4, .int v74_37), (0, .ref a0), (2, .int p2), (3, .int p3)]) hx hb dX12_fitsAll_74 hlB18 (k := 3) rfl (by rw [e38]; rfl) (by decide) rfl (fun ls hl40 => ?_)
          clear hlB18 e38
          refine lv_goto (tgt := 18) hx hb dX12_fitsAll_77 (by decide) ?_
          exact ih18 v74_37 fitLeast__6 fitMany__7 fitMost__8 _ _ _ h39 hV18 (lv_sub hl40 [1, 2, 3, 0] rfl)
  exact L18 FU p1 (-1) 0 (-1) _ _ _ h hV3 (lv_sub hl4 [1, 3, 4, 0] rfl)
