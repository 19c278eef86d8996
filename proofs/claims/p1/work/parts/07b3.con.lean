abbrev r_X12_row : Room := { frames := 2, cells := 0, slots := 0, locals := 45 }
set_option maxHeartbeats 4000000 in
set_option maxRecDepth 100000 in
theorem c_X12_row (l : Launch) (E : kE) (sz : Nat) (a0 a1 a2 : Nat) (w0_0 w0_1 w0_2 w0_3 w0_5 w0_6 w0_7 w0_8 w0_9 w0_10 w0_11 w0_12 w0_13 w0_14 w0_15 w0_16 w0_17 w0_18 w0_19 w0_20 w0_21 w0_22 w0_23 w0_24 w0_25 w0_26 w0_27 w0_28 w0_29 w0_30 w0_31 w0_32 w0_33 w0_34 w0_35 w0_36 w0_37 w0_38 w0_39 w0_40 w0_41 w0_42 w0_43 w0_44 w0_45 w0_46 w0_47 w0_48 w0_49 w0_50 w0_51 w0_52 w0_53 w0_54 w0_55 w0_57 w0_59 w0_60 w0_61 w0_62 w0_63 w0_64 w0_65 w0_66 : Value) (s_notes : Int32) (s_noteDay : Nat → Int32) (s_noteShape : Nat → Int32) (p1 : Int32) (p2 : Int32) (p3 : Int32) (r : Int32) (h : f_X12_row s_notes s_noteDay s_noteShape p1 p2 p3 = some (r)) : kMi l yX12_row cX12_row 9 (some .int) r_X12_row [.ref a0, .int p1, .int p2, .int p3] E [(a0, .inr (12, [w0_0, w0_1, w0_2, w0_3, .int s_notes, w0_5, w0_6, w0_7, w0_8, w0_9, w0_10, w0_11, w0_12, w0_13, w0_14, w0_15, w0_16, w0_17, w0_18, w0_19, w0_20, w0_21, w0_22, w0_23, w0_24, w0_25, w0_26, w0_27, w0_28, w0_29, w0_30, w0_31, w0_32, w0_33, w0_34, w0_35, w0_36, w0_37, w0_38, w0_39, w0_40, w0_41, w0_42, w0_43, w0_44, w0_45, w0_46, w0_47, w0_48, w0_49, w0_50, w0_51, w0_52, w0_53, w0_54, w0_55, .ref a1, w0_57, .ref a2, w0_59, w0_60, w0_61, w0_62, w0_63, w0_64, w0_65, w0_66])), (a1, .inl (E.2 0, 40, .inl s_noteDay)), (a2, .inl (E.2 0, 40, .inl s_noteShape))] sz 0 0 (fun x (_ : Unit) => x = r) (fun _ => [(a0, .inr (12, [w0_0, w0_1, w0_2, w0_3, .int s_notes, w0_5, w0_6, w0_7, w0_8, w0_9, w0_10, w0_11, w0_12, w0_13, w0_14, w0_15, w0_16, w0_17, w0_18, w0_19, w0_20, w0_21, w0_22, w0_23, w0_24, w0_25, w0_26, w0_27, w0_28, w0_29, w0_30, w0_31, w0_32, w0_33, w0_34, w0_35, w0_36, w0_37, w0_38, w0_39, w0_40, w0_41, w0_42, w0_43, w0_44, w0_45, w0_46, w0_47, w0_48, w0_49, w0_50, w0_51, w0_52, w0_53, w0_54, w0_55, .ref a1, w0_57, .ref a2, w0_59, w0_60, w0_61, w0_62, w0_63, w0_64, w0_65, w0_66])), (a1, .inl (E.2 0, 40, .inl s_noteDay)), (a2, .inl (E.2 0, 40, .inl s_noteShape))]) := by
  refine kmeti rfl (Nat.le_of_ble_eq_true rfl) ?_
  intro p e s m args below meth c ls A Q X hV hret hl
  have X : kC p s m c cX12_row 9 RX12 args E A := X
  have hx := X.1
  have hb := X.2.1
  have hl : lv_has ls 9 [(0, .ref a0), (1, .int p1), (2, .int p2), (3, .int p3)] := hl
  rw [f_X12_row] at h
  refine lv_iload_n hx hb dX12_row_0 rfl (lv_at hl 1 rfl) ?_
  obtain ⟨r1_1, hc2, h3⟩ := cb1_s h
  clear h
  refine kgoiE (krunS (rest := []) X hV [] (c_X12_isShape l E _ p1 r1_1 hc2) mw_921 kb_X12_isShape (by decide) rfl rfl hl.1 rfl (Nat.le_of_ble_eq_true rfl) dX12_row_1 (by decide)) X hV [] [0, 1, 2] rfl rfl rfl (by decide) (fun u H locs hV4 => ?_)
  have hV4 : kV E A s.heap H locs [(a0, .inr (12, [w0_0, w0_1, w0_2, w0_3, .int s_notes, w0_5, w0_6, w0_7, w0_8, w0_9, w0_10, w0_11, w0_12, w0_13, w0_14, w0_15, w0_16, w0_17, w0_18, w0_19, w0_20, w0_21, w0_22, w0_23, w0_24, w0_25, w0_26, w0_27, w0_28, w0_29, w0_30, w0_31, w0_32, w0_33, w0_34, w0_35, w0_36, w0_37, w0_38, w0_39, w0_40, w0_41, w0_42, w0_43, w0_44, w0_45, w0_46, w0_47, w0_48, w0_49, w0_50, w0_51, w0_52, w0_53, w0_54, w0_55, .ref a1, w0_57, .ref a2, w0_59, w0_60, w0_61, w0_62, w0_63, w0_64, w0_65, w0_66])), (a1, .inl (E.2 0, 40, .inl s_noteDay)), (a2, .inl (E.2 0, 40, .inl s_noteShape))] := hV4.sub [0, 1, 2] rfl rfl
  clear hV
  refine lv_if_eq (tgt := 35) hx hb dX12_row_4 (by decide) (fun c6 => ?_) (fun c6 => ?_)
  · have h7 := itS c6 h3
    clear h3 c6
    refine lv_iconst (v := (-1)) hx hb dX12_row_35 (by decide) ?_
    have q9 := tup1_s h7
    clear h7
    exact hret _ () _ _ _ _ q9 rfl hV4 dX12_row_36
  · have h8 := ieS c6 h3
    clear h3 c6
    refine lv_iload_n hx hb dX12_row_7 rfl (lv_at hl 2 rfl) ?_
    obtain ⟨r8_10, hc11, h12⟩ := cb1_s h8
    clear h8
    refine kgoiE (krunS (rest := []) X hV4 [] (c_X12_isWithin l E _ p2 r8_10 hc11) mw_924 kb_X12_isWithin (by decide) rfl rfl hl.1 rfl (Nat.le_of_ble_eq_true rfl) dX12_row_8 (by decide)) X hV4 [] [0, 1, 2] rfl rfl rfl (by decide) (fun u H locs hV13 => ?_)
    have hV13 : kV E A s.heap H locs [(a0, .inr (12, [w0_0, w0_1, w0_2, w0_3, .int s_notes, w0_5, w0_6, w0_7, w0_8, w0_9, w0_10, w0_11, w0_12, w0_13, w0_14, w0_15, w0_16, w0_17, w0_18, w0_19, w0_20, w0_21, w0_22, w0_23, w0_24, w0_25, w0_26, w0_27, w0_28, w0_29, w0_30, w0_31, w0_32, w0_33, w0_34, w0_35, w0_36, w0_37, w0_38, w0_39, w0_40, w0_41, w0_42, w0_43, w0_44, w0_45, w0_46, w0_47, w0_48, w0_49, w0_50, w0_51, w0_52, w0_53, w0_54, w0_55, .ref a1, w0_57, .ref a2, w0_59, w0_60, w0_61, w0_62, w0_63, w0_64, w0_65, w0_66])), (a1, .inl (E.2 0, 40, .inl s_noteDay)), (a2, .inl (E.2 0, 40, .inl s_noteShape))] := hV13.sub [0, 1, 2] rfl rfl
    clear hV4
    refine lv_if_eq (tgt := 35) hx hb dX12_row_11 (by decide) (fun c15 => ?_) (fun c15 => ?_)
    · have h16 := itS c15 h12
      clear h12 c15
      refine lv_iconst (v := (-1)) hx hb dX12_row_35 (by decide) ?_
      have q18 := tup1_s h16
      clear h16
      exact hret _ () _ _ _ _ q18 rfl hV13 dX12_row_36
    · have h17 := ieS c15 h12
      clear h12 c15
      refine lv_iload_n hx hb dX12_row_14 rfl (lv_at hl 3 rfl) ?_
      refine lv_i2l (v := Int32.toInt64 p3) hx hb dX12_row_15 rfl ?_
      refine lv_lconst (v := 0) hx hb dX12_row_16 (by decide) ?_
      refine lv_lconst (v := 1) hx hb dX12_row_17 (by decide) ?_
      obtain ⟨r18_19, hc20, h21⟩ := cb1_s h17
      clear h17
      refine kgoiE (krunS (rest := []) X hV13 [] (c_X12_lies l E _ (Int32.toInt64 p3) 0 1 r18_19 hc20) mw_224 kb_X12_lies (by decide) rfl rfl hl.1 rfl (Nat.le_of_ble_eq_true rfl) dX12_row_18 (by decide)) X hV13 [] [0, 1, 2] rfl rfl rfl (by decide) (fun u H locs hV22 => ?_)
      have hV22 : kV E A s.heap H locs [(a0, .inr (12, [w0_0, w0_1, w0_2, w0_3, .int s_notes, w0_5, w0_6, w0_7, w0_8, w0_9, w0_10, w0_11, w0_12, w0_13, w0_14, w0_15, w0_16, w0_17, w0_18, w0_19, w0_20, w0_21, w0_22, w0_23, w0_24, w0_25, w0_26, w0_27, w0_28, w0_29, w0_30, w0_31, w0_32, w0_33, w0_34, w0_35, w0_36, w0_37, w0_38, w0_39, w0_40, w0_41, w0_42, w0_43, w0_44, w0_45, w0_46, w0_47, w0_48, w0_49, w0_50, w0_51, w0_52, w0_53, w0_54, w0_55, .ref a1, w0_57, .ref a2, w0_59, w0_60, w0_61, w0_62, w0_63, w0_64, w0_65, w0_66])), (a1, .inl (E.2 0, 40, .inl s_noteDay)), (a2, .inl (E.2 0, 40, .inl s_noteShape))] := hV22.sub [0, 1, 2] rfl rfl
      clear hV13
      refine lv_if_eq (tgt := 35) hx hb dX12_row_21 (by decide) (fun c24 => ?_) (fun c24 => ?_)
      · have h25 := itS c24 h21
        clear h21 c24
        refine lv_iconst (v := (-1)) hx hb dX12_row_35 (by decide) ?_
        have q27 := tup1_s h25
        clear h25
        exact hret _ () _ _ _ _ q27 rfl hV22 dX12_row_36
      · have h26 := ieS c24 h21
        clear h21 c24
        refine lv_aload_n hx hb dX12_row_24 rfl (lv_at hl 0 rfl) ?_
        refine lv_iload_n hx hb dX12_row_25 rfl (lv_at hl 1 rfl) ?_
        refine lv_sipush (v := 400) hx hb dX12_row_26 (by decide) ?_
        obtain ⟨r29_28, hc29, h30⟩ := cb1_s h26
        clear h26
        refine kgoiE (krunV (rest := []) X hV22 [0, 1, 2] (c_X12_manyOf l E _ a0 a1 a2 (w0_0) (w0_1) (w0_2) (w0_3) (w0_5) (w0_6) (w0_7) (w0_8) (w0_9) (w0_10) (w0_11) (w0_12) (w0_13) (w0_14) (w0_15) (w0_16) (w0_17) (w0_18) (w0_19) (w0_20) (w0_21) (w0_22) (w0_23) (w0_24) (w0_25) (w0_26) (w0_27) (w0_28) (w0_29) (w0_30) (w0_31) (w0_32) (w0_33) (w0_34) (w0_35) (w0_36) (w0_37) (w0_38) (w0_39) (w0_40) (w0_41) (w0_42) (w0_43) (w0_44) (w0_45) (w0_46) (w0_47) (w0_48) (w0_49) (w0_50) (w0_51) (w0_52) (w0_53) (w0_54) (w0_55) (w0_57) (w0_59) (w0_60) (w0_61) (w0_62) (w0_63) (w0_64) (w0_65) (w0_66) s_notes s_noteDay s_noteShape p1 400 r29_28 hc29) mw_928 kb_X12_manyOf (ci := 12) rfl rfl (by decide) rfl rfl hl.1 rfl (Nat.le_of_ble_eq_true rfl) dX12_row_29 (by decide)) X hV22 [0, 1, 2] [] rfl rfl rfl (by decide) (fun u H locs hV31 => ?_)
        have hV31 : kV E A s.heap H locs [(a0, .inr (12, [w0_0, w0_1, w0_2, w0_3, .int s_notes, w0_5, w0_6, w0_7, w0_8, w0_9, w0_10, w0_11, w0_12, w0_13, w0_14, w0_15, w0_16, w0_17, w0_18, w0_19, w0_20, w0_21, w0_22, w0_23, w0_24, w0_25, w0_26, w0_27, w0_28, w0_29, w0_30, w0_31, w0_32, w0_33, w0_34, w0_35, w0_36, w0_37, w0_38, w0_39, w0_40, w0_41, w0_42, w0_43, w0_44, w0_45, w0_46, w0_47, w0_48, w0_49, w0_50, w0_51, w0_52, w0_53, w0_54, w0_55, .ref a1, w0_57, .ref a2, w0_59, w0_60, w0_61, w0_62, w0_63, w0_64, w0_65, w0_66])), (a1, .inl (E.2 0, 40, .inl s_noteDay)), (a2, .inl (E.2 0, 40, .inl s_noteShape))] := hV31.sub [0, 1, 2] rfl rfl
        clear hV22
        refine lv_if_ne (tgt := 37) hx hb dX12_row_32 (by decide) (fun c33 => ?_) (fun c33 => ?_)
        · have h34 := ieS c33 h30
          clear h30 c33
          refine lv_iconst (v := 0) hx hb dX12_row_37 (by decide) ?_
          refine lv_istore (lv' := [(4, .int 0), (0, .ref a0), (1, .int p1), (2, .int p2), (3, .int p3)]) hx hb dX12_row_38 hl (by decide) rfl (fun ls hl36 => ?_)
          clear hl
          refine lv_iconst (v := 0) hx hb dX12_row_40 (by decide) ?_
          refine lv_istore (lv' := [(5, .int 0), (4, .int 0), (0, .ref a0), (1, .int p1), (2, .int p2), (3, .int p3)]) hx hb dX12_row_41 hl36 (by decide) rfl (fun ls hl37 => ?_)
          clear hl36
          refine lv_iconst (v := 0) hx hb dX12_row_43 (by decide) ?_
          refine lv_istore (lv' := [(6, .int 0), (5, .int 0), (4, .int 0), (0, .ref a0), (1, .int p1), (2, .int p2), (3, .int p3)]) hx hb dX12_row_44 hl37 (by decide) rfl (fun ls hl38 => ?_)
          clear hl37
          have J130 : ∀  (H : Heap) (locs : List Loc) (ls : Array Slot), (f_X12_row_J130 p3 ) = some (r) → kV E A s.heap H locs [(a0, .inr (12, [w0_0, w0_1, w0_2, w0_3, .int s_notes, w0_5, w0_6, w0_7, w0_8, w0_9, w0_10, w0_11, w0_12, w0_13, w0_14, w0_15, w0_16, w0_17, w0_18, w0_19, w0_20, w0_21, w0_22, w0_23, w0_24, w0_25, w0_26, w0_27, w0_28, w0_29, w0_30, w0_31, w0_32, w0_33, w0_34, w0_35, w0_36, w0_37, w0_38, w0_39, w0_40, w0_41, w0_42, w0_43, w0_44, w0_45, w0_46, w0_47, w0_48, w0_49, w0_50, w0_51, w0_52, w0_53, w0_54, w0_55, .ref a1, w0_57, .ref a2, w0_59, w0_60, w0_61, w0_62, w0_63, w0_64, w0_65, w0_66])), (a1, .inl (E.2 0, 40, .inl s_noteDay)), (a2, .inl (E.2 0, 40, .inl s_noteShape))] → lv_has ls 9 [(3, .int p3), (4, .int 0), (5, .int 0)] → W p l e r_X12_row s m args below meth c H locs 0 0 Q (F0 m 130 ls []) := by
            intro  H locs ls hB130 hVB130 hlB130
            rw [f_X12_row_J130] at hB130
            refine lv_iload_n hx hb dX12_row_130 rfl (lv_at hlB130 0 rfl) ?_
            refine lv_if_ne (tgt := 139) hx hb dX12_row_131 (by decide) (fun c39 => ?_) (fun c39 => ?_)
            · have h40 := ieS c39 hB130
              clear hB130 c39
              refine lv_iload hx hb dX12_row_139 (lv_at hlB130 2 rfl) ?_
              have q42 := tup1_s h40
              clear h40
              exact hret _ () _ _ _ _ q42 rfl hVB130 dX12_row_141
            · have h41 := itS c39 hB130
              clear hB130 c39
              refine lv_iload hx hb dX12_row_134 (lv_at hlB130 1 rfl) ?_
              refine lv_goto (tgt := 141) hx hb dX12_row_136 (by decide) ?_
              have q43 := tup1_s h41
              clear h41
              exact hret _ () _ _ _ _ q43 rfl hVB130 dX12_row_141
          have L46 : ∀ (n46 : Nat) (x6_44 : Int32) (H : Heap) (locs : List Loc) (ls : Array Slot), (f_X12_row_L46 s_notes s_noteShape p1 (f_X12_row_J130 p3 ) n46) x6_44 = some (r) → kV E A s.heap H locs [(a0, .inr (12, [w0_0, w0_1, w0_2, w0_3, .int s_notes, w0_5, w0_6, w0_7, w0_8, w0_9, w0_10, w0_11, w0_12, w0_13, w0_14, w0_15, w0_16, w0_17, w0_18, w0_19, w0_20, w0_21, w0_22, w0_23, w0_24, w0_25, w0_26, w0_27, w0_28, w0_29, w0_30, w0_31, w0_32, w0_33, w0_34, w0_35, w0_36, w0_37, w0_38, w0_39, w0_40, w0_41, w0_42, w0_43, w0_44, w0_45, w0_46, w0_47, w0_48, w0_49, w0_50, w0_51, w0_52, w0_53, w0_54, w0_55, .ref a1, w0_57, .ref a2, w0_59, w0_60, w0_61, w0_62, w0_63, w0_64, w0_65, w0_66])), (a1, .inl (E.2 0, 40, .inl s_noteDay)), (a2, .inl (E.2 0, 40, .inl s_noteShape))] → lv_has ls 9 [(0, .ref a0), (1, .int p1), (3, .int p3), (4, .int 0), (5, .int 0), (6, .int x6_44)] → W p l e r_X12_row s m args below meth c H locs 0 0 Q (F0 m 46 ls []) := by
            intro n46
            induction n46 with
            | zero =>
              intro x6_44 H locs ls hB46 hVB46 hlB46
              rw [f_X12_row_L46] at hB46
              exact nomatch hB46
            | succ n46 ih46 =>
              intro x6_44 H locs ls hB46 hVB46 hlB46
              rw [f_X12_row_L46] at hB46
              refine lv_iload hx hb dX12_row_46 (lv_at hlB46 5 rfl) ?_
              refine lv_aload_n hx hb dX12_row_48 rfl (lv_at hlB46 0 rfl) ?_
              refine kget X hVB46 (ci := 12) inlX12 rfl 0 rfl 4 (by decide) mw_899 rfl dX12_row_49 ?_
              refine lv_icmp_ge (tgt := 130) hx hb dX12_row_52 (by decide) (fun c45 => ?_) (fun c45 => ?_)
              · have h46 := itS c45 hB46
                clear hB46 c45
                exact J130  _ _ _ h46 hVB46 (lv_sub hlB46 [2, 3, 4] rfl)
              · have h47 := ieS c45 hB46
                clear hB46 c45
                refine lv_aload_n hx hb dX12_row_55 rfl (lv_at hlB46 0 rfl) ?_
                refine kget X hVB46 (ci := 12) inlX12 rfl 0 rfl 58 (by decide) mw_170 rfl dX12_row_56 ?_
                refine lv_iload hx hb dX12_row_59 (lv_at hlB46 5 rfl) ?_
                obtain ⟨hi49, v61_48, e50, h51⟩ := rdI_s h47
                clear h47
                refine kiald X hVB46 2 rfl hi49 e50 dX12_row_61 ?_
                clear hi49 e50
                refine lv_iload_n hx hb dX12_row_62 rfl (lv_at hlB46 1 rfl) ?_
                refine lv_icmp_eq (tgt := 69) hx hb dX12_row_63 (by decide) (fun c52 => ?_) (fun c52 => ?_)
                · have h53 := itS c52 h51
                  clear h51 c52
                  refine lv_aload_n hx hb dX12_row_69 rfl (lv_at hlB46 0 rfl) ?_
                  refine lv_iload hx hb dX12_row_70 (lv_at hlB46 5 rfl) ?_
                  refine lv_iconst (v := 1) hx hb dX12_row_72 (by decide) ?_
                  exact nomatch h53
                · have h54 := ieS c52 h51
                  clear h51 c52
                  refine lv_goto (tgt := 124) hx hb dX12_row_66 (by decide) ?_
                  obtain ⟨v124_55, e56, h57⟩ := nmI_s h54
                  clear h54
                  refine lv_iinc (v := v124_55) (lv' := [(6, .int v124_55), (0, .ref a0), (1, .int p1), (3, .int p3), (4, .int 0), (5, .int 0)]) hx hb dX12_row_124 hlB46 (k := 5) rfl (by rw [e56]; rfl) (by decide) rfl (fun ls hl58 => ?_)
                  clear hlB46 e56
                  refine lv_goto (tgt := 46) hx hb dX12_row_127 (by decide) ?_
                  exact ih46 v124_55 _ _ _ h57 hVB46 (lv_sub hl58 [1, 2, 3, 4, 5, 0] rfl)
          exact L46 FU 0 _ _ _ h34 hV31 (lv_sub hl38 [3, 4, 6, 2, 1, 0] rfl)
        · have h35 := itS c33 h30
          clear h30 c33
          refine lv_iconst (v := (-1)) hx hb dX12_row_35 (by decide) ?_
          have q59 := tup1_s h35
          clear h35
          exact hret _ () _ _ _ _ q59 rfl hV31 dX12_row_36
abbrev r_X12_blip : Room := { frames := 1, cells := 0, slots := 0, locals := 25 }
set_option maxHeartbeats 4000000 in
set_option maxRecDepth 100000 in
theorem c_X12_blip (l : Launch) (E : kE) (sz : Nat) (a0 a1 : Nat) (w0_0 w0_1 w0_2 w0_3 w0_4 w0_6 w0_7 w0_8 w0_9 w0_10 w0_11 w0_12 w0_13 w0_14 w0_15 w0_16 w0_17 w0_18 w0_19 w0_20 w0_21 w0_22 w0_23 w0_24 w0_25 w0_26 w0_27 w0_28 w0_29 w0_30 w0_31 w0_32 w0_33 w0_34 w0_35 w0_36 w0_37 w0_38 w0_39 w0_40 w0_41 w0_42 w0_43 w0_44 w0_45 w0_46 w0_47 w0_48 w0_49 w0_50 w0_51 w0_52 w0_53 w0_54 w0_55 w0_56 w0_57 w0_58 w0_60 w0_61 w0_62 w0_63 w0_64 w0_65 w0_66 : Value) (s_blips : Int32) (s_time : Nat → Int32) (p1 : Int32) (r : Int32) (o_blips : Int32) (o_time : Nat → Int32) (h : f_X12_blip s_blips s_time p1 = some (r, o_blips, o_time)) : kMi l yX12_blip cX12_blip 2 (some .int) r_X12_blip [.ref a0, .int p1] E [(a0, .inr (12, [w0_0, w0_1, w0_2, w0_3, w0_4, .int s_blips, w0_6, w0_7, w0_8, w0_9, w0_10, w0_11, w0_12, w0_13, w0_14, w0_15, w0_16, w0_17, w0_18, w0_19, w0_20, w0_21, w0_22, w0_23, w0_24, w0_25, w0_26, w0_27, w0_28, w0_29, w0_30, w0_31, w0_32, w0_33, w0_34, w0_35, w0_36, w0_37, w0_38, w0_39, w0_40, w0_41, w0_42, w0_43, w0_44, w0_45, w0_46, w0_47, w0_48, w0_49, w0_50, w0_51, w0_52, w0_53, w0_54, w0_55, w0_56, w0_57, w0_58, .ref a1, w0_60, w0_61, w0_62, w0_63, w0_64, w0_65, w0_66])), (a1, .inl (E.2 0, 40, .inl s_time))] sz 0 0 (fun x (_ : Unit) => x = r) (fun _ => [(a0, .inr (12, [w0_0, w0_1, w0_2, w0_3, w0_4, .int o_blips, w0_6, w0_7, w0_8, w0_9, w0_10, w0_11, w0_12, w0_13, w0_14, w0_15, w0_16, w0_17, w0_18, w0_19, w0_20, w0_21, w0_22, w0_23, w0_24, w0_25, w0_26, w0_27, w0_28, w0_29, w0_30, w0_31, w0_32, w0_33, w0_34, w0_35, w0_36, w0_37, w0_38, w0_39, w0_40, w0_41, w0_42, w0_43, w0_44, w0_45, w0_46, w0_47, w0_48, w0_49, w0_50, w0_51, w0_52, w0_53, w0_54, w0_55, w0_56, w0_57, w0_58, .ref a1, w0_60, w0_61, w0_62, w0_63, w0_64, w0_65, w0_66])), (a1, .inl (E.2 0, 40, .inl o_time))]) := by
  refine kmeti rfl (Nat.le_of_ble_eq_true rfl) ?_
  intro p e s m args below meth c ls A Q X hV hret hl
  have X : kC p s m c cX12_blip 2 RX12 args E A := X
  have hx := X.1
  have hb := X.2.1
  have hl : lv_has ls 2 [(0, .ref a0), (1, .int p1)] := hl
  rw [f_X12_blip] at h
  refine lv_aload_n hx hb dX12_blip_0 rfl (lv_at hl 0 rfl) ?_
  refine kget X hV (ci := 12) inlX12 rfl 0 rfl 5 (by decide) mw_991 rfl dX12_blip_1 ?_
  refine lv_bipush (v := 40) hx hb dX12_blip_4 (by decide) ?_
  refine lv_icmp_eq (tgt := 43) hx hb dX12_blip_6 (by decide) (fun c1 => ?_) (fun c1 => ?_)
  · have h2 := itS c1 h
    clear h c1
    refine lv_iconst (v := (-1)) hx hb dX12_blip_43 (by decide) ?_
    obtain ⟨q4, q5, q6⟩ := tup3_s h2
    clear h2
    exact hret _ () _ _ _ _ q4 rfl (by rw [← q5, ← q6]; exact hV) dX12_blip_44
  · have h3 := ieS c1 h
    clear h c1
    refine lv_iload_n hx hb dX12_blip_9 rfl (lv_at hl 1 rfl) ?_
    refine lv_i2l (v := Int32.toInt64 p1) hx hb dX12_blip_10 rfl ?_
    refine lv_lconst (v := 0) hx hb dX12_blip_11 (by decide) ?_
    refine lv_ldc2 (v := 1000000000) hx hb X.2.2.2.1 (X.2.2.2.2.1 _ mw_992) dX12_blip_12 ?_
    obtain ⟨r15_7, hc8, h9⟩ := cb1_s h3
    clear h3
    refine kgoiE (krunS (rest := []) X hV [] (c_X12_lies l E _ (Int32.toInt64 p1) 0 1000000000 r15_7 hc8) mw_224 kb_X12_lies (by decide) rfl rfl hl.1 rfl (Nat.le_of_ble_eq_true rfl) dX12_blip_15 (by decide)) X hV [] [0, 1] rfl rfl rfl (by decide) (fun u H locs hV10 => ?_)
    have hV10 : kV E A s.heap H locs [(a0, .inr (12, [w0_0, w0_1, w0_2, w0_3, w0_4, .int s_blips, w0_6, w0_7, w0_8, w0_9, w0_10, w0_11, w0_12, w0_13, w0_14, w0_15, w0_16, w0_17, w0_18, w0_19, w0_20, w0_21, w0_22, w0_23, w0_24, w0_25, w0_26, w0_27, w0_28, w0_29, w0_30, w0_31, w0_32, w0_33, w0_34, w0_35, w0_36, w0_37, w0_38, w0_39, w0_40, w0_41, w0_42, w0_43, w0_44, w0_45, w0_46, w0_47, w0_48, w0_49, w0_50, w0_51, w0_52, w0_53, w0_54, w0_55, w0_56, w0_57, w0_58, .ref a1, w0_60, w0_61, w0_62, w0_63, w0_64, w0_65, w0_66])), (a1, .inl (E.2 0, 40, .inl s_time))] := hV10.sub [0, 1] rfl rfl
    clear hV
    refine lv_if_eq (tgt := 43) hx hb dX12_blip_18 (by decide) (fun c12 => ?_) (fun c12 => ?_)
    · have h13 := itS c12 h9
      clear h9 c12
      refine lv_iconst (v := (-1)) hx hb dX12_blip_43 (by decide) ?_
      obtain ⟨q15, q16, q17⟩ := tup3_s h13
      clear h13
      exact hret _ () _ _ _ _ q15 rfl (by rw [← q16, ← q17]; exact hV10) dX12_blip_44
    · have h14 := ieS c12 h9
      clear h9 c12
      refine lv_aload_n hx hb dX12_blip_21 rfl (lv_at hl 0 rfl) ?_
      refine kget X hV10 (ci := 12) inlX12 rfl 0 rfl 5 (by decide) mw_991 rfl dX12_blip_22 ?_
      have J45 : ∀  (H : Heap) (locs : List Loc) (ls : Array Slot), (f_X12_blip_J45 s_blips s_time p1 ) = some (r, o_blips, o_time) → kV E A s.heap H locs [(a0, .inr (12, [w0_0, w0_1, w0_2, w0_3, w0_4, .int s_blips, w0_6, w0_7, w0_8, w0_9, w0_10, w0_11, w0_12, w0_13, w0_14, w0_15, w0_16, w0_17, w0_18, w0_19, w0_20, w0_21, w0_22, w0_23, w0_24, w0_25, w0_26, w0_27, w0_28, w0_29, w0_30, w0_31, w0_32, w0_33, w0_34, w0_35, w0_36, w0_37, w0_38, w0_39, w0_40, w0_41, w0_42, w0_43, w0_44, w0_45, w0_46, w0_47, w0_48, w0_49, w0_50, w0_51, w0_52, w0_53, w0_54, w0_55, w0_56, w0_57, w0_58, .ref a1, w0_60, w0_61, w0_62, w0_63, w0_64, w0_65, w0_66])), (a1, .inl (E.2 0, 40, .inl s_time))] → lv_has ls 2 [(0, .ref a0), (1, .int p1)] → W p l e r_X12_blip s m args below meth c H locs 0 0 Q (F0 m 45 ls []) := by
        intro  H locs ls hB45 hVB45 hlB45
        rw [f_X12_blip_J45] at hB45
        refine lv_aload_n hx hb dX12_blip_45 rfl (lv_at hlB45 0 rfl) ?_
        refine kget X hVB45 (ci := 12) inlX12 rfl 0 rfl 59 (by decide) mw_171 rfl dX12_blip_46 ?_
        refine lv_aload_n hx hb dX12_blip_49 rfl (lv_at hlB45 0 rfl) ?_
        refine kget X hVB45 (ci := 12) inlX12 rfl 0 rfl 5 (by decide) mw_991 rfl dX12_blip_50 ?_
        refine lv_iload_n hx hb dX12_blip_53 rfl (lv_at hlB45 1 rfl) ?_
        obtain ⟨hi19, g54_18, e20, h21⟩ := wrI_s hB45
        clear hB45
        refine kiast X hVB45 1 rfl hi19 e20 dX12_blip_54 (fun H locs hV22 => ?_)
        have hV22 : kV E A s.heap H locs [(a0, .inr (12, [w0_0, w0_1, w0_2, w0_3, w0_4, .int s_blips, w0_6, w0_7, w0_8, w0_9, w0_10, w0_11, w0_12, w0_13, w0_14, w0_15, w0_16, w0_17, w0_18, w0_19, w0_20, w0_21, w0_22, w0_23, w0_24, w0_25, w0_26, w0_27, w0_28, w0_29, w0_30, w0_31, w0_32, w0_33, w0_34, w0_35, w0_36, w0_37, w0_38, w0_39, w0_40, w0_41, w0_42, w0_43, w0_44, w0_45, w0_46, w0_47, w0_48, w0_49, w0_50, w0_51, w0_52, w0_53, w0_54, w0_55, w0_56, w0_57, w0_58, .ref a1, w0_60, w0_61, w0_62, w0_63, w0_64, w0_65, w0_66])), (a1, .inl (E.2 0, 40, .inl g54_18))] := hV22
        clear hVB45 hi19 e20
        refine lv_aload_n hx hb dX12_blip_55 rfl (lv_at hlB45 0 rfl) ?_
        refine lv_dup hx hb dX12_blip_56 rfl ?_
        refine kget X hV22 (ci := 12) inlX12 rfl 0 rfl 5 (by decide) mw_991 rfl dX12_blip_57 ?_
        refine lv_iconst (v := 1) hx hb dX12_blip_60 (by decide) ?_
        refine lv_iadd hx hb dX12_blip_61 ?_
        obtain ⟨v62_23, e24, h25⟩ := nmI_s h21
        clear h21
        refine ktopi e24 ?_
        clear e24
        refine kput X hV22 (ci := 12) inlX12 rfl tyX12 tyX12_ok nmX12 0 rfl 5 (by decide) mw_991 rfl rfl rfl (Nat.le_of_ble_eq_true rfl) dX12_blip_62 (fun H locs hV26 => ?_)
        have hV26 : kV E A s.heap H locs [(a0, .inr (12, [w0_0, w0_1, w0_2, w0_3, w0_4, .int v62_23, w0_6, w0_7, w0_8, w0_9, w0_10, w0_11, w0_12, w0_13, w0_14, w0_15, w0_16, w0_17, w0_18, w0_19, w0_20, w0_21, w0_22, w0_23, w0_24, w0_25, w0_26, w0_27, w0_28, w0_29, w0_30, w0_31, w0_32, w0_33, w0_34, w0_35, w0_36, w0_37, w0_38, w0_39, w0_40, w0_41, w0_42, w0_43, w0_44, w0_45, w0_46, w0_47, w0_48, w0_49, w0_50, w0_51, w0_52, w0_53, w0_54, w0_55, w0_56, w0_57, w0_58, .ref a1, w0_60, w0_61, w0_62, w0_63, w0_64, w0_65, w0_66])), (a1, .inl (E.2 0, 40, .inl g54_18))] := hV26
        clear hV22
        refine lv_aload_n hx hb dX12_blip_65 rfl (lv_at hlB45 0 rfl) ?_
        refine kget X hV26 (ci := 12) inlX12 rfl 0 rfl 5 (by decide) mw_991 rfl dX12_blip_66 ?_
        refine lv_iconst (v := 1) hx hb dX12_blip_69 (by decide) ?_
        refine lv_isub hx hb dX12_blip_70 ?_
        obtain ⟨q27, q28, q29⟩ := tup3_s h25
        clear h25
        exact hret _ () _ _ _ _ q27 rfl (by rw [← q28, ← q29]; exact hV26) dX12_blip_71
      refine lv_if_le (tgt := 45) hx hb dX12_blip_25 (by decide) (fun c30 => ?_) (fun c30 => ?_)
      · have h31 := itS c30 h14
        clear h14 c30
        exact J45  _ _ _ h31 hV10 (lv_sub hl [0, 1] rfl)
      · have h32 := ieS c30 h14
        clear h14 c30
        refine lv_iload_n hx hb dX12_blip_28 rfl (lv_at hl 1 rfl) ?_
        refine lv_aload_n hx hb dX12_blip_29 rfl (lv_at hl 0 rfl) ?_
        refine kget X hV10 (ci := 12) inlX12 rfl 0 rfl 59 (by decide) mw_171 rfl dX12_blip_30 ?_
        refine lv_aload_n hx hb dX12_blip_33 rfl (lv_at hl 0 rfl) ?_
        refine kget X hV10 (ci := 12) inlX12 rfl 0 rfl 5 (by decide) mw_991 rfl dX12_blip_34 ?_
        refine lv_iconst (v := 1) hx hb dX12_blip_37 (by decide) ?_
        refine lv_isub hx hb dX12_blip_38 ?_
        obtain ⟨hi34, v39_33, e35, h36⟩ := rdI_s h32
        clear h32
        refine kiald X hV10 1 rfl hi34 e35 dX12_blip_39 ?_
        clear hi34 e35
        refine lv_icmp_gt (tgt := 45) hx hb dX12_blip_40 (by decide) (fun c37 => ?_) (fun c37 => ?_)
        · have h38 := itS c37 h36
          clear h36 c37
          exact J45  _ _ _ h38 hV10 (lv_sub hl [0, 1] rfl)
        · have h39 := ieS c37 h36
          clear h36 c37
          refine lv_iconst (v := (-1)) hx hb dX12_blip_43 (by decide) ?_
          obtain ⟨q40, q41, q42⟩ := tup3_s h39
          clear h39
          exact hret _ () _ _ _ _ q40 rfl (by rw [← q41, ← q42]; exact hV10) dX12_blip_44
abbrev r_X12_isBeat : Room := { frames := 1, cells := 0, slots := 0, locals := 25 }
set_option maxHeartbeats 4000000 in
set_option maxRecDepth 100000 in
theorem c_X12_isBeat (l : Launch) (E : kE) (sz : Nat) (p1 : Int32) (r : Int32) (h : f_X12_isBeat p1 = some (r)) : kMi l yX12_isBeat cX12_isBeat 1 (some .boolean) r_X12_isBeat [.int p1] E [] sz 0 0 (fun x (_ : Unit) => x = r) (fun _ => []) := by
  refine kmeti rfl (Nat.le_of_ble_eq_true rfl) ?_
  intro p e s m args below meth c ls A Q X hV hret hl
  have X : kC p s m c cX12_isBeat 1 RX12 args E A := X
  have hx := X.1
  have hb := X.2.1
  have hl : lv_has ls 1 [(0, .int p1)] := hl
  rw [f_X12_isBeat] at h
  refine lv_iload_n hx hb dX12_isBeat_0 rfl (lv_at hl 0 rfl) ?_
  refine lv_i2l (v := Int32.toInt64 p1) hx hb dX12_isBeat_1 rfl ?_
  refine lv_lconst (v := 1) hx hb dX12_isBeat_2 (by decide) ?_
  refine lv_ldc2 (v := 1000000) hx hb X.2.2.2.1 (X.2.2.2.2.1 _ mw_1014) dX12_isBeat_3 ?_
  obtain ⟨r6_1, hc2, h3⟩ := cb1_s h
  clear h
  refine kgoiE (krunS (rest := []) X hV [] (c_X12_lies l E _ (Int32.toInt64 p1) 1 1000000 r6_1 hc2) mw_224 kb_X12_lies (by decide) rfl rfl hl.1 rfl (Nat.le_of_ble_eq_true rfl) dX12_isBeat_6 (by decide)) X hV [] [] rfl rfl rfl (by decide) (fun u H locs hV4 => ?_)
  have hV4 : kV E A s.heap H locs [] := hV4.sub [] rfl rfl
  clear hV
  obtain ⟨hb6, h7⟩ := bo_s h3
  clear h3
  have q8 := tup1_s h7
  clear h7
  exact hret _ () _ _ _ _ q8 hb6 hV4 dX12_isBeat_9
abbrev r_X12_fits : Room := { frames := 2, cells := 0, slots := 0, locals := 45 }
set_option maxHeartbeats 4000000 in
set_option maxRecDepth 100000 in
theorem c_X12_fits (l : Launch) (E : kE) (sz : Nat) (a0 : Nat) (w0_0 w0_1 w0_2 w0_3 w0_4 w0_6 w0_7 w0_8 w0_9 w0_10 w0_11 w0_12 w0_13 w0_14 w0_15 w0_16 w0_17 w0_18 w0_19 w0_20 w0_21 w0_22 w0_23 w0_24 w0_25 w0_26 w0_27 w0_28 w0_29 w0_30 w0_31 w0_32 w0_33 w0_34 w0_35 w0_36 w0_37 w0_38 w0_39 w0_40 w0_41 w0_42 w0_43 w0_44 w0_45 w0_46 w0_47 w0_48 w0_49 w0_50 w0_51 w0_52 w0_53 w0_54 w0_55 w0_56 w0_57 w0_58 w0_59 w0_60 w0_61 w0_62 w0_63 w0_64 w0_65 w0_66 : Value) (s_blips : Int32) (p1 : Int32) (p2 : Int32) (r : Int32) (h : f_X12_fits s_blips p1 p2 = some (r)) : kMi l yX12_fits cX12_fits 3 (some .int) r_X12_fits [.ref a0, .int p1, .int p2] E [(a0, .inr (12, [w0_0, w0_1, w0_2, w0_3, w0_4, .int s_blips, w0_6, w0_7, w0_8, w0_9, w0_10, w0_11, w0_12, w0_13, w0_14, w0_15, w0_16, w0_17, w0_18, w0_19, w0_20, w0_21, w0_22, w0_23, w0_24, w0_25, w0_26, w0_27, w0_28, w0_29, w0_30, w0_31, w0_32, w0_33, w0_34, w0_35, w0_36, w0_37, w0_38, w0_39, w0_40, w0_41, w0_42, w0_43, w0_44, w0_45, w0_46, w0_47, w0_48, w0_49, w0_50, w0_51, w0_52, w0_53, w0_54, w0_55, w0_56, w0_57, w0_58, w0_59, w0_60, w0_61, w0_62, w0_63, w0_64, w0_65, w0_66]))] sz 0 0 (fun x (_ : Unit) => x = r) (fun _ => [(a0, .inr (12, [w0_0, w0_1, w0_2, w0_3, w0_4, .int s_blips, w0_6, w0_7, w0_8, w0_9, w0_10, w0_11, w0_12, w0_13, w0_14, w0_15, w0_16, w0_17, w0_18, w0_19, w0_20, w0_21, w0_22, w0_23, w0_24, w0_25, w0_26, w0_27, w0_28, w0_29, w0_30, w0_31, w0_32, w0_33, w0_34, w0_35, w0_36, w0_37, w0_38, w0_39, w0_40, w0_41, w0_42, w0_43, w0_44, w0_45, w0_46, w0_47, w0_48, w0_49, w0_50, w0_51, w0_52, w0_53, w0_54, w0_55, w0_56, w0_57, w0_58, w0_59, w0_60, w0_61, w0_62, w0_63, w0_64, w0_65, w0_66]))]) := by
  refine kmeti rfl (Nat.le_of_ble_eq_true rfl) ?_
  intro p e s m args below meth c ls A Q X hV hret hl
  have X : kC p s m c cX12_fits 3 RX12 args E A := X
  have hx := X.1
  have hb := X.2.1
  have hl : lv_has ls 3 [(0, .ref a0), (1, .int p1), (2, .int p2)] := hl
  rw [f_X12_fits] at h
  refine lv_iload_n hx hb dX12_fits_0 rfl (lv_at hl 1 rfl) ?_
  obtain ⟨r1_1, hc2, h3⟩ := cb1_s h
  clear h
  refine kgoiE (krunS (rest := []) X hV [] (c_X12_isBeat l E _ p1 r1_1 hc2) mw_1011 kb_X12_isBeat (by decide) rfl rfl hl.1 rfl (Nat.le_of_ble_eq_true rfl) dX12_fits_1 (by decide)) X hV [] [0] rfl rfl rfl (by decide) (fun u H locs hV4 => ?_)
  have hV4 : kV E A s.heap H locs [(a0, .inr (12, [w0_0, w0_1, w0_2, w0_3, w0_4, .int s_blips, w0_6, w0_7, w0_8, w0_9, w0_10, w0_11, w0_12, w0_13, w0_14, w0_15, w0_16, w0_17, w0_18, w0_19, w0_20, w0_21, w0_22, w0_23, w0_24, w0_25, w0_26, w0_27, w0_28, w0_29, w0_30, w0_31, w0_32, w0_33, w0_34, w0_35, w0_36, w0_37, w0_38, w0_39, w0_40, w0_41, w0_42, w0_43, w0_44, w0_45, w0_46, w0_47, w0_48, w0_49, w0_50, w0_51, w0_52, w0_53, w0_54, w0_55, w0_56, w0_57, w0_58, w0_59, w0_60, w0_61, w0_62, w0_63, w0_64, w0_65, w0_66]))] := hV4.sub [0] rfl rfl
  clear hV
  refine lv_if_eq (tgt := 51) hx hb dX12_fits_4 (by decide) (fun c6 => ?_) (fun c6 => ?_)
  · have h7 := itS c6 h3
    clear h3 c6
    refine lv_iconst (v := (-1)) hx hb dX12_fits_51 (by decide) ?_
    have q9 := tup1_s h7
    clear h7
    exact hret _ () _ _ _ _ q9 rfl hV4 dX12_fits_52
  · have h8 := ieS c6 h3
    clear h3 c6
    refine lv_iload_n hx hb dX12_fits_7 rfl (lv_at hl 2 rfl) ?_
    refine lv_i2l (v := Int32.toInt64 p2) hx hb dX12_fits_8 rfl ?_
    refine lv_lconst (v := 0) hx hb dX12_fits_9 (by decide) ?_
    refine lv_ldc2 (v := 1000) hx hb X.2.2.2.1 (X.2.2.2.2.1 _ mw_1010) dX12_fits_10 ?_
    obtain ⟨r13_10, hc11, h12⟩ := cb1_s h8
    clear h8
    refine kgoiE (krunS (rest := []) X hV4 [] (c_X12_lies l E _ (Int32.toInt64 p2) 0 1000 r13_10 hc11) mw_224 kb_X12_lies (by decide) rfl rfl hl.1 rfl (Nat.le_of_ble_eq_true rfl) dX12_fits_13 (by decide)) X hV4 [] [0] rfl rfl rfl (by decide) (fun u H locs hV13 => ?_)
    have hV13 : kV E A s.heap H locs [(a0, .inr (12, [w0_0, w0_1, w0_2, w0_3, w0_4, .int s_blips, w0_6, w0_7, w0_8, w0_9, w0_10, w0_11, w0_12, w0_13, w0_14, w0_15, w0_16, w0_17, w0_18, w0_19, w0_20, w0_21, w0_22, w0_23, w0_24, w0_25, w0_26, w0_27, w0_28, w0_29, w0_30, w0_31, w0_32, w0_33, w0_34, w0_35, w0_36, w0_37, w0_38, w0_39, w0_40, w0_41, w0_42, w0_43, w0_44, w0_45, w0_46, w0_47, w0_48, w0_49, w0_50, w0_51, w0_52, w0_53, w0_54, w0_55, w0_56, w0_57, w0_58, w0_59, w0_60, w0_61, w0_62, w0_63, w0_64, w0_65, w0_66]))] := hV13.sub [0] rfl rfl
    clear hV4
    refine lv_if_eq (tgt := 51) hx hb dX12_fits_16 (by decide) (fun c15 => ?_) (fun c15 => ?_)
    · have h16 := itS c15 h12
      clear h12 c15
      refine lv_iconst (v := (-1)) hx hb dX12_fits_51 (by decide) ?_
      have q18 := tup1_s h16
      clear h16
      exact hret _ () _ _ _ _ q18 rfl hV13 dX12_fits_52
    · have h17 := ieS c15 h12
      clear h12 c15
      refine lv_iconst (v := 2) hx hb dX12_fits_19 (by decide) ?_
      refine lv_iload_n hx hb dX12_fits_20 rfl (lv_at hl 2 rfl) ?_
      refine lv_imul hx hb dX12_fits_21 ?_
      refine lv_iload_n hx hb dX12_fits_22 rfl (lv_at hl 1 rfl) ?_
      refine lv_icmp_ge (tgt := 51) hx hb dX12_fits_23 (by decide) (fun c19 => ?_) (fun c19 => ?_)
      · have h20 := itS c19 h17
        clear h17 c19
        refine lv_iconst (v := (-1)) hx hb dX12_fits_51 (by decide) ?_
        have q22 := tup1_s h20
        clear h20
        exact hret _ () _ _ _ _ q22 rfl hV13 dX12_fits_52
      · have h21 := ieS c19 h17
        clear h17 c19
        refine lv_aload_n hx hb dX12_fits_26 rfl (lv_at hl 0 rfl) ?_
        refine kget X hV13 (ci := 12) inlX12 rfl 0 rfl 5 (by decide) mw_991 rfl dX12_fits_27 ?_
        refine lv_iconst (v := 1) hx hb dX12_fits_30 (by decide) ?_
        refine lv_icmp_le (tgt := 51) hx hb dX12_fits_31 (by decide) (fun c23 => ?_) (fun c23 => ?_)
        · have h24 := itS c23 h21
          clear h21 c23
          refine lv_iconst (v := (-1)) hx hb dX12_fits_51 (by decide) ?_
          have q26 := tup1_s h24
          clear h24
          exact hret _ () _ _ _ _ q26 rfl hV13 dX12_fits_52
        · have h25 := ieS c23 h21
          clear h21 c23
          refine lv_aload_n hx hb dX12_fits_34 rfl (lv_at hl 0 rfl) ?_
          refine lv_iload_n hx hb dX12_fits_35 rfl (lv_at hl 1 rfl) ?_
          refine lv_iload_n hx hb dX12_fits_36 rfl (lv_at hl 2 rfl) ?_
          exact nomatch h25
abbrev r_X12_canBeat : Room := { frames := 2, cells := 0, slots := 0, locals := 45 }
set_option maxHeartbeats 4000000 in
set_option maxRecDepth 100000 in
theorem c_X12_canBeat (l : Launch) (E : kE) (sz : Nat) (a0 : Nat) (w0_0 w0_1 w0_2 w0_3 w0_4 w0_6 w0_7 w0_8 w0_9 w0_10 w0_11 w0_12 w0_13 w0_14 w0_15 w0_16 w0_17 w0_18 w0_19 w0_20 w0_21 w0_22 w0_23 w0_24 w0_25 w0_26 w0_27 w0_28 w0_29 w0_30 w0_31 w0_32 w0_33 w0_34 w0_35 w0_36 w0_37 w0_38 w0_39 w0_40 w0_41 w0_42 w0_43 w0_44 w0_45 w0_46 w0_47 w0_48 w0_49 w0_50 w0_51 w0_52 w0_53 w0_54 w0_55 w0_56 w0_57 w0_58 w0_59 w0_60 w0_61 w0_62 w0_63 w0_64 w0_65 w0_66 : Value) (s_blips : Int32) (p1 : Int32) (p2 : Int32) (p3 : Int32) (r : Int32) (h : f_X12_canBeat s_blips p1 p2 p3 = some (r)) : kMi l yX12_canBeat cX12_canBeat 4 (some .boolean) r_X12_canBeat [.ref a0, .int p1, .int p2, .int p3] E [(a0, .inr (12, [w0_0, w0_1, w0_2, w0_3, w0_4, .int s_blips, w0_6, w0_7, w0_8, w0_9, w0_10, w0_11, w0_12, w0_13, w0_14, w0_15, w0_16, w0_17, w0_18, w0_19, w0_20, w0_21, w0_22, w0_23, w0_24, w0_25, w0_26, w0_27, w0_28, w0_29, w0_30, w0_31, w0_32, w0_33, w0_34, w0_35, w0_36, w0_37, w0_38, w0_39, w0_40, w0_41, w0_42, w0_43, w0_44, w0_45, w0_46, w0_47, w0_48, w0_49, w0_50, w0_51, w0_52, w0_53, w0_54, w0_55, w0_56, w0_57, w0_58, w0_59, w0_60, w0_61, w0_62, w0_63, w0_64, w0_65, w0_66]))] sz 0 0 (fun x (_ : Unit) => x = r) (fun _ => [(a0, .inr (12, [w0_0, w0_1, w0_2, w0_3, w0_4, .int s_blips, w0_6, w0_7, w0_8, w0_9, w0_10, w0_11, w0_12, w0_13, w0_14, w0_15, w0_16, w0_17, w0_18, w0_19, w0_20, w0_21, w0_22, w0_23, w0_24, w0_25, w0_26, w0_27, w0_28, w0_29, w0_30, w0_31, w0_32, w0_33, w0_34, w0_35, w0_36, w0_37, w0_38, w0_39, w0_40, w0_41, w0_42, w0_43, w0_44, w0_45, w0_46, w0_47, w0_48, w0_49, w0_50, w0_51, w0_52, w0_53, w0_54, w0_55, w0_56, w0_57, w0_58, w0_59, w0_60, w0_61, w0_62, w0_63, w0_64, w0_65, w0_66]))]) := by
  refine kmeti rfl (Nat.le_of_ble_eq_true rfl) ?_
  intro p e s m args below meth c ls A Q X hV hret hl
  have X : kC p s m c cX12_canBeat 4 RX12 args E A := X
  have hx := X.1
  have hb := X.2.1
  have hl : lv_has ls 4 [(0, .ref a0), (1, .int p1), (2, .int p2), (3, .int p3)] := hl
  rw [f_X12_canBeat] at h
  refine lv_iload_n hx hb dX12_canBeat_0 rfl (lv_at hl 1 rfl) ?_
  obtain ⟨r1_1, hc2, h3⟩ := cb1_s h
  clear h
  refine kgoiE (krunS (rest := []) X hV [] (c_X12_isBeat l E _ p1 r1_1 hc2) mw_1011 kb_X12_isBeat (by decide) rfl rfl hl.1 rfl (Nat.le_of_ble_eq_true rfl) dX12_canBeat_1 (by decide)) X hV [] [0] rfl rfl rfl (by decide) (fun u H locs hV4 => ?_)
  have hV4 : kV E A s.heap H locs [(a0, .inr (12, [w0_0, w0_1, w0_2, w0_3, w0_4, .int s_blips, w0_6, w0_7, w0_8, w0_9, w0_10, w0_11, w0_12, w0_13, w0_14, w0_15, w0_16, w0_17, w0_18, w0_19, w0_20, w0_21, w0_22, w0_23, w0_24, w0_25, w0_26, w0_27, w0_28, w0_29, w0_30, w0_31, w0_32, w0_33, w0_34, w0_35, w0_36, w0_37, w0_38, w0_39, w0_40, w0_41, w0_42, w0_43, w0_44, w0_45, w0_46, w0_47, w0_48, w0_49, w0_50, w0_51, w0_52, w0_53, w0_54, w0_55, w0_56, w0_57, w0_58, w0_59, w0_60, w0_61, w0_62, w0_63, w0_64, w0_65, w0_66]))] := hV4.sub [0] rfl rfl
  clear hV
  refine lv_if_eq (tgt := 61) hx hb dX12_canBeat_4 (by decide) (fun c6 => ?_) (fun c6 => ?_)
  · have h7 := itS c6 h3
    clear h3 c6
    refine lv_iconst (v := 0) hx hb dX12_canBeat_61 (by decide) ?_
    have q9 := tup1_s h7
    clear h7
    exact hret _ () _ _ _ _ q9 rfl hV4 dX12_canBeat_62
  · have h8 := ieS c6 h3
    clear h3 c6
    refine lv_iload_n hx hb dX12_canBeat_7 rfl (lv_at hl 2 rfl) ?_
    obtain ⟨r8_10, hc11, h12⟩ := cb1_s h8
    clear h8
    refine kgoiE (krunS (rest := []) X hV4 [] (c_X12_isBeat l E _ p2 r8_10 hc11) mw_1011 kb_X12_isBeat (by decide) rfl rfl hl.1 rfl (Nat.le_of_ble_eq_true rfl) dX12_canBeat_8 (by decide)) X hV4 [] [0] rfl rfl rfl (by decide) (fun u H locs hV13 => ?_)
    have hV13 : kV E A s.heap H locs [(a0, .inr (12, [w0_0, w0_1, w0_2, w0_3, w0_4, .int s_blips, w0_6, w0_7, w0_8, w0_9, w0_10, w0_11, w0_12, w0_13, w0_14, w0_15, w0_16, w0_17, w0_18, w0_19, w0_20, w0_21, w0_22, w0_23, w0_24, w0_25, w0_26, w0_27, w0_28, w0_29, w0_30, w0_31, w0_32, w0_33, w0_34, w0_35, w0_36, w0_37, w0_38, w0_39, w0_40, w0_41, w0_42, w0_43, w0_44, w0_45, w0_46, w0_47, w0_48, w0_49, w0_50, w0_51, w0_52, w0_53, w0_54, w0_55, w0_56, w0_57, w0_58, w0_59, w0_60, w0_61, w0_62, w0_63, w0_64, w0_65, w0_66]))] := hV13.sub [0] rfl rfl
    clear hV4
    refine lv_if_eq (tgt := 61) hx hb dX12_canBeat_11 (by decide) (fun c15 => ?_) (fun c15 => ?_)
    · have h16 := itS c15 h12
      clear h12 c15
      refine lv_iconst (v := 0) hx hb dX12_canBeat_61 (by decide) ?_
      have q18 := tup1_s h16
      clear h16
      exact hret _ () _ _ _ _ q18 rfl hV13 dX12_canBeat_62
    · have h17 := ieS c15 h12
      clear h12 c15
      refine lv_iload_n hx hb dX12_canBeat_14 rfl (lv_at hl 2 rfl) ?_
      refine lv_i2l (v := Int32.toInt64 p2) hx hb dX12_canBeat_15 rfl ?_
      refine lv_iload_n hx hb dX12_canBeat_16 rfl (lv_at hl 1 rfl) ?_
      refine lv_i2l (v := Int32.toInt64 p1) hx hb dX12_canBeat_17 rfl ?_
      refine lv_iload_n hx hb dX12_canBeat_18 rfl (lv_at hl 1 rfl) ?_
      refine lv_sipush (v := 2000) hx hb dX12_canBeat_19 (by decide) ?_
      refine lv_iadd hx hb dX12_canBeat_22 ?_
      refine lv_i2l (v := Int32.toInt64 (p1 + 2000)) hx hb dX12_canBeat_23 rfl ?_
      obtain ⟨r24_19, hc20, h21⟩ := cb1_s h17
      clear h17
      refine kgoiE (krunS (rest := []) X hV13 [] (c_X12_lies l E _ (Int32.toInt64 p2) (Int32.toInt64 p1) (Int32.toInt64 (p1 + 2000)) r24_19 hc20) mw_224 kb_X12_lies (by decide) rfl rfl hl.1 rfl (Nat.le_of_ble_eq_true rfl) dX12_canBeat_24 (by decide)) X hV13 [] [0] rfl rfl rfl (by decide) (fun u H locs hV22 => ?_)
      have hV22 : kV E A s.heap H locs [(a0, .inr (12, [w0_0, w0_1, w0_2, w0_3, w0_4, .int s_blips, w0_6, w0_7, w0_8, w0_9, w0_10, w0_11, w0_12, w0_13, w0_14, w0_15, w0_16, w0_17, w0_18, w0_19, w0_20, w0_21, w0_22, w0_23, w0_24, w0_25, w0_26, w0_27, w0_28, w0_29, w0_30, w0_31, w0_32, w0_33, w0_34, w0_35, w0_36, w0_37, w0_38, w0_39, w0_40, w0_41, w0_42, w0_43, w0_44, w0_45, w0_46, w0_47, w0_48, w0_49, w0_50, w0_51, w0_52, w0_53, w0_54, w0_55, w0_56, w0_57, w0_58, w0_59, w0_60, w0_61, w0_62, w0_63, w0_64, w0_65, w0_66]))] := hV22.sub [0] rfl rfl
      clear hV13
      refine lv_if_eq (tgt := 61) hx hb dX12_canBeat_27 (by decide) (fun c24 => ?_) (fun c24 => ?_)
      · have h25 := itS c24 h21
        clear h21 c24
        refine lv_iconst (v := 0) hx hb dX12_canBeat_61 (by decide) ?_
        have q27 := tup1_s h25
        clear h25
        exact hret _ () _ _ _ _ q27 rfl hV22 dX12_canBeat_62
      · have h26 := ieS c24 h21
        clear h21 c24
        refine lv_iload_n hx hb dX12_canBeat_30 rfl (lv_at hl 3 rfl) ?_
        refine lv_i2l (v := Int32.toInt64 p3) hx hb dX12_canBeat_31 rfl ?_
        refine lv_lconst (v := 0) hx hb dX12_canBeat_32 (by decide) ?_
        refine lv_ldc2 (v := 1000) hx hb X.2.2.2.1 (X.2.2.2.2.1 _ mw_1010) dX12_canBeat_33 ?_
        obtain ⟨r36_28, hc29, h30⟩ := cb1_s h26
        clear h26
        refine kgoiE (krunS (rest := []) X hV22 [] (c_X12_lies l E _ (Int32.toInt64 p3) 0 1000 r36_28 hc29) mw_224 kb_X12_lies (by decide) rfl rfl hl.1 rfl (Nat.le_of_ble_eq_true rfl) dX12_canBeat_36 (by decide)) X hV22 [] [0] rfl rfl rfl (by decide) (fun u H locs hV31 => ?_)
        have hV31 : kV E A s.heap H locs [(a0, .inr (12, [w0_0, w0_1, w0_2, w0_3, w0_4, .int s_blips, w0_6, w0_7, w0_8, w0_9, w0_10, w0_11, w0_12, w0_13, w0_14, w0_15, w0_16, w0_17, w0_18, w0_19, w0_20, w0_21, w0_22, w0_23, w0_24, w0_25, w0_26, w0_27, w0_28, w0_29, w0_30, w0_31, w0_32, w0_33, w0_34, w0_35, w0_36, w0_37, w0_38, w0_39, w0_40, w0_41, w0_42, w0_43, w0_44, w0_45, w0_46, w0_47, w0_48, w0_49, w0_50, w0_51, w0_52, w0_53, w0_54, w0_55, w0_56, w0_57, w0_58, w0_59, w0_60, w0_61, w0_62, w0_63, w0_64, w0_65, w0_66]))] := hV31.sub [0] rfl rfl
        clear hV22
        refine lv_if_eq (tgt := 61) hx hb dX12_canBeat_39 (by decide) (fun c33 => ?_) (fun c33 => ?_)
        · have h34 := itS c33 h30
          clear h30 c33
          refine lv_iconst (v := 0) hx hb dX12_canBeat_61 (by decide) ?_
          have q36 := tup1_s h34
          clear h34
          exact hret _ () _ _ _ _ q36 rfl hV31 dX12_canBeat_62
        · have h35 := ieS c33 h30
          clear h30 c33
          refine lv_iconst (v := 2) hx hb dX12_canBeat_42 (by decide) ?_
          refine lv_iload_n hx hb dX12_canBeat_43 rfl (lv_at hl 3 rfl) ?_
          refine lv_imul hx hb dX12_canBeat_44 ?_
          refine lv_iload_n hx hb dX12_canBeat_45 rfl (lv_at hl 1 rfl) ?_
          refine lv_icmp_ge (tgt := 61) hx hb dX12_canBeat_46 (by decide) (fun c37 => ?_) (fun c37 => ?_)
          · have h38 := itS c37 h35
            clear h35 c37
            refine lv_iconst (v := 0) hx hb dX12_canBeat_61 (by decide) ?_
            have q40 := tup1_s h38
            clear h38
            exact hret _ () _ _ _ _ q40 rfl hV31 dX12_canBeat_62
          · have h39 := ieS c37 h35
            clear h35 c37
            refine lv_aload_n hx hb dX12_canBeat_49 rfl (lv_at hl 0 rfl) ?_
            refine kget X hV31 (ci := 12) inlX12 rfl 0 rfl 5 (by decide) mw_991 rfl dX12_canBeat_50 ?_
            refine lv_iconst (v := 1) hx hb dX12_canBeat_53 (by decide) ?_
            refine lv_icmp_le (tgt := 61) hx hb dX12_canBeat_54 (by decide) (fun c41 => ?_) (fun c41 => ?_)
            · have h42 := itS c41 h39
              clear h39 c41
              refine lv_iconst (v := 0) hx hb dX12_canBeat_61 (by decide) ?_
              have q44 := tup1_s h42
              clear h42
              exact hret _ () _ _ _ _ q44 rfl hV31 dX12_canBeat_62
            · have h43 := ieS c41 h39
              clear h39 c41
              refine lv_iconst (v := 1) hx hb dX12_canBeat_57 (by decide) ?_
              refine lv_goto (tgt := 62) hx hb dX12_canBeat_58 (by decide) ?_
              have q45 := tup1_s h43
              clear h43
              exact hret _ () _ _ _ _ q45 rfl hV31 dX12_canBeat_62
abbrev r_X12_beats : Room := { frames := 3, cells := 0, slots := 0, locals := 68 }
set_option maxHeartbeats 4000000 in
set_option maxRecDepth 100000 in
theorem c_X12_beats (l : Launch) (E : kE) (sz : Nat) (a0 : Nat) (w0_0 w0_1 w0_2 w0_3 w0_4 w0_6 w0_7 w0_8 w0_9 w0_10 w0_11 w0_12 w0_13 w0_14 w0_15 w0_16 w0_17 w0_18 w0_19 w0_20 w0_21 w0_22 w0_23 w0_24 w0_25 w0_26 w0_27 w0_28 w0_29 w0_30 w0_31 w0_32 w0_33 w0_34 w0_35 w0_36 w0_37 w0_38 w0_39 w0_40 w0_41 w0_42 w0_43 w0_44 w0_45 w0_46 w0_47 w0_48 w0_49 w0_50 w0_51 w0_52 w0_53 w0_54 w0_55 w0_56 w0_57 w0_58 w0_59 w0_60 w0_61 w0_62 w0_63 w0_64 w0_65 w0_66 : Value) (s_blips : Int32) (p1 : Int32) (p2 : Int32) (p3 : Int32) (p4 : Int32) (r : Int32) (h : f_X12_beats s_blips p1 p2 p3 p4 = some (r)) : kMi l yX12_beats cX12_beats 5 (some .int) r_X12_beats [.ref a0, .int p1, .int p2, .int p3, .int p4] E [(a0, .inr (12, [w0_0, w0_1, w0_2, w0_3, w0_4, .int s_blips, w0_6, w0_7, w0_8, w0_9, w0_10, w0_11, w0_12, w0_13, w0_14, w0_15, w0_16, w0_17, w0_18, w0_19, w0_20, w0_21, w0_22, w0_23, w0_24, w0_25, w0_26, w0_27, w0_28, w0_29, w0_30, w0_31, w0_32, w0_33, w0_34, w0_35, w0_36, w0_37, w0_38, w0_39, w0_40, w0_41, w0_42, w0_43, w0_44, w0_45, w0_46, w0_47, w0_48, w0_49, w0_50, w0_51, w0_52, w0_53, w0_54, w0_55, w0_56, w0_57, w0_58, w0_59, w0_60, w0_61, w0_62, w0_63, w0_64, w0_65, w0_66]))] sz 0 0 (fun x (_ : Unit) => x = r) (fun _ => [(a0, .inr (12, [w0_0, w0_1, w0_2, w0_3, w0_4, .int s_blips, w0_6, w0_7, w0_8, w0_9, w0_10, w0_11, w0_12, w0_13, w0_14, w0_15, w0_16, w0_17, w0_18, w0_19, w0_20, w0_21, w0_22, w0_23, w0_24, w0_25, w0_26, w0_27, w0_28, w0_29, w0_30, w0_31, w0_32, w0_33, w0_34, w0_35, w0_36, w0_37, w0_38, w0_39, w0_40, w0_41, w0_42, w0_43, w0_44, w0_45, w0_46, w0_47, w0_48, w0_49, w0_50, w0_51, w0_52, w0_53, w0_54, w0_55, w0_56, w0_57, w0_58, w0_59, w0_60, w0_61, w0_62, w0_63, w0_64, w0_65, w0_66]))]) := by
  refine kmeti rfl (Nat.le_of_ble_eq_true rfl) ?_
  intro p e s m args below meth c ls A Q X hV hret hl
  have X : kC p s m c cX12_beats 5 RX12 args E A := X
  have hx := X.1
  have hb := X.2.1
  have hl : lv_has ls 5 [(0, .ref a0), (1, .int p1), (2, .int p2), (3, .int p3), (4, .int p4)] := hl
  rw [f_X12_beats] at h
  refine lv_aload_n hx hb dX12_beats_0 rfl (lv_at hl 0 rfl) ?_
  refine lv_iload_n hx hb dX12_beats_1 rfl (lv_at hl 1 rfl) ?_
  refine lv_iload_n hx hb dX12_beats_2 rfl (lv_at hl 2 rfl) ?_
  refine lv_iload_n hx hb dX12_beats_3 rfl (lv_at hl 3 rfl) ?_
  obtain ⟨r4_1, hc2, h3⟩ := cb1_s h
  clear h
  refine kgoiE (krunV (rest := []) X hV [0] (c_X12_canBeat l E _ a0 (w0_0) (w0_1) (w0_2) (w0_3) (w0_4) (w0_6) (w0_7) (w0_8) (w0_9) (w0_10) (w0_11) (w0_12) (w0_13) (w0_14) (w0_15) (w0_16) (w0_17) (w0_18) (w0_19) (w0_20) (w0_21) (w0_22) (w0_23) (w0_24) (w0_25) (w0_26) (w0_27) (w0_28) (w0_29) (w0_30) (w0_31) (w0_32) (w0_33) (w0_34) (w0_35) (w0_36) (w0_37) (w0_38) (w0_39) (w0_40) (w0_41) (w0_42) (w0_43) (w0_44) (w0_45) (w0_46) (w0_47) (w0_48) (w0_49) (w0_50) (w0_51) (w0_52) (w0_53) (w0_54) (w0_55) (w0_56) (w0_57) (w0_58) (w0_59) (w0_60) (w0_61) (w0_62) (w0_63) (w0_64) (w0_65) (w0_66) s_blips p1 p2 p3 r4_1 hc2) mw_1042 kb_X12_canBeat (ci := 12) rfl rfl (by decide) rfl rfl hl.1 rfl (Nat.le_of_ble_eq_true rfl) dX12_beats_4 (by decide)) X hV [0] [] rfl rfl rfl (by decide) (fun u H locs hV4 => ?_)
  have hV4 : kV E A s.heap H locs [(a0, .inr (12, [w0_0, w0_1, w0_2, w0_3, w0_4, .int s_blips, w0_6, w0_7, w0_8, w0_9, w0_10, w0_11, w0_12, w0_13, w0_14, w0_15, w0_16, w0_17, w0_18, w0_19, w0_20, w0_21, w0_22, w0_23, w0_24, w0_25, w0_26, w0_27, w0_28, w0_29, w0_30, w0_31, w0_32, w0_33, w0_34, w0_35, w0_36, w0_37, w0_38, w0_39, w0_40, w0_41, w0_42, w0_43, w0_44, w0_45, w0_46, w0_47, w0_48, w0_49, w0_50, w0_51, w0_52, w0_53, w0_54, w0_55, w0_56, w0_57, w0_58, w0_59, w0_60, w0_61, w0_62, w0_63, w0_64, w0_65, w0_66]))] := hV4.sub [0] rfl rfl
  clear hV
  refine lv_if_eq (tgt := 23) hx hb dX12_beats_7 (by decide) (fun c6 => ?_) (fun c6 => ?_)
  · have h7 := itS c6 h3
    clear h3 c6
    refine lv_iconst (v := (-1)) hx hb dX12_beats_23 (by decide) ?_
    have q9 := tup1_s h7
    clear h7
    exact hret _ () _ _ _ _ q9 rfl hV4 dX12_beats_24
  · have h8 := ieS c6 h3
    clear h3 c6
    refine lv_iload hx hb dX12_beats_10 (lv_at hl 4 rfl) ?_
    refine lv_i2l (v := Int32.toInt64 p4) hx hb dX12_beats_12 rfl ?_
    refine lv_lconst (v := 0) hx hb dX12_beats_13 (by decide) ?_
    refine lv_ldc2 (v := 2) hx hb X.2.2.2.1 (X.2.2.2.2.1 _ mw_882) dX12_beats_14 ?_
    obtain ⟨r17_10, hc11, h12⟩ := cb1_s h8
    clear h8
    refine kgoiE (krunS (rest := []) X hV4 [] (c_X12_lies l E _ (Int32.toInt64 p4) 0 2 r17_10 hc11) mw_224 kb_X12_lies (by decide) rfl rfl hl.1 rfl (Nat.le_of_ble_eq_true rfl) dX12_beats_17 (by decide)) X hV4 [] [0] rfl rfl rfl (by decide) (fun u H locs hV13 => ?_)
    have hV13 : kV E A s.heap H locs [(a0, .inr (12, [w0_0, w0_1, w0_2, w0_3, w0_4, .int s_blips, w0_6, w0_7, w0_8, w0_9, w0_10, w0_11, w0_12, w0_13, w0_14, w0_15, w0_16, w0_17, w0_18, w0_19, w0_20, w0_21, w0_22, w0_23, w0_24, w0_25, w0_26, w0_27, w0_28, w0_29, w0_30, w0_31, w0_32, w0_33, w0_34, w0_35, w0_36, w0_37, w0_38, w0_39, w0_40, w0_41, w0_42, w0_43, w0_44, w0_45, w0_46, w0_47, w0_48, w0_49, w0_50, w0_51, w0_52, w0_53, w0_54, w0_55, w0_56, w0_57, w0_58, w0_59, w0_60, w0_61, w0_62, w0_63, w0_64, w0_65, w0_66]))] := hV13.sub [0] rfl rfl
    clear hV4
    refine lv_if_ne (tgt := 25) hx hb dX12_beats_20 (by decide) (fun c15 => ?_) (fun c15 => ?_)
    · have h16 := ieS c15 h12
      clear h12 c15
      refine lv_aload_n hx hb dX12_beats_25 rfl (lv_at hl 0 rfl) ?_
      refine lv_iload_n hx hb dX12_beats_26 rfl (lv_at hl 1 rfl) ?_
      refine lv_iload_n hx hb dX12_beats_27 rfl (lv_at hl 2 rfl) ?_
      refine lv_iload_n hx hb dX12_beats_28 rfl (lv_at hl 3 rfl) ?_
      exact nomatch h16
    · have h17 := itS c15 h12
      clear h12 c15
      refine lv_iconst (v := (-1)) hx hb dX12_beats_23 (by decide) ?_
      have q18 := tup1_s h17
      clear h17
      exact hret _ () _ _ _ _ q18 rfl hV13 dX12_beats_24
abbrev r_X12_counted : Room := { frames := 2, cells := 0, slots := 0, locals := 45 }
set_option maxHeartbeats 4000000 in
set_option maxRecDepth 100000 in
theorem c_X12_counted (l : Launch) (E : kE) (sz : Nat) (a0 : Nat) (w0_0 w0_1 w0_2 w0_3 w0_4 w0_6 w0_7 w0_8 w0_9 w0_10 w0_11 w0_12 w0_13 w0_14 w0_15 w0_16 w0_17 w0_18 w0_19 w0_20 w0_21 w0_22 w0_23 w0_24 w0_25 w0_26 w0_27 w0_28 w0_29 w0_30 w0_31 w0_32 w0_33 w0_34 w0_35 w0_36 w0_37 w0_38 w0_39 w0_40 w0_41 w0_42 w0_43 w0_44 w0_45 w0_46 w0_47 w0_48 w0_49 w0_50 w0_51 w0_52 w0_53 w0_54 w0_55 w0_56 w0_57 w0_58 w0_59 w0_60 w0_61 w0_62 w0_63 w0_64 w0_65 w0_66 : Value) (s_blips : Int32) (p1 : Int32) (p2 : Int32) (r : Int32) (h : f_X12_counted s_blips p1 p2 = some (r)) : kMi l yX12_counted cX12_counted 3 (some .int) r_X12_counted [.ref a0, .int p1, .int p2] E [(a0, .inr (12, [w0_0, w0_1, w0_2, w0_3, w0_4, .int s_blips, w0_6, w0_7, w0_8, w0_9, w0_10, w0_11, w0_12, w0_13, w0_14, w0_15, w0_16, w0_17, w0_18, w0_19, w0_20, w0_21, w0_22, w0_23, w0_24, w0_25, w0_26, w0_27, w0_28, w0_29, w0_30, w0_31, w0_32, w0_33, w0_34, w0_35, w0_36, w0_37, w0_38, w0_39, w0_40, w0_41, w0_42, w0_43, w0_44, w0_45, w0_46, w0_47, w0_48, w0_49, w0_50, w0_51, w0_52, w0_53, w0_54, w0_55, w0_56, w0_57, w0_58, w0_59, w0_60, w0_61, w0_62, w0_63, w0_64, w0_65, w0_66]))] sz 0 0 (fun x (_ : Unit) => x = r) (fun _ => [(a0, .inr (12, [w0_0, w0_1, w0_2, w0_3, w0_4, .int s_blips, w0_6, w0_7, w0_8, w0_9, w0_10, w0_11, w0_12, w0_13, w0_14, w0_15, w0_16, w0_17, w0_18, w0_19, w0_20, w0_21, w0_22, w0_23, w0_24, w0_25, w0_26, w0_27, w0_28, w0_29, w0_30, w0_31, w0_32, w0_33, w0_34, w0_35, w0_36, w0_37, w0_38, w0_39, w0_40, w0_41, w0_42, w0_43, w0_44, w0_45, w0_46, w0_47, w0_48, w0_49, w0_50, w0_51, w0_52, w0_53, w0_54, w0_55, w0_56, w0_57, w0_58, w0_59, w0_60, w0_61, w0_62, w0_63, w0_64, w0_65, w0_66]))]) := by
  refine kmeti rfl (Nat.le_of_ble_eq_true rfl) ?_
  intro p e s m args below meth c ls A Q X hV hret hl
  have X : kC p s m c cX12_counted 3 RX12 args E A := X
  have hx := X.1
  have hb := X.2.1
  have hl : lv_has ls 3 [(0, .ref a0), (1, .int p1), (2, .int p2)] := hl
  rw [f_X12_counted] at h
  refine lv_iload_n hx hb dX12_counted_0 rfl (lv_at hl 1 rfl) ?_
  refine lv_i2l (v := Int32.toInt64 p1) hx hb dX12_counted_1 rfl ?_
  refine lv_lconst (v := 0) hx hb dX12_counted_2 (by decide) ?_
  refine lv_aload_n hx hb dX12_counted_3 rfl (lv_at hl 0 rfl) ?_
  refine kget X hV (ci := 12) inlX12 rfl 0 rfl 5 (by decide) mw_991 rfl dX12_counted_4 ?_
  refine lv_iconst (v := 1) hx hb dX12_counted_7 (by decide) ?_
  refine lv_isub hx hb dX12_counted_8 ?_
  refine lv_i2l (v := Int32.toInt64 (s_blips - 1)) hx hb dX12_counted_9 rfl ?_
  obtain ⟨r10_1, hc2, h3⟩ := cb1_s h
  clear h
  refine kgoiE (krunS (rest := []) X hV [] (c_X12_lies l E _ (Int32.toInt64 p1) 0 (Int32.toInt64 (s_blips - 1)) r10_1 hc2) mw_224 kb_X12_lies (by decide) rfl rfl hl.1 rfl (Nat.le_of_ble_eq_true rfl) dX12_counted_10 (by decide)) X hV [] [0] rfl rfl rfl (by decide) (fun u H locs hV4 => ?_)
  have hV4 : kV E A s.heap H locs [(a0, .inr (12, [w0_0, w0_1, w0_2, w0_3, w0_4, .int s_blips, w0_6, w0_7, w0_8, w0_9, w0_10, w0_11, w0_12, w0_13, w0_14, w0_15, w0_16, w0_17, w0_18, w0_19, w0_20, w0_21, w0_22, w0_23, w0_24, w0_25, w0_26, w0_27, w0_28, w0_29, w0_30, w0_31, w0_32, w0_33, w0_34, w0_35, w0_36, w0_37, w0_38, w0_39, w0_40, w0_41, w0_42, w0_43, w0_44, w0_45, w0_46, w0_47, w0_48, w0_49, w0_50, w0_51, w0_52, w0_53, w0_54, w0_55, w0_56, w0_57, w0_58, w0_59, w0_60, w0_61, w0_62, w0_63, w0_64, w0_65, w0_66]))] := hV4.sub [0] rfl rfl
  clear hV
  refine lv_if_eq (tgt := 32) hx hb dX12_counted_13 (by decide) (fun c6 => ?_) (fun c6 => ?_)
  · have h7 := itS c6 h3
    clear h3 c6
    refine lv_iconst (v := (-1)) hx hb dX12_counted_32 (by decide) ?_
    have q9 := tup1_s h7
    clear h7
    exact hret _ () _ _ _ _ q9 rfl hV4 dX12_counted_33
  · have h8 := ieS c6 h3
    clear h3 c6
    refine lv_iload_n hx hb dX12_counted_16 rfl (lv_at hl 2 rfl) ?_
    obtain ⟨r17_10, hc11, h12⟩ := cb1_s h8
    clear h8
    refine kgoiE (krunS (rest := []) X hV4 [] (c_X12_isBeat l E _ p2 r17_10 hc11) mw_1011 kb_X12_isBeat (by decide) rfl rfl hl.1 rfl (Nat.le_of_ble_eq_true rfl) dX12_counted_17 (by decide)) X hV4 [] [0] rfl rfl rfl (by decide) (fun u H locs hV13 => ?_)
    have hV13 : kV E A s.heap H locs [(a0, .inr (12, [w0_0, w0_1, w0_2, w0_3, w0_4, .int s_blips, w0_6, w0_7, w0_8, w0_9, w0_10, w0_11, w0_12, w0_13, w0_14, w0_15, w0_16, w0_17, w0_18, w0_19, w0_20, w0_21, w0_22, w0_23, w0_24, w0_25, w0_26, w0_27, w0_28, w0_29, w0_30, w0_31, w0_32, w0_33, w0_34, w0_35, w0_36, w0_37, w0_38, w0_39, w0_40, w0_41, w0_42, w0_43, w0_44, w0_45, w0_46, w0_47, w0_48, w0_49, w0_50, w0_51, w0_52, w0_53, w0_54, w0_55, w0_56, w0_57, w0_58, w0_59, w0_60, w0_61, w0_62, w0_63, w0_64, w0_65, w0_66]))] := hV13.sub [0] rfl rfl
    clear hV4
    refine lv_if_eq (tgt := 32) hx hb dX12_counted_20 (by decide) (fun c15 => ?_) (fun c15 => ?_)
    · have h16 := itS c15 h12
      clear h12 c15
      refine lv_iconst (v := (-1)) hx hb dX12_counted_32 (by decide) ?_
      have q18 := tup1_s h16
      clear h16
      exact hret _ () _ _ _ _ q18 rfl hV13 dX12_counted_33
    · have h17 := ieS c15 h12
      clear h12 c15
      refine lv_aload_n hx hb dX12_counted_23 rfl (lv_at hl 0 rfl) ?_
      refine lv_iload_n hx hb dX12_counted_24 rfl (lv_at hl 1 rfl) ?_
      refine lv_iload_n hx hb dX12_counted_25 rfl (lv_at hl 2 rfl) ?_
      exact nomatch h17
abbrev r_X12_sure : Room := { frames := 3, cells := 0, slots := 0, locals := 68 }
set_option maxHeartbeats 4000000 in
set_option maxRecDepth 100000 in
theorem c_X12_sure (l : Launch) (E : kE) (sz : Nat) (a0 : Nat) (w0_0 w0_1 w0_2 w0_3 w0_4 w0_6 w0_7 w0_8 w0_9 w0_10 w0_11 w0_12 w0_13 w0_14 w0_15 w0_16 w0_17 w0_18 w0_19 w0_20 w0_21 w0_22 w0_23 w0_24 w0_25 w0_26 w0_27 w0_28 w0_29 w0_30 w0_31 w0_32 w0_33 w0_34 w0_35 w0_36 w0_37 w0_38 w0_39 w0_40 w0_41 w0_42 w0_43 w0_44 w0_45 w0_46 w0_47 w0_48 w0_49 w0_50 w0_51 w0_52 w0_53 w0_54 w0_55 w0_56 w0_57 w0_58 w0_59 w0_60 w0_61 w0_62 w0_63 w0_64 w0_65 w0_66 : Value) (s_blips : Int32) (p1 : Int32) (p2 : Int32) (p3 : Int32) (r : Int32) (h : f_X12_sure s_blips p1 p2 p3 = some (r)) : kMi l yX12_sure cX12_sure 5 (some .int) r_X12_sure [.ref a0, .int p1, .int p2, .int p3] E [(a0, .inr (12, [w0_0, w0_1, w0_2, w0_3, w0_4, .int s_blips, w0_6, w0_7, w0_8, w0_9, w0_10, w0_11, w0_12, w0_13, w0_14, w0_15, w0_16, w0_17, w0_18, w0_19, w0_20, w0_21, w0_22, w0_23, w0_24, w0_25, w0_26, w0_27, w0_28, w0_29, w0_30, w0_31, w0_32, w0_33, w0_34, w0_35, w0_36, w0_37, w0_38, w0_39, w0_40, w0_41, w0_42, w0_43, w0_44, w0_45, w0_46, w0_47, w0_48, w0_49, w0_50, w0_51, w0_52, w0_53, w0_54, w0_55, w0_56, w0_57, w0_58, w0_59, w0_60, w0_61, w0_62, w0_63, w0_64, w0_65, w0_66]))] sz 0 0 (fun x (_ : Unit) => x = r) (fun _ => [(a0, .inr (12, [w0_0, w0_1, w0_2, w0_3, w0_4, .int s_blips, w0_6, w0_7, w0_8, w0_9, w0_10, w0_11, w0_12, w0_13, w0_14, w0_15, w0_16, w0_17, w0_18, w0_19, w0_20, w0_21, w0_22, w0_23, w0_24, w0_25, w0_26, w0_27, w0_28, w0_29, w0_30, w0_31, w0_32, w0_33, w0_34, w0_35, w0_36, w0_37, w0_38, w0_39, w0_40, w0_41, w0_42, w0_43, w0_44, w0_45, w0_46, w0_47, w0_48, w0_49, w0_50, w0_51, w0_52, w0_53, w0_54, w0_55, w0_56, w0_57, w0_58, w0_59, w0_60, w0_61, w0_62, w0_63, w0_64, w0_65, w0_66]))]) := by
  refine kmeti rfl (Nat.le_of_ble_eq_true rfl) ?_
  intro p e s m args below meth c ls A Q X hV hret hl
  have X : kC p s m c cX12_sure 5 RX12 args E A := X
  have hx := X.1
  have hb := X.2.1
  have hl : lv_has ls 5 [(0, .ref a0), (1, .int p1), (2, .int p2), (3, .int p3)] := hl
  rw [f_X12_sure] at h
  refine lv_aload_n hx hb dX12_sure_0 rfl (lv_at hl 0 rfl) ?_
  refine lv_iload_n hx hb dX12_sure_1 rfl (lv_at hl 1 rfl) ?_
  refine lv_iload_n hx hb dX12_sure_2 rfl (lv_at hl 2 rfl) ?_
  refine lv_iload_n hx hb dX12_sure_3 rfl (lv_at hl 3 rfl) ?_
  obtain ⟨r4_1, hc2, h3⟩ := cb1_s h
  clear h
  refine kgoiE (krunV (rest := []) X hV [0] (c_X12_canBeat l E _ a0 (w0_0) (w0_1) (w0_2) (w0_3) (w0_4) (w0_6) (w0_7) (w0_8) (w0_9) (w0_10) (w0_11) (w0_12) (w0_13) (w0_14) (w0_15) (w0_16) (w0_17) (w0_18) (w0_19) (w0_20) (w0_21) (w0_22) (w0_23) (w0_24) (w0_25) (w0_26) (w0_27) (w0_28) (w0_29) (w0_30) (w0_31) (w0_32) (w0_33) (w0_34) (w0_35) (w0_36) (w0_37) (w0_38) (w0_39) (w0_40) (w0_41) (w0_42) (w0_43) (w0_44) (w0_45) (w0_46) (w0_47) (w0_48) (w0_49) (w0_50) (w0_51) (w0_52) (w0_53) (w0_54) (w0_55) (w0_56) (w0_57) (w0_58) (w0_59) (w0_60) (w0_61) (w0_62) (w0_63) (w0_64) (w0_65) (w0_66) s_blips p1 p2 p3 r4_1 hc2) mw_1042 kb_X12_canBeat (ci := 12) rfl rfl (by decide) rfl rfl hl.1 rfl (Nat.le_of_ble_eq_true rfl) dX12_sure_4 (by decide)) X hV [0] [] rfl rfl rfl (by decide) (fun u H locs hV4 => ?_)
  have hV4 : kV E A s.heap H locs [(a0, .inr (12, [w0_0, w0_1, w0_2, w0_3, w0_4, .int s_blips, w0_6, w0_7, w0_8, w0_9, w0_10, w0_11, w0_12, w0_13, w0_14, w0_15, w0_16, w0_17, w0_18, w0_19, w0_20, w0_21, w0_22, w0_23, w0_24, w0_25, w0_26, w0_27, w0_28, w0_29, w0_30, w0_31, w0_32, w0_33, w0_34, w0_35, w0_36, w0_37, w0_38, w0_39, w0_40, w0_41, w0_42, w0_43, w0_44, w0_45, w0_46, w0_47, w0_48, w0_49, w0_50, w0_51, w0_52, w0_53, w0_54, w0_55, w0_56, w0_57, w0_58, w0_59, w0_60, w0_61, w0_62, w0_63, w0_64, w0_65, w0_66]))] := hV4.sub [0] rfl rfl
  clear hV
  refine lv_if_ne (tgt := 12) hx hb dX12_sure_7 (by decide) (fun c6 => ?_) (fun c6 => ?_)
  · have h7 := ieS c6 h3
    clear h3 c6
    refine lv_aload_n hx hb dX12_sure_12 rfl (lv_at hl 0 rfl) ?_
    refine lv_iload_n hx hb dX12_sure_13 rfl (lv_at hl 1 rfl) ?_
    refine lv_iload_n hx hb dX12_sure_14 rfl (lv_at hl 2 rfl) ?_
    refine lv_iload_n hx hb dX12_sure_15 rfl (lv_at hl 3 rfl) ?_
    exact nomatch h7
  · have h8 := itS c6 h3
    clear h3 c6
    refine lv_iconst (v := (-1)) hx hb dX12_sure_10 (by decide) ?_
    have q9 := tup1_s h8
    clear h8
    exact hret _ () _ _ _ _ q9 rfl hV4 dX12_sure_11
abbrev r_X12_lost : Room := { frames := 3, cells := 0, slots := 0, locals := 68 }
set_option maxHeartbeats 4000000 in
set_option maxRecDepth 100000 in
theorem c_X12_lost (l : Launch) (E : kE) (sz : Nat) (a0 : Nat) (w0_0 w0_1 w0_2 w0_3 w0_4 w0_6 w0_7 w0_8 w0_9 w0_10 w0_11 w0_12 w0_13 w0_14 w0_15 w0_16 w0_17 w0_18 w0_19 w0_20 w0_21 w0_22 w0_23 w0_24 w0_25 w0_26 w0_27 w0_28 w0_29 w0_30 w0_31 w0_32 w0_33 w0_34 w0_35 w0_36 w0_37 w0_38 w0_39 w0_40 w0_41 w0_42 w0_43 w0_44 w0_45 w0_46 w0_47 w0_48 w0_49 w0_50 w0_51 w0_52 w0_53 w0_54 w0_55 w0_56 w0_57 w0_58 w0_59 w0_60 w0_61 w0_62 w0_63 w0_64 w0_65 w0_66 : Value) (s_blips : Int32) (p1 : Int32) (p2 : Int32) (p3 : Int32) (r : Int32) (h : f_X12_lost s_blips p1 p2 p3 = some (r)) : kMi l yX12_lost cX12_lost 5 (some .int) r_X12_lost [.ref a0, .int p1, .int p2, .int p3] E [(a0, .inr (12, [w0_0, w0_1, w0_2, w0_3, w0_4, .int s_blips, w0_6, w0_7, w0_8, w0_9, w0_10, w0_11, w0_12, w0_13, w0_14, w0_15, w0_16, w0_17, w0_18, w0_19, w0_20, w0_21, w0_22, w0_23, w0_24, w0_25, w0_26, w0_27, w0_28, w0_29, w0_30, w0_31, w0_32, w0_33, w0_34, w0_35, w0_36, w0_37, w0_38, w0_39, w0_40, w0_41, w0_42, w0_43, w0_44, w0_45, w0_46, w0_47, w0_48, w0_49, w0_50, w0_51, w0_52, w0_53, w0_54, w0_55, w0_56, w0_57, w0_58, w0_59, w0_60, w0_61, w0_62, w0_63, w0_64, w0_65, w0_66]))] sz 0 0 (fun x (_ : Unit) => x = r) (fun _ => [(a0, .inr (12, [w0_0, w0_1, w0_2, w0_3, w0_4, .int s_blips, w0_6, w0_7, w0_8, w0_9, w0_10, w0_11, w0_12, w0_13, w0_14, w0_15, w0_16, w0_17, w0_18, w0_19, w0_20, w0_21, w0_22, w0_23, w0_24, w0_25, w0_26, w0_27, w0_28, w0_29, w0_30, w0_31, w0_32, w0_33, w0_34, w0_35, w0_36, w0_37, w0_38, w0_39, w0_40, w0_41, w0_42, w0_43, w0_44, w0_45, w0_46, w0_47, w0_48, w0_49, w0_50, w0_51, w0_52, w0_53, w0_54, w0_55, w0_56, w0_57, w0_58, w0_59, w0_60, w0_61, w0_62, w0_63, w0_64, w0_65, w0_66]))]) := by
  refine kmeti rfl (Nat.le_of_ble_eq_true rfl) ?_
  intro p e s m args below meth c ls A Q X hV hret hl
  have X : kC p s m c cX12_lost 5 RX12 args E A := X
  have hx := X.1
  have hb := X.2.1
  have hl : lv_has ls 5 [(0, .ref a0), (1, .int p1), (2, .int p2), (3, .int p3)] := hl
  rw [f_X12_lost] at h
  refine lv_aload_n hx hb dX12_lost_0 rfl (lv_at hl 0 rfl) ?_
  refine lv_iload_n hx hb dX12_lost_1 rfl (lv_at hl 1 rfl) ?_
  refine lv_iload_n hx hb dX12_lost_2 rfl (lv_at hl 2 rfl) ?_
  refine lv_iload_n hx hb dX12_lost_3 rfl (lv_at hl 3 rfl) ?_
  obtain ⟨r4_1, hc2, h3⟩ := cb1_s h
  clear h
  refine kgoiE (krunV (rest := []) X hV [0] (c_X12_canBeat l E _ a0 (w0_0) (w0_1) (w0_2) (w0_3) (w0_4) (w0_6) (w0_7) (w0_8) (w0_9) (w0_10) (w0_11) (w0_12) (w0_13) (w0_14) (w0_15) (w0_16) (w0_17) (w0_18) (w0_19) (w0_20) (w0_21) (w0_22) (w0_23) (w0_24) (w0_25) (w0_26) (w0_27) (w0_28) (w0_29) (w0_30) (w0_31) (w0_32) (w0_33) (w0_34) (w0_35) (w0_36) (w0_37) (w0_38) (w0_39) (w0_40) (w0_41) (w0_42) (w0_43) (w0_44) (w0_45) (w0_46) (w0_47) (w0_48) (w0_49) (w0_50) (w0_51) (w0_52) (w0_53) (w0_54) (w0_55) (w0_56) (w0_57) (w0_58) (w0_59) (w0_60) (w0_61) (w0_62) (w0_63) (w0_64) (w0_65) (w0_66) s_blips p1 p2 p3 r4_1 hc2) mw_1042 kb_X12_canBeat (ci := 12) rfl rfl (by decide) rfl rfl hl.1 rfl (Nat.le_of_ble_eq_true rfl) dX12_lost_4 (by decide)) X hV [0] [] rfl rfl rfl (by decide) (fun u H locs hV4 => ?_)
  have hV4 : kV E A s.heap H locs [(a0, .inr (12, [w0_0, w0_1, w0_2, w0_3, w0_4, .int s_blips, w0_6, w0_7, w0_8, w0_9, w0_10, w0_11, w0_12, w0_13, w0_14, w0_15, w0_16, w0_17, w0_18, w0_19, w0_20, w0_21, w0_22, w0_23, w0_24, w0_25, w0_26, w0_27, w0_28, w0_29, w0_30, w0_31, w0_32, w0_33, w0_34, w0_35, w0_36, w0_37, w0_38, w0_39, w0_40, w0_41, w0_42, w0_43, w0_44, w0_45, w0_46, w0_47, w0_48, w0_49, w0_50, w0_51, w0_52, w0_53, w0_54, w0_55, w0_56, w0_57, w0_58, w0_59, w0_60, w0_61, w0_62, w0_63, w0_64, w0_65, w0_66]))] := hV4.sub [0] rfl rfl
  clear hV
  refine lv_if_ne (tgt := 12) hx hb dX12_lost_7 (by decide) (fun c6 => ?_) (fun c6 => ?_)
  · have h7 := ieS c6 h3
    clear h3 c6
    refine lv_aload_n hx hb dX12_lost_12 rfl (lv_at hl 0 rfl) ?_
    refine lv_iload_n hx hb dX12_lost_13 rfl (lv_at hl 1 rfl) ?_
    refine lv_iload_n hx hb dX12_lost_14 rfl (lv_at hl 2 rfl) ?_
    refine lv_iload_n hx hb dX12_lost_15 rfl (lv_at hl 3 rfl) ?_
    exact nomatch h7
  · have h8 := itS c6 h3
    clear h3 c6
    refine lv_iconst (v := (-1)) hx hb dX12_lost_10 (by decide) ?_
    have q9 := tup1_s h8
    clear h8
    exact hret _ () _ _ _ _ q9 rfl hV4 dX12_lost_11
abbrev r_X12_night : Room := { frames := 2, cells := 0, slots := 0, locals := 45 }
set_option maxHeartbeats 4000000 in
set_option maxRecDepth 100000 in
theorem c_X12_night (l : Launch) (E : kE) (sz : Nat) (a0 a1 a2 : Nat) (w0_0 w0_1 w0_2 w0_3 w0_4 w0_5 w0_7 w0_8 w0_9 w0_10 w0_11 w0_12 w0_13 w0_14 w0_15 w0_16 w0_17 w0_18 w0_19 w0_20 w0_21 w0_22 w0_23 w0_24 w0_25 w0_26 w0_27 w0_28 w0_29 w0_30 w0_31 w0_32 w0_33 w0_34 w0_35 w0_36 w0_37 w0_38 w0_39 w0_40 w0_41 w0_42 w0_43 w0_44 w0_45 w0_46 w0_47 w0_48 w0_49 w0_50 w0_51 w0_52 w0_53 w0_54 w0_55 w0_56 w0_57 w0_58 w0_59 w0_60 w0_61 w0_62 w0_65 w0_66 : Value) (s_nights : Int32) (s_found : Nat → Int32) (s_nightDay : Nat → Int32) (p1 : Int32) (p2 : Int32) (r : Int32) (o_nights : Int32) (o_found : Nat → Int32) (o_nightDay : Nat → Int32) (h : f_X12_night s_nights s_found s_nightDay p1 p2 = some (r, o_nights, o_found, o_nightDay)) : kMi l yX12_night cX12_night 3 (some .int) r_X12_night [.ref a0, .int p1, .int p2] E [(a0, .inr (12, [w0_0, w0_1, w0_2, w0_3, w0_4, w0_5, .int s_nights, w0_7, w0_8, w0_9, w0_10, w0_11, w0_12, w0_13, w0_14, w0_15, w0_16, w0_17, w0_18, w0_19, w0_20, w0_21, w0_22, w0_23, w0_24, w0_25, w0_26, w0_27, w0_28, w0_29, w0_30, w0_31, w0_32, w0_33, w0_34, w0_35, w0_36, w0_37, w0_38, w0_39, w0_40, w0_41, w0_42, w0_43, w0_44, w0_45, w0_46, w0_47, w0_48, w0_49, w0_50, w0_51, w0_52, w0_53, w0_54, w0_55, w0_56, w0_57, w0_58, w0_59, w0_60, w0_61, w0_62, .ref a2, .ref a1, w0_65, w0_66])), (a1, .inl (E.2 0, 30, .inl s_found)), (a2, .inl (E.2 0, 30, .inl s_nightDay))] sz 0 0 (fun x (_ : Unit) => x = r) (fun _ => [(a0, .inr (12, [w0_0, w0_1, w0_2, w0_3, w0_4, w0_5, .int o_nights, w0_7, w0_8, w0_9, w0_10, w0_11, w0_12, w0_13, w0_14, w0_15, w0_16, w0_17, w0_18, w0_19, w0_20, w0_21, w0_22, w0_23, w0_24, w0_25, w0_26, w0_27, w0_28, w0_29, w0_30, w0_31, w0_32, w0_33, w0_34, w0_35, w0_36, w0_37, w0_38, w0_39, w0_40, w0_41, w0_42, w0_43, w0_44, w0_45, w0_46, w0_47, w0_48, w0_49, w0_50, w0_51, w0_52, w0_53, w0_54, w0_55, w0_56, w0_57, w0_58, w0_59, w0_60, w0_61, w0_62, .ref a2, .ref a1, w0_65, w0_66])), (a1, .inl (E.2 0, 30, .inl o_found)), (a2, .inl (E.2 0, 30, .inl o_nightDay))]) := by
  refine kmeti rfl (Nat.le_of_ble_eq_true rfl) ?_
  intro p e s m args below meth c ls A Q X hV hret hl
  have X : kC p s m c cX12_night 3 RX12 args E A := X
  have hx := X.1
  have hb := X.2.1
  have hl : lv_has ls 3 [(0, .ref a0), (1, .int p1), (2, .int p2)] := hl
  rw [f_X12_night] at h
  refine lv_aload_n hx hb dX12_night_0 rfl (lv_at hl 0 rfl) ?_
  refine kget X hV (ci := 12) inlX12 rfl 0 rfl 6 (by decide) mw_1106 rfl dX12_night_1 ?_
  refine lv_bipush (v := 30) hx hb dX12_night_4 (by decide) ?_
  refine lv_icmp_eq (tgt := 30) hx hb dX12_night_6 (by decide) (fun c1 => ?_) (fun c1 => ?_)
  · have h2 := itS c1 h
    clear h c1
    refine lv_iconst (v := (-1)) hx hb dX12_night_30 (by decide) ?_
    obtain ⟨q4, q5, q6, q7⟩ := tup4_s h2
    clear h2
    exact hret _ () _ _ _ _ q4 rfl (by rw [← q5, ← q6, ← q7]; exact hV) dX12_night_31
  · have h3 := ieS c1 h
    clear h c1
    refine lv_iload_n hx hb dX12_night_9 rfl (lv_at hl 1 rfl) ?_
    obtain ⟨r10_8, hc9, h10⟩ := cb1_s h3
    clear h3
    refine kgoiE (krunS (rest := []) X hV [] (c_X12_isDay l E _ p1 r10_8 hc9) mw_632 kb_X12_isDay (by decide) rfl rfl hl.1 rfl (Nat.le_of_ble_eq_true rfl) dX12_night_10 (by decide)) X hV [] [0, 1, 2] rfl rfl rfl (by decide) (fun u H locs hV11 => ?_)
    have hV11 : kV E A s.heap H locs [(a0, .inr (12, [w0_0, w0_1, w0_2, w0_3, w0_4, w0_5, .int s_nights, w0_7, w0_8, w0_9, w0_10, w0_11, w0_12, w0_13, w0_14, w0_15, w0_16, w0_17, w0_18, w0_19, w0_20, w0_21, w0_22, w0_23, w0_24, w0_25, w0_26, w0_27, w0_28, w0_29, w0_30, w0_31, w0_32, w0_33, w0_34, w0_35, w0_36, w0_37, w0_38, w0_39, w0_40, w0_41, w0_42, w0_43, w0_44, w0_45, w0_46, w0_47, w0_48, w0_49, w0_50, w0_51, w0_52, w0_53, w0_54, w0_55, w0_56, w0_57, w0_58, w0_59, w0_60, w0_61, w0_62, .ref a2, .ref a1, w0_65, w0_66])), (a1, .inl (E.2 0, 30, .inl s_found)), (a2, .inl (E.2 0, 30, .inl s_nightDay))] := hV11.sub [0, 1, 2] rfl rfl
    clear hV
    refine lv_if_eq (tgt := 30) hx hb dX12_night_13 (by decide) (fun c13 => ?_) (fun c13 => ?_)
    · have h14 := itS c13 h10
      clear h10 c13
      refine lv_iconst (v := (-1)) hx hb dX12_night_30 (by decide) ?_
      obtain ⟨q16, q17, q18, q19⟩ := tup4_s h14
      clear h14
      exact hret _ () _ _ _ _ q16 rfl (by rw [← q17, ← q18, ← q19]; exact hV11) dX12_night_31
    · have h15 := ieS c13 h10
      clear h10 c13
      refine lv_iload_n hx hb dX12_night_16 rfl (lv_at hl 2 rfl) ?_
      refine lv_i2l (v := Int32.toInt64 p2) hx hb dX12_night_17 rfl ?_
      refine lv_ldc2 (v := (-100000)) hx hb X.2.2.2.1 (X.2.2.2.2.1 _ mw_1107) dX12_night_18 ?_
      refine lv_ldc2 (v := 100000) hx hb X.2.2.2.1 (X.2.2.2.2.1 _ mw_1108) dX12_night_21 ?_
      obtain ⟨r24_20, hc21, h22⟩ := cb1_s h15
      clear h15
      refine kgoiE (krunS (rest := []) X hV11 [] (c_X12_lies l E _ (Int32.toInt64 p2) (-100000) 100000 r24_20 hc21) mw_224 kb_X12_lies (by decide) rfl rfl hl.1 rfl (Nat.le_of_ble_eq_true rfl) dX12_night_24 (by decide)) X hV11 [] [0, 1, 2] rfl rfl rfl (by decide) (fun u H locs hV23 => ?_)
      have hV23 : kV E A s.heap H locs [(a0, .inr (12, [w0_0, w0_1, w0_2, w0_3, w0_4, w0_5, .int s_nights, w0_7, w0_8, w0_9, w0_10, w0_11, w0_12, w0_13, w0_14, w0_15, w0_16, w0_17, w0_18, w0_19, w0_20, w0_21, w0_22, w0_23, w0_24, w0_25, w0_26, w0_27, w0_28, w0_29, w0_30, w0_31, w0_32, w0_33, w0_34, w0_35, w0_36, w0_37, w0_38, w0_39, w0_40, w0_41, w0_42, w0_43, w0_44, w0_45, w0_46, w0_47, w0_48, w0_49, w0_50, w0_51, w0_52, w0_53, w0_54, w0_55, w0_56, w0_57, w0_58, w0_59, w0_60, w0_61, w0_62, .ref a2, .ref a1, w0_65, w0_66])), (a1, .inl (E.2 0, 30, .inl s_found)), (a2, .inl (E.2 0, 30, .inl s_nightDay))] := hV23.sub [0, 1, 2] rfl rfl
      clear hV11
      refine lv_if_ne (tgt := 32) hx hb dX12_night_27 (by decide) (fun c25 => ?_) (fun c25 => ?_)
      · have h26 := ieS c25 h22
        clear h22 c25
        refine lv_aload_n hx hb dX12_night_32 rfl (lv_at hl 0 rfl) ?_
        refine kget X hV23 (ci := 12) inlX12 rfl 0 rfl 63 (by decide) mw_172 rfl dX12_night_33 ?_
        refine lv_aload_n hx hb dX12_night_36 rfl (lv_at hl 0 rfl) ?_
        refine kget X hV23 (ci := 12) inlX12 rfl 0 rfl 6 (by decide) mw_1106 rfl dX12_night_37 ?_
        refine lv_iload_n hx hb dX12_night_40 rfl (lv_at hl 1 rfl) ?_
        obtain ⟨hi29, g41_28, e30, h31⟩ := wrI_s h26
        clear h26
        refine kiast X hV23 2 rfl hi29 e30 dX12_night_41 (fun H locs hV32 => ?_)
        have hV32 : kV E A s.heap H locs [(a0, .inr (12, [w0_0, w0_1, w0_2, w0_3, w0_4, w0_5, .int s_nights, w0_7, w0_8, w0_9, w0_10, w0_11, w0_12, w0_13, w0_14, w0_15, w0_16, w0_17, w0_18, w0_19, w0_20, w0_21, w0_22, w0_23, w0_24, w0_25, w0_26, w0_27, w0_28, w0_29, w0_30, w0_31, w0_32, w0_33, w0_34, w0_35, w0_36, w0_37, w0_38, w0_39, w0_40, w0_41, w0_42, w0_43, w0_44, w0_45, w0_46, w0_47, w0_48, w0_49, w0_50, w0_51, w0_52, w0_53, w0_54, w0_55, w0_56, w0_57, w0_58, w0_59, w0_60, w0_61, w0_62, .ref a2, .ref a1, w0_65, w0_66])), (a1, .inl (E.2 0, 30, .inl s_found)), (a2, .inl (E.2 0, 30, .inl g41_28))] := hV32
        clear hV23 hi29 e30
        refine lv_aload_n hx hb dX12_night_42 rfl (lv_at hl 0 rfl) ?_
        refine kget X hV32 (ci := 12) inlX12 rfl 0 rfl 64 (by decide) mw_173 rfl dX12_night_43 ?_
        refine lv_aload_n hx hb dX12_night_46 rfl (lv_at hl 0 rfl) ?_
        refine kget X hV32 (ci := 12) inlX12 rfl 0 rfl 6 (by decide) mw_1106 rfl dX12_night_47 ?_
        refine lv_iload_n hx hb dX12_night_50 rfl (lv_at hl 2 rfl) ?_
        obtain ⟨hi34, g51_33, e35, h36⟩ := wrI_s h31
        clear h31
        refine kiast X hV32 1 rfl hi34 e35 dX12_night_51 (fun H locs hV37 => ?_)
        have hV37 : kV E A s.heap H locs [(a0, .inr (12, [w0_0, w0_1, w0_2, w0_3, w0_4, w0_5, .int s_nights, w0_7, w0_8, w0_9, w0_10, w0_11, w0_12, w0_13, w0_14, w0_15, w0_16, w0_17, w0_18, w0_19, w0_20, w0_21, w0_22, w0_23, w0_24, w0_25, w0_26, w0_27, w0_28, w0_29, w0_30, w0_31, w0_32, w0_33, w0_34, w0_35, w0_36, w0_37, w0_38, w0_39, w0_40, w0_41, w0_42, w0_43, w0_44, w0_45, w0_46, w0_47, w0_48, w0_49, w0_50, w0_51, w0_52, w0_53, w0_54, w0_55, w0_56, w0_57, w0_58, w0_59, w0_60, w0_61, w0_62, .ref a2, .ref a1, w0_65, w0_66])), (a1, .inl (E.2 0, 30, .inl g51_33)), (a2, .inl (E.2 0, 30, .inl g41_28))] := hV37
        clear hV32 hi34 e35
        refine lv_aload_n hx hb dX12_night_52 rfl (lv_at hl 0 rfl) ?_
        refine lv_dup hx hb dX12_night_53 rfl ?_
        refine kget X hV37 (ci := 12) inlX12 rfl 0 rfl 6 (by decide) mw_1106 rfl dX12_night_54 ?_
        refine lv_iconst (v := 1) hx hb dX12_night_57 (by decide) ?_
        refine lv_iadd hx hb dX12_night_58 ?_
        obtain ⟨v59_38, e39, h40⟩ := nmI_s h36
        clear h36
        refine ktopi e39 ?_
        clear e39
        refine kput X hV37 (ci := 12) inlX12 rfl tyX12 tyX12_ok nmX12 0 rfl 6 (by decide) mw_1106 rfl rfl rfl (Nat.le_of_ble_eq_true rfl) dX12_night_59 (fun H locs hV41 => ?_)
        have hV41 : kV E A s.heap H locs [(a0, .inr (12, [w0_0, w0_1, w0_2, w0_3, w0_4, w0_5, .int v59_38, w0_7, w0_8, w0_9, w0_10, w0_11, w0_12, w0_13, w0_14, w0_15, w0_16, w0_17, w0_18, w0_19, w0_20, w0_21, w0_22, w0_23, w0_24, w0_25, w0_26, w0_27, w0_28, w0_29, w0_30, w0_31, w0_32, w0_33, w0_34, w0_35, w0_36, w0_37, w0_38, w0_39, w0_40, w0_41, w0_42, w0_43, w0_44, w0_45, w0_46, w0_47, w0_48, w0_49, w0_50, w0_51, w0_52, w0_53, w0_54, w0_55, w0_56, w0_57, w0_58, w0_59, w0_60, w0_61, w0_62, .ref a2, .ref a1, w0_65, w0_66])), (a1, .inl (E.2 0, 30, .inl g51_33)), (a2, .inl (E.2 0, 30, .inl g41_28))] := hV41
        clear hV37
        refine lv_aload_n hx hb dX12_night_62 rfl (lv_at hl 0 rfl) ?_
        refine kget X hV41 (ci := 12) inlX12 rfl 0 rfl 6 (by decide) mw_1106 rfl dX12_night_63 ?_
        refine lv_iconst (v := 1) hx hb dX12_night_66 (by decide) ?_
        refine lv_isub hx hb dX12_night_67 ?_
        obtain ⟨q42, q43, q44, q45⟩ := tup4_s h40
        clear h40
        exact hret _ () _ _ _ _ q42 rfl (by rw [← q43, ← q44, ← q45]; exact hV41) dX12_night_68
      · have h27 := itS c25 h22
        clear h22 c25
        refine lv_iconst (v := (-1)) hx hb dX12_night_30 (by decide) ?_
        obtain ⟨q46, q47, q48, q49⟩ := tup4_s h27
        clear h27
        exact hret _ () _ _ _ _ q46 rfl (by rw [← q47, ← q48, ← q49]; exact hV23) dX12_night_31
abbrev r_X12_isNight : Room := { frames := 1, cells := 0, slots := 0, locals := 25 }
set_option maxHeartbeats 4000000 in
set_option maxRecDepth 100000 in
theorem c_X12_isNight (l : Launch) (E : kE) (sz : Nat) (a0 : Nat) (w0_0 w0_1 w0_2 w0_3 w0_4 w0_5 w0_7 w0_8 w0_9 w0_10 w0_11 w0_12 w0_13 w0_14 w0_15 w0_16 w0_17 w0_18 w0_19 w0_20 w0_21 w0_22 w0_23 w0_24 w0_25 w0_26 w0_27 w0_28 w0_29 w0_30 w0_31 w0_32 w0_33 w0_34 w0_35 w0_36 w0_37 w0_38 w0_39 w0_40 w0_41 w0_42 w0_43 w0_44 w0_45 w0_46 w0_47 w0_48 w0_49 w0_50 w0_51 w0_52 w0_53 w0_54 w0_55 w0_56 w0_57 w0_58 w0_59 w0_60 w0_61 w0_62 w0_63 w0_64 w0_65 w0_66 : Value) (s_nights : Int32) (p1 : Int32) (r : Int32) (h : f_X12_isNight s_nights p1 = some (r)) : kMi l yX12_isNight cX12_isNight 2 (some .boolean) r_X12_isNight [.ref a0, .int p1] E [(a0, .inr (12, [w0_0, w0_1, w0_2, w0_3, w0_4, w0_5, .int s_nights, w0_7, w0_8, w0_9, w0_10, w0_11, w0_12, w0_13, w0_14, w0_15, w0_16, w0_17, w0_18, w0_19, w0_20, w0_21, w0_22, w0_23, w0_24, w0_25, w0_26, w0_27, w0_28, w0_29, w0_30, w0_31, w0_32, w0_33, w0_34, w0_35, w0_36, w0_37, w0_38, w0_39, w0_40, w0_41, w0_42, w0_43, w0_44, w0_45, w0_46, w0_47, w0_48, w0_49, w0_50, w0_51, w0_52, w0_53, w0_54, w0_55, w0_56, w0_57, w0_58, w0_59, w0_60, w0_61, w0_62, w0_63, w0_64, w0_65, w0_66]))] sz 0 0 (fun x (_ : Unit) => x = r) (fun _ => [(a0, .inr (12, [w0_0, w0_1, w0_2, w0_3, w0_4, w0_5, .int s_nights, w0_7, w0_8, w0_9, w0_10, w0_11, w0_12, w0_13, w0_14, w0_15, w0_16, w0_17, w0_18, w0_19, w0_20, w0_21, w0_22, w0_23, w0_24, w0_25, w0_26, w0_27, w0_28, w0_29, w0_30, w0_31, w0_32, w0_33, w0_34, w0_35, w0_36, w0_37, w0_38, w0_39, w0_40, w0_41, w0_42, w0_43, w0_44, w0_45, w0_46, w0_47, w0_48, w0_49, w0_50, w0_51, w0_52, w0_53, w0_54, w0_55, w0_56, w0_57, w0_58, w0_59, w0_60, w0_61, w0_62, w0_63, w0_64, w0_65, w0_66]))]) := by
  refine kmeti rfl (Nat.le_of_ble_eq_true rfl) ?_
  intro p e s m args below meth c ls A Q X hV hret hl
  have X : kC p s m c cX12_isNight 2 RX12 args E A := X
  have hx := X.1
  have hb := X.2.1
  have hl : lv_has ls 2 [(0, .ref a0), (1, .int p1)] := hl
  rw [f_X12_isNight] at h
  refine lv_iload_n hx hb dX12_isNight_0 rfl (lv_at hl 1 rfl) ?_
  refine lv_i2l (v := Int32.toInt64 p1) hx hb dX12_isNight_1 rfl ?_
  refine lv_lconst (v := 0) hx hb dX12_isNight_2 (by decide) ?_
  refine lv_aload_n hx hb dX12_isNight_3 rfl (lv_at hl 0 rfl) ?_
  refine kget X hV (ci := 12) inlX12 rfl 0 rfl 6 (by decide) mw_1106 rfl dX12_isNight_4 ?_
  refine lv_iconst (v := 1) hx hb dX12_isNight_7 (by decide) ?_
  refine lv_isub hx hb dX12_isNight_8 ?_
  refine lv_i2l (v := Int32.toInt64 (s_nights - 1)) hx hb dX12_isNight_9 rfl ?_
  obtain ⟨r10_1, hc2, h3⟩ := cb1_s h
  clear h
  refine kgoiE (krunS (rest := []) X hV [] (c_X12_lies l E _ (Int32.toInt64 p1) 0 (Int32.toInt64 (s_nights - 1)) r10_1 hc2) mw_224 kb_X12_lies (by decide) rfl rfl hl.1 rfl (Nat.le_of_ble_eq_true rfl) dX12_isNight_10 (by decide)) X hV [] [0] rfl rfl rfl (by decide) (fun u H locs hV4 => ?_)
  have hV4 : kV E A s.heap H locs [(a0, .inr (12, [w0_0, w0_1, w0_2, w0_3, w0_4, w0_5, .int s_nights, w0_7, w0_8, w0_9, w0_10, w0_11, w0_12, w0_13, w0_14, w0_15, w0_16, w0_17, w0_18, w0_19, w0_20, w0_21, w0_22, w0_23, w0_24, w0_25, w0_26, w0_27, w0_28, w0_29, w0_30, w0_31, w0_32, w0_33, w0_34, w0_35, w0_36, w0_37, w0_38, w0_39, w0_40, w0_41, w0_42, w0_43, w0_44, w0_45, w0_46, w0_47, w0_48, w0_49, w0_50, w0_51, w0_52, w0_53, w0_54, w0_55, w0_56, w0_57, w0_58, w0_59, w0_60, w0_61, w0_62, w0_63, w0_64, w0_65, w0_66]))] := hV4.sub [0] rfl rfl
  clear hV
  obtain ⟨hb6, h7⟩ := bo_s h3
  clear h3
  have q8 := tup1_s h7
  clear h7
  exact hret _ () _ _ _ _ q8 hb6 hV4 dX12_isNight_13
abbrev r_X12_isTold : Room := { frames := 2, cells := 0, slots := 0, locals := 45 }
set_option maxHeartbeats 4000000 in
set_option maxRecDepth 100000 in
theorem c_X12_isTold (l : Launch) (E : kE) (sz : Nat) (a0 a1 : Nat) (w0_0 w0_1 w0_2 w0_3 w0_4 w0_5 w0_6 w0_8 w0_9 w0_10 w0_11 w0_12 w0_13 w0_14 w0_15 w0_16 w0_17 w0_18 w0_19 w0_20 w0_21 w0_22 w0_23 w0_24 w0_25 w0_26 w0_27 w0_28 w0_29 w0_30 w0_31 w0_32 w0_33 w0_34 w0_35 w0_36 w0_37 w0_38 w0_39 w0_40 w0_41 w0_42 w0_43 w0_44 w0_45 w0_46 w0_47 w0_48 w0_49 w0_50 w0_51 w0_52 w0_53 w0_54 w0_55 w0_56 w0_57 w0_58 w0_59 w0_60 w0_61 w0_62 w0_63 w0_64 w0_65 w0_66 : Value) (s_many : Nat → Int32) (p1 : Int32) (r : Int32) (h : f_X12_isTold s_many p1 = some (r)) : kMi l yX12_isTold cX12_isTold 2 (some .boolean) r_X12_isTold [.ref a0, .int p1] E [(a0, .inr (12, [w0_0, w0_1, w0_2, w0_3, w0_4, w0_5, w0_6, .ref a1, w0_8, w0_9, w0_10, w0_11, w0_12, w0_13, w0_14, w0_15, w0_16, w0_17, w0_18, w0_19, w0_20, w0_21, w0_22, w0_23, w0_24, w0_25, w0_26, w0_27, w0_28, w0_29, w0_30, w0_31, w0_32, w0_33, w0_34, w0_35, w0_36, w0_37, w0_38, w0_39, w0_40, w0_41, w0_42, w0_43, w0_44, w0_45, w0_46, w0_47, w0_48, w0_49, w0_50, w0_51, w0_52, w0_53, w0_54, w0_55, w0_56, w0_57, w0_58, w0_59, w0_60, w0_61, w0_62, w0_63, w0_64, w0_65, w0_66])), (a1, .inl (E.2 0, 20, .inl s_many))] sz 0 0 (fun x (_ : Unit) => x = r) (fun _ => [(a0, .inr (12, [w0_0, w0_1, w0_2, w0_3, w0_4, w0_5, w0_6, .ref a1, w0_8, w0_9, w0_10, w0_11, w0_12, w0_13, w0_14, w0_15, w0_16, w0_17, w0_18, w0_19, w0_20, w0_21, w0_22, w0_23, w0_24, w0_25, w0_26, w0_27, w0_28, w0_29, w0_30, w0_31, w0_32, w0_33, w0_34, w0_35, w0_36, w0_37, w0_38, w0_39, w0_40, w0_41, w0_42, w0_43, w0_44, w0_45, w0_46, w0_47, w0_48, w0_49, w0_50, w0_51, w0_52, w0_53, w0_54, w0_55, w0_56, w0_57, w0_58, w0_59, w0_60, w0_61, w0_62, w0_63, w0_64, w0_65, w0_66])), (a1, .inl (E.2 0, 20, .inl s_many))]) := by
  refine kmeti rfl (Nat.le_of_ble_eq_true rfl) ?_
  intro p e s m args below meth c ls A Q X hV hret hl
  have X : kC p s m c cX12_isTold 2 RX12 args E A := X
  have hx := X.1
  have hb := X.2.1
  have hl : lv_has ls 2 [(0, .ref a0), (1, .int p1)] := hl
  rw [f_X12_isTold] at h
  refine lv_iload_n hx hb dX12_isTold_0 rfl (lv_at hl 1 rfl) ?_
  obtain ⟨r1_1, hc2, h3⟩ := cb1_s h
  clear h
  refine kgoiE (krunS (rest := []) X hV [] (c_X12_isTale l E _ p1 r1_1 hc2) mw_614 kb_X12_isTale (by decide) rfl rfl hl.1 rfl (Nat.le_of_ble_eq_true rfl) dX12_isTold_1 (by decide)) X hV [] [0, 1] rfl rfl rfl (by decide) (fun u H locs hV4 => ?_)
  have hV4 : kV E A s.heap H locs [(a0, .inr (12, [w0_0, w0_1, w0_2, w0_3, w0_4, w0_5, w0_6, .ref a1, w0_8, w0_9, w0_10, w0_11, w0_12, w0_13, w0_14, w0_15, w0_16, w0_17, w0_18, w0_19, w0_20, w0_21, w0_22, w0_23, w0_24, w0_25, w0_26, w0_27, w0_28, w0_29, w0_30, w0_31, w0_32, w0_33, w0_34, w0_35, w0_36, w0_37, w0_38, w0_39, w0_40, w0_41, w0_42, w0_43, w0_44, w0_45, w0_46, w0_47, w0_48, w0_49, w0_50, w0_51, w0_52, w0_53, w0_54, w0_55, w0_56, w0_57, w0_58, w0_59, w0_60, w0_61, w0_62, w0_63, w0_64, w0_65, w0_66])), (a1, .inl (E.2 0, 20, .inl s_many))] := hV4.sub [0, 1] rfl rfl
  clear hV
  refine lv_if_eq (tgt := 23) hx hb dX12_isTold_4 (by decide) (fun c6 => ?_) (fun c6 => ?_)
  · have h7 := itS c6 h3
    clear h3 c6
    refine lv_iconst (v := 0) hx hb dX12_isTold_23 (by decide) ?_
    have q9 := tup1_s h7
    clear h7
    exact hret _ () _ _ _ _ q9 rfl hV4 dX12_isTold_24
  · have h8 := ieS c6 h3
    clear h3 c6
    refine lv_aload_n hx hb dX12_isTold_7 rfl (lv_at hl 0 rfl) ?_
    refine kget X hV4 (ci := 12) inlX12 rfl 0 rfl 7 (by decide) mw_142 rfl dX12_isTold_8 ?_
    refine lv_bipush (v := 14) hx hb dX12_isTold_11 (by decide) ?_
    refine lv_iload_n hx hb dX12_isTold_13 rfl (lv_at hl 1 rfl) ?_
    refine lv_iadd hx hb dX12_isTold_14 ?_
    obtain ⟨hi11, v15_10, e12, h13⟩ := rdI_s h8
    clear h8
    refine kiald X hV4 1 rfl hi11 e12 dX12_isTold_15 ?_
    clear hi11 e12
    refine lv_if_le (tgt := 23) hx hb dX12_isTold_16 (by decide) (fun c14 => ?_) (fun c14 => ?_)
    · have h15 := itS c14 h13
      clear h13 c14
      refine lv_iconst (v := 0) hx hb dX12_isTold_23 (by decide) ?_
      have q17 := tup1_s h15
      clear h15
      exact hret _ () _ _ _ _ q17 rfl hV4 dX12_isTold_24
    · have h16 := ieS c14 h13
      clear h13 c14
      refine lv_iconst (v := 1) hx hb dX12_isTold_19 (by decide) ?_
      refine lv_goto (tgt := 24) hx hb dX12_isTold_20 (by decide) ?_
      have q18 := tup1_s h16
      clear h16
      exact hret _ () _ _ _ _ q18 rfl hV4 dX12_isTold_24
abbrev r_X12_says : Room := { frames := 3, cells := 0, slots := 0, locals := 66 }
set_option maxHeartbeats 4000000 in
set_option maxRecDepth 100000 in
theorem c_X12_says (l : Launch) (E : kE) (sz : Nat) (a0 a1 : Nat) (w0_0 w0_1 w0_2 w0_3 w0_4 w0_5 w0_8 w0_9 w0_10 w0_11 w0_12 w0_13 w0_14 w0_15 w0_16 w0_17 w0_18 w0_19 w0_20 w0_21 w0_22 w0_23 w0_24 w0_25 w0_26 w0_27 w0_28 w0_29 w0_30 w0_31 w0_32 w0_33 w0_34 w0_35 w0_36 w0_37 w0_38 w0_39 w0_40 w0_41 w0_42 w0_43 w0_44 w0_45 w0_46 w0_47 w0_48 w0_49 w0_50 w0_51 w0_52 w0_53 w0_54 w0_55 w0_56 w0_57 w0_58 w0_59 w0_60 w0_61 w0_62 w0_63 w0_64 w0_65 w0_66 : Value) (s_nights : Int32) (s_many : Nat → Int32) (p1 : Int32) (p2 : Int32) (r : Int32) (h : f_X12_says s_nights s_many p1 p2 = some (r)) : kMi l yX12_says cX12_says 3 (some .int) r_X12_says [.ref a0, .int p1, .int p2] E [(a0, .inr (12, [w0_0, w0_1, w0_2, w0_3, w0_4, w0_5, .int s_nights, .ref a1, w0_8, w0_9, w0_10, w0_11, w0_12, w0_13, w0_14, w0_15, w0_16, w0_17, w0_18, w0_19, w0_20, w0_21, w0_22, w0_23, w0_24, w0_25, w0_26, w0_27, w0_28, w0_29, w0_30, w0_31, w0_32, w0_33, w0_34, w0_35, w0_36, w0_37, w0_38, w0_39, w0_40, w0_41, w0_42, w0_43, w0_44, w0_45, w0_46, w0_47, w0_48, w0_49, w0_50, w0_51, w0_52, w0_53, w0_54, w0_55, w0_56, w0_57, w0_58, w0_59, w0_60, w0_61, w0_62, w0_63, w0_64, w0_65, w0_66])), (a1, .inl (E.2 0, 20, .inl s_many))] sz 0 0 (fun x (_ : Unit) => x = r) (fun _ => [(a0, .inr (12, [w0_0, w0_1, w0_2, w0_3, w0_4, w0_5, .int s_nights, .ref a1, w0_8, w0_9, w0_10, w0_11, w0_12, w0_13, w0_14, w0_15, w0_16, w0_17, w0_18, w0_19, w0_20, w0_21, w0_22, w0_23, w0_24, w0_25, w0_26, w0_27, w0_28, w0_29, w0_30, w0_31, w0_32, w0_33, w0_34, w0_35, w0_36, w0_37, w0_38, w0_39, w0_40, w0_41, w0_42, w0_43, w0_44, w0_45, w0_46, w0_47, w0_48, w0_49, w0_50, w0_51, w0_52, w0_53, w0_54, w0_55, w0_56, w0_57, w0_58, w0_59, w0_60, w0_61, w0_62, w0_63, w0_64, w0_65, w0_66])), (a1, .inl (E.2 0, 20, .inl s_many))]) := by
  refine kmeti rfl (Nat.le_of_ble_eq_true rfl) ?_
  intro p e s m args below meth c ls A Q X hV hret hl
  have X : kC p s m c cX12_says 3 RX12 args E A := X
  have hx := X.1
  have hb := X.2.1
  have hl : lv_has ls 3 [(0, .ref a0), (1, .int p1), (2, .int p2)] := hl
  rw [f_X12_says] at h
  refine lv_aload_n hx hb dX12_says_0 rfl (lv_at hl 0 rfl) ?_
  refine lv_iload_n hx hb dX12_says_1 rfl (lv_at hl 1 rfl) ?_
  obtain ⟨r2_1, hc2, h3⟩ := cb1_s h
  clear h
  refine kgoiE (krunV (rest := []) X hV [0, 1] (c_X12_isTold l E _ a0 a1 (w0_0) (w0_1) (w0_2) (w0_3) (w0_4) (w0_5) (.int s_nights) (w0_8) (w0_9) (w0_10) (w0_11) (w0_12) (w0_13) (w0_14) (w0_15) (w0_16) (w0_17) (w0_18) (w0_19) (w0_20) (w0_21) (w0_22) (w0_23) (w0_24) (w0_25) (w0_26) (w0_27) (w0_28) (w0_29) (w0_30) (w0_31) (w0_32) (w0_33) (w0_34) (w0_35) (w0_36) (w0_37) (w0_38) (w0_39) (w0_40) (w0_41) (w0_42) (w0_43) (w0_44) (w0_45) (w0_46) (w0_47) (w0_48) (w0_49) (w0_50) (w0_51) (w0_52) (w0_53) (w0_54) (w0_55) (w0_56) (w0_57) (w0_58) (w0_59) (w0_60) (w0_61) (w0_62) (w0_63) (w0_64) (w0_65) (w0_66) s_many p1 r2_1 hc2) mw_1130 kb_X12_isTold (ci := 12) rfl rfl (by decide) rfl rfl hl.1 rfl (Nat.le_of_ble_eq_true rfl) dX12_says_2 (by decide)) X hV [0, 1] [] rfl rfl rfl (by decide) (fun u H locs hV4 => ?_)
  have hV4 : kV E A s.heap H locs [(a0, .inr (12, [w0_0, w0_1, w0_2, w0_3, w0_4, w0_5, .int s_nights, .ref a1, w0_8, w0_9, w0_10, w0_11, w0_12, w0_13, w0_14, w0_15, w0_16, w0_17, w0_18, w0_19, w0_20, w0_21, w0_22, w0_23, w0_24, w0_25, w0_26, w0_27, w0_28, w0_29, w0_30, w0_31, w0_32, w0_33, w0_34, w0_35, w0_36, w0_37, w0_38, w0_39, w0_40, w0_41, w0_42, w0_43, w0_44, w0_45, w0_46, w0_47, w0_48, w0_49, w0_50, w0_51, w0_52, w0_53, w0_54, w0_55, w0_56, w0_57, w0_58, w0_59, w0_60, w0_61, w0_62, w0_63, w0_64, w0_65, w0_66])), (a1, .inl (E.2 0, 20, .inl s_many))] := hV4.sub [0, 1] rfl rfl
  clear hV
  refine lv_if_eq (tgt := 25) hx hb dX12_says_5 (by decide) (fun c6 => ?_) (fun c6 => ?_)
  · have h7 := itS c6 h3
    clear h3 c6
    refine lv_ldcw (v := (-1000000)) hx hb X.2.2.2.1 (X.2.2.2.2.1 _ mw_1129) dX12_says_25 ?_
    have q9 := tup1_s h7
    clear h7
    exact hret _ () _ _ _ _ q9 rfl hV4 dX12_says_28
  · have h8 := ieS c6 h3
    clear h3 c6
    refine lv_aload_n hx hb dX12_says_8 rfl (lv_at hl 0 rfl) ?_
    refine lv_iload_n hx hb dX12_says_9 rfl (lv_at hl 2 rfl) ?_
    obtain ⟨r10_10, hc11, h12⟩ := cb1_s h8
    clear h8
    refine kgoiE (krunV (rest := []) X hV4 [0] (c_X12_isNight l E _ a0 (w0_0) (w0_1) (w0_2) (w0_3) (w0_4) (w0_5) (.ref a1) (w0_8) (w0_9) (w0_10) (w0_11) (w0_12) (w0_13) (w0_14) (w0_15) (w0_16) (w0_17) (w0_18) (w0_19) (w0_20) (w0_21) (w0_22) (w0_23) (w0_24) (w0_25) (w0_26) (w0_27) (w0_28) (w0_29) (w0_30) (w0_31) (w0_32) (w0_33) (w0_34) (w0_35) (w0_36) (w0_37) (w0_38) (w0_39) (w0_40) (w0_41) (w0_42) (w0_43) (w0_44) (w0_45) (w0_46) (w0_47) (w0_48) (w0_49) (w0_50) (w0_51) (w0_52) (w0_53) (w0_54) (w0_55) (w0_56) (w0_57) (w0_58) (w0_59) (w0_60) (w0_61) (w0_62) (w0_63) (w0_64) (w0_65) (w0_66) s_nights p2 r10_10 hc11) mw_1134 kb_X12_isNight (ci := 12) rfl rfl (by decide) rfl rfl hl.1 rfl (Nat.le_of_ble_eq_true rfl) dX12_says_10 (by decide)) X hV4 [0] [1] rfl rfl rfl (by decide) (fun u H locs hV13 => ?_)
    have hV13 : kV E A s.heap H locs [(a0, .inr (12, [w0_0, w0_1, w0_2, w0_3, w0_4, w0_5, .int s_nights, .ref a1, w0_8, w0_9, w0_10, w0_11, w0_12, w0_13, w0_14, w0_15, w0_16, w0_17, w0_18, w0_19, w0_20, w0_21, w0_22, w0_23, w0_24, w0_25, w0_26, w0_27, w0_28, w0_29, w0_30, w0_31, w0_32, w0_33, w0_34, w0_35, w0_36, w0_37, w0_38, w0_39, w0_40, w0_41, w0_42, w0_43, w0_44, w0_45, w0_46, w0_47, w0_48, w0_49, w0_50, w0_51, w0_52, w0_53, w0_54, w0_55, w0_56, w0_57, w0_58, w0_59, w0_60, w0_61, w0_62, w0_63, w0_64, w0_65, w0_66])), (a1, .inl (E.2 0, 20, .inl s_many))] := hV13.sub [1, 0] rfl rfl
    clear hV4
    refine lv_if_eq (tgt := 25) hx hb dX12_says_13 (by decide) (fun c15 => ?_) (fun c15 => ?_)
    · have h16 := itS c15 h12
      clear h12 c15
      refine lv_ldcw (v := (-1000000)) hx hb X.2.2.2.1 (X.2.2.2.2.1 _ mw_1129) dX12_says_25 ?_
      have q18 := tup1_s h16
      clear h16
      exact hret _ () _ _ _ _ q18 rfl hV13 dX12_says_28
    · have h17 := ieS c15 h12
      clear h12 c15
      refine lv_aload_n hx hb dX12_says_16 rfl (lv_at hl 0 rfl) ?_
      refine lv_iload_n hx hb dX12_says_17 rfl (lv_at hl 1 rfl) ?_
      refine lv_iload_n hx hb dX12_says_18 rfl (lv_at hl 2 rfl) ?_
      exact nomatch h17
abbrev r_X12_isError : Room := { frames := 1, cells := 0, slots := 0, locals := 25 }
set_option maxHeartbeats 4000000 in
set_option maxRecDepth 100000 in
theorem c_X12_isError (l : Launch) (E : kE) (sz : Nat) (p1 : Int32) (r : Int32) (h : f_X12_isError p1 = some (r)) : kMi l yX12_isError cX12_isError 1 (some .boolean) r_X12_isError [.int p1] E [] sz 0 0 (fun x (_ : Unit) => x = r) (fun _ => []) := by
  refine kmeti rfl (Nat.le_of_ble_eq_true rfl) ?_
  intro p e s m args below meth c ls A Q X hV hret hl
  have X : kC p s m c cX12_isError 1 RX12 args E A := X
  have hx := X.1
  have hb := X.2.1
  have hl : lv_has ls 1 [(0, .int p1)] := hl
  rw [f_X12_isError] at h
  refine lv_iload_n hx hb dX12_isError_0 rfl (lv_at hl 0 rfl) ?_
  refine lv_i2l (v := Int32.toInt64 p1) hx hb dX12_isError_1 rfl ?_
  refine lv_lconst (v := 0) hx hb dX12_isError_2 (by decide) ?_
  refine lv_ldc2 (v := 100000) hx hb X.2.2.2.1 (X.2.2.2.2.1 _ mw_1108) dX12_isError_3 ?_
  obtain ⟨r6_1, hc2, h3⟩ := cb1_s h
  clear h
  refine kgoiE (krunS (rest := []) X hV [] (c_X12_lies l E _ (Int32.toInt64 p1) 0 100000 r6_1 hc2) mw_224 kb_X12_lies (by decide) rfl rfl hl.1 rfl (Nat.le_of_ble_eq_true rfl) dX12_isError_6 (by decide)) X hV [] [] rfl rfl rfl (by decide) (fun u H locs hV4 => ?_)
  have hV4 : kV E A s.heap H locs [] := hV4.sub [] rfl rfl
  clear hV
  obtain ⟨hb6, h7⟩ := bo_s h3
  clear h3
  have q8 := tup1_s h7
  clear h7
  exact hret _ () _ _ _ _ q8 hb6 hV4 dX12_isError_9
abbrev r_X12_falls : Room := { frames := 3, cells := 0, slots := 0, locals := 66 }
set_option maxHeartbeats 4000000 in
set_option maxRecDepth 100000 in
theorem c_X12_falls (l : Launch) (E : kE) (sz : Nat) (a0 a1 : Nat) (w0_0 w0_1 w0_2 w0_3 w0_4 w0_5 w0_6 w0_8 w0_9 w0_10 w0_11 w0_12 w0_13 w0_14 w0_15 w0_16 w0_17 w0_18 w0_19 w0_20 w0_21 w0_22 w0_23 w0_24 w0_25 w0_26 w0_27 w0_28 w0_29 w0_30 w0_31 w0_32 w0_33 w0_34 w0_35 w0_36 w0_37 w0_38 w0_39 w0_40 w0_41 w0_42 w0_43 w0_44 w0_45 w0_46 w0_47 w0_48 w0_49 w0_50 w0_51 w0_52 w0_53 w0_54 w0_55 w0_56 w0_57 w0_58 w0_59 w0_60 w0_61 w0_62 w0_63 w0_64 w0_65 w0_66 : Value) (s_many : Nat → Int32) (p1 : Int32) (p2 : Int32) (r : Int32) (h : f_X12_falls s_many p1 p2 = some (r)) : kMi l yX12_falls cX12_falls 4 (some .int) r_X12_falls [.ref a0, .int p1, .int p2] E [(a0, .inr (12, [w0_0, w0_1, w0_2, w0_3, w0_4, w0_5, w0_6, .ref a1, w0_8, w0_9, w0_10, w0_11, w0_12, w0_13, w0_14, w0_15, w0_16, w0_17, w0_18, w0_19, w0_20, w0_21, w0_22, w0_23, w0_24, w0_25, w0_26, w0_27, w0_28, w0_29, w0_30, w0_31, w0_32, w0_33, w0_34, w0_35, w0_36, w0_37, w0_38, w0_39, w0_40, w0_41, w0_42, w0_43, w0_44, w0_45, w0_46, w0_47, w0_48, w0_49, w0_50, w0_51, w0_52, w0_53, w0_54, w0_55, w0_56, w0_57, w0_58, w0_59, w0_60, w0_61, w0_62, w0_63, w0_64, w0_65, w0_66])), (a1, .inl (E.2 0, 20, .inl s_many))] sz 0 0 (fun x (_ : Unit) => x = r) (fun _ => [(a0, .inr (12, [w0_0, w0_1, w0_2, w0_3, w0_4, w0_5, w0_6, .ref a1, w0_8, w0_9, w0_10, w0_11, w0_12, w0_13, w0_14, w0_15, w0_16, w0_17, w0_18, w0_19, w0_20, w0_21, w0_22, w0_23, w0_24, w0_25, w0_26, w0_27, w0_28, w0_29, w0_30, w0_31, w0_32, w0_33, w0_34, w0_35, w0_36, w0_37, w0_38, w0_39, w0_40, w0_41, w0_42, w0_43, w0_44, w0_45, w0_46, w0_47, w0_48, w0_49, w0_50, w0_51, w0_52, w0_53, w0_54, w0_55, w0_56, w0_57, w0_58, w0_59, w0_60, w0_61, w0_62, w0_63, w0_64, w0_65, w0_66])), (a1, .inl (E.2 0, 20, .inl s_many))]) := by
  refine kmeti rfl (Nat.le_of_ble_eq_true rfl) ?_
  intro p e s m args below meth c ls A Q X hV hret hl
  have X : kC p s m c cX12_falls 4 RX12 args E A := X
  have hx := X.1
  have hb := X.2.1
  have hl : lv_has ls 4 [(0, .ref a0), (1, .int p1), (2, .int p2)] := hl
  rw [f_X12_falls] at h
  refine lv_aload_n hx hb dX12_falls_0 rfl (lv_at hl 0 rfl) ?_
  refine lv_iload_n hx hb dX12_falls_1 rfl (lv_at hl 1 rfl) ?_
  obtain ⟨r2_1, hc2, h3⟩ := cb1_s h
  clear h
  refine kgoiE (krunV (rest := []) X hV [0, 1] (c_X12_isTold l E _ a0 a1 (w0_0) (w0_1) (w0_2) (w0_3) (w0_4) (w0_5) (w0_6) (w0_8) (w0_9) (w0_10) (w0_11) (w0_12) (w0_13) (w0_14) (w0_15) (w0_16) (w0_17) (w0_18) (w0_19) (w0_20) (w0_21) (w0_22) (w0_23) (w0_24) (w0_25) (w0_26) (w0_27) (w0_28) (w0_29) (w0_30) (w0_31) (w0_32) (w0_33) (w0_34) (w0_35) (w0_36) (w0_37) (w0_38) (w0_39) (w0_40) (w0_41) (w0_42) (w0_43) (w0_44) (w0_45) (w0_46) (w0_47) (w0_48) (w0_49) (w0_50) (w0_51) (w0_52) (w0_53) (w0_54) (w0_55) (w0_56) (w0_57) (w0_58) (w0_59) (w0_60) (w0_61) (w0_62) (w0_63) (w0_64) (w0_65) (w0_66) s_many p1 r2_1 hc2) mw_1130 kb_X12_isTold (ci := 12) rfl rfl (by decide) rfl rfl hl.1 rfl (Nat.le_of_ble_eq_true rfl) dX12_falls_2 (by decide)) X hV [0, 1] [] rfl rfl rfl (by decide) (fun u H locs hV4 => ?_)
  have hV4 : kV E A s.heap H locs [(a0, .inr (12, [w0_0, w0_1, w0_2, w0_3, w0_4, w0_5, w0_6, .ref a1, w0_8, w0_9, w0_10, w0_11, w0_12, w0_13, w0_14, w0_15, w0_16, w0_17, w0_18, w0_19, w0_20, w0_21, w0_22, w0_23, w0_24, w0_25, w0_26, w0_27, w0_28, w0_29, w0_30, w0_31, w0_32, w0_33, w0_34, w0_35, w0_36, w0_37, w0_38, w0_39, w0_40, w0_41, w0_42, w0_43, w0_44, w0_45, w0_46, w0_47, w0_48, w0_49, w0_50, w0_51, w0_52, w0_53, w0_54, w0_55, w0_56, w0_57, w0_58, w0_59, w0_60, w0_61, w0_62, w0_63, w0_64, w0_65, w0_66])), (a1, .inl (E.2 0, 20, .inl s_many))] := hV4.sub [0, 1] rfl rfl
  clear hV
  refine lv_if_eq (tgt := 15) hx hb dX12_falls_5 (by decide) (fun c6 => ?_) (fun c6 => ?_)
  · have h7 := itS c6 h3
    clear h3 c6
    refine lv_iconst (v := (-1)) hx hb dX12_falls_15 (by decide) ?_
    have q9 := tup1_s h7
    clear h7
    exact hret _ () _ _ _ _ q9 rfl hV4 dX12_falls_16
  · have h8 := ieS c6 h3
    clear h3 c6
    refine lv_iload_n hx hb dX12_falls_8 rfl (lv_at hl 2 rfl) ?_
    obtain ⟨r9_10, hc11, h12⟩ := cb1_s h8
    clear h8
    refine kgoiE (krunS (rest := []) X hV4 [] (c_X12_isError l E _ p2 r9_10 hc11) mw_1161 kb_X12_isError (by decide) rfl rfl hl.1 rfl (Nat.le_of_ble_eq_true rfl) dX12_falls_9 (by decide)) X hV4 [] [0, 1] rfl rfl rfl (by decide) (fun u H locs hV13 => ?_)
    have hV13 : kV E A s.heap H locs [(a0, .inr (12, [w0_0, w0_1, w0_2, w0_3, w0_4, w0_5, w0_6, .ref a1, w0_8, w0_9, w0_10, w0_11, w0_12, w0_13, w0_14, w0_15, w0_16, w0_17, w0_18, w0_19, w0_20, w0_21, w0_22, w0_23, w0_24, w0_25, w0_26, w0_27, w0_28, w0_29, w0_30, w0_31, w0_32, w0_33, w0_34, w0_35, w0_36, w0_37, w0_38, w0_39, w0_40, w0_41, w0_42, w0_43, w0_44, w0_45, w0_46, w0_47, w0_48, w0_49, w0_50, w0_51, w0_52, w0_53, w0_54, w0_55, w0_56, w0_57, w0_58, w0_59, w0_60, w0_61, w0_62, w0_63, w0_64, w0_65, w0_66])), (a1, .inl (E.2 0, 20, .inl s_many))] := hV13.sub [0, 1] rfl rfl
    clear hV4
    refine lv_if_ne (tgt := 17) hx hb dX12_falls_12 (by decide) (fun c15 => ?_) (fun c15 => ?_)
    · have h16 := ieS c15 h12
      clear h12 c15
      refine lv_aload_n hx hb dX12_falls_17 rfl (lv_at hl 0 rfl) ?_
      refine lv_iload_n hx hb dX12_falls_18 rfl (lv_at hl 1 rfl) ?_
      refine lv_iload_n hx hb dX12_falls_19 rfl (lv_at hl 2 rfl) ?_
      exact nomatch h16
    · have h17 := itS c15 h12
      clear h12 c15
      refine lv_iconst (v := (-1)) hx hb dX12_falls_15 (by decide) ?_
      have q18 := tup1_s h17
      clear h17
      exact hret _ () _ _ _ _ q18 rfl hV13 dX12_falls_16
abbrev r_X12_told : Room := { frames := 3, cells := 0, slots := 0, locals := 66 }
set_option maxHeartbeats 4000000 in
set_option maxRecDepth 100000 in
theorem c_X12_told (l : Launch) (E : kE) (sz : Nat) (a0 a1 : Nat) (w0_0 w0_1 w0_2 w0_3 w0_4 w0_5 w0_8 w0_9 w0_10 w0_11 w0_12 w0_13 w0_14 w0_15 w0_16 w0_17 w0_18 w0_19 w0_20 w0_21 w0_22 w0_23 w0_24 w0_25 w0_26 w0_27 w0_28 w0_29 w0_30 w0_31 w0_32 w0_33 w0_34 w0_35 w0_36 w0_37 w0_38 w0_39 w0_40 w0_41 w0_42 w0_43 w0_44 w0_45 w0_46 w0_47 w0_48 w0_49 w0_50 w0_51 w0_52 w0_53 w0_54 w0_55 w0_56 w0_57 w0_58 w0_59 w0_60 w0_61 w0_62 w0_63 w0_64 w0_65 w0_66 : Value) (s_nights : Int32) (s_many : Nat → Int32) (p1 : Int32) (p2 : Int32) (r : Int32) (h : f_X12_told s_nights s_many p1 p2 = some (r)) : kMi l yX12_told cX12_told 7 (some .int) r_X12_told [.ref a0, .int p1, .int p2] E [(a0, .inr (12, [w0_0, w0_1, w0_2, w0_3, w0_4, w0_5, .int s_nights, .ref a1, w0_8, w0_9, w0_10, w0_11, w0_12, w0_13, w0_14, w0_15, w0_16, w0_17, w0_18, w0_19, w0_20, w0_21, w0_22, w0_23, w0_24, w0_25, w0_26, w0_27, w0_28, w0_29, w0_30, w0_31, w0_32, w0_33, w0_34, w0_35, w0_36, w0_37, w0_38, w0_39, w0_40, w0_41, w0_42, w0_43, w0_44, w0_45, w0_46, w0_47, w0_48, w0_49, w0_50, w0_51, w0_52, w0_53, w0_54, w0_55, w0_56, w0_57, w0_58, w0_59, w0_60, w0_61, w0_62, w0_63, w0_64, w0_65, w0_66])), (a1, .inl (E.2 0, 20, .inl s_many))] sz 0 0 (fun x (_ : Unit) => x = r) (fun _ => [(a0, .inr (12, [w0_0, w0_1, w0_2, w0_3, w0_4, w0_5, .int s_nights, .ref a1, w0_8, w0_9, w0_10, w0_11, w0_12, w0_13, w0_14, w0_15, w0_16, w0_17, w0_18, w0_19, w0_20, w0_21, w0_22, w0_23, w0_24, w0_25, w0_26, w0_27, w0_28, w0_29, w0_30, w0_31, w0_32, w0_33, w0_34, w0_35, w0_36, w0_37, w0_38, w0_39, w0_40, w0_41, w0_42, w0_43, w0_44, w0_45, w0_46, w0_47, w0_48, w0_49, w0_50, w0_51, w0_52, w0_53, w0_54, w0_55, w0_56, w0_57, w0_58, w0_59, w0_60, w0_61, w0_62, w0_63, w0_64, w0_65, w0_66])), (a1, .inl (E.2 0, 20, .inl s_many))]) := by
  refine kmeti rfl (Nat.le_of_ble_eq_true rfl) ?_
  intro p e s m args below meth c ls A Q X hV hret hl
  have X : kC p s m c cX12_told 7 RX12 args E A := X
  have hx := X.1
  have hb := X.2.1
  have hl : lv_has ls 7 [(0, .ref a0), (1, .int p1), (2, .int p2)] := hl
  rw [f_X12_told] at h
  refine lv_iload_n hx hb dX12_told_0 rfl (lv_at hl 1 rfl) ?_
  obtain ⟨r1_1, hc2, h3⟩ := cb1_s h
  clear h
  refine kgoiE (krunS (rest := []) X hV [] (c_X12_isError l E _ p1 r1_1 hc2) mw_1161 kb_X12_isError (by decide) rfl rfl hl.1 rfl (Nat.le_of_ble_eq_true rfl) dX12_told_1 (by decide)) X hV [] [0, 1] rfl rfl rfl (by decide) (fun u H locs hV4 => ?_)
  have hV4 : kV E A s.heap H locs [(a0, .inr (12, [w0_0, w0_1, w0_2, w0_3, w0_4, w0_5, .int s_nights, .ref a1, w0_8, w0_9, w0_10, w0_11, w0_12, w0_13, w0_14, w0_15, w0_16, w0_17, w0_18, w0_19, w0_20, w0_21, w0_22, w0_23, w0_24, w0_25, w0_26, w0_27, w0_28, w0_29, w0_30, w0_31, w0_32, w0_33, w0_34, w0_35, w0_36, w0_37, w0_38, w0_39, w0_40, w0_41, w0_42, w0_43, w0_44, w0_45, w0_46, w0_47, w0_48, w0_49, w0_50, w0_51, w0_52, w0_53, w0_54, w0_55, w0_56, w0_57, w0_58, w0_59, w0_60, w0_61, w0_62, w0_63, w0_64, w0_65, w0_66])), (a1, .inl (E.2 0, 20, .inl s_many))] := hV4.sub [0, 1] rfl rfl
  clear hV
  refine lv_if_eq (tgt := 17) hx hb dX12_told_4 (by decide) (fun c6 => ?_) (fun c6 => ?_)
  · have h7 := itS c6 h3
    clear h3 c6
    refine lv_iconst (v := (-1)) hx hb dX12_told_17 (by decide) ?_
    have q9 := tup1_s h7
    clear h7
    exact hret _ () _ _ _ _ q9 rfl hV4 dX12_told_18
  · have h8 := ieS c6 h3
    clear h3 c6
    refine lv_iload_n hx hb dX12_told_7 rfl (lv_at hl 2 rfl) ?_
    refine lv_i2l (v := Int32.toInt64 p2) hx hb dX12_told_8 rfl ?_
    refine lv_lconst (v := 0) hx hb dX12_told_9 (by decide) ?_
    refine lv_lconst (v := 1) hx hb dX12_told_10 (by decide) ?_
    obtain ⟨r11_10, hc11, h12⟩ := cb1_s h8
    clear h8
    refine kgoiE (krunS (rest := []) X hV4 [] (c_X12_lies l E _ (Int32.toInt64 p2) 0 1 r11_10 hc11) mw_224 kb_X12_lies (by decide) rfl rfl hl.1 rfl (Nat.le_of_ble_eq_true rfl) dX12_told_11 (by decide)) X hV4 [] [0, 1] rfl rfl rfl (by decide) (fun u H locs hV13 => ?_)
    have hV13 : kV E A s.heap H locs [(a0, .inr (12, [w0_0, w0_1, w0_2, w0_3, w0_4, w0_5, .int s_nights, .ref a1, w0_8, w0_9, w0_10, w0_11, w0_12, w0_13, w0_14, w0_15, w0_16, w0_17, w0_18, w0_19, w0_20, w0_21, w0_22, w0_23, w0_24, w0_25, w0_26, w0_27, w0_28, w0_29, w0_30, w0_31, w0_32, w0_33, w0_34, w0_35, w0_36, w0_37, w0_38, w0_39, w0_40, w0_41, w0_42, w0_43, w0_44, w0_45, w0_46, w0_47, w0_48, w0_49, w0_50, w0_51, w0_52, w0_53, w0_54, w0_55, w0_56, w0_57, w0_58, w0_59, w0_60, w0_61, w0_62, w0_63, w0_64, w0_65, w0_66])), (a1, .inl (E.2 0, 20, .inl s_many))] := hV13.sub [0, 1] rfl rfl
    clear hV4
    refine lv_if_ne (tgt := 19) hx hb dX12_told_14 (by decide) (fun c15 => ?_) (fun c15 => ?_)
    · have h16 := ieS c15 h12
      clear h12 c15
      refine lv_iconst (v := 0) hx hb dX12_told_19 (by decide) ?_
      refine lv_istore_n (lv' := [(3, .int 0), (0, .ref a0), (1, .int p1), (2, .int p2)]) hx hb dX12_told_20 rfl hl (by decide) rfl (fun ls hl18 => ?_)
      clear hl
      have J87 : ∀ (x3_19 : Int32) (x5_20 : Int32) (H : Heap) (locs : List Loc) (ls : Array Slot), (f_X12_told_J87 p2 ) x3_19 x5_20 = some (r) → kV E A s.heap H locs [(a0, .inr (12, [w0_0, w0_1, w0_2, w0_3, w0_4, w0_5, .int s_nights, .ref a1, w0_8, w0_9, w0_10, w0_11, w0_12, w0_13, w0_14, w0_15, w0_16, w0_17, w0_18, w0_19, w0_20, w0_21, w0_22, w0_23, w0_24, w0_25, w0_26, w0_27, w0_28, w0_29, w0_30, w0_31, w0_32, w0_33, w0_34, w0_35, w0_36, w0_37, w0_38, w0_39, w0_40, w0_41, w0_42, w0_43, w0_44, w0_45, w0_46, w0_47, w0_48, w0_49, w0_50, w0_51, w0_52, w0_53, w0_54, w0_55, w0_56, w0_57, w0_58, w0_59, w0_60, w0_61, w0_62, w0_63, w0_64, w0_65, w0_66])), (a1, .inl (E.2 0, 20, .inl s_many))] → lv_has ls 7 [(2, .int p2), (3, .int x3_19), (5, .int x5_20)] → W p l e r_X12_told s m args below meth c H locs 0 0 Q (F0 m 87 ls []) := by
        intro x3_19 x5_20 H locs ls hB87 hVB87 hlB87
        rw [f_X12_told_J87] at hB87
        refine lv_iload_n hx hb dX12_told_87 rfl (lv_at hlB87 0 rfl) ?_
        refine lv_if_ne (tgt := 95) hx hb dX12_told_88 (by decide) (fun c21 => ?_) (fun c21 => ?_)
        · have h22 := ieS c21 hB87
          clear hB87 c21
          refine lv_iload hx hb dX12_told_95 (lv_at hlB87 2 rfl) ?_
          have q24 := tup1_s h22
          clear h22
          exact hret _ () _ _ _ _ q24 rfl hVB87 dX12_told_97
        · have h23 := itS c21 hB87
          clear hB87 c21
          refine lv_iload_n hx hb dX12_told_91 rfl (lv_at hlB87 1 rfl) ?_
          refine lv_goto (tgt := 97) hx hb dX12_told_92 (by decide) ?_
          have q25 := tup1_s h23
          clear h23
          exact hret _ () _ _ _ _ q25 rfl hVB87 dX12_told_97
      have L21 : ∀ (n21 : Nat) (x3_26 : Int32) (H : Heap) (locs : List Loc) (ls : Array Slot), (f_X12_told_L21 s_nights s_many  n21) x3_26 = some (r) → kV E A s.heap H locs [(a0, .inr (12, [w0_0, w0_1, w0_2, w0_3, w0_4, w0_5, .int s_nights, .ref a1, w0_8, w0_9, w0_10, w0_11, w0_12, w0_13, w0_14, w0_15, w0_16, w0_17, w0_18, w0_19, w0_20, w0_21, w0_22, w0_23, w0_24, w0_25, w0_26, w0_27, w0_28, w0_29, w0_30, w0_31, w0_32, w0_33, w0_34, w0_35, w0_36, w0_37, w0_38, w0_39, w0_40, w0_41, w0_42, w0_43, w0_44, w0_45, w0_46, w0_47, w0_48, w0_49, w0_50, w0_51, w0_52, w0_53, w0_54, w0_55, w0_56, w0_57, w0_58, w0_59, w0_60, w0_61, w0_62, w0_63, w0_64, w0_65, w0_66])), (a1, .inl (E.2 0, 20, .inl s_many))] → lv_has ls 7 [(0, .ref a0), (1, .int p1), (2, .int p2), (3, .int x3_26)] → W p l e r_X12_told s m args below meth c H locs 0 0 Q (F0 m 21 ls []) := by
        intro n21
        induction n21 with
        | zero =>
          intro x3_26 H locs ls hB21 hVB21 hlB21
          rw [f_X12_told_L21] at hB21
          exact nomatch hB21
        | succ n21 ih21 =>
          intro x3_26 H locs ls hB21 hVB21 hlB21
          rw [f_X12_told_L21] at hB21
          refine lv_iload_n hx hb dX12_told_21 rfl (lv_at hlB21 3 rfl) ?_
          refine lv_aload_n hx hb dX12_told_22 rfl (lv_at hlB21 0 rfl) ?_
          refine kget X hVB21 (ci := 12) inlX12 rfl 0 rfl 6 (by decide) mw_1106 rfl dX12_told_23 ?_
          refine lv_icmp_ge (tgt := 104) hx hb dX12_told_26 (by decide) (fun c27 => ?_) (fun c27 => ?_)
          · have h28 := itS c27 hB21
            clear hB21 c27
            refine lv_iconst (v := (-1)) hx hb dX12_told_104 (by decide) ?_
            have q30 := tup1_s h28
            clear h28
            exact hret _ () _ _ _ _ q30 rfl hVB21 dX12_told_105
          · have h29 := ieS c27 hB21
            clear hB21 c27
            refine lv_iconst (v := 0) hx hb dX12_told_29 (by decide) ?_
            refine lv_istore (lv' := [(4, .int 0), (0, .ref a0), (1, .int p1), (2, .int p2), (3, .int x3_26)]) hx hb dX12_told_30 hlB21 (by decide) rfl (fun ls hl31 => ?_)
            clear hlB21
            refine lv_iconst (v := (-1)) hx hb dX12_told_32 (by decide) ?_
            refine lv_istore (lv' := [(5, .int (-1)), (4, .int 0), (0, .ref a0), (1, .int p1), (2, .int p2), (3, .int x3_26)]) hx hb dX12_told_33 hl31 (by decide) rfl (fun ls hl32 => ?_)
            clear hl31
            refine lv_iconst (v := 0) hx hb dX12_told_35 (by decide) ?_
            refine lv_istore (lv' := [(6, .int 0), (5, .int (-1)), (4, .int 0), (0, .ref a0), (1, .int p1), (2, .int p2), (3, .int x3_26)]) hx hb dX12_told_36 hl32 (by decide) rfl (fun ls hl33 => ?_)
            clear hl32
            have J81 : ∀  (H : Heap) (locs : List Loc) (ls : Array Slot), (f_X12_told_J81 x3_26 (f_X12_told_L21 s_nights s_many  n21)) = some (r) → kV E A s.heap H locs [(a0, .inr (12, [w0_0, w0_1, w0_2, w0_3, w0_4, w0_5, .int s_nights, .ref a1, w0_8, w0_9, w0_10, w0_11, w0_12, w0_13, w0_14, w0_15, w0_16, w0_17, w0_18, w0_19, w0_20, w0_21, w0_22, w0_23, w0_24, w0_25, w0_26, w0_27, w0_28, w0_29, w0_30, w0_31, w0_32, w0_33, w0_34, w0_35, w0_36, w0_37, w0_38, w0_39, w0_40, w0_41, w0_42, w0_43, w0_44, w0_45, w0_46, w0_47, w0_48, w0_49, w0_50, w0_51, w0_52, w0_53, w0_54, w0_55, w0_56, w0_57, w0_58, w0_59, w0_60, w0_61, w0_62, w0_63, w0_64, w0_65, w0_66])), (a1, .inl (E.2 0, 20, .inl s_many))] → lv_has ls 7 [(0, .ref a0), (1, .int p1), (2, .int p2), (3, .int x3_26), (4, .int 0), (5, .int (-1))] → W p l e r_X12_told s m args below meth c H locs 0 0 Q (F0 m 81 ls []) := by
              intro  H locs ls hB81 hVB81 hlB81
              rw [f_X12_told_J81] at hB81
              refine lv_iload hx hb dX12_told_81 (lv_at hlB81 4 rfl) ?_
              refine lv_iconst (v := 1) hx hb dX12_told_83 (by decide) ?_
              refine lv_icmp_ne (tgt := 98) hx hb dX12_told_84 (by decide) (fun c34 => ?_) (fun c34 => by exact absurd c34 (by decide))
              clear c34
              obtain ⟨v98_35, e36, h37⟩ := nmI_s hB81
              clear hB81
              refine lv_iinc (v := v98_35) (lv' := [(3, .int v98_35), (0, .ref a0), (1, .int p1), (2, .int p2), (4, .int 0), (5, .int (-1))]) hx hb dX12_told_98 hlB81 (k := 3) rfl (by rw [e36]; rfl) (by decide) rfl (fun ls hl38 => ?_)
              clear hlB81 e36
              refine lv_goto (tgt := 21) hx hb dX12_told_101 (by decide) ?_
              exact ih21 v98_35 _ _ _ h37 hVB81 (lv_sub hl38 [1, 2, 3, 0] rfl)
            have L38 : ∀ (n38 : Nat) (x6_39 : Int32) (H : Heap) (locs : List Loc) (ls : Array Slot), (f_X12_told_L38 s_many (f_X12_told_J81 x3_26 (f_X12_told_L21 s_nights s_many  n21)) n38) x6_39 = some (r) → kV E A s.heap H locs [(a0, .inr (12, [w0_0, w0_1, w0_2, w0_3, w0_4, w0_5, .int s_nights, .ref a1, w0_8, w0_9, w0_10, w0_11, w0_12, w0_13, w0_14, w0_15, w0_16, w0_17, w0_18, w0_19, w0_20, w0_21, w0_22, w0_23, w0_24, w0_25, w0_26, w0_27, w0_28, w0_29, w0_30, w0_31, w0_32, w0_33, w0_34, w0_35, w0_36, w0_37, w0_38, w0_39, w0_40, w0_41, w0_42, w0_43, w0_44, w0_45, w0_46, w0_47, w0_48, w0_49, w0_50, w0_51, w0_52, w0_53, w0_54, w0_55, w0_56, w0_57, w0_58, w0_59, w0_60, w0_61, w0_62, w0_63, w0_64, w0_65, w0_66])), (a1, .inl (E.2 0, 20, .inl s_many))] → lv_has ls 7 [(0, .ref a0), (1, .int p1), (2, .int p2), (3, .int x3_26), (4, .int 0), (5, .int (-1)), (6, .int x6_39)] → W p l e r_X12_told s m args below meth c H locs 0 0 Q (F0 m 38 ls []) := by
              intro n38
              induction n38 with
              | zero =>
                intro x6_39 H locs ls hB38 hVB38 hlB38
                rw [f_X12_told_L38] at hB38
                exact nomatch hB38
              | succ n38 ih38 =>
                intro x6_39 H locs ls hB38 hVB38 hlB38
                rw [f_X12_told_L38] at hB38
                refine lv_iload hx hb dX12_told_38 (lv_at hlB38 6 rfl) ?_
                refine lv_bipush (v := 6) hx hb dX12_told_40 (by decide) ?_
                refine lv_icmp_ge (tgt := 81) hx hb dX12_told_42 (by decide) (fun c40 => ?_) (fun c40 => ?_)
                · have h41 := itS c40 hB38
                  clear hB38 c40
                  exact J81  _ _ _ h41 hVB38 (lv_sub hlB38 [0, 1, 2, 3, 4, 5] rfl)
                · have h42 := ieS c40 hB38
                  clear hB38 c40
                  refine lv_aload_n hx hb dX12_told_45 rfl (lv_at hlB38 0 rfl) ?_
                  refine lv_iload hx hb dX12_told_46 (lv_at hlB38 6 rfl) ?_
                  obtain ⟨r48_43, hc44, h45⟩ := cb1_s h42
                  clear h42
                  refine kgoiE (krunV (rest := []) X hVB38 [0, 1] (c_X12_isTold l E _ a0 a1 (w0_0) (w0_1) (w0_2) (w0_3) (w0_4) (w0_5) (.int s_nights) (w0_8) (w0_9) (w0_10) (w0_11) (w0_12) (w0_13) (w0_14) (w0_15) (w0_16) (w0_17) (w0_18) (w0_19) (w0_20) (w0_21) (w0_22) (w0_23) (w0_24) (w0_25) (w0_26) (w0_27) (w0_28) (w0_29) (w0_30) (w0_31) (w0_32) (w0_33) (w0_34) (w0_35) (w0_36) (w0_37) (w0_38) (w0_39) (w0_40) (w0_41) (w0_42) (w0_43) (w0_44) (w0_45) (w0_46) (w0_47) (w0_48) (w0_49) (w0_50) (w0_51) (w0_52) (w0_53) (w0_54) (w0_55) (w0_56) (w0_57) (w0_58) (w0_59) (w0_60) (w0_61) (w0_62) (w0_63) (w0_64) (w0_65) (w0_66) s_many x6_39 r48_43 hc44) mw_1130 kb_X12_isTold (ci := 12) rfl rfl (by decide) rfl rfl hlB38.1 rfl (Nat.le_of_ble_eq_true rfl) dX12_told_48 (by decide)) X hVB38 [0, 1] [] rfl rfl rfl (by decide) (fun u H locs hV46 => ?_)
                  have hV46 : kV E A s.heap H locs [(a0, .inr (12, [w0_0, w0_1, w0_2, w0_3, w0_4, w0_5, .int s_nights, .ref a1, w0_8, w0_9, w0_10, w0_11, w0_12, w0_13, w0_14, w0_15, w0_16, w0_17, w0_18, w0_19, w0_20, w0_21, w0_22, w0_23, w0_24, w0_25, w0_26, w0_27, w0_28, w0_29, w0_30, w0_31, w0_32, w0_33, w0_34, w0_35, w0_36, w0_37, w0_38, w0_39, w0_40, w0_41, w0_42, w0_43, w0_44, w0_45, w0_46, w0_47, w0_48, w0_49, w0_50, w0_51, w0_52, w0_53, w0_54, w0_55, w0_56, w0_57, w0_58, w0_59, w0_60, w0_61, w0_62, w0_63, w0_64, w0_65, w0_66])), (a1, .inl (E.2 0, 20, .inl s_many))] := hV46.sub [0, 1] rfl rfl
                  clear hVB38
                  refine lv_if_eq (tgt := 75) hx hb dX12_told_51 (by decide) (fun c48 => ?_) (fun c48 => ?_)
                  · have h49 := itS c48 h45
                    clear h45 c48
                    obtain ⟨v75_51, e52, h53⟩ := nmI_s h49
                    clear h49
                    refine lv_iinc (v := v75_51) (lv' := [(6, .int v75_51), (0, .ref a0), (1, .int p1), (2, .int p2), (3, .int x3_26), (4, .int 0), (5, .int (-1))]) hx hb dX12_told_75 hlB38 (k := 6) rfl (by rw [e52]; rfl) (by decide) rfl (fun ls hl54 => ?_)
                    clear hlB38 e52
                    refine lv_goto (tgt := 38) hx hb dX12_told_78 (by decide) ?_
                    exact ih38 v75_51 _ _ _ h53 hV46 (lv_sub hl54 [1, 2, 3, 4, 5, 6, 0] rfl)
                  · have h50 := ieS c48 h45
                    clear h45 c48
                    refine lv_aload_n hx hb dX12_told_54 rfl (lv_at hlB38 0 rfl) ?_
                    refine lv_iload hx hb dX12_told_55 (lv_at hlB38 6 rfl) ?_
                    refine lv_iload_n hx hb dX12_told_57 rfl (lv_at hlB38 1 rfl) ?_
                    exact nomatch h50
            exact L38 FU 0 _ _ _ h29 hVB21 (lv_sub hl33 [3, 4, 5, 6, 2, 1, 0] rfl)
      exact L21 FU 0 _ _ _ h16 hV13 (lv_sub hl18 [1, 2, 3, 0] rfl)
    · have h17 := itS c15 h12
      clear h12 c15
      refine lv_iconst (v := (-1)) hx hb dX12_told_17 (by decide) ?_
      have q55 := tup1_s h17
      clear h17
      exact hret _ () _ _ _ _ q55 rfl hV13 dX12_told_18
abbrev r_X12_waveOf : Room := { frames := 0, cells := 0, slots := 0, locals := 0 }
set_option maxHeartbeats 4000000 in
set_option maxRecDepth 100000 in
theorem c_X12_waveOf (l : Launch) (E : kE) (sz : Nat) (p1 : Int32) (p2 : Int32) (r : Int32) (h : f_X12_waveOf p1 p2 = some (r)) : kMi l yX12_waveOf cX12_waveOf 3 (some .int) r_X12_waveOf [.int p1, .int p2] E [] sz 0 0 (fun x (_ : Unit) => x = r) (fun _ => []) := by
  refine kmeti rfl (Nat.le_of_ble_eq_true rfl) ?_
  intro p e s m args below meth c ls A Q X hV hret hl
  have X : kC p s m c cX12_waveOf 3 RX12 args E A := X
  have hx := X.1
  have hb := X.2.1
  have hl : lv_has ls 3 [(0, .int p1), (1, .int p2)] := hl
  rw [f_X12_waveOf] at h
  refine lv_sipush (v := 4000) hx hb dX12_waveOf_0 (by decide) ?_
  refine lv_iload_n hx hb dX12_waveOf_3 rfl (lv_at hl 0 rfl) ?_
  refine lv_imul hx hb dX12_waveOf_4 ?_
  refine lv_iload_n hx hb dX12_waveOf_5 rfl (lv_at hl 1 rfl) ?_
  obtain ⟨hn1, h2⟩ := dvI_s h
  clear h
  refine lv_idiv hx hb dX12_waveOf_6 hn1 ?_
  obtain ⟨v7_3, e4, h5⟩ := nmI_s h2
  clear h2
  refine ktopi e4 ?_
  clear e4
  refine lv_istore_n (lv' := [(2, .int v7_3), (0, .int p1), (1, .int p2)]) hx hb dX12_waveOf_7 rfl hl (by decide) rfl (fun ls hl6 => ?_)
  clear hl
  refine lv_iconst (v := 4) hx hb dX12_waveOf_8 (by decide) ?_
  refine lv_iload_n hx hb dX12_waveOf_9 rfl (lv_at hl6 1 rfl) ?_
  refine lv_imul hx hb dX12_waveOf_10 ?_
  refine lv_iload_n hx hb dX12_waveOf_11 rfl (lv_at hl6 2 rfl) ?_
  refine lv_icmp_ge (tgt := 19) hx hb dX12_waveOf_12 (by decide) (fun c7 => ?_) (fun c7 => ?_)
  · have h8 := itS c7 h5
    clear h5 c7
    refine lv_iconst (v := 4) hx hb dX12_waveOf_19 (by decide) ?_
    refine lv_iload_n hx hb dX12_waveOf_20 rfl (lv_at hl6 1 rfl) ?_
    refine lv_imul hx hb dX12_waveOf_21 ?_
    refine lv_iconst (v := 3) hx hb dX12_waveOf_22 (by decide) ?_
    refine lv_iload_n hx hb dX12_waveOf_23 rfl (lv_at hl6 2 rfl) ?_
    refine lv_imul hx hb dX12_waveOf_24 ?_
    refine lv_icmp_ge (tgt := 36) hx hb dX12_waveOf_25 (by decide) (fun c10 => ?_) (fun c10 => ?_)
    · have h11 := itS c10 h8
      clear h8 c10
      refine lv_iload_n hx hb dX12_waveOf_36 rfl (lv_at hl6 0 rfl) ?_
      refine lv_sipush (v := 4000) hx hb dX12_waveOf_37 (by decide) ?_
      refine lv_isub hx hb dX12_waveOf_40 ?_
      have q13 := tup1_s h11
      clear h11
      exact hret _ () _ _ _ _ q13 rfl hV dX12_waveOf_41
    · have h12 := ieS c10 h8
      clear h8 c10
      refine lv_sipush (v := 2000) hx hb dX12_waveOf_28 (by decide) ?_
      refine lv_iload_n hx hb dX12_waveOf_31 rfl (lv_at hl6 0 rfl) ?_
      refine lv_isub hx hb dX12_waveOf_32 ?_
      refine lv_goto (tgt := 41) hx hb dX12_waveOf_33 (by decide) ?_
      have q14 := tup1_s h12
      clear h12
      exact hret _ () _ _ _ _ q14 rfl hV dX12_waveOf_41
  · have h9 := ieS c7 h5
    clear h5 c7
    refine lv_iload_n hx hb dX12_waveOf_15 rfl (lv_at hl6 0 rfl) ?_
    refine lv_goto (tgt := 41) hx hb dX12_waveOf_16 (by decide) ?_
    have q15 := tup1_s h9
    clear h9
    exact hret _ () _ _ _ _ q15 rfl hV dX12_waveOf_41
abbrev r_X12_canGoAbout : Room := { frames := 1, cells := 0, slots := 0, locals := 25 }
set_option maxHeartbeats 4000000 in
set_option maxRecDepth 100000 in
theorem c_X12_canGoAbout (l : Launch) (E : kE) (sz : Nat) (a0 a1 a2 : Nat) (w0_0 w0_1 w0_2 w0_3 w0_4 w0_5 w0_7 w0_8 w0_9 w0_10 w0_11 w0_12 w0_13 w0_14 w0_15 w0_16 w0_17 w0_18 w0_19 w0_20 w0_21 w0_22 w0_23 w0_24 w0_25 w0_26 w0_27 w0_28 w0_29 w0_30 w0_31 w0_32 w0_33 w0_34 w0_35 w0_36 w0_37 w0_38 w0_39 w0_40 w0_41 w0_42 w0_43 w0_44 w0_45 w0_46 w0_47 w0_48 w0_49 w0_50 w0_51 w0_52 w0_53 w0_54 w0_55 w0_56 w0_57 w0_58 w0_59 w0_60 w0_61 w0_62 w0_65 w0_66 : Value) (s_nights : Int32) (s_found : Nat → Int32) (s_nightDay : Nat → Int32) (p1 : Int32) (p2 : Int32) (p3 : Int32) (p4 : Int32) (r : Int32) (h : f_X12_canGoAbout s_nights s_found s_nightDay p1 p2 p3 p4 = some (r)) : kMi l yX12_canGoAbout cX12_canGoAbout 6 (some .boolean) r_X12_canGoAbout [.ref a0, .int p1, .int p2, .int p3, .int p4] E [(a0, .inr (12, [w0_0, w0_1, w0_2, w0_3, w0_4, w0_5, .int s_nights, w0_7, w0_8, w0_9, w0_10, w0_11, w0_12, w0_13, w0_14, w0_15, w0_16, w0_17, w0_18, w0_19, w0_20, w0_21, w0_22, w0_23, w0_24, w0_25, w0_26, w0_27, w0_28, w0_29, w0_30, w0_31, w0_32, w0_33, w0_34, w0_35, w0_36, w0_37, w0_38, w0_39, w0_40, w0_41, w0_42, w0_43, w0_44, w0_45, w0_46, w0_47, w0_48, w0_49, w0_50, w0_51, w0_52, w0_53, w0_54, w0_55, w0_56, w0_57, w0_58, w0_59, w0_60, w0_61, w0_62, .ref a2, .ref a1, w0_65, w0_66])), (a1, .inl (E.2 0, 30, .inl s_found)), (a2, .inl (E.2 0, 30, .inl s_nightDay))] sz 0 0 (fun x (_ : Unit) => x = r) (fun _ => [(a0, .inr (12, [w0_0, w0_1, w0_2, w0_3, w0_4, w0_5, .int s_nights, w0_7, w0_8, w0_9, w0_10, w0_11, w0_12, w0_13, w0_14, w0_15, w0_16, w0_17, w0_18, w0_19, w0_20, w0_21, w0_22, w0_23, w0_24, w0_25, w0_26, w0_27, w0_28, w0_29, w0_30, w0_31, w0_32, w0_33, w0_34, w0_35, w0_36, w0_37, w0_38, w0_39, w0_40, w0_41, w0_42, w0_43, w0_44, w0_45, w0_46, w0_47, w0_48, w0_49, w0_50, w0_51, w0_52, w0_53, w0_54, w0_55, w0_56, w0_57, w0_58, w0_59, w0_60, w0_61, w0_62, .ref a2, .ref a1, w0_65, w0_66])), (a1, .inl (E.2 0, 30, .inl s_found)), (a2, .inl (E.2 0, 30, .inl s_nightDay))]) := by
  refine kmeti rfl (Nat.le_of_ble_eq_true rfl) ?_
  intro p e s m args below meth c ls A Q X hV hret hl
  have X : kC p s m c cX12_canGoAbout 6 RX12 args E A := X
  have hx := X.1
  have hb := X.2.1
  have hl : lv_has ls 6 [(0, .ref a0), (1, .int p1), (2, .int p2), (3, .int p3), (4, .int p4)] := hl
  rw [f_X12_canGoAbout] at h
  refine lv_iconst (v := 0) hx hb dX12_canGoAbout_0 (by decide) ?_
  refine lv_istore (lv' := [(5, .int 0), (0, .ref a0), (1, .int p1), (2, .int p2), (3, .int p3), (4, .int p4)]) hx hb dX12_canGoAbout_1 hl (by decide) rfl (fun ls hl1 => ?_)
  clear hl
  have L3 : ∀ (n3 : Nat) (x5_2 : Int32) (H : Heap) (locs : List Loc) (ls : Array Slot), (f_X12_canGoAbout_L3 s_nights s_found s_nightDay p1 p2 p3 p4  n3) x5_2 = some (r) → kV E A s.heap H locs [(a0, .inr (12, [w0_0, w0_1, w0_2, w0_3, w0_4, w0_5, .int s_nights, w0_7, w0_8, w0_9, w0_10, w0_11, w0_12, w0_13, w0_14, w0_15, w0_16, w0_17, w0_18, w0_19, w0_20, w0_21, w0_22, w0_23, w0_24, w0_25, w0_26, w0_27, w0_28, w0_29, w0_30, w0_31, w0_32, w0_33, w0_34, w0_35, w0_36, w0_37, w0_38, w0_39, w0_40, w0_41, w0_42, w0_43, w0_44, w0_45, w0_46, w0_47, w0_48, w0_49, w0_50, w0_51, w0_52, w0_53, w0_54, w0_55, w0_56, w0_57, w0_58, w0_59, w0_60, w0_61, w0_62, .ref a2, .ref a1, w0_65, w0_66])), (a1, .inl (E.2 0, 30, .inl s_found)), (a2, .inl (E.2 0, 30, .inl s_nightDay))] → lv_has ls 6 [(0, .ref a0), (1, .int p1), (2, .int p2), (3, .int p3), (4, .int p4), (5, .int x5_2)] → W p l e r_X12_canGoAbout s m args below meth c H locs 0 0 Q (F0 m 3 ls []) := by
    intro n3
    induction n3 with
    | zero =>
      intro x5_2 H locs ls hB3 hVB3 hlB3
      rw [f_X12_canGoAbout_L3] at hB3
      exact nomatch hB3
    | succ n3 ih3 =>
      intro x5_2 H locs ls hB3 hVB3 hlB3
      rw [f_X12_canGoAbout_L3] at hB3
      refine lv_iload hx hb dX12_canGoAbout_3 (lv_at hlB3 5 rfl) ?_
      refine lv_aload_n hx hb dX12_canGoAbout_5 rfl (lv_at hlB3 0 rfl) ?_
      refine kget X hVB3 (ci := 12) inlX12 rfl 0 rfl 6 (by decide) mw_1106 rfl dX12_canGoAbout_6 ?_
      refine lv_icmp_ge (tgt := 62) hx hb dX12_canGoAbout_9 (by decide) (fun c3 => ?_) (fun c3 => ?_)
      · have h4 := itS c3 hB3
        clear hB3 c3
        refine lv_iconst (v := 1) hx hb dX12_canGoAbout_62 (by decide) ?_
        have q6 := tup1_s h4
        clear h4
        exact hret _ () _ _ _ _ q6 rfl hVB3 dX12_canGoAbout_63
      · have h5 := ieS c3 hB3
        clear hB3 c3
        refine lv_iload_n hx hb dX12_canGoAbout_12 rfl (lv_at hlB3 3 rfl) ?_
        refine lv_aload_n hx hb dX12_canGoAbout_13 rfl (lv_at hlB3 0 rfl) ?_
        refine kget X hVB3 (ci := 12) inlX12 rfl 0 rfl 63 (by decide) mw_172 rfl dX12_canGoAbout_14 ?_
        refine lv_iload hx hb dX12_canGoAbout_17 (lv_at hlB3 5 rfl) ?_
        obtain ⟨hi8, v19_7, e9, h10⟩ := rdI_s h5
        clear h5
        refine kiald X hVB3 2 rfl hi8 e9 dX12_canGoAbout_19 ?_
        clear hi8 e9
        refine lv_iload hx hb dX12_canGoAbout_20 (lv_at hlB3 4 rfl) ?_
        refine lv_iadd hx hb dX12_canGoAbout_22 ?_
        refine lv_iload_n hx hb dX12_canGoAbout_23 rfl (lv_at hlB3 1 rfl) ?_
        obtain ⟨hn11, h12⟩ := dvI_s h10
        clear h10
        refine lv_irem hx hb dX12_canGoAbout_24 hn11 ?_
        refine lv_iload_n hx hb dX12_canGoAbout_25 rfl (lv_at hlB3 1 rfl) ?_
        obtain ⟨r26_13, hc14, h15⟩ := cb1_s h12
        clear h12
        refine kgoiE (krunS (rest := [.int p3]) X hVB3 [] (c_X12_waveOf l E _ (jrem (v19_7 + p4) p1) p1 r26_13 hc14) mw_1209 kb_X12_waveOf (by decide) rfl rfl hlB3.1 rfl (Nat.le_of_ble_eq_true rfl) dX12_canGoAbout_26 (by decide)) X hVB3 [] [0, 1, 2] rfl rfl rfl (by decide) (fun u H locs hV16 => ?_)
        have hV16 : kV E A s.heap H locs [(a0, .inr (12, [w0_0, w0_1, w0_2, w0_3, w0_4, w0_5, .int s_nights, w0_7, w0_8, w0_9, w0_10, w0_11, w0_12, w0_13, w0_14, w0_15, w0_16, w0_17, w0_18, w0_19, w0_20, w0_21, w0_22, w0_23, w0_24, w0_25, w0_26, w0_27, w0_28, w0_29, w0_30, w0_31, w0_32, w0_33, w0_34, w0_35, w0_36, w0_37, w0_38, w0_39, w0_40, w0_41, w0_42, w0_43, w0_44, w0_45, w0_46, w0_47, w0_48, w0_49, w0_50, w0_51, w0_52, w0_53, w0_54, w0_55, w0_56, w0_57, w0_58, w0_59, w0_60, w0_61, w0_62, .ref a2, .ref a1, w0_65, w0_66])), (a1, .inl (E.2 0, 30, .inl s_found)), (a2, .inl (E.2 0, 30, .inl s_nightDay))] := hV16.sub [0, 1, 2] rfl rfl
        clear hVB3
        refine lv_imul hx hb dX12_canGoAbout_29 ?_
        refine lv_sipush (v := 1000) hx hb dX12_canGoAbout_30 (by decide) ?_
        refine lv_idiv hx hb dX12_canGoAbout_33 (by decide) ?_
        refine lv_aload_n hx hb dX12_canGoAbout_34 rfl (lv_at hlB3 0 rfl) ?_
        refine kget X hV16 (ci := 12) inlX12 rfl 0 rfl 64 (by decide) mw_173 rfl dX12_canGoAbout_35 ?_
        refine lv_iload hx hb dX12_canGoAbout_38 (lv_at hlB3 5 rfl) ?_
        obtain ⟨hi19, v40_18, e20, h21⟩ := rdI_s h15
        clear h15
        refine kiald X hV16 1 rfl hi19 e20 dX12_canGoAbout_40 ?_
        clear hi19 e20
        refine lv_isub hx hb dX12_canGoAbout_41 ?_
        refine lv_i2l (v := Int32.toInt64 (((p3 * r26_13) / 1000) - v40_18)) hx hb dX12_canGoAbout_42 rfl ?_
        refine lv_iload_n hx hb dX12_canGoAbout_43 rfl (lv_at hlB3 2 rfl) ?_
        refine lv_ineg hx hb dX12_canGoAbout_44 ?_
        refine lv_i2l (v := Int32.toInt64 (-p2)) hx hb dX12_canGoAbout_45 rfl ?_
        refine lv_iload_n hx hb dX12_canGoAbout_46 rfl (lv_at hlB3 2 rfl) ?_
        refine lv_i2l (v := Int32.toInt64 p2) hx hb dX12_canGoAbout_47 rfl ?_
        obtain ⟨r48_22, hc23, h24⟩ := cb1_s h21
        clear h21
        refine kgoiE (krunS (rest := []) X hV16 [] (c_X12_lies l E _ (Int32.toInt64 (((p3 * r26_13) / 1000) - v40_18)) (Int32.toInt64 (-p2)) (Int32.toInt64 p2) r48_22 hc23) mw_224 kb_X12_lies (by decide) rfl rfl hlB3.1 rfl (Nat.le_of_ble_eq_true rfl) dX12_canGoAbout_48 (by decide)) X hV16 [] [0, 1, 2] rfl rfl rfl (by decide) (fun u H locs hV25 => ?_)
        have hV25 : kV E A s.heap H locs [(a0, .inr (12, [w0_0, w0_1, w0_2, w0_3, w0_4, w0_5, .int s_nights, w0_7, w0_8, w0_9, w0_10, w0_11, w0_12, w0_13, w0_14, w0_15, w0_16, w0_17, w0_18, w0_19, w0_20, w0_21, w0_22, w0_23, w0_24, w0_25, w0_26, w0_27, w0_28, w0_29, w0_30, w0_31, w0_32, w0_33, w0_34, w0_35, w0_36, w0_37, w0_38, w0_39, w0_40, w0_41, w0_42, w0_43, w0_44, w0_45, w0_46, w0_47, w0_48, w0_49, w0_50, w0_51, w0_52, w0_53, w0_54, w0_55, w0_56, w0_57, w0_58, w0_59, w0_60, w0_61, w0_62, .ref a2, .ref a1, w0_65, w0_66])), (a1, .inl (E.2 0, 30, .inl s_found)), (a2, .inl (E.2 0, 30, .inl s_nightDay))] := hV25.sub [0, 1, 2] rfl rfl
        clear hV16
        refine lv_if_ne (tgt := 56) hx hb dX12_canGoAbout_51 (by decide) (fun c27 => ?_) (fun c27 => ?_)
        · have h28 := ieS c27 h24
          clear h24 c27
          obtain ⟨v56_30, e31, h32⟩ := nmI_s h28
          clear h28
          refine lv_iinc (v := v56_30) (lv' := [(5, .int v56_30), (0, .ref a0), (1, .int p1), (2, .int p2), (3, .int p3), (4, .int p4)]) hx hb dX12_canGoAbout_56 hlB3 (k := 5) rfl (by rw [e31]; rfl) (by decide) rfl (fun ls hl33 => ?_)
          clear hlB3 e31
          refine lv_goto (tgt := 3) hx hb dX12_canGoAbout_59 (by decide) ?_
          exact ih3 v56_30 _ _ _ h32 hV25 (lv_sub hl33 [1, 2, 3, 4, 5, 0] rfl)
        · have h29 := itS c27 h24
          clear h24 c27
          refine lv_iconst (v := 0) hx hb dX12_canGoAbout_54 (by decide) ?_
          have q34 := tup1_s h29
          clear h29
          exact hret _ () _ _ _ _ q34 rfl hV25 dX12_canGoAbout_55
  exact L3 FU 0 _ _ _ h hV (lv_sub hl1 [1, 2, 3, 4, 5, 0] rfl)
abbrev r_X12_bound : Room := { frames := 2, cells := 0, slots := 0, locals := 50 }
set_option maxHeartbeats 4000000 in
set_option maxRecDepth 100000 in
theorem c_X12_bound (l : Launch) (E : kE) (sz : Nat) (a0 a1 a2 : Nat) (w0_0 w0_1 w0_2 w0_3 w0_4 w0_5 w0_7 w0_8 w0_9 w0_10 w0_11 w0_12 w0_13 w0_14 w0_15 w0_16 w0_17 w0_18 w0_19 w0_20 w0_21 w0_22 w0_23 w0_24 w0_25 w0_26 w0_27 w0_28 w0_29 w0_30 w0_31 w0_32 w0_33 w0_34 w0_35 w0_36 w0_37 w0_38 w0_39 w0_40 w0_41 w0_42 w0_43 w0_44 w0_45 w0_46 w0_47 w0_48 w0_49 w0_50 w0_51 w0_52 w0_53 w0_54 w0_55 w0_56 w0_57 w0_58 w0_59 w0_60 w0_61 w0_62 w0_65 w0_66 : Value) (s_nights : Int32) (s_found : Nat → Int32) (s_nightDay : Nat → Int32) (p1 : Int32) (p2 : Int32) (r : Int32) (h : f_X12_bound s_nights s_found s_nightDay p1 p2 = some (r)) : kMi l yX12_bound cX12_bound 5 (some .int) r_X12_bound [.ref a0, .int p1, .int p2] E [(a0, .inr (12, [w0_0, w0_1, w0_2, w0_3, w0_4, w0_5, .int s_nights, w0_7, w0_8, w0_9, w0_10, w0_11, w0_12, w0_13, w0_14, w0_15, w0_16, w0_17, w0_18, w0_19, w0_20, w0_21, w0_22, w0_23, w0_24, w0_25, w0_26, w0_27, w0_28, w0_29, w0_30, w0_31, w0_32, w0_33, w0_34, w0_35, w0_36, w0_37, w0_38, w0_39, w0_40, w0_41, w0_42, w0_43, w0_44, w0_45, w0_46, w0_47, w0_48, w0_49, w0_50, w0_51, w0_52, w0_53, w0_54, w0_55, w0_56, w0_57, w0_58, w0_59, w0_60, w0_61, w0_62, .ref a2, .ref a1, w0_65, w0_66])), (a1, .inl (E.2 0, 30, .inl s_found)), (a2, .inl (E.2 0, 30, .inl s_nightDay))] sz 0 0 (fun x (_ : Unit) => x = r) (fun _ => [(a0, .inr (12, [w0_0, w0_1, w0_2, w0_3, w0_4, w0_5, .int s_nights, w0_7, w0_8, w0_9, w0_10, w0_11, w0_12, w0_13, w0_14, w0_15, w0_16, w0_17, w0_18, w0_19, w0_20, w0_21, w0_22, w0_23, w0_24, w0_25, w0_26, w0_27, w0_28, w0_29, w0_30, w0_31, w0_32, w0_33, w0_34, w0_35, w0_36, w0_37, w0_38, w0_39, w0_40, w0_41, w0_42, w0_43, w0_44, w0_45, w0_46, w0_47, w0_48, w0_49, w0_50, w0_51, w0_52, w0_53, w0_54, w0_55, w0_56, w0_57, w0_58, w0_59, w0_60, w0_61, w0_62, .ref a2, .ref a1, w0_65, w0_66])), (a1, .inl (E.2 0, 30, .inl s_found)), (a2, .inl (E.2 0, 30, .inl s_nightDay))]) := by
  refine kmeti rfl (Nat.le_of_ble_eq_true rfl) ?_
  intro p e s m args below meth c ls A Q X hV hret hl
  have X : kC p s m c cX12_bound 5 RX12 args E A := X
  have hx := X.1
  have hb := X.2.1
  have hl : lv_has ls 5 [(0, .ref a0), (1, .int p1), (2, .int p2)] := hl
  rw [f_X12_bound] at h
  refine lv_iload_n hx hb dX12_bound_0 rfl (lv_at hl 1 rfl) ?_
  refine lv_i2l (v := Int32.toInt64 p1) hx hb dX12_bound_1 rfl ?_
  refine lv_ldc2 (v := 4) hx hb X.2.2.2.1 (X.2.2.2.2.1 _ mw_1203) dX12_bound_2 ?_
  refine lv_ldc2 (v := 400) hx hb X.2.2.2.1 (X.2.2.2.2.1 _ mw_1204) dX12_bound_5 ?_
  obtain ⟨r8_1, hc2, h3⟩ := cb1_s h
  clear h
  refine kgoiE (krunS (rest := []) X hV [] (c_X12_lies l E _ (Int32.toInt64 p1) 4 400 r8_1 hc2) mw_224 kb_X12_lies (by decide) rfl rfl hl.1 rfl (Nat.le_of_ble_eq_true rfl) dX12_bound_8 (by decide)) X hV [] [0, 1, 2] rfl rfl rfl (by decide) (fun u H locs hV4 => ?_)
  have hV4 : kV E A s.heap H locs [(a0, .inr (12, [w0_0, w0_1, w0_2, w0_3, w0_4, w0_5, .int s_nights, w0_7, w0_8, w0_9, w0_10, w0_11, w0_12, w0_13, w0_14, w0_15, w0_16, w0_17, w0_18, w0_19, w0_20, w0_21, w0_22, w0_23, w0_24, w0_25, w0_26, w0_27, w0_28, w0_29, w0_30, w0_31, w0_32, w0_33, w0_34, w0_35, w0_36, w0_37, w0_38, w0_39, w0_40, w0_41, w0_42, w0_43, w0_44, w0_45, w0_46, w0_47, w0_48, w0_49, w0_50, w0_51, w0_52, w0_53, w0_54, w0_55, w0_56, w0_57, w0_58, w0_59, w0_60, w0_61, w0_62, .ref a2, .ref a1, w0_65, w0_66])), (a1, .inl (E.2 0, 30, .inl s_found)), (a2, .inl (E.2 0, 30, .inl s_nightDay))] := hV4.sub [0, 1, 2] rfl rfl
  clear hV
  refine lv_if_eq (tgt := 21) hx hb dX12_bound_11 (by decide) (fun c6 => ?_) (fun c6 => ?_)
  · have h7 := itS c6 h3
    clear h3 c6
    refine lv_iconst (v := (-1)) hx hb dX12_bound_21 (by decide) ?_
    have q9 := tup1_s h7
    clear h7
    exact hret _ () _ _ _ _ q9 rfl hV4 dX12_bound_22
  · have h8 := ieS c6 h3
    clear h3 c6
    refine lv_iload_n hx hb dX12_bound_14 rfl (lv_at hl 2 rfl) ?_
    obtain ⟨r15_10, hc11, h12⟩ := cb1_s h8
    clear h8
    refine kgoiE (krunS (rest := []) X hV4 [] (c_X12_isError l E _ p2 r15_10 hc11) mw_1161 kb_X12_isError (by decide) rfl rfl hl.1 rfl (Nat.le_of_ble_eq_true rfl) dX12_bound_15 (by decide)) X hV4 [] [0, 1, 2] rfl rfl rfl (by decide) (fun u H locs hV13 => ?_)
    have hV13 : kV E A s.heap H locs [(a0, .inr (12, [w0_0, w0_1, w0_2, w0_3, w0_4, w0_5, .int s_nights, w0_7, w0_8, w0_9, w0_10, w0_11, w0_12, w0_13, w0_14, w0_15, w0_16, w0_17, w0_18, w0_19, w0_20, w0_21, w0_22, w0_23, w0_24, w0_25, w0_26, w0_27, w0_28, w0_29, w0_30, w0_31, w0_32, w0_33, w0_34, w0_35, w0_36, w0_37, w0_38, w0_39, w0_40, w0_41, w0_42, w0_43, w0_44, w0_45, w0_46, w0_47, w0_48, w0_49, w0_50, w0_51, w0_52, w0_53, w0_54, w0_55, w0_56, w0_57, w0_58, w0_59, w0_60, w0_61, w0_62, .ref a2, .ref a1, w0_65, w0_66])), (a1, .inl (E.2 0, 30, .inl s_found)), (a2, .inl (E.2 0, 30, .inl s_nightDay))] := hV13.sub [0, 1, 2] rfl rfl
    clear hV4
    refine lv_if_ne (tgt := 23) hx hb dX12_bound_18 (by decide) (fun c15 => ?_) (fun c15 => ?_)
    · have h16 := ieS c15 h12
      clear h12 c15
      refine lv_sipush (v := 2000) hx hb dX12_bound_23 (by decide) ?_
      refine lv_istore_n (lv' := [(3, .int 2000), (0, .ref a0), (1, .int p1), (2, .int p2)]) hx hb dX12_bound_26 rfl hl (by decide) rfl (fun ls hl18 => ?_)
      clear hl
      have L27 : ∀ (n27 : Nat) (x3_19 : Int32) (H : Heap) (locs : List Loc) (ls : Array Slot), (f_X12_bound_L27 s_nights s_found s_nightDay p1 p2  n27) x3_19 = some (r) → kV E A s.heap H locs [(a0, .inr (12, [w0_0, w0_1, w0_2, w0_3, w0_4, w0_5, .int s_nights, w0_7, w0_8, w0_9, w0_10, w0_11, w0_12, w0_13, w0_14, w0_15, w0_16, w0_17, w0_18, w0_19, w0_20, w0_21, w0_22, w0_23, w0_24, w0_25, w0_26, w0_27, w0_28, w0_29, w0_30, w0_31, w0_32, w0_33, w0_34, w0_35, w0_36, w0_37, w0_38, w0_39, w0_40, w0_41, w0_42, w0_43, w0_44, w0_45, w0_46, w0_47, w0_48, w0_49, w0_50, w0_51, w0_52, w0_53, w0_54, w0_55, w0_56, w0_57, w0_58, w0_59, w0_60, w0_61, w0_62, .ref a2, .ref a1, w0_65, w0_66])), (a1, .inl (E.2 0, 30, .inl s_found)), (a2, .inl (E.2 0, 30, .inl s_nightDay))] → lv_has ls 5 [(0, .ref a0), (1, .int p1), (2, .int p2), (3, .int x3_19)] → W p l e r_X12_bound s m args below meth c H locs 0 0 Q (F0 m 27 ls []) := by
        intro n27
        induction n27 with
        | zero =>
          intro x3_19 H locs ls hB27 hVB27 hlB27
          rw [f_X12_bound_L27] at hB27
          exact nomatch hB27
        | succ n27 ih27 =>
          intro x3_19 H locs ls hB27 hVB27 hlB27
          rw [f_X12_bound_L27] at hB27
          refine lv_iload_n hx hb dX12_bound_27 rfl (lv_at hlB27 3 rfl) ?_
          refine lv_if_lt (tgt := 66) hx hb dX12_bound_28 (by decide) (fun c20 => ?_) (fun c20 => ?_)
          · have h21 := itS c20 hB27
            clear hB27 c20
            refine lv_bipush (v := (-2)) hx hb dX12_bound_66 (by decide) ?_
            have q23 := tup1_s h21
            clear h21
            exact hret _ () _ _ _ _ q23 rfl hVB27 dX12_bound_68
          · have h22 := ieS c20 hB27
            clear hB27 c20
            refine lv_iconst (v := 0) hx hb dX12_bound_31 (by decide) ?_
            refine lv_istore (lv' := [(4, .int 0), (0, .ref a0), (1, .int p1), (2, .int p2), (3, .int x3_19)]) hx hb dX12_bound_32 hlB27 (by decide) rfl (fun ls hl24 => ?_)
            clear hlB27
            have L34 : ∀ (n34 : Nat) (x4_25 : Int32) (H : Heap) (locs : List Loc) (ls : Array Slot), (f_X12_bound_L34 s_nights s_found s_nightDay p1 p2 x3_19 (f_X12_bound_L27 s_nights s_found s_nightDay p1 p2  n27) n34) x4_25 = some (r) → kV E A s.heap H locs [(a0, .inr (12, [w0_0, w0_1, w0_2, w0_3, w0_4, w0_5, .int s_nights, w0_7, w0_8, w0_9, w0_10, w0_11, w0_12, w0_13, w0_14, w0_15, w0_16, w0_17, w0_18, w0_19, w0_20, w0_21, w0_22, w0_23, w0_24, w0_25, w0_26, w0_27, w0_28, w0_29, w0_30, w0_31, w0_32, w0_33, w0_34, w0_35, w0_36, w0_37, w0_38, w0_39, w0_40, w0_41, w0_42, w0_43, w0_44, w0_45, w0_46, w0_47, w0_48, w0_49, w0_50, w0_51, w0_52, w0_53, w0_54, w0_55, w0_56, w0_57, w0_58, w0_59, w0_60, w0_61, w0_62, .ref a2, .ref a1, w0_65, w0_66])), (a1, .inl (E.2 0, 30, .inl s_found)), (a2, .inl (E.2 0, 30, .inl s_nightDay))] → lv_has ls 5 [(0, .ref a0), (1, .int p1), (2, .int p2), (3, .int x3_19), (4, .int x4_25)] → W p l e r_X12_bound s m args below meth c H locs 0 0 Q (F0 m 34 ls []) := by
              intro n34
              induction n34 with
              | zero =>
                intro x4_25 H locs ls hB34 hVB34 hlB34
                rw [f_X12_bound_L34] at hB34
                exact nomatch hB34
              | succ n34 ih34 =>
                intro x4_25 H locs ls hB34 hVB34 hlB34
                rw [f_X12_bound_L34] at hB34
                refine lv_iload hx hb dX12_bound_34 (lv_at hlB34 4 rfl) ?_
                refine lv_iload_n hx hb dX12_bound_36 rfl (lv_at hlB34 1 rfl) ?_
                refine lv_icmp_ge (tgt := 60) hx hb dX12_bound_37 (by decide) (fun c26 => ?_) (fun c26 => ?_)
                · have h27 := itS c26 hB34
                  clear hB34 c26
                  obtain ⟨v60_29, e30, h31⟩ := nmI_s h27
                  clear h27
                  refine lv_iinc (v := v60_29) (lv' := [(3, .int v60_29), (0, .ref a0), (1, .int p1), (2, .int p2), (4, .int x4_25)]) hx hb dX12_bound_60 hlB34 (k := 3) rfl (by rw [e30]; rfl) (by decide) rfl (fun ls hl32 => ?_)
                  clear hlB34 e30
                  refine lv_goto (tgt := 27) hx hb dX12_bound_63 (by decide) ?_
                  exact ih27 v60_29 _ _ _ h31 hVB34 (lv_sub hl32 [1, 2, 3, 0] rfl)
                · have h28 := ieS c26 hB34
                  clear hB34 c26
                  refine lv_aload_n hx hb dX12_bound_40 rfl (lv_at hlB34 0 rfl) ?_
                  refine lv_iload_n hx hb dX12_bound_41 rfl (lv_at hlB34 1 rfl) ?_
                  refine lv_iload_n hx hb dX12_bound_42 rfl (lv_at hlB34 2 rfl) ?_
                  refine lv_iload_n hx hb dX12_bound_43 rfl (lv_at hlB34 3 rfl) ?_
                  refine lv_iload hx hb dX12_bound_44 (lv_at hlB34 4 rfl) ?_
                  obtain ⟨r46_33, hc34, h35⟩ := cb1_s h28
                  clear h28
                  refine kgoiE (krunV (rest := []) X hVB34 [0, 1, 2] (c_X12_canGoAbout l E _ a0 a1 a2 (w0_0) (w0_1) (w0_2) (w0_3) (w0_4) (w0_5) (w0_7) (w0_8) (w0_9) (w0_10) (w0_11) (w0_12) (w0_13) (w0_14) (w0_15) (w0_16) (w0_17) (w0_18) (w0_19) (w0_20) (w0_21) (w0_22) (w0_23) (w0_24) (w0_25) (w0_26) (w0_27) (w0_28) (w0_29) (w0_30) (w0_31) (w0_32) (w0_33) (w0_34) (w0_35) (w0_36) (w0_37) (w0_38) (w0_39) (w0_40) (w0_41) (w0_42) (w0_43) (w0_44) (w0_45) (w0_46) (w0_47) (w0_48) (w0_49) (w0_50) (w0_51) (w0_52) (w0_53) (w0_54) (w0_55) (w0_56) (w0_57) (w0_58) (w0_59) (w0_60) (w0_61) (w0_62) (w0_65) (w0_66) s_nights s_found s_nightDay p1 p2 x3_19 x4_25 r46_33 hc34) mw_1205 kb_X12_canGoAbout (ci := 12) rfl rfl (by decide) rfl rfl hlB34.1 rfl (Nat.le_of_ble_eq_true rfl) dX12_bound_46 (by decide)) X hVB34 [0, 1, 2] [] rfl rfl rfl (by decide) (fun u H locs hV36 => ?_)
                  have hV36 : kV E A s.heap H locs [(a0, .inr (12, [w0_0, w0_1, w0_2, w0_3, w0_4, w0_5, .int s_nights, w0_7, w0_8, w0_9, w0_10, w0_11, w0_12, w0_13, w0_14, w0_15, w0_16, w0_17, w0_18, w0_19, w0_20, w0_21, w0_22, w0_23, w0_24, w0_25, w0_26, w0_27, w0_28, w0_29, w0_30, w0_31, w0_32, w0_33, w0_34, w0_35, w0_36, w0_37, w0_38, w0_39, w0_40, w0_41, w0_42, w0_43, w0_44, w0_45, w0_46, w0_47, w0_48, w0_49, w0_50, w0_51, w0_52, w0_53, w0_54, w0_55, w0_56, w0_57, w0_58, w0_59, w0_60, w0_61, w0_62, .ref a2, .ref a1, w0_65, w0_66])), (a1, .inl (E.2 0, 30, .inl s_found)), (a2, .inl (E.2 0, 30, .inl s_nightDay))] := hV36.sub [0, 1, 2] rfl rfl
                  clear hVB34
                  refine lv_if_eq (tgt := 54) hx hb dX12_bound_49 (by decide) (fun c38 => ?_) (fun c38 => ?_)
                  · have h39 := itS c38 h35
                    clear h35 c38
                    obtain ⟨v54_41, e42, h43⟩ := nmI_s h39
                    clear h39
                    refine lv_iinc (v := v54_41) (lv' := [(4, .int v54_41), (0, .ref a0), (1, .int p1), (2, .int p2), (3, .int x3_19)]) hx hb dX12_bound_54 hlB34 (k := 4) rfl (by rw [e42]; rfl) (by decide) rfl (fun ls hl44 => ?_)
                    clear hlB34 e42
                    refine lv_goto (tgt := 34) hx hb dX12_bound_57 (by decide) ?_
                    exact ih34 v54_41 _ _ _ h43 hV36 (lv_sub hl44 [1, 2, 3, 4, 0] rfl)
                  · have h40 := ieS c38 h35
                    clear h35 c38
                    refine lv_iload_n hx hb dX12_bound_52 rfl (lv_at hlB34 3 rfl) ?_
                    have q45 := tup1_s h40
                    clear h40
                    exact hret _ () _ _ _ _ q45 rfl hV36 dX12_bound_53
            exact L34 FU 0 _ _ _ h22 hVB27 (lv_sub hl24 [1, 2, 3, 4, 0] rfl)
      exact L27 FU 2000 _ _ _ h16 hV13 (lv_sub hl18 [1, 2, 3, 0] rfl)
    · have h17 := itS c15 h12
      clear h12 c15
      refine lv_iconst (v := (-1)) hx hb dX12_bound_21 (by decide) ?_
      have q46 := tup1_s h17
      clear h17
      exact hret _ () _ _ _ _ q46 rfl hV13 dX12_bound_22
