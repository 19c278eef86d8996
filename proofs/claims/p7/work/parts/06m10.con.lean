abbrev r_X12_waveOf : Room := { frames := 0, cells := 0, slots := 0, locals := 0 }
set_option maxHeartbeats 4000000 in
set_option maxRecDepth 100000 in
theorem c_X12_waveOf (l : Launch) (E : kE) (sz : Nat) (p1 : Int32) (p2 : Int32) (r : Int32) (h : f_X12_waveOf p1 p2 = some (r)) : kMi l yX12_waveOf cX12_waveOf 3 (some .int) r_X12_waveOf [.int p1, .int p2] E [] sz 0 0 (fun x (_ : Unit) => x = r) (fun _ => []) := by
  refine kmeti rfl (Nat.le_of_ble_eq_true rfl) ?_
  intro p e s m args below meth c ls A Q X hV hret hl
  have X : kC p s m c cX12_waveOf 3 RX12 args E A := X
  have hx := X.1
  have hb := X.2.1
  have hl : lv_has ls 3 [(0, .int p1), (1, .int p2)] := hl
  rw [f_X12_waveOf] at h
  refine lv_sipush (v := 4000) hx hb dX12_waveOf_0 (by decide) ?_
  refine lv_iload_n hx hb dX12_waveOf_3 rfl (lv_at hl 0 rfl) ?_
  refine lv_imul hx hb dX12_waveOf_4 ?_
  refine lv_iload_n hx hb dX12_waveOf_5 rfl (lv_at hl 1 rfl) ?_
  obtain ⟨hn1, h2⟩ := dvI_s h
  clear h
  refine lv_idiv hx hb dX12_waveOf_6 hn1 ?_
  obtain ⟨v7_3, e4, h5⟩ := nmI_s h2
  clear h2
  refine ktopi e4 ?_
  clear e4
  refine lv_istore_n (lv' := [(2, .int v7_3), (0, .int p1), (1, .int p2)]) hx hb dX12_waveOf_7 rfl hl (by decide) rfl (fun ls hl6 => ?_)
  clear hl
  refine lv_iconst (v := 4) hx hb dX12_waveOf_8 (by decide) ?_
  refine lv_iload_n hx hb dX12_waveOf_9 rfl (lv_at hl6 1 rfl) ?_
  refine lv_imul hx hb dX12_waveOf_10 ?_
  refine lv_iload_n hx hb dX12_waveOf_11 rfl (lv_at hl6 2 rfl) ?_
  refine lv_icmp_ge (tgt := 19) hx hb dX12_waveOf_12 (by decide) (fun c7 => ?_) (fun c7 => ?_)
  · have h8 := itS c7 h5
    clear h5 c7
    refine lv_iconst (v := 4) hx hb dX12_waveOf_19 (by decide) ?_
    refine lv_iload_n hx hb dX12_waveOf_20 rfl (lv_at hl6 1 rfl) ?_
    refine lv_imul hx hb dX12_waveOf_21 ?_
    refine lv_iconst (v := 3) hx hb dX12_waveOf_22 (by decide) ?_
    refine lv_iload_n hx hb dX12_waveOf_23 rfl (lv_at hl6 2 rfl) ?_
    refine lv_imul hx hb dX12_waveOf_24 ?_
    refine lv_icmp_ge (tgt := 36) hx hb dX12_waveOf_25 (by decide) (fun c10 => ?_) (fun c10 => ?_)
    · have h11 := itS c10 h8
      clear h8 c10
      refine lv_iload_n hx hb dX12_waveOf_36 rfl (lv_at hl6 0 rfl) ?_
      refine lv_sipush (v := 4000) hx hb dX12_waveOf_37 (by decide) ?_
      refine lv_isub hx hb dX12_waveOf_40 ?_
      have q13 := tup1_s h11
      clear h11
      exact hret _ () _ _ _ _ q13 rfl hV dX12_waveOf_41
    · have h12 := ieS c10 h8
      clear h8 c10
      refine lv_sipush (v := 2000) hx hb dX12_waveOf_28 (by decide) ?_
      refine lv_iload_n hx hb dX12_waveOf_31 rfl (lv_at hl6 0 rfl) ?_
      refine lv_isub hx hb dX12_waveOf_32 ?_
      refine lv_goto (tgt := 41) hx hb dX12_waveOf_33 (by decide) ?_
      have q14 := tup1_s h12
      clear h12
      exact hret _ () _ _ _ _ q14 rfl hV dX12_waveOf_41
  · have h9 := ieS c7 h5
    clear h5 c7
    refine lv_iload_n hx hb dX12_waveOf_15 rfl (lv_at hl6 0 rfl) ?_
    refine lv_goto (tgt := 41) hx hb dX12_waveOf_16 (by decide) ?_
    have q15 := tup1_s h9
    clear h9
    exact hret _ () _ _ _ _ q15 rfl hV dX12_waveOf_41
abbrev r_X12_canGoAbout : Room := { frames := 1, cells := 0, slots := 0, locals := 25 }
set_option maxHeartbeats 4000000 in
set_option maxRecDepth 100000 in
theorem c_X12_canGoAbout (l : Launch) (E : kE) (sz : Nat) (a0 a1 a2 : Nat) (w0_0 w0_1 w0_2 w0_3 w0_4 w0_5 w0_7 w0_8 w0_9 w0_10 w0_11 w0_12 w0_13 w0_14 w0_15 w0_16 w0_17 w0_18 w0_19 w0_20 w0_21 w0_22 w0_23 w0_24 w0_25 w0_26 w0_27 w0_28 w0_29 w0_30 w0_31 w0_32 w0_33 w0_34 w0_35 w0_36 w0_37 w0_38 w0_39 w0_40 w0_41 w0_42 w0_43 w0_44 w0_45 w0_46 w0_47 w0_48 w0_49 w0_50 w0_51 w0_52 w0_53 w0_54 w0_55 w0_56 w0_57 w0_58 w0_59 w0_60 w0_61 w0_62 w0_65 w0_66 : Value) (s_nights : Int32) (s_found : Nat → Int32) (s_nightDay : Nat → Int32) (p1 : Int32) (p2 : Int32) (p3 : Int32) (p4 : Int32) (r : Int32) (h : f_X12_canGoAbout s_nights s_found s_nightDay p1 p2 p3 p4 = some (r)) : kMi l yX12_canGoAbout cX12_canGoAbout 6 (some .boolean) r_X12_canGoAbout [.ref a0, .int p1, .int p2, .int p3, .int p4] E [(a0, .inr (12, [w0_0, w0_1, w0_2, w0_3, w0_4, w0_5, .int s_nights, w0_7, w0_8, w0_9, w0_10, w0_11, w0_12, w0_13, w0_14, w0_15, w0_16, w0_17, w0_18, w0_19, w0_20, w0_21, w0_22, w0_23, w0_24, w0_25, w0_26, w0_27, w0_28, w0_29, w0_30, w0_31, w0_32, w0_33, w0_34, w0_35, w0_36, w0_37, w0_38, w0_39, w0_40, w0_41, w0_42, w0_43, w0_44, w0_45, w0_46, w0_47, w0_48, w0_49, w0_50, w0_51, w0_52, w0_53, w0_54, w0_55, w0_56, w0_57, w0_58, w0_59, w0_60, w0_61, w0_62, .ref a2, .ref a1, w0_65, w0_66])), (a1, .inl (E.2 0, 30, .inl s_found)), (a2, .inl (E.2 0, 30, .inl s_nightDay))] sz 0 0 (fun x (_ : Unit) => x = r) (fun _ => [(a0, .inr (12, [w0_0, w0_1, w0_2, w0_3, w0_4, w0_5, .int s_nights, w0_7, w0_8, w0_9, w0_10, w0_11, w0_12, w0_13, w0_14, w0_15, w0_16, w0_17, w0_18, w0_19, w0_20, w0_21, w0_22, w0_23, w0_24, w0_25, w0_26, w0_27, w0_28, w0_29, w0_30, w0_31, w0_32, w0_33, w0_34, w0_35, w0_36, w0_37, w0_38, w0_39, w0_40, w0_41, w0_42, w0_43, w0_44, w0_45, w0_46, w0_47, w0_48, w0_49, w0_50, w0_51, w0_52, w0_53, w0_54, w0_55, w0_56, w0_57, w0_58, w0_59, w0_60, w0_61, w0_62, .ref a2, .ref a1, w0_65, w0_66])), (a1, .inl (E.2 0, 30, .inl s_found)), (a2, .inl (E.2 0, 30, .inl s_nightDay))]) := by
  refine kmeti rfl (Nat.le_of_ble_eq_true rfl) ?_
  intro p e s m args below meth c ls A Q X hV hret hl
  have X : kC p s m c cX12_canGoAbout 6 RX12 args E A := X
  have hx := X.1
  have hb := X.2.1
  have hl : lv_has ls 6 [(0, .ref a0), (1, .int p1), (2, .int p2), (3, .int p3), (4, .int p4)] := hl
  rw [f_X12_canGoAbout] at h
  refine lv_iconst (v := 0) hx hb dX12_canGoAbout_0 (by decide) ?_
  refine lv_istore (lv' := [(5, .int 0), (0, .ref a0), (1, .int p1), (2, .int p2), (3, .int p3), (4, .int p4)]) hx hb dX12_canGoAbout_1 hl (by decide) rfl (fun ls hl1 => ?_)
  clear hl
  have L3 : ∀ (n3 : Nat) (x5_2 : Int32) (H : Heap) (locs : List Loc) (ls : Array Slot), (f_X12_canGoAbout_L3 s_nights s_found s_nightDay p1 p2 p3 p4  n3) x5_2 = some (r) → kV E A s.heap H locs [(a0, .inr (12, [w0_0, w0_1, w0_2, w0_3, w0_4, w0_5, .int s_nights, w0_7, w0_8, w0_9, w0_10, w0_11, w0_12, w0_13, w0_14, w0_15, w0_16, w0_17, w0_18, w0_19, w0_20, w0_21, w0_22, w0_23, w0_24, w0_25, w0_26, w0_27, w0_28, w0_29, w0_30, w0_31, w0_32, w0_33, w0_34, w0_35, w0_36, w0_37, w0_38, w0_39, w0_40, w0_41, w0_42, w0_43, w0_44, w0_45, w0_46, w0_47, w0_48, w0_49, w0_50, w0_51, w0_52, w0_53, w0_54, w0_55, w0_56, w0_57, w0_58, w0_59, w0_60, w0_61, w0_62, .ref a2, .ref a1, w0_65, w0_66])), (a1, .inl (E.2 0, 30, .inl s_found)), (a2, .inl (E.2 0, 30, .inl s_nightDay))] → lv_has ls 6 [(0, .ref a0), (1, .int p1), (2, .int p2), (3, .int p3), (4, .int p4), (5, .int x5_2)] → W p l e r_X12_canGoAbout s m args below meth c H locs 0 0 Q (F0 m 3 ls []) := by
    intro n3
    induction n3 with
    | zero =>
      intro x5_2 H locs ls hB3 hVB3 hlB3
      rw [f_X12_canGoAbout_L3] at hB3
      exact nomatch hB3
    | succ n3 ih3 =>
      intro x5_2 H locs ls hB3 hVB3 hlB3
      rw [f_X12_canGoAbout_L3] at hB3
      refine lv_iload hx hb dX12_canGoAbout_3 (lv_at hlB3 5 rfl) ?_
      refine lv_aload_n hx hb dX12_canGoAbout_5 rfl (lv_at hlB3 0 rfl) ?_
      refine kget X hVB3 (ci := 12) inlX12 rfl 0 rfl 6 (by decide) mw_1106 rfl dX12_canGoAbout_6 ?_
      refine lv_icmp_ge (tgt := 62) hx hb dX12_canGoAbout_9 (by decide) (fun c3 => ?_) (fun c3 => ?_)
      · have h4 := itS c3 hB3
        clear hB3 c3
        refine lv_iconst (v := 1) hx hb dX12_canGoAbout_62 (by decide) ?_
        have q6 := tup1_s h4
        clear h4
        exact hret _ () _ _ _ _ q6 rfl hVB3 dX12_canGoAbout_63
      · have h5 := ieS c3 hB3
        clear hB3 c3
        refine lv_iload_n hx hb dX12_canGoAbout_12 rfl (lv_at hlB3 3 rfl) ?_
        refine lv_aload_n hx hb dX12_canGoAbout_13 rfl (lv_at hlB3 0 rfl) ?_
        refine kget X hVB3 (ci := 12) inlX12 rfl 0 rfl 63 (by decide) mw_172 rfl dX12_canGoAbout_14 ?_
        refine lv_iload hx hb dX12_canGoAbout_17 (lv_at hlB3 5 rfl) ?_
        obtain ⟨hi8, v19_7, e9, h10⟩ := rdI_s h5
        clear h5
        refine kiald X hVB3 2 rfl hi8 e9 dX12_canGoAbout_19 ?_
        clear hi8 e9
        refine lv_iload hx hb dX12_canGoAbout_20 (lv_at hlB3 4 rfl) ?_
        refine lv_iadd hx hb dX12_canGoAbout_22 ?_
        refine lv_iload_n hx hb dX12_canGoAbout_23 rfl (lv_at hlB3 1 rfl) ?_
        obtain ⟨hn11, h12⟩ := dvI_s h10
        clear h10
        refine lv_irem hx hb dX12_canGoAbout_24 hn11 ?_
        refine lv_iload_n hx hb dX12_canGoAbout_25 rfl (lv_at hlB3 1 rfl) ?_
        obtain ⟨r26_13, hc14, h15⟩ := cb1_s h12
        clear h12
        refine kgoiE (krunS (rest := [.int p3]) X hVB3 [] (c_X12_waveOf l E _ (jrem (v19_7 + p4) p1) p1 r26_13 hc14) mw_1209 kb_X12_waveOf (by decide) rfl rfl hlB3.1 rfl (Nat.le_of_ble_eq_true rfl) dX12_canGoAbout_26 (by decide)) X hVB3 [] [0, 1, 2] rfl rfl rfl (by decide) (fun u H locs hV16 => ?_)
        have hV16 : kV E A s.heap H locs [(a0, .inr (12, [w0_0, w0_1, w0_2, w0_3, w0_4, w0_5, .int s_nights, w0_7, w0_8, w0_9, w0_10, w0_11, w0_12, w0_13, w0_14, w0_15, w0_16, w0_17, w0_18, w0_19, w0_20, w0_21, w0_22, w0_23, w0_24, w0_25, w0_26, w0_27, w0_28, w0_29, w0_30, w0_31, w0_32, w0_33, w0_34, w0_35, w0_36, w0_37, w0_38, w0_39, w0_40, w0_41, w0_42, w0_43, w0_44, w0_45, w0_46, w0_47, w0_48, w0_49, w0_50, w0_51, w0_52, w0_53, w0_54, w0_55, w0_56, w0_57, w0_58, w0_59, w0_60, w0_61, w0_62, .ref a2, .ref a1, w0_65, w0_66])), (a1, .inl (E.2 0, 30, .inl s_found)), (a2, .inl (E.2 0, 30, .inl s_nightDay))] := hV16.sub [0, 1, 2] rfl rfl
        clear hVB3
        refine lv_imul hx hb dX12_canGoAbout_29 ?_
        refine lv_sipush (v := 1000) hx hb dX12_canGoAbout_30 (by decide) ?_
        refine lv_idiv hx hb dX12_canGoAbout_33 (by decide) ?_
        refine lv_aload_n hx hb dX12_canGoAbout_34 rfl (lv_at hlB3 0 rfl) ?_
        refine kget X hV16 (ci := 12) inlX12 rfl 0 rfl 64 (by decide) mw_173 rfl dX12_canGoAbout_35 ?_
        refine lv_iload hx hb dX12_canGoAbout_38 (lv_at hlB3 5 rfl) ?_
        obtain ⟨hi19, v40_18, e20, h21⟩ := rdI_s h15
        clear h15
        refine kiald X hV16 1 rfl hi19 e20 dX12_canGoAbout_40 ?_
        clear hi19 e20
        refine lv_isub hx hb dX12_canGoAbout_41 ?_
        refine lv_i2l (v := Int32.toInt64 (((p3 * r26_13) / 1000) - v40_18)) hx hb dX12_canGoAbout_42 rfl ?_
        refine lv_iload_n hx hb dX12_canGoAbout_43 rfl (lv_at hlB3 2 rfl) ?_
        refine lv_ineg hx hb dX12_canGoAbout_44 ?_
        refine lv_i2l (v := Int32.toInt64 (-p2)) hx hb dX12_canGoAbout_45 rfl ?_
        refine lv_iload_n hx hb dX12_canGoAbout_46 rfl (lv_at hlB3 2 rfl) ?_
        refine lv_i2l (v := Int32.toInt64 p2) hx hb dX12_canGoAbout_47 rfl ?_
        obtain ⟨r48_22, hc23, h24⟩ := cb1_s h21
        clear h21
        refine kgoiE (krunS (rest := []) X hV16 [] (c_X12_lies l E _ (Int32.toInt64 (((p3 * r26_13) / 1000) - v40_18)) (Int32.toInt64 (-p2)) (Int32.toInt64 p2) r48_22 hc23) mw_224 kb_X12_lies (by decide) rfl rfl hlB3.1 rfl (Nat.le_of_ble_eq_true rfl) dX12_canGoAbout_48 (by decide)) X hV16 [] [0, 1, 2] rfl rfl rfl (by decide) (fun u H locs hV25 => ?_)
        have hV25 : kV E A s.heap H locs [(a0, .inr (12, [w0_0, w0_1, w0_2, w0_3, w0_4, w0_5, .int s_nights, w0_7, w0_8, w0_9, w0_10, w0_11, w0_12, w0_13, w0_14, w0_15, w0_16, w0_17, w0_18, w0_19, w0_20, w0_21, w0_22, w0_23, w0_24, w0_25, w0_26, w0_27, w0_28, w0_29, w0_30, w0_31, w0_32, w0_33, w0_34, w0_35, w0_36, w0_37, w0_38, w0_39, w0_40, w0_41, w0_42, w0_43, w0_44, w0_45, w0_46, w0_47, w0_48, w0_49, w0_50, w0_51, w0_52, w0_53, w0_54, w0_55, w0_56, w0_57, w0_58, w0_59, w0_60, w0_61, w0_62, .ref a2, .ref a1, w0_65, w0_66])), (a1, .inl (E.2 0, 30, .inl s_found)), (a2, .inl (E.2 0, 30, .inl s_nightDay))] := hV25.sub [0, 1, 2] rfl rfl
        clear hV16
        refine lv_if_ne (tgt := 56) hx hb dX12_canGoAbout_51 (by decide) (fun c27 => ?_) (fun c27 => ?_)
        · have h28 := ieS c27 h24
          clear h24 c27
          obtain ⟨v56_30, e31, h32⟩ := nmI_s h28
          clear h28
          refine lv_iinc (v := v56_30) (lv' := [(5, .int v56_30), (0, .ref a0), (1, .int p1), (2, .int p2), (3, .int p3), (4, .int p4)]) hx hb dX12_canGoAbout_56 hlB3 (k := 5) rfl (by rw [e31]; rfl) (by decide) rfl (fun ls hl33 => ?_)
          clear hlB3 e31
          refine lv_goto (tgt := 3) hx hb dX12_canGoAbout_59 (by decide) ?_
          exact ih3 v56_30 _ _ _ h32 hV25 (lv_sub hl33 [1, 2, 3, 4, 5, 0] rfl)
        · have h29 := itS c27 h24
          clear h24 c27
          refine lv_iconst (v := 0) hx hb dX12_canGoAbout_54 (by decide) ?_
          have q34 := tup1_s h29
          clear h29
          exact hret _ () _ _ _ _ q34 rfl hV25 dX12_canGoAbout_55
  exact L3 FU 0 _ _ _ h hV (lv_sub hl1 [1, 2, 3, 4, 5, 0] rfl)
abbrev r_X12_bound : Room := { frames := 2, cells := 0, slots := 0, locals := 50 }
set_option maxHeartbeats 4000000 in
set_option maxRecDepth 100000 in
theorem c_X12_bound (l : Launch) (E : kE) (sz : Nat) (a0 a1 a2 : Nat) (w0_0 w0_1 w0_2 w0_3 w0_4 w0_5 w0_7 w0_8 w0_9 w0_10 w0_11 w0_12 w0_13 w0_14 w0_15 w0_16 w0_17 w0_18 w0_19 w0_20 w0_21 w0_22 w0_23 w0_24 w0_25 w0_26 w0_27 w0_28 w0_29 w0_30 w0_31 w0_32 w0_33 w0_34 w0_35 w0_36 w0_37 w0_38 w0_39 w0_40 w0_41 w0_42 w0_43 w0_44 w0_45 w0_46 w0_47 w0_48 w0_49 w0_50 w0_51 w0_52 w0_53 w0_54 w0_55 w0_56 w0_57 w0_58 w0_59 w0_60 w0_61 w0_62 w0_65 w0_66 : Value) (s_nights : Int32) (s_found : Nat → Int32) (s_nightDay : Nat → Int32) (p1 : Int32) (p2 : Int32) (r : Int32) (h : f_X12_bound s_nights s_found s_nightDay p1 p2 = some (r)) : kMi l yX12_bound cX12_bound 5 (some .int) r_X12_bound [.ref a0, .int p1, .int p2] E [(a0, .inr (12, [w0_0, w0_1, w0_2, w0_3, w0_4, w0_5, .int s_nights, w0_7, w0_8, w0_9, w0_10, w0_11, w0_12, w0_13, w0_14, w0_15, w0_16, w0_17, w0_18, w0_19, w0_20, w0_21, w0_22, w0_23, w0_24, w0_25, w0_26, w0_27, w0_28, w0_29, w0_30, w0_31, w0_32, w0_33, w0_34, w0_35, w0_36, w0_37, w0_38, w0_39, w0_40, w0_41, w0_42, w0_43, w0_44, w0_45, w0_46, w0_47, w0_48, w0_49, w0_50, w0_51, w0_52, w0_53, w0_54, w0_55, w0_56, w0_57, w0_58, w0_59, w0_60, w0_61, w0_62, .ref a2, .ref a1, w0_65, w0_66])), (a1, .inl (E.2 0, 30, .inl s_found)), (a2, .inl (E.2 0, 30, .inl s_nightDay))] sz 0 0 (fun x (_ : Unit) => x = r) (fun _ => [(a0, .inr (12, [w0_0, w0_1, w0_2, w0_3, w0_4, w0_5, .int s_nights, w0_7, w0_8, w0_9, w0_10, w0_11, w0_12, w0_13, w0_14, w0_15, w0_16, w0_17, w0_18, w0_19, w0_20, w0_21, w0_22, w0_23, w0_24, w0_25, w0_26, w0_27, w0_28, w0_29, w0_30, w0_31, w0_32, w0_33, w0_34, w0_35, w0_36, w0_37, w0_38, w0_39, w0_40, w0_41, w0_42, w0_43, w0_44, w0_45, w0_46, w0_47, w0_48, w0_49, w0_50, w0_51, w0_52, w0_53, w0_54, w0_55, w0_56, w0_57, w0_58, w0_59, w0_60, w0_61, w0_62, .ref a2, .ref a1, w0_65, w0_66])), (a1, .inl (E.2 0, 30, .inl s_found)), (a2, .inl (E.2 0, 30, .inl s_nightDay))]) := by
  refine kmeti rfl (Nat.le_of_ble_eq_true rfl) ?_
  intro p e s m args below meth c ls A Q X hV hret hl
  have X : kC p s m c cX12_bound 5 RX12 args E A := X
  have hx := X.1
  have hb := X.2.1
  have hl : lv_has ls 5 [(0, .ref a0), (1, .int p1), (2, .int p2)] := hl
  rw [f_X12_bound] at h
  refine lv_iload_n hx hb dX12_bound_0 rfl (lv_at hl 1 rfl) ?_
  refine lv_i2l (v := Int32.toInt64 p1) hx hb dX12_bound_1 rfl ?_
  refine lv_ldc2 (v := 4) hx hb X.2.2.2.1 (X.2.2.2.2.1 _ mw_1203) dX12_bound_2 ?_
  refine lv_ldc2 (v := 400) hx hb X.2.2.2.1 (X.2.2.2.2.1 _ mw_1204) dX12_bound_5 ?_
  obtain ⟨r8_1, hc2, h3⟩ := cb1_s h
  clear h
  refine kgoiE (krunS (rest := []) X hV [] (c_X12_lies l E _ (Int32.toInt64 p1) 4 400 r8_1 hc2) mw_224 kb_X12_lies (by decide) rfl rfl hl.1 rfl (Nat.le_of_ble_eq_true rfl) dX12_bound_8 (by decide)) X hV [] [0, 1, 2] rfl rfl rfl (by decide) (fun u H locs hV4 => ?_)
  have hV4 : kV E A s.heap H locs [(a0, .inr (12, [w0_0, w0_1, w0_2, w0_3, w0_4, w0_5, .int s_nights, w0_7, w0_8, w0_9, w0_10, w0_11, w0_12, w0_13, w0_14, w0_15, w0_16, w0_17, w0_18, w0_19, w0_20, w0_21, w0_22, w0_23, w0_24, w0_25, w0_26, w0_27, w0_28, w0_29, w0_30, w0_31, w0_32, w0_33, w0_34, w0_35, w0_36, w0_37, w0_38, w0_39, w0_40, w0_41, w0_42, w0_43, w0_44, w0_45, w0_46, w0_47, w0_48, w0_49, w0_50, w0_51, w0_52, w0_53, w0_54, w0_55, w0_56, w0_57, w0_58, w0_59, w0_60, w0_61, w0_62, .ref a2, .ref a1, w0_65, w0_66])), (a1, .inl (E.2 0, 30, .inl s_found)), (a2, .inl (E.2 0, 30, .inl s_nightDay))] := hV4.sub [0, 1, 2] rfl rfl
  clear hV
  refine lv_if_eq (tgt := 21) hx hb dX12_bound_11 (by decide) (fun c6 => ?_) (fun c6 => ?_)
  · have h7 := itS c6 h3
    clear h3 c6
    refine lv_iconst (v := (-1)) hx hb dX12_bound_21 (by decide) ?_
    have q9 := tup1_s h7
    clear h7
    exact hret _ () _ _ _ _ q9 rfl hV4 dX12_bound_22
  · have h8 := ieS c6 h3
    clear h3 c6
    refine lv_iload_n hx hb dX12_bound_14 rfl (lv_at hl 2 rfl) ?_
    obtain ⟨r15_10, hc11, h12⟩ := cb1_s h8
    clear h8
    refine kgoiE (krunS (rest := []) X hV4 [] (c_X12_isError l E _ p2 r15_10 hc11) mw_1161 kb_X12_isError (by decide) rfl rfl hl.1 rfl (Nat.le_of_ble_eq_true rfl) dX12_bound_15 (by decide)) X hV4 [] [0, 1, 2] rfl rfl rfl (by decide) (fun u H locs hV13 => ?_)
    have hV13 : kV E A s.heap H locs [(a0, .inr (12, [w0_0, w0_1, w0_2, w0_3, w0_4, w0_5, .int s_nights, w0_7, w0_8, w0_9, w0_10, w0_11, w0_12, w0_13, w0_14, w0_15, w0_16, w0_17, w0_18, w0_19, w0_20, w0_21, w0_22, w0_23, w0_24, w0_25, w0_26, w0_27, w0_28, w0_29, w0_30, w0_31, w0_32, w0_33, w0_34, w0_35, w0_36, w0_37, w0_38, w0_39, w0_40, w0_41, w0_42, w0_43, w0_44, w0_45, w0_46, w0_47, w0_48, w0_49, w0_50, w0_51, w0_52, w0_53, w0_54, w0_55, w0_56, w0_57, w0_58, w0_59, w0_60, w0_61, w0_62, .ref a2, .ref a1, w0_65, w0_66])), (a1, .inl (E.2 0, 30, .inl s_found)), (a2, .inl (E.2 0, 30, .inl s_nightDay))] := hV13.sub [0, 1, 2] rfl rfl
    clear hV4
    refine lv_if_ne (tgt := 23) hx hb dX12_bound_18 (by decide) (fun c15 => ?_) (fun c15 => ?_)
    · have h16 := ieS c15 h12
      clear h12 c15
      refine lv_sipush (v := 2000) hx hb dX12_bound_23 (by decide) ?_
      refine lv_istore_n (lv' := [(3, .int 2000), (0, .ref a0), (1, .int p1), (2, .int p2)]) hx hb dX12_bound_26 rfl hl (by decide) rfl (fun ls hl18 => ?_)
      clear hl
      have L27 : ∀ (n27 : Nat) (x3_19 : Int32) (H : Heap) (locs : List Loc) (ls : Array Slot), (f_X12_bound_L27 s_nights s_found s_nightDay p1 p2  n27) x3_19 = some (r) → kV E A s.heap H locs [(a0, .inr (12, [w0_0, w0_1, w0_2, w0_3, w0_4, w0_5, .int s_nights, w0_7, w0_8, w0_9, w0_10, w0_11, w0_12, w0_13, w0_14, w0_15, w0_16, w0_17, w0_18, w0_19, w0_20, w0_21, w0_22, w0_23, w0_24, w0_25, w0_26, w0_27, w0_28, w0_29, w0_30, w0_31, w0_32, w0_33, w0_34, w0_35, w0_36, w0_37, w0_38, w0_39, w0_40, w0_41, w0_42, w0_43, w0_44, w0_45, w0_46, w0_47, w0_48, w0_49, w0_50, w0_51, w0_52, w0_53, w0_54, w0_55, w0_56, w0_57, w0_58, w0_59, w0_60, w0_61, w0_62, .ref a2, .ref a1, w0_65, w0_66])), (a1, .inl (E.2 0, 30, .inl s_found)), (a2, .inl (E.2 0, 30, .inl s_nightDay))] → lv_has ls 5 [(0, .ref a0), (1, .int p1), (2, .int p2), (3, .int x3_19)] → W p l e r_X12_bound s m args below meth c H locs 0 0 Q (F0 m 27 ls []) := by
        intro n27
        induction n27 with
        | zero =>
          intro x3_19 H locs ls hB27 hVB27 hlB27
          rw [f_X12_bound_L27] at hB27
          exact nomatch hB27
        | succ n27 ih27 =>
          intro x3_19 H locs ls hB27 hVB27 hlB27
          rw [f_X12_bound_L27] at hB27
          refine lv_iload_n hx hb dX12_bound_27 rfl (lv_at hlB27 3 rfl) ?_
          refine lv_if_lt (tgt := 66) hx hb dX12_bound_28 (by decide) (fun c20 => ?_) (fun c20 => ?_)
          · have h21 := itS c20 hB27
            clear hB27 c20
            refine lv_bipush (v := (-2)) hx hb dX12_bound_66 (by decide) ?_
            have q23 := tup1_s h21
            clear h21
            exact hret _ () _ _ _ _ q23 rfl hVB27 dX12_bound_68
          · have h22 := ieS c20 hB27
            clear hB27 c20
            refine lv_iconst (v := 0) hx hb dX12_bound_31 (by decide) ?_
            refine lv_istore (lv' := [(4, .int 0), (0, .ref a0), (1, .int p1), (2, .int p2), (3, .int x3_19)]) hx hb dX12_bound_32 hlB27 (by decide) rfl (fun ls hl24 => ?_)
            clear hlB27
            have L34 : ∀ (n34 : Nat) (x4_25 : Int32) (H : Heap) (locs : List Loc) (ls : Array Slot), (f_X12_bound_L34 s_nights s_found s_nightDay p1 p2 x3_19 (f_X12_bound_L27 s_nights s_found s_nightDay p1 p2  n27) n34) x4_25 = some (r) → kV E A s.heap H locs [(a0, .inr (12, [w0_0, w0_1, w0_2, w0_3, w0_4, w0_5, .int s_nights, w0_7, w0_8, w0_9, w0_10, w0_11, w0_12, w0_13, w0_14, w0_15, w0_16, w0_17, w0_18, w0_19, w0_20, w0_21, w0_22, w0_23, w0_24, w0_25, w0_26, w0_27, w0_28, w0_29, w0_30, w0_31, w0_32, w0_33, w0_34, w0_35, w0_36, w0_37, w0_38, w0_39, w0_40, w0_41, w0_42, w0_43, w0_44, w0_45, w0_46, w0_47, w0_48, w0_49, w0_50, w0_51, w0_52, w0_53, w0_54, w0_55, w0_56, w0_57, w0_58, w0_59, w0_60, w0_61, w0_62, .ref a2, .ref a1, w0_65, w0_66])), (a1, .inl (E.2 0, 30, .inl s_found)), (a2, .inl (E.2 0, 30, .inl s_nightDay))] → lv_has ls 5 [(0, .ref a0), (1, .int p1), (2, .int p2), (3, .int x3_19), (4, .int x4_25)] → W p l e r_X12_bound s m args below meth c H locs 0 0 Q (F0 m 34 ls []) := by
              intro n34
              induction n34 with
              | zero =>
                intro x4_25 H locs ls hB34 hVB34 hlB34
                rw [f_X12_bound_L34] at hB34
                exact nomatch hB34
              | succ n34 ih34 =>
                intro x4_25 H locs ls hB34 hVB34 hlB34
                rw [f_X12_bound_L34] at hB34
                refine lv_iload hx hb dX12_bound_34 (lv_at hlB34 4 rfl) ?_
                refine lv_iload_n hx hb dX12_bound_36 rfl (lv_at hlB34 1 rfl) ?_
                refine lv_icmp_ge (tgt := 60) hx hb dX12_bound_37 (by decide) (fun c26 => ?_) (fun c26 => ?_)
                · have h27 := itS c26 hB34
                  clear hB34 c26
                  obtain ⟨v60_29, e30, h31⟩ := nmI_s h27
                  clear h27
                  refine lv_iinc (v := v60_29) (lv' := [(3, .int v60_29), (0, .ref a0), (1, .int p1), (2, .int p2), (4, .int x4_25)]) hx hb dX12_bound_60 hlB34 (k := 3) rfl (by rw [e30]; rfl) (by decide) rfl (fun ls hl32 => ?_)
                  clear hlB34 e30
                  refine lv_goto (tgt := 27) hx hb dX12_bound_63 (by decide) ?_
                  exact ih27 v60_29 _ _ _ h31 hVB34 (lv_sub hl32 [1, 2, 3, 0] rfl)
                · have h28 := ieS c26 hB34
                  clear hB34 c26
                  refine lv_aload_n hx hb dX12_bound_40 rfl (lv_at hlB34 0 rfl) ?_
                  refine lv_iload_n hx hb dX12_bound_41 rfl (lv_at hlB34 1 rfl) ?_
                  refine lv_iload_n hx hb dX12_bound_42 rfl (lv_at hlB34 2 rfl) ?_
                  refine lv_iload_n hx hb dX12_bound_43 rfl (lv_at hlB34 3 rfl) ?_
                  refine lv_iload hx hb dX12_bound_44 (lv_at hlB34 4 rfl) ?_
                  obtain ⟨r46_33, hc34, h35⟩ := cb1_s h28
                  clear h28
                  refine kgoiE (krunV (rest := []) X hVB34 [0, 1, 2] (c_X12_canGoAbout l E _ a0 a1 a2 (w0_0) (w0_1) (w0_2) (w0_3) (w0_4) (w0_5) (w0_7) (w0_8) (w0_9) (w0_10) (w0_11) (w0_12) (w0_13) (w0_14) (w0_15) (w0_16) (w0_17) (w0_18) (w0_19) (w0_20) (w0_21) (w0_22) (w0_23) (w0_24) (w0_25) (w0_26) (w0_27) (w0_28) (w0_29) (w0_30) (w0_31) (w0_32) (w0_33) (w0_34) (w0_35) (w0_36) (w0_37) (w0_38) (w0_39) (w0_40) (w0_41) (w0_42) (w0_43) (w0_44) (w0_45) (w0_46) (w0_47) (w0_48) (w0_49) (w0_50) (w0_51) (w0_52) (w0_53) (w0_54) (w0_55) (w0_56) (w0_57) (w0_58) (w0_59) (w0_60) (w0_61) (w0_62) (w0_65) (w0_66) s_nights s_found s_nightDay p1 p2 x3_19 x4_25 r46_33 hc34) mw_1205 kb_X12_canGoAbout (ci := 12) rfl rfl (by decide) rfl rfl hlB34.1 rfl (Nat.le_of_ble_eq_true rfl) dX12_bound_46 (by decide)) X hVB34 [0, 1, 2] [] rfl rfl rfl (by decide) (fun u H locs hV36 => ?_)
                  have hV36 : kV E A s.heap H locs [(a0, .inr (12, [w0_0, w0_1, w0_2, w0_3, w0_4, w0_5, .int s_nights, w0_7, w0_8, w0_9, w0_10, w0_11, w0_12, w0_13, w0_14, w0_15, w0_16, w0_17, w0_18, w0_19, w0_20, w0_21, w0_22, w0_23, w0_24, w0_25, w0_26, w0_27, w0_28, w0_29, w0_30, w0_31, w0_32, w0_33, w0_34, w0_35, w0_36, w0_37, w0_38, w0_39, w0_40, w0_41, w0_42, w0_43, w0_44, w0_45, w0_46, w0_47, w0_48, w0_49, w0_50, w0_51, w0_52, w0_53, w0_54, w0_55, w0_56, w0_57, w0_58, w0_59, w0_60, w0_61, w0_62, .ref a2, .ref a1, w0_65, w0_66])), (a1, .inl (E.2 0, 30, .inl s_found)), (a2, .inl (E.2 0, 30, .inl s_nightDay))] := hV36.sub [0, 1, 2] rfl rfl
                  clear hVB34
                  refine lv_if_eq (tgt := 54) hx hb dX12_bound_49 (by decide) (fun c38 => ?_) (fun c38 => ?_)
                  · have h39 := itS c38 h35
                    clear h35 c38
                    obtain ⟨v54_41, e42, h43⟩ := nmI_s h39
                    clear h39
                    refine lv_iinc (v := v54_41) (lv' := [(4, .int v54_41), (0, .ref a0), (1, .int p1), (2, .int p2), (3, .int x3_19)]) hx hb dX12_bound_54 hlB34 (k := 4) rfl (by rw [e42]; rfl) (by decide) rfl (fun ls hl44 => ?_)
                    clear hlB34 e42
                    refine lv_goto (tgt := 34) hx hb dX12_bound_57 (by decide) ?_
                    exact ih34 v54_41 _ _ _ h43 hV36 (lv_sub hl44 [1, 2, 3, 4, 0] rfl)
                  · have h40 := ieS c38 h35
                    clear h35 c38
                    refine lv_iload_n hx hb dX12_bound_52 rfl (lv_at hlB34 3 rfl) ?_
                    have q45 := tup1_s h40
                    clear h40
                    exact hret _ () _ _ _ _ q45 rfl hV36 dX12_bound_53
            exact L34 FU 0 _ _ _ h22 hVB27 (lv_sub hl24 [1, 2, 3, 4, 0] rfl)
      exact L27 FU 2000 _ _ _ h16 hV13 (lv_sub hl18 [1, 2, 3, 0] rfl)
    · have h17 := itS c15 h12
      clear h12 c15
      refine lv_iconst (v := (-1)) hx hb dX12_bound_21 (by decide) ?_
      have q46 := tup1_s h17
      clear h17
      exact hret _ () _ _ _ _ q46 rfl hV13 dX12_bound_22
abbrev r_X12_there : Room := { frames := 1, cells := 0, slots := 0, locals := 25 }
set_option maxHeartbeats 4000000 in
set_option maxRecDepth 100000 in
theorem c_X12_there (l : Launch) (E : kE) (sz : Nat) (a0 a1 : Nat) (w0_0 w0_1 w0_2 w0_3 w0_4 w0_5 w0_6 w0_7 w0_8 w0_9 w0_10 w0_11 w0_12 w0_13 w0_14 w0_15 w0_16 w0_17 w0_18 w0_19 w0_20 w0_21 w0_22 w0_23 w0_24 w0_25 w0_26 w0_27 w0_28 w0_29 w0_30 w0_31 w0_32 w0_33 w0_34 w0_35 w0_36 w0_37 w0_38 w0_39 w0_40 w0_41 w0_42 w0_43 w0_44 w0_45 w0_46 w0_47 w0_48 w0_49 w0_50 w0_51 w0_52 w0_53 w0_54 w0_55 w0_56 w0_57 w0_58 w0_59 w0_60 w0_61 w0_62 w0_63 w0_64 w0_66 : Value) (s_ten : Nat → Int32) (p1 : Int32) (p2 : Int32) (r : Int32) (o_ten : Nat → Int32) (h : f_X12_there s_ten p1 p2 = some (r, o_ten)) : kMi l yX12_there cX12_there 3 (some .boolean) r_X12_there [.ref a0, .int p1, .int p2] E [(a0, .inr (12, [w0_0, w0_1, w0_2, w0_3, w0_4, w0_5, w0_6, w0_7, w0_8, w0_9, w0_10, w0_11, w0_12, w0_13, w0_14, w0_15, w0_16, w0_17, w0_18, w0_19, w0_20, w0_21, w0_22, w0_23, w0_24, w0_25, w0_26, w0_27, w0_28, w0_29, w0_30, w0_31, w0_32, w0_33, w0_34, w0_35, w0_36, w0_37, w0_38, w0_39, w0_40, w0_41, w0_42, w0_43, w0_44, w0_45, w0_46, w0_47, w0_48, w0_49, w0_50, w0_51, w0_52, w0_53, w0_54, w0_55, w0_56, w0_57, w0_58, w0_59, w0_60, w0_61, w0_62, w0_63, w0_64, .ref a1, w0_66])), (a1, .inl (E.2 0, 40, .inl s_ten))] sz 0 0 (fun x (_ : Unit) => x = r) (fun _ => [(a0, .inr (12, [w0_0, w0_1, w0_2, w0_3, w0_4, w0_5, w0_6, w0_7, w0_8, w0_9, w0_10, w0_11, w0_12, w0_13, w0_14, w0_15, w0_16, w0_17, w0_18, w0_19, w0_20, w0_21, w0_22, w0_23, w0_24, w0_25, w0_26, w0_27, w0_28, w0_29, w0_30, w0_31, w0_32, w0_33, w0_34, w0_35, w0_36, w0_37, w0_38, w0_39, w0_40, w0_41, w0_42, w0_43, w0_44, w0_45, w0_46, w0_47, w0_48, w0_49, w0_50, w0_51, w0_52, w0_53, w0_54, w0_55, w0_56, w0_57, w0_58, w0_59, w0_60, w0_61, w0_62, w0_63, w0_64, .ref a1, w0_66])), (a1, .inl (E.2 0, 40, .inl o_ten))]) := by
  refine kmeti rfl (Nat.le_of_ble_eq_true rfl) ?_
  intro p e s m args below meth c ls A Q X hV hret hl
  have X : kC p s m c cX12_there 3 RX12 args E A := X
  have hx := X.1
  have hb := X.2.1
  have hl : lv_has ls 3 [(0, .ref a0), (1, .int p1), (2, .int p2)] := hl
  rw [f_X12_there] at h
  refine lv_iload_n hx hb dX12_there_0 rfl (lv_at hl 1 rfl) ?_
  refine lv_i2l (v := Int32.toInt64 p1) hx hb dX12_there_1 rfl ?_
  refine lv_lconst (v := 0) hx hb dX12_there_2 (by decide) ?_
  refine lv_ldc2 (v := 39) hx hb X.2.2.2.1 (X.2.2.2.2.1 _ mw_1221) dX12_there_3 ?_
  obtain ⟨r6_1, hc2, h3⟩ := cb1_s h
  clear h
  refine kgoiE (krunS (rest := []) X hV [] (c_X12_lies l E _ (Int32.toInt64 p1) 0 39 r6_1 hc2) mw_224 kb_X12_lies (by decide) rfl rfl hl.1 rfl (Nat.le_of_ble_eq_true rfl) dX12_there_6 (by decide)) X hV [] [0, 1] rfl rfl rfl (by decide) (fun u H locs hV4 => ?_)
  have hV4 : kV E A s.heap H locs [(a0, .inr (12, [w0_0, w0_1, w0_2, w0_3, w0_4, w0_5, w0_6, w0_7, w0_8, w0_9, w0_10, w0_11, w0_12, w0_13, w0_14, w0_15, w0_16, w0_17, w0_18, w0_19, w0_20, w0_21, w0_22, w0_23, w0_24, w0_25, w0_26, w0_27, w0_28, w0_29, w0_30, w0_31, w0_32, w0_33, w0_34, w0_35, w0_36, w0_37, w0_38, w0_39, w0_40, w0_41, w0_42, w0_43, w0_44, w0_45, w0_46, w0_47, w0_48, w0_49, w0_50, w0_51, w0_52, w0_53, w0_54, w0_55, w0_56, w0_57, w0_58, w0_59, w0_60, w0_61, w0_62, w0_63, w0_64, .ref a1, w0_66])), (a1, .inl (E.2 0, 40, .inl s_ten))] := hV4.sub [0, 1] rfl rfl
  clear hV
  refine lv_if_eq (tgt := 24) hx hb dX12_there_9 (by decide) (fun c6 => ?_) (fun c6 => ?_)
  · have h7 := itS c6 h3
    clear h3 c6
    refine lv_iconst (v := 0) hx hb dX12_there_24 (by decide) ?_
    obtain ⟨q9, q10⟩ := tup2_s h7
    clear h7
    exact hret _ () _ _ _ _ q9 rfl (by rw [← q10]; exact hV4) dX12_there_25
  · have h8 := ieS c6 h3
    clear h3 c6
    refine lv_iload_n hx hb dX12_there_12 rfl (lv_at hl 2 rfl) ?_
    refine lv_i2l (v := Int32.toInt64 p2) hx hb dX12_there_13 rfl ?_
    refine lv_lconst (v := 0) hx hb dX12_there_14 (by decide) ?_
    refine lv_ldc2 (v := 10) hx hb X.2.2.2.1 (X.2.2.2.2.1 _ mw_1222) dX12_there_15 ?_
    obtain ⟨r18_11, hc12, h13⟩ := cb1_s h8
    clear h8
    refine kgoiE (krunS (rest := []) X hV4 [] (c_X12_lies l E _ (Int32.toInt64 p2) 0 10 r18_11 hc12) mw_224 kb_X12_lies (by decide) rfl rfl hl.1 rfl (Nat.le_of_ble_eq_true rfl) dX12_there_18 (by decide)) X hV4 [] [0, 1] rfl rfl rfl (by decide) (fun u H locs hV14 => ?_)
    have hV14 : kV E A s.heap H locs [(a0, .inr (12, [w0_0, w0_1, w0_2, w0_3, w0_4, w0_5, w0_6, w0_7, w0_8, w0_9, w0_10, w0_11, w0_12, w0_13, w0_14, w0_15, w0_16, w0_17, w0_18, w0_19, w0_20, w0_21, w0_22, w0_23, w0_24, w0_25, w0_26, w0_27, w0_28, w0_29, w0_30, w0_31, w0_32, w0_33, w0_34, w0_35, w0_36, w0_37, w0_38, w0_39, w0_40, w0_41, w0_42, w0_43, w0_44, w0_45, w0_46, w0_47, w0_48, w0_49, w0_50, w0_51, w0_52, w0_53, w0_54, w0_55, w0_56, w0_57, w0_58, w0_59, w0_60, w0_61, w0_62, w0_63, w0_64, .ref a1, w0_66])), (a1, .inl (E.2 0, 40, .inl s_ten))] := hV14.sub [0, 1] rfl rfl
    clear hV4
    refine lv_if_ne (tgt := 26) hx hb dX12_there_21 (by decide) (fun c16 => ?_) (fun c16 => ?_)
    · have h17 := ieS c16 h13
      clear h13 c16
      refine lv_aload_n hx hb dX12_there_26 rfl (lv_at hl 0 rfl) ?_
      refine kget X hV14 (ci := 12) inlX12 rfl 0 rfl 65 (by decide) mw_174 rfl dX12_there_27 ?_
      refine lv_iload_n hx hb dX12_there_30 rfl (lv_at hl 1 rfl) ?_
      refine lv_iload_n hx hb dX12_there_31 rfl (lv_at hl 2 rfl) ?_
      obtain ⟨hi20, g32_19, e21, h22⟩ := wrI_s h17
      clear h17
      refine kiast X hV14 1 rfl hi20 e21 dX12_there_32 (fun H locs hV23 => ?_)
      have hV23 : kV E A s.heap H locs [(a0, .inr (12, [w0_0, w0_1, w0_2, w0_3, w0_4, w0_5, w0_6, w0_7, w0_8, w0_9, w0_10, w0_11, w0_12, w0_13, w0_14, w0_15, w0_16, w0_17, w0_18, w0_19, w0_20, w0_21, w0_22, w0_23, w0_24, w0_25, w0_26, w0_27, w0_28, w0_29, w0_30, w0_31, w0_32, w0_33, w0_34, w0_35, w0_36, w0_37, w0_38, w0_39, w0_40, w0_41, w0_42, w0_43, w0_44, w0_45, w0_46, w0_47, w0_48, w0_49, w0_50, w0_51, w0_52, w0_53, w0_54, w0_55, w0_56, w0_57, w0_58, w0_59, w0_60, w0_61, w0_62, w0_63, w0_64, .ref a1, w0_66])), (a1, .inl (E.2 0, 40, .inl g32_19))] := hV23
      clear hV14 hi20 e21
      refine lv_iconst (v := 1) hx hb dX12_there_33 (by decide) ?_
      obtain ⟨q24, q25⟩ := tup2_s h22
      clear h22
      exact hret _ () _ _ _ _ q24 rfl (by rw [← q25]; exact hV23) dX12_there_34
    · have h18 := itS c16 h13
      clear h13 c16
      refine lv_iconst (v := 0) hx hb dX12_there_24 (by decide) ?_
      obtain ⟨q26, q27⟩ := tup2_s h18
      clear h18
      exact hret _ () _ _ _ _ q26 rfl (by rw [← q27]; exact hV14) dX12_there_25
abbrev r_X12_leastAt : Room := { frames := 0, cells := 0, slots := 0, locals := 0 }
set_option maxHeartbeats 4000000 in
set_option maxRecDepth 100000 in
theorem c_X12_leastAt (l : Launch) (E : kE) (sz : Nat) (a0 a1 : Nat) (w0_0 w0_1 w0_2 w0_3 w0_4 w0_5 w0_6 w0_7 w0_8 w0_9 w0_10 w0_11 w0_12 w0_13 w0_14 w0_15 w0_16 w0_17 w0_18 w0_19 w0_20 w0_21 w0_22 w0_23 w0_24 w0_25 w0_26 w0_27 w0_28 w0_29 w0_30 w0_31 w0_32 w0_33 w0_34 w0_35 w0_36 w0_37 w0_38 w0_39 w0_40 w0_41 w0_42 w0_43 w0_44 w0_45 w0_46 w0_47 w0_48 w0_49 w0_50 w0_51 w0_52 w0_53 w0_54 w0_55 w0_56 w0_57 w0_58 w0_59 w0_60 w0_61 w0_62 w0_63 w0_64 w0_65 : Value) (s_leastFrom : Nat → Int32) (p1 : Int32) (p2 : Int32) (r : Int32) (h : f_X12_leastAt s_leastFrom p1 p2 = some (r)) : kMi l yX12_leastAt cX12_leastAt 3 (some .int) r_X12_leastAt [.ref a0, .int p1, .int p2] E [(a0, .inr (12, [w0_0, w0_1, w0_2, w0_3, w0_4, w0_5, w0_6, w0_7, w0_8, w0_9, w0_10, w0_11, w0_12, w0_13, w0_14, w0_15, w0_16, w0_17, w0_18, w0_19, w0_20, w0_21, w0_22, w0_23, w0_24, w0_25, w0_26, w0_27, w0_28, w0_29, w0_30, w0_31, w0_32, w0_33, w0_34, w0_35, w0_36, w0_37, w0_38, w0_39, w0_40, w0_41, w0_42, w0_43, w0_44, w0_45, w0_46, w0_47, w0_48, w0_49, w0_50, w0_51, w0_52, w0_53, w0_54, w0_55, w0_56, w0_57, w0_58, w0_59, w0_60, w0_61, w0_62, w0_63, w0_64, w0_65, .ref a1])), (a1, .inl (E.2 0, 371, .inl s_leastFrom))] sz 0 0 (fun x (_ : Unit) => x = r) (fun _ => [(a0, .inr (12, [w0_0, w0_1, w0_2, w0_3, w0_4, w0_5, w0_6, w0_7, w0_8, w0_9, w0_10, w0_11, w0_12, w0_13, w0_14, w0_15, w0_16, w0_17, w0_18, w0_19, w0_20, w0_21, w0_22, w0_23, w0_24, w0_25, w0_26, w0_27, w0_28, w0_29, w0_30, w0_31, w0_32, w0_33, w0_34, w0_35, w0_36, w0_37, w0_38, w0_39, w0_40, w0_41, w0_42, w0_43, w0_44, w0_45, w0_46, w0_47, w0_48, w0_49, w0_50, w0_51, w0_52, w0_53, w0_54, w0_55, w0_56, w0_57, w0_58, w0_59, w0_60, w0_61, w0_62, w0_63, w0_64, w0_65, .ref a1])), (a1, .inl (E.2 0, 371, .inl s_leastFrom))]) := by
  refine kmeti rfl (Nat.le_of_ble_eq_true rfl) ?_
  intro p e s m args below meth c ls A Q X hV hret hl
  have X : kC p s m c cX12_leastAt 3 RX12 args E A := X
  have hx := X.1
  have hb := X.2.1
  have hl : lv_has ls 3 [(0, .ref a0), (1, .int p1), (2, .int p2)] := hl
  rw [f_X12_leastAt] at h
  refine lv_iload_n hx hb dX12_leastAt_0 rfl (lv_at hl 2 rfl) ?_
  refine lv_bipush (v := 40) hx hb dX12_leastAt_1 (by decide) ?_
  refine lv_icmp_le (tgt := 18) hx hb dX12_leastAt_3 (by decide) (fun c1 => ?_) (fun c1 => ?_)
  · have h2 := itS c1 h
    clear h c1
    refine lv_aload_n hx hb dX12_leastAt_18 rfl (lv_at hl 0 rfl) ?_
    refine kget X hV (ci := 12) inlX12 rfl 0 rfl 66 (by decide) mw_175 rfl dX12_leastAt_19 ?_
    refine lv_bipush (v := 53) hx hb dX12_leastAt_22 (by decide) ?_
    refine lv_iload_n hx hb dX12_leastAt_24 rfl (lv_at hl 1 rfl) ?_
    refine lv_imul hx hb dX12_leastAt_25 ?_
    refine lv_iload_n hx hb dX12_leastAt_26 rfl (lv_at hl 2 rfl) ?_
    refine lv_iadd hx hb dX12_leastAt_27 ?_
    obtain ⟨hi5, v28_4, e6, h7⟩ := rdI_s h2
    clear h2
    refine kiald X hV 1 rfl hi5 e6 dX12_leastAt_28 ?_
    clear hi5 e6
    have q8 := tup1_s h7
    clear h7
    exact hret _ () _ _ _ _ q8 rfl hV dX12_leastAt_29
  · have h3 := ieS c1 h
    clear h c1
    refine lv_iload_n hx hb dX12_leastAt_6 rfl (lv_at hl 1 rfl) ?_
    refine lv_if_ne (tgt := 14) hx hb dX12_leastAt_7 (by decide) (fun c9 => ?_) (fun c9 => ?_)
    · have h10 := ieS c9 h3
      clear h3 c9
      refine lv_iconst (v := (-1)) hx hb dX12_leastAt_14 (by decide) ?_
      refine lv_goto (tgt := 29) hx hb dX12_leastAt_15 (by decide) ?_
      have q12 := tup1_s h10
      clear h10
      exact hret _ () _ _ _ _ q12 rfl hV dX12_leastAt_29
    · have h11 := itS c9 h3
      clear h3 c9
      refine lv_iconst (v := 1) hx hb dX12_leastAt_10 (by decide) ?_
      refine lv_goto (tgt := 29) hx hb dX12_leastAt_11 (by decide) ?_
      have q13 := tup1_s h11
      clear h11
      exact hret _ () _ _ _ _ q13 rfl hV dX12_leastAt_29
abbrev r_X12_pen : Room := { frames := 1, cells := 0, slots := 0, locals := 25 }
set_option maxHeartbeats 4000000 in
set_option maxRecDepth 100000 in
theorem c_X12_pen (l : Launch) (E : kE) (sz : Nat) (a0 a1 a2 : Nat) (w0_0 w0_1 w0_2 w0_3 w0_4 w0_5 w0_6 w0_7 w0_8 w0_9 w0_10 w0_11 w0_12 w0_13 w0_14 w0_15 w0_16 w0_17 w0_18 w0_19 w0_20 w0_21 w0_22 w0_23 w0_24 w0_25 w0_26 w0_27 w0_28 w0_29 w0_30 w0_31 w0_32 w0_33 w0_34 w0_35 w0_36 w0_37 w0_38 w0_39 w0_40 w0_41 w0_42 w0_43 w0_44 w0_45 w0_46 w0_47 w0_48 w0_49 w0_50 w0_51 w0_52 w0_53 w0_54 w0_55 w0_56 w0_57 w0_58 w0_59 w0_60 w0_61 w0_62 w0_63 w0_64 : Value) (s_leastFrom : Nat → Int32) (s_ten : Nat → Int32) (p1 : Int32) (p2 : Int32) (p3 : Int32) (r : Int32) (o_leastFrom : Nat → Int32) (h : f_X12_pen s_leastFrom s_ten p1 p2 p3 = some (r, o_leastFrom)) : kMi l yX12_pen cX12_pen 9 (some .int) r_X12_pen [.ref a0, .int p1, .int p2, .int p3] E [(a0, .inr (12, [w0_0, w0_1, w0_2, w0_3, w0_4, w0_5, w0_6, w0_7, w0_8, w0_9, w0_10, w0_11, w0_12, w0_13, w0_14, w0_15, w0_16, w0_17, w0_18, w0_19, w0_20, w0_21, w0_22, w0_23, w0_24, w0_25, w0_26, w0_27, w0_28, w0_29, w0_30, w0_31, w0_32, w0_33, w0_34, w0_35, w0_36, w0_37, w0_38, w0_39, w0_40, w0_41, w0_42, w0_43, w0_44, w0_45, w0_46, w0_47, w0_48, w0_49, w0_50, w0_51, w0_52, w0_53, w0_54, w0_55, w0_56, w0_57, w0_58, w0_59, w0_60, w0_61, w0_62, w0_63, w0_64, .ref a2, .ref a1])), (a1, .inl (E.2 0, 371, .inl s_leastFrom)), (a2, .inl (E.2 0, 40, .inl s_ten))] sz 0 0 (fun x (_ : Unit) => x = r) (fun _ => [(a0, .inr (12, [w0_0, w0_1, w0_2, w0_3, w0_4, w0_5, w0_6, w0_7, w0_8, w0_9, w0_10, w0_11, w0_12, w0_13, w0_14, w0_15, w0_16, w0_17, w0_18, w0_19, w0_20, w0_21, w0_22, w0_23, w0_24, w0_25, w0_26, w0_27, w0_28, w0_29, w0_30, w0_31, w0_32, w0_33, w0_34, w0_35, w0_36, w0_37, w0_38, w0_39, w0_40, w0_41, w0_42, w0_43, w0_44, w0_45, w0_46, w0_47, w0_48, w0_49, w0_50, w0_51, w0_52, w0_53, w0_54, w0_55, w0_56, w0_57, w0_58, w0_59, w0_60, w0_61, w0_62, w0_63, w0_64, .ref a2, .ref a1])), (a1, .inl (E.2 0, 371, .inl o_leastFrom)), (a2, .inl (E.2 0, 40, .inl s_ten))]) := by
  refine kmeti rfl (Nat.le_of_ble_eq_true rfl) ?_
  intro p e s m args below meth c ls A Q X hV hret hl
  have X : kC p s m c cX12_pen 9 RX12 args E A := X
  have hx := X.1
  have hb := X.2.1
  have hl : lv_has ls 9 [(0, .ref a0), (1, .int p1), (2, .int p2), (3, .int p3)] := hl
  rw [f_X12_pen] at h
  refine lv_iload_n hx hb dX12_pen_0 rfl (lv_at hl 1 rfl) ?_
  refine lv_i2l (v := Int32.toInt64 p1) hx hb dX12_pen_1 rfl ?_
  refine lv_lconst (v := 1) hx hb dX12_pen_2 (by decide) ?_
  refine lv_ldc2 (v := 6) hx hb X.2.2.2.1 (X.2.2.2.2.1 _ mw_1250) dX12_pen_3 ?_
  obtain ⟨r6_1, hc2, h3⟩ := cb1_s h
  clear h
  refine kgoiE (krunS (rest := []) X hV [] (c_X12_lies l E _ (Int32.toInt64 p1) 1 6 r6_1 hc2) mw_224 kb_X12_lies (by decide) rfl rfl hl.1 rfl (Nat.le_of_ble_eq_true rfl) dX12_pen_6 (by decide)) X hV [] [0, 1, 2] rfl rfl rfl (by decide) (fun u H locs hV4 => ?_)
  have hV4 : kV E A s.heap H locs [(a0, .inr (12, [w0_0, w0_1, w0_2, w0_3, w0_4, w0_5, w0_6, w0_7, w0_8, w0_9, w0_10, w0_11, w0_12, w0_13, w0_14, w0_15, w0_16, w0_17, w0_18, w0_19, w0_20, w0_21, w0_22, w0_23, w0_24, w0_25, w0_26, w0_27, w0_28, w0_29, w0_30, w0_31, w0_32, w0_33, w0_34, w0_35, w0_36, w0_37, w0_38, w0_39, w0_40, w0_41, w0_42, w0_43, w0_44, w0_45, w0_46, w0_47, w0_48, w0_49, w0_50, w0_51, w0_52, w0_53, w0_54, w0_55, w0_56, w0_57, w0_58, w0_59, w0_60, w0_61, w0_62, w0_63, w0_64, .ref a2, .ref a1])), (a1, .inl (E.2 0, 371, .inl s_leastFrom)), (a2, .inl (E.2 0, 40, .inl s_ten))] := hV4.sub [0, 1, 2] rfl rfl
  clear hV
  refine lv_if_eq (tgt := 53) hx hb dX12_pen_9 (by decide) (fun c6 => ?_) (fun c6 => ?_)
  · have h7 := itS c6 h3
    clear h3 c6
    refine lv_iconst (v := (-1)) hx hb dX12_pen_53 (by decide) ?_
    obtain ⟨q9, q10⟩ := tup2_s h7
    clear h7
    exact hret _ () _ _ _ _ q9 rfl (by rw [← q10]; exact hV4) dX12_pen_54
  · have h8 := ieS c6 h3
    clear h3 c6
    refine lv_iload_n hx hb dX12_pen_12 rfl (lv_at hl 2 rfl) ?_
    refine lv_i2l (v := Int32.toInt64 p2) hx hb dX12_pen_13 rfl ?_
    refine lv_lconst (v := 1) hx hb dX12_pen_14 (by decide) ?_
    refine lv_ldc2 (v := 10) hx hb X.2.2.2.1 (X.2.2.2.2.1 _ mw_1222) dX12_pen_15 ?_
    obtain ⟨r18_11, hc12, h13⟩ := cb1_s h8
    clear h8
    refine kgoiE (krunS (rest := []) X hV4 [] (c_X12_lies l E _ (Int32.toInt64 p2) 1 10 r18_11 hc12) mw_224 kb_X12_lies (by decide) rfl rfl hl.1 rfl (Nat.le_of_ble_eq_true rfl) dX12_pen_18 (by decide)) X hV4 [] [0, 1, 2] rfl rfl rfl (by decide) (fun u H locs hV14 => ?_)
    have hV14 : kV E A s.heap H locs [(a0, .inr (12, [w0_0, w0_1, w0_2, w0_3, w0_4, w0_5, w0_6, w0_7, w0_8, w0_9, w0_10, w0_11, w0_12, w0_13, w0_14, w0_15, w0_16, w0_17, w0_18, w0_19, w0_20, w0_21, w0_22, w0_23, w0_24, w0_25, w0_26, w0_27, w0_28, w0_29, w0_30, w0_31, w0_32, w0_33, w0_34, w0_35, w0_36, w0_37, w0_38, w0_39, w0_40, w0_41, w0_42, w0_43, w0_44, w0_45, w0_46, w0_47, w0_48, w0_49, w0_50, w0_51, w0_52, w0_53, w0_54, w0_55, w0_56, w0_57, w0_58, w0_59, w0_60, w0_61, w0_62, w0_63, w0_64, .ref a2, .ref a1])), (a1, .inl (E.2 0, 371, .inl s_leastFrom)), (a2, .inl (E.2 0, 40, .inl s_ten))] := hV14.sub [0, 1, 2] rfl rfl
    clear hV4
    refine lv_if_eq (tgt := 53) hx hb dX12_pen_21 (by decide) (fun c16 => ?_) (fun c16 => ?_)
    · have h17 := itS c16 h13
      clear h13 c16
      refine lv_iconst (v := (-1)) hx hb dX12_pen_53 (by decide) ?_
      obtain ⟨q19, q20⟩ := tup2_s h17
      clear h17
      exact hret _ () _ _ _ _ q19 rfl (by rw [← q20]; exact hV14) dX12_pen_54
    · have h18 := ieS c16 h13
      clear h13 c16
      refine lv_iload_n hx hb dX12_pen_24 rfl (lv_at hl 3 rfl) ?_
      refine lv_bipush (v := 6) hx hb dX12_pen_25 (by decide) ?_
      have J43 : ∀  (H : Heap) (locs : List Loc) (ls : Array Slot), (f_X12_pen_J43 s_leastFrom s_ten p1 p2 p3 ) = some (r, o_leastFrom) → kV E A s.heap H locs [(a0, .inr (12, [w0_0, w0_1, w0_2, w0_3, w0_4, w0_5, w0_6, w0_7, w0_8, w0_9, w0_10, w0_11, w0_12, w0_13, w0_14, w0_15, w0_16, w0_17, w0_18, w0_19, w0_20, w0_21, w0_22, w0_23, w0_24, w0_25, w0_26, w0_27, w0_28, w0_29, w0_30, w0_31, w0_32, w0_33, w0_34, w0_35, w0_36, w0_37, w0_38, w0_39, w0_40, w0_41, w0_42, w0_43, w0_44, w0_45, w0_46, w0_47, w0_48, w0_49, w0_50, w0_51, w0_52, w0_53, w0_54, w0_55, w0_56, w0_57, w0_58, w0_59, w0_60, w0_61, w0_62, w0_63, w0_64, .ref a2, .ref a1])), (a1, .inl (E.2 0, 371, .inl s_leastFrom)), (a2, .inl (E.2 0, 40, .inl s_ten))] → lv_has ls 9 [(0, .ref a0), (1, .int p1), (2, .int p2), (3, .int p3)] → W p l e r_X12_pen s m args below meth c H locs 0 0 Q (F0 m 43 ls []) := by
        intro  H locs ls hB43 hVB43 hlB43
        rw [f_X12_pen_J43] at hB43
        refine lv_iload_n hx hb dX12_pen_43 rfl (lv_at hlB43 1 rfl) ?_
        refine lv_iconst (v := 1) hx hb dX12_pen_44 (by decide) ?_
        refine lv_isub hx hb dX12_pen_45 ?_
        refine lv_iload_n hx hb dX12_pen_46 rfl (lv_at hlB43 2 rfl) ?_
        refine lv_imul hx hb dX12_pen_47 ?_
        refine lv_bipush (v := 39) hx hb dX12_pen_48 (by decide) ?_
        refine lv_icmp_le (tgt := 55) hx hb dX12_pen_50 (by decide) (fun c21 => ?_) (fun c21 => ?_)
        · have h22 := itS c21 hB43
          clear hB43 c21
          refine lv_iconst (v := 0) hx hb dX12_pen_55 (by decide) ?_
          refine lv_istore (lv' := [(4, .int 0), (0, .ref a0), (1, .int p1), (2, .int p2), (3, .int p3)]) hx hb dX12_pen_56 hlB43 (by decide) rfl (fun ls hl24 => ?_)
          clear hlB43
          have J200 : ∀ (leastFrom__25 : Nat → Int32) (H : Heap) (locs : List Loc) (ls : Array Slot), (f_X12_pen_J200 s_ten p1 p2 p3 ) leastFrom__25 = some (r, o_leastFrom) → kV E A s.heap H locs [(a0, .inr (12, [w0_0, w0_1, w0_2, w0_3, w0_4, w0_5, w0_6, w0_7, w0_8, w0_9, w0_10, w0_11, w0_12, w0_13, w0_14, w0_15, w0_16, w0_17, w0_18, w0_19, w0_20, w0_21, w0_22, w0_23, w0_24, w0_25, w0_26, w0_27, w0_28, w0_29, w0_30, w0_31, w0_32, w0_33, w0_34, w0_35, w0_36, w0_37, w0_38, w0_39, w0_40, w0_41, w0_42, w0_43, w0_44, w0_45, w0_46, w0_47, w0_48, w0_49, w0_50, w0_51, w0_52, w0_53, w0_54, w0_55, w0_56, w0_57, w0_58, w0_59, w0_60, w0_61, w0_62, w0_63, w0_64, .ref a2, .ref a1])), (a1, .inl (E.2 0, 371, .inl leastFrom__25)), (a2, .inl (E.2 0, 40, .inl s_ten))] → lv_has ls 9 [(0, .ref a0), (1, .int p1), (2, .int p2), (3, .int p3)] → W p l e r_X12_pen s m args below meth c H locs 0 0 Q (F0 m 200 ls []) := by
            intro leastFrom__25 H locs ls hB200 hVB200 hlB200
            rw [f_X12_pen_J200] at hB200
            refine lv_iload_n hx hb dX12_pen_200 rfl (lv_at hlB200 3 rfl) ?_
            refine lv_bipush (v := 6) hx hb dX12_pen_201 (by decide) ?_
            refine lv_icmp_ne (tgt := 216) hx hb dX12_pen_203 (by decide) (fun c26 => ?_) (fun c26 => ?_)
            · have h27 := ieS c26 hB200
              clear hB200 c26
              refine lv_iconst (v := 0) hx hb dX12_pen_216 (by decide) ?_
              refine lv_istore (lv' := [(4, .int 0), (0, .ref a0), (1, .int p1), (2, .int p2), (3, .int p3)]) hx hb dX12_pen_217 hlB200 (by decide) rfl (fun ls hl29 => ?_)
              clear hlB200
              refine lv_iload_n hx hb dX12_pen_219 rfl (lv_at hl29 2 rfl) ?_
              refine lv_istore (lv' := [(5, .int p1), (4, .int 0), (0, .ref a0), (1, .int p1), (2, .int p2), (3, .int p3)]) hx hb dX12_pen_220 hl29 (by decide) rfl (fun ls hl30 => ?_)
              clear hl29
              have L222 : ∀ (n222 : Nat) (x4_31 : Int32) (x5_32 : Int32) (H : Heap) (locs : List Loc) (ls : Array Slot), (f_X12_pen_L222 s_ten p1 p2 p3 leastFrom__25  n222) x4_31 x5_32 = some (r, o_leastFrom) → kV E A s.heap H locs [(a0, .inr (12, [w0_0, w0_1, w0_2, w0_3, w0_4, w0_5, w0_6, w0_7, w0_8, w0_9, w0_10, w0_11, w0_12, w0_13, w0_14, w0_15, w0_16, w0_17, w0_18, w0_19, w0_20, w0_21, w0_22, w0_23, w0_24, w0_25, w0_26, w0_27, w0_28, w0_29, w0_30, w0_31, w0_32, w0_33, w0_34, w0_35, w0_36, w0_37, w0_38, w0_39, w0_40, w0_41, w0_42, w0_43, w0_44, w0_45, w0_46, w0_47, w0_48, w0_49, w0_50, w0_51, w0_52, w0_53, w0_54, w0_55, w0_56, w0_57, w0_58, w0_59, w0_60, w0_61, w0_62, w0_63, w0_64, .ref a2, .ref a1])), (a1, .inl (E.2 0, 371, .inl leastFrom__25)), (a2, .inl (E.2 0, 40, .inl s_ten))] → lv_has ls 9 [(0, .ref a0), (1, .int p1), (2, .int p2), (3, .int p3), (4, .int x4_31), (5, .int x5_32)] → W p l e r_X12_pen s m args below meth c H locs 0 0 Q (F0 m 222 ls []) := by
                intro n222
                induction n222 with
                | zero =>
                  intro x4_31 x5_32 H locs ls hB222 hVB222 hlB222
                  rw [f_X12_pen_L222] at hB222
                  exact nomatch hB222
                | succ n222 ih222 =>
                  intro x4_31 x5_32 H locs ls hB222 hVB222 hlB222
                  rw [f_X12_pen_L222] at hB222
                  refine lv_iload hx hb dX12_pen_222 (lv_at hlB222 5 rfl) ?_
                  refine lv_if_le (tgt := 310) hx hb dX12_pen_224 (by decide) (fun c33 => ?_) (fun c33 => ?_)
                  · have h34 := itS c33 hB222
                    clear hB222 c33
                    refine lv_iconst (v := (-1)) hx hb dX12_pen_310 (by decide) ?_
                    obtain ⟨q36, q37⟩ := tup2_s h34
                    clear h34
                    exact hret _ () _ _ _ _ q36 rfl (by rw [← q37]; exact hVB222) dX12_pen_311
                  · have h35 := ieS c33 hB222
                    clear hB222 c33
                    have J287 : ∀ (x4_38 : Int32) (H : Heap) (locs : List Loc) (ls : Array Slot), (f_X12_pen_J287 p1 p2 p3 leastFrom__25 x5_32 (f_X12_pen_L222 s_ten p1 p2 p3 leastFrom__25  n222)) x4_38 = some (r, o_leastFrom) → kV E A s.heap H locs [(a0, .inr (12, [w0_0, w0_1, w0_2, w0_3, w0_4, w0_5, w0_6, w0_7, w0_8, w0_9, w0_10, w0_11, w0_12, w0_13, w0_14, w0_15, w0_16, w0_17, w0_18, w0_19, w0_20, w0_21, w0_22, w0_23, w0_24, w0_25, w0_26, w0_27, w0_28, w0_29, w0_30, w0_31, w0_32, w0_33, w0_34, w0_35, w0_36, w0_37, w0_38, w0_39, w0_40, w0_41, w0_42, w0_43, w0_44, w0_45, w0_46, w0_47, w0_48, w0_49, w0_50, w0_51, w0_52, w0_53, w0_54, w0_55, w0_56, w0_57, w0_58, w0_59, w0_60, w0_61, w0_62, w0_63, w0_64, .ref a2, .ref a1])), (a1, .inl (E.2 0, 371, .inl leastFrom__25)), (a2, .inl (E.2 0, 40, .inl s_ten))] → lv_has ls 9 [(0, .ref a0), (1, .int p1), (2, .int p2), (3, .int p3), (4, .int x4_38), (5, .int x5_32)] → W p l e r_X12_pen s m args below meth c H locs 0 0 Q (F0 m 287 ls []) := by
                      intro x4_38 H locs ls hB287 hVB287 hlB287
                      rw [f_X12_pen_J287] at hB287
                      refine lv_iload_n hx hb dX12_pen_287 rfl (lv_at hlB287 1 rfl) ?_
                      refine lv_iload hx hb dX12_pen_288 (lv_at hlB287 5 rfl) ?_
                      refine lv_isub hx hb dX12_pen_290 ?_
                      refine lv_iload_n hx hb dX12_pen_291 rfl (lv_at hlB287 3 rfl) ?_
                      refine lv_icmp_ne (tgt := 298) hx hb dX12_pen_292 (by decide) (fun c39 => ?_) (fun c39 => ?_)
                      · have h40 := ieS c39 hB287
                        clear hB287 c39
                        refine lv_iload hx hb dX12_pen_298 (lv_at hlB287 4 rfl) ?_
                        refine lv_iload_n hx hb dX12_pen_300 rfl (lv_at hlB287 2 rfl) ?_
                        refine lv_iadd hx hb dX12_pen_301 ?_
                        obtain ⟨v302_42, e43, h44⟩ := nmI_s h40
                        clear h40
                        refine ktopi e43 ?_
                        clear e43
                        refine lv_istore (lv' := [(4, .int v302_42), (0, .ref a0), (1, .int p1), (2, .int p2), (3, .int p3), (5, .int x5_32)]) hx hb dX12_pen_302 hlB287 (by decide) rfl (fun ls hl45 => ?_)
                        clear hlB287
                        obtain ⟨v304_46, e47, h48⟩ := nmI_s h44
                        clear h44
                        refine lv_iinc (v := v304_46) (lv' := [(5, .int v304_46), (4, .int v302_42), (0, .ref a0), (1, .int p1), (2, .int p2), (3, .int p3)]) hx hb dX12_pen_304 hl45 (k := 5) rfl (by rw [e47]; rfl) (by decide) rfl (fun ls hl49 => ?_)
                        clear hl45 e47
                        refine lv_goto (tgt := 222) hx hb dX12_pen_307 (by decide) ?_
                        exact ih222 v302_42 v304_46 _ _ _ h48 hVB287 (lv_sub hl49 [2, 3, 4, 5, 1, 0] rfl)
                      · have h41 := itS c39 hB287
                        clear hB287 c39
                        refine lv_iload hx hb dX12_pen_295 (lv_at hlB287 4 rfl) ?_
                        obtain ⟨q50, q51⟩ := tup2_s h41
                        clear h41
                        exact hret _ () _ _ _ _ q50 rfl (by rw [← q51]; exact hVB287) dX12_pen_297
                    have L227 : ∀ (n227 : Nat) (x4_52 : Int32) (H : Heap) (locs : List Loc) (ls : Array Slot), (f_X12_pen_L227 s_ten p2 leastFrom__25 x5_32 (f_X12_pen_J287 p1 p2 p3 leastFrom__25 x5_32 (f_X12_pen_L222 s_ten p1 p2 p3 leastFrom__25  n222)) n227) x4_52 = some (r, o_leastFrom) → kV E A s.heap H locs [(a0, .inr (12, [w0_0, w0_1, w0_2, w0_3, w0_4, w0_5, w0_6, w0_7, w0_8, w0_9, w0_10, w0_11, w0_12, w0_13, w0_14, w0_15, w0_16, w0_17, w0_18, w0_19, w0_20, w0_21, w0_22, w0_23, w0_24, w0_25, w0_26, w0_27, w0_28, w0_29, w0_30, w0_31, w0_32, w0_33, w0_34, w0_35, w0_36, w0_37, w0_38, w0_39, w0_40, w0_41, w0_42, w0_43, w0_44, w0_45, w0_46, w0_47, w0_48, w0_49, w0_50, w0_51, w0_52, w0_53, w0_54, w0_55, w0_56, w0_57, w0_58, w0_59, w0_60, w0_61, w0_62, w0_63, w0_64, .ref a2, .ref a1])), (a1, .inl (E.2 0, 371, .inl leastFrom__25)), (a2, .inl (E.2 0, 40, .inl s_ten))] → lv_has ls 9 [(0, .ref a0), (1, .int p1), (2, .int p2), (3, .int p3), (4, .int x4_52), (5, .int x5_32)] → W p l e r_X12_pen s m args below meth c H locs 0 0 Q (F0 m 227 ls []) := by
                      intro n227
                      induction n227 with
                      | zero =>
                        intro x4_52 H locs ls hB227 hVB227 hlB227
                        rw [f_X12_pen_L227] at hB227
                        exact nomatch hB227
                      | succ n227 ih227 =>
                        intro x4_52 H locs ls hB227 hVB227 hlB227
                        rw [f_X12_pen_L227] at hB227
                        refine lv_aload_n hx hb dX12_pen_227 rfl (lv_at hlB227 0 rfl) ?_
                        refine lv_iload hx hb dX12_pen_228 (lv_at hlB227 5 rfl) ?_
                        refine lv_iconst (v := 1) hx hb dX12_pen_230 (by decide) ?_
                        refine lv_isub hx hb dX12_pen_231 ?_
                        refine lv_iload hx hb dX12_pen_232 (lv_at hlB227 4 rfl) ?_
                        refine lv_iload_n hx hb dX12_pen_234 rfl (lv_at hlB227 2 rfl) ?_
                        refine lv_iadd hx hb dX12_pen_235 ?_
                        obtain ⟨r236_53, hc54, h55⟩ := cb1_s hB227
                        clear hB227
                        refine kgoiE (krunV (rest := []) X hVB227 [0, 1] (c_X12_leastAt l E _ a0 a1 (w0_0) (w0_1) (w0_2) (w0_3) (w0_4) (w0_5) (w0_6) (w0_7) (w0_8) (w0_9) (w0_10) (w0_11) (w0_12) (w0_13) (w0_14) (w0_15) (w0_16) (w0_17) (w0_18) (w0_19) (w0_20) (w0_21) (w0_22) (w0_23) (w0_24) (w0_25) (w0_26) (w0_27) (w0_28) (w0_29) (w0_30) (w0_31) (w0_32) (w0_33) (w0_34) (w0_35) (w0_36) (w0_37) (w0_38) (w0_39) (w0_40) (w0_41) (w0_42) (w0_43) (w0_44) (w0_45) (w0_46) (w0_47) (w0_48) (w0_49) (w0_50) (w0_51) (w0_52) (w0_53) (w0_54) (w0_55) (w0_56) (w0_57) (w0_58) (w0_59) (w0_60) (w0_61) (w0_62) (w0_63) (w0_64) (.ref a2) leastFrom__25 (x5_32 - 1) (x4_52 + p2) r236_53 hc54) mw_1251 kb_X12_leastAt (ci := 12) rfl rfl (by decide) rfl rfl hlB227.1 rfl (Nat.le_of_ble_eq_true rfl) dX12_pen_236 (by decide)) X hVB227 [0, 1] [2] rfl rfl rfl (by decide) (fun u H locs hV56 => ?_)
                        have hV56 : kV E A s.heap H locs [(a0, .inr (12, [w0_0, w0_1, w0_2, w0_3, w0_4, w0_5, w0_6, w0_7, w0_8, w0_9, w0_10, w0_11, w0_12, w0_13, w0_14, w0_15, w0_16, w0_17, w0_18, w0_19, w0_20, w0_21, w0_22, w0_23, w0_24, w0_25, w0_26, w0_27, w0_28, w0_29, w0_30, w0_31, w0_32, w0_33, w0_34, w0_35, w0_36, w0_37, w0_38, w0_39, w0_40, w0_41, w0_42, w0_43, w0_44, w0_45, w0_46, w0_47, w0_48, w0_49, w0_50, w0_51, w0_52, w0_53, w0_54, w0_55, w0_56, w0_57, w0_58, w0_59, w0_60, w0_61, w0_62, w0_63, w0_64, .ref a2, .ref a1])), (a1, .inl (E.2 0, 371, .inl leastFrom__25)), (a2, .inl (E.2 0, 40, .inl s_ten))] := hV56.sub [1, 2, 0] rfl rfl
                        clear hVB227
                        refine lv_if_lt (tgt := 281) hx hb dX12_pen_239 (by decide) (fun c58 => ?_) (fun c58 => ?_)
                        · have h59 := itS c58 h55
                          clear h55 c58
                          obtain ⟨v281_61, e62, h63⟩ := nmI_s h59
                          clear h59
                          refine lv_iinc (v := v281_61) (lv' := [(4, .int v281_61), (0, .ref a0), (1, .int p1), (2, .int p2), (3, .int p3), (5, .int x5_32)]) hx hb dX12_pen_281 hlB227 (k := 4) rfl (by rw [e62]; rfl) (by decide) rfl (fun ls hl64 => ?_)
                          clear hlB227 e62
                          refine lv_goto (tgt := 227) hx hb dX12_pen_284 (by decide) ?_
                          exact ih227 v281_61 _ _ _ h63 hV56 (lv_sub hl64 [1, 2, 3, 4, 0, 5] rfl)
                        · have h60 := ieS c58 h55
                          clear h55 c58
                          refine lv_bipush (v := 10) hx hb dX12_pen_242 (by decide) ?_
                          refine lv_aload_n hx hb dX12_pen_244 rfl (lv_at hlB227 0 rfl) ?_
                          refine kget X hV56 (ci := 12) inlX12 rfl 0 rfl 65 (by decide) mw_174 rfl dX12_pen_245 ?_
                          refine lv_iload hx hb dX12_pen_248 (lv_at hlB227 4 rfl) ?_
                          obtain ⟨hi66, v250_65, e67, h68⟩ := rdI_s h60
                          clear h60
                          refine kiald X hV56 2 rfl hi66 e67 dX12_pen_250 ?_
                          clear hi66 e67
                          refine lv_isub hx hb dX12_pen_251 ?_
                          refine lv_aload_n hx hb dX12_pen_252 rfl (lv_at hlB227 0 rfl) ?_
                          refine lv_iload hx hb dX12_pen_253 (lv_at hlB227 5 rfl) ?_
                          refine lv_iconst (v := 1) hx hb dX12_pen_255 (by decide) ?_
                          refine lv_isub hx hb dX12_pen_256 ?_
                          refine lv_iload hx hb dX12_pen_257 (lv_at hlB227 4 rfl) ?_
                          refine lv_iload_n hx hb dX12_pen_259 rfl (lv_at hlB227 2 rfl) ?_
                          refine lv_iadd hx hb dX12_pen_260 ?_
                          obtain ⟨r261_69, hc70, h71⟩ := cb1_s h68
                          clear h68
                          refine kgoiE (krunV (rest := [.int (10 - v250_65)]) X hV56 [0, 1] (c_X12_leastAt l E _ a0 a1 (w0_0) (w0_1) (w0_2) (w0_3) (w0_4) (w0_5) (w0_6) (w0_7) (w0_8) (w0_9) (w0_10) (w0_11) (w0_12) (w0_13) (w0_14) (w0_15) (w0_16) (w0_17) (w0_18) (w0_19) (w0_20) (w0_21) (w0_22) (w0_23) (w0_24) (w0_25) (w0_26) (w0_27) (w0_28) (w0_29) (w0_30) (w0_31) (w0_32) (w0_33) (w0_34) (w0_35) (w0_36) (w0_37) (w0_38) (w0_39) (w0_40) (w0_41) (w0_42) (w0_43) (w0_44) (w0_45) (w0_46) (w0_47) (w0_48) (w0_49) (w0_50) (w0_51) (w0_52) (w0_53) (w0_54) (w0_55) (w0_56) (w0_57) (w0_58) (w0_59) (w0_60) (w0_61) (w0_62) (w0_63) (w0_64) (.ref a2) leastFrom__25 (x5_32 - 1) (x4_52 + p2) r261_69 hc70) mw_1251 kb_X12_leastAt (ci := 12) rfl rfl (by decide) rfl rfl hlB227.1 rfl (Nat.le_of_ble_eq_true rfl) dX12_pen_261 (by decide)) X hV56 [0, 1] [2] rfl rfl rfl (by decide) (fun u H locs hV72 => ?_)
                          have hV72 : kV E A s.heap H locs [(a0, .inr (12, [w0_0, w0_1, w0_2, w0_3, w0_4, w0_5, w0_6, w0_7, w0_8, w0_9, w0_10, w0_11, w0_12, w0_13, w0_14, w0_15, w0_16, w0_17, w0_18, w0_19, w0_20, w0_21, w0_22, w0_23, w0_24, w0_25, w0_26, w0_27, w0_28, w0_29, w0_30, w0_31, w0_32, w0_33, w0_34, w0_35, w0_36, w0_37, w0_38, w0_39, w0_40, w0_41, w0_42, w0_43, w0_44, w0_45, w0_46, w0_47, w0_48, w0_49, w0_50, w0_51, w0_52, w0_53, w0_54, w0_55, w0_56, w0_57, w0_58, w0_59, w0_60, w0_61, w0_62, w0_63, w0_64, .ref a2, .ref a1])), (a1, .inl (E.2 0, 371, .inl leastFrom__25)), (a2, .inl (E.2 0, 40, .inl s_ten))] := hV72.sub [1, 2, 0] rfl rfl
                          clear hV56
                          refine lv_imul hx hb dX12_pen_264 ?_
                          refine lv_aload_n hx hb dX12_pen_265 rfl (lv_at hlB227 0 rfl) ?_
                          refine kget X hV72 (ci := 12) inlX12 rfl 0 rfl 66 (by decide) mw_175 rfl dX12_pen_266 ?_
                          refine lv_bipush (v := 53) hx hb dX12_pen_269 (by decide) ?_
                          refine lv_iload hx hb dX12_pen_271 (lv_at hlB227 5 rfl) ?_
                          refine lv_imul hx hb dX12_pen_273 ?_
                          refine lv_iload hx hb dX12_pen_274 (lv_at hlB227 4 rfl) ?_
                          refine lv_iadd hx hb dX12_pen_276 ?_
                          obtain ⟨hi75, v277_74, e76, h77⟩ := rdI_s h71
                          clear h71
                          refine kiald X hV72 1 rfl hi75 e76 dX12_pen_277 ?_
                          clear hi75 e76
                          refine lv_icmp_eq (tgt := 287) hx hb dX12_pen_278 (by decide) (fun c78 => ?_) (fun c78 => ?_)
                          · have h79 := itS c78 h77
                            clear h77 c78
                            exact J287 x4_52 _ _ _ h79 hV72 (lv_sub hlB227 [0, 1, 2, 3, 4, 5] rfl)
                          · have h80 := ieS c78 h77
                            clear h77 c78
                            obtain ⟨v281_81, e82, h83⟩ := nmI_s h80
                            clear h80
                            refine lv_iinc (v := v281_81) (lv' := [(4, .int v281_81), (0, .ref a0), (1, .int p1), (2, .int p2), (3, .int p3), (5, .int x5_32)]) hx hb dX12_pen_281 hlB227 (k := 4) rfl (by rw [e82]; rfl) (by decide) rfl (fun ls hl84 => ?_)
                            clear hlB227 e82
                            refine lv_goto (tgt := 227) hx hb dX12_pen_284 (by decide) ?_
                            exact ih227 v281_81 _ _ _ h83 hV72 (lv_sub hl84 [1, 2, 3, 4, 0, 5] rfl)
                    exact L227 FU x4_31 _ _ _ h35 hVB222 (lv_sub hlB222 [0, 1, 2, 3, 4, 5] rfl)
              exact L222 FU 0 p1 _ _ _ h27 hVB200 (lv_sub hl30 [2, 3, 4, 5, 1, 0] rfl)
            · have h28 := itS c26 hB200
              clear hB200 c26
              refine lv_aload_n hx hb dX12_pen_206 rfl (lv_at hlB200 0 rfl) ?_
              refine kget X hVB200 (ci := 12) inlX12 rfl 0 rfl 66 (by decide) mw_175 rfl dX12_pen_207 ?_
              refine lv_bipush (v := 53) hx hb dX12_pen_210 (by decide) ?_
              refine lv_iload_n hx hb dX12_pen_212 rfl (lv_at hlB200 1 rfl) ?_
              refine lv_imul hx hb dX12_pen_213 ?_
              obtain ⟨hi86, v214_85, e87, h88⟩ := rdI_s h28
              clear h28
              refine kiald X hVB200 1 rfl hi86 e87 dX12_pen_214 ?_
              clear hi86 e87
              obtain ⟨q89, q90⟩ := tup2_s h88
              clear h88
              exact hret _ () _ _ _ _ q89 rfl (by rw [← q90]; exact hVB200) dX12_pen_215
          have L58 : ∀ (n58 : Nat) (x4_91 : Int32) (leastFrom__92 : Nat → Int32) (H : Heap) (locs : List Loc) (ls : Array Slot), (f_X12_pen_L58 s_ten p1 p2 (f_X12_pen_J200 s_ten p1 p2 p3 ) n58) x4_91 leastFrom__92 = some (r, o_leastFrom) → kV E A s.heap H locs [(a0, .inr (12, [w0_0, w0_1, w0_2, w0_3, w0_4, w0_5, w0_6, w0_7, w0_8, w0_9, w0_10, w0_11, w0_12, w0_13, w0_14, w0_15, w0_16, w0_17, w0_18, w0_19, w0_20, w0_21, w0_22, w0_23, w0_24, w0_25, w0_26, w0_27, w0_28, w0_29, w0_30, w0_31, w0_32, w0_33, w0_34, w0_35, w0_36, w0_37, w0_38, w0_39, w0_40, w0_41, w0_42, w0_43, w0_44, w0_45, w0_46, w0_47, w0_48, w0_49, w0_50, w0_51, w0_52, w0_53, w0_54, w0_55, w0_56, w0_57, w0_58, w0_59, w0_60, w0_61, w0_62, w0_63, w0_64, .ref a2, .ref a1])), (a1, .inl (E.2 0, 371, .inl leastFrom__92)), (a2, .inl (E.2 0, 40, .inl s_ten))] → lv_has ls 9 [(0, .ref a0), (1, .int p1), (2, .int p2), (3, .int p3), (4, .int x4_91)] → W p l e r_X12_pen s m args below meth c H locs 0 0 Q (F0 m 58 ls []) := by
            intro n58
            induction n58 with
            | zero =>
              intro x4_91 leastFrom__92 H locs ls hB58 hVB58 hlB58
              rw [f_X12_pen_L58] at hB58
              exact nomatch hB58
            | succ n58 ih58 =>
              intro x4_91 leastFrom__92 H locs ls hB58 hVB58 hlB58
              rw [f_X12_pen_L58] at hB58
              refine lv_iload hx hb dX12_pen_58 (lv_at hlB58 4 rfl) ?_
              refine lv_iload_n hx hb dX12_pen_60 rfl (lv_at hlB58 1 rfl) ?_
              refine lv_icmp_gt (tgt := 200) hx hb dX12_pen_61 (by decide) (fun c93 => ?_) (fun c93 => ?_)
              · have h94 := itS c93 hB58
                clear hB58 c93
                exact J200 leastFrom__92 _ _ _ h94 hVB58 (lv_sub hlB58 [0, 1, 2, 3] rfl)
              · have h95 := ieS c93 hB58
                clear hB58 c93
                refine lv_bipush (v := 40) hx hb dX12_pen_64 (by decide) ?_
                refine lv_istore (lv' := [(5, .int 40), (0, .ref a0), (1, .int p1), (2, .int p2), (3, .int p3), (4, .int x4_91)]) hx hb dX12_pen_66 hlB58 (by decide) rfl (fun ls hl96 => ?_)
                clear hlB58
                have L68 : ∀ (n68 : Nat) (x5_97 : Int32) (leastFrom__98 : Nat → Int32) (H : Heap) (locs : List Loc) (ls : Array Slot), (f_X12_pen_L68 s_ten p2 x4_91 (f_X12_pen_L58 s_ten p1 p2 (f_X12_pen_J200 s_ten p1 p2 p3 ) n58) n68) x5_97 leastFrom__98 = some (r, o_leastFrom) → kV E A s.heap H locs [(a0, .inr (12, [w0_0, w0_1, w0_2, w0_3, w0_4, w0_5, w0_6, w0_7, w0_8, w0_9, w0_10, w0_11, w0_12, w0_13, w0_14, w0_15, w0_16, w0_17, w0_18, w0_19, w0_20, w0_21, w0_22, w0_23, w0_24, w0_25, w0_26, w0_27, w0_28, w0_29, w0_30, w0_31, w0_32, w0_33, w0_34, w0_35, w0_36, w0_37, w0_38, w0_39, w0_40, w0_41, w0_42, w0_43, w0_44, w0_45, w0_46, w0_47, w0_48, w0_49, w0_50, w0_51, w0_52, w0_53, w0_54, w0_55, w0_56, w0_57, w0_58, w0_59, w0_60, w0_61, w0_62, w0_63, w0_64, .ref a2, .ref a1])), (a1, .inl (E.2 0, 371, .inl leastFrom__98)), (a2, .inl (E.2 0, 40, .inl s_ten))] → lv_has ls 9 [(0, .ref a0), (1, .int p1), (2, .int p2), (3, .int p3), (4, .int x4_91), (5, .int x5_97)] → W p l e r_X12_pen s m args below meth c H locs 0 0 Q (F0 m 68 ls []) := by
                  intro n68
                  induction n68 with
                  | zero =>
                    intro x5_97 leastFrom__98 H locs ls hB68 hVB68 hlB68
                    rw [f_X12_pen_L68] at hB68
                    exact nomatch hB68
                  | succ n68 ih68 =>
                    intro x5_97 leastFrom__98 H locs ls hB68 hVB68 hlB68
                    rw [f_X12_pen_L68] at hB68
                    refine lv_iload hx hb dX12_pen_68 (lv_at hlB68 5 rfl) ?_
                    refine lv_if_lt (tgt := 194) hx hb dX12_pen_70 (by decide) (fun c99 => ?_) (fun c99 => ?_)
                    · have h100 := itS c99 hB68
                      clear hB68 c99
                      obtain ⟨v194_102, e103, h104⟩ := nmI_s h100
                      clear h100
                      refine lv_iinc (v := v194_102) (lv' := [(4, .int v194_102), (0, .ref a0), (1, .int p1), (2, .int p2), (3, .int p3), (5, .int x5_97)]) hx hb dX12_pen_194 hlB68 (k := 4) rfl (by rw [e103]; rfl) (by decide) rfl (fun ls hl105 => ?_)
                      clear hlB68 e103
                      refine lv_goto (tgt := 58) hx hb dX12_pen_197 (by decide) ?_
                      exact ih58 v194_102 leastFrom__98 _ _ _ h104 hVB68 (lv_sub hl105 [1, 2, 3, 4, 0] rfl)
                    · have h101 := ieS c99 hB68
                      clear hB68 c99
                      refine lv_iload hx hb dX12_pen_73 (lv_at hlB68 4 rfl) ?_
                      have J83 : ∀ (t0_106 : Int32) (H : Heap) (locs : List Loc) (ls : Array Slot), (f_X12_pen_J83 s_ten p2 x4_91 x5_97 leastFrom__98 (f_X12_pen_L68 s_ten p2 x4_91 (f_X12_pen_L58 s_ten p1 p2 (f_X12_pen_J200 s_ten p1 p2 p3 ) n58) n68)) t0_106 = some (r, o_leastFrom) → kV E A s.heap H locs [(a0, .inr (12, [w0_0, w0_1, w0_2, w0_3, w0_4, w0_5, w0_6, w0_7, w0_8, w0_9, w0_10, w0_11, w0_12, w0_13, w0_14, w0_15, w0_16, w0_17, w0_18, w0_19, w0_20, w0_21, w0_22, w0_23, w0_24, w0_25, w0_26, w0_27, w0_28, w0_29, w0_30, w0_31, w0_32, w0_33, w0_34, w0_35, w0_36, w0_37, w0_38, w0_39, w0_40, w0_41, w0_42, w0_43, w0_44, w0_45, w0_46, w0_47, w0_48, w0_49, w0_50, w0_51, w0_52, w0_53, w0_54, w0_55, w0_56, w0_57, w0_58, w0_59, w0_60, w0_61, w0_62, w0_63, w0_64, .ref a2, .ref a1])), (a1, .inl (E.2 0, 371, .inl leastFrom__98)), (a2, .inl (E.2 0, 40, .inl s_ten))] → lv_has ls 9 [(0, .ref a0), (1, .int p1), (2, .int p2), (3, .int p3), (4, .int x4_91), (5, .int x5_97)] → W p l e r_X12_pen s m args below meth c H locs 0 0 Q (F0 m 83 ls [.int t0_106]) := by
                        intro t0_106 H locs ls hB83 hVB83 hlB83
                        rw [f_X12_pen_J83] at hB83
                        refine lv_istore (lv' := [(6, .int t0_106), (0, .ref a0), (1, .int p1), (2, .int p2), (3, .int p3), (4, .int x4_91), (5, .int x5_97)]) hx hb dX12_pen_83 hlB83 (by decide) rfl (fun ls hl107 => ?_)
                        clear hlB83
                        refine lv_iload hx hb dX12_pen_85 (lv_at hl107 5 rfl) ?_
                        have J173 : ∀ (x6_108 : Int32) (H : Heap) (locs : List Loc) (ls : Array Slot), (f_X12_pen_J173 x4_91 x5_97 leastFrom__98 (f_X12_pen_L68 s_ten p2 x4_91 (f_X12_pen_L58 s_ten p1 p2 (f_X12_pen_J200 s_ten p1 p2 p3 ) n58) n68)) x6_108 = some (r, o_leastFrom) → kV E A s.heap H locs [(a0, .inr (12, [w0_0, w0_1, w0_2, w0_3, w0_4, w0_5, w0_6, w0_7, w0_8, w0_9, w0_10, w0_11, w0_12, w0_13, w0_14, w0_15, w0_16, w0_17, w0_18, w0_19, w0_20, w0_21, w0_22, w0_23, w0_24, w0_25, w0_26, w0_27, w0_28, w0_29, w0_30, w0_31, w0_32, w0_33, w0_34, w0_35, w0_36, w0_37, w0_38, w0_39, w0_40, w0_41, w0_42, w0_43, w0_44, w0_45, w0_46, w0_47, w0_48, w0_49, w0_50, w0_51, w0_52, w0_53, w0_54, w0_55, w0_56, w0_57, w0_58, w0_59, w0_60, w0_61, w0_62, w0_63, w0_64, .ref a2, .ref a1])), (a1, .inl (E.2 0, 371, .inl leastFrom__98)), (a2, .inl (E.2 0, 40, .inl s_ten))] → lv_has ls 9 [(0, .ref a0), (1, .int p1), (2, .int p2), (3, .int p3), (4, .int x4_91), (5, .int x5_97), (6, .int x6_108)] → W p l e r_X12_pen s m args below meth c H locs 0 0 Q (F0 m 173 ls []) := by
                          intro x6_108 H locs ls hB173 hVB173 hlB173
                          rw [f_X12_pen_J173] at hB173
                          refine lv_aload_n hx hb dX12_pen_173 rfl (lv_at hlB173 0 rfl) ?_
                          refine kget X hVB173 (ci := 12) inlX12 rfl 0 rfl 66 (by decide) mw_175 rfl dX12_pen_174 ?_
                          refine lv_bipush (v := 53) hx hb dX12_pen_177 (by decide) ?_
                          refine lv_iload hx hb dX12_pen_179 (lv_at hlB173 4 rfl) ?_
                          refine lv_imul hx hb dX12_pen_181 ?_
                          refine lv_iload hx hb dX12_pen_182 (lv_at hlB173 5 rfl) ?_
                          refine lv_iadd hx hb dX12_pen_184 ?_
                          refine lv_iload hx hb dX12_pen_185 (lv_at hlB173 6 rfl) ?_
                          obtain ⟨hi110, g187_109, e111, h112⟩ := wrI_s hB173
                          clear hB173
                          refine kiast X hVB173 1 rfl hi110 e111 dX12_pen_187 (fun H locs hV113 => ?_)
                          have hV113 : kV E A s.heap H locs [(a0, .inr (12, [w0_0, w0_1, w0_2, w0_3, w0_4, w0_5, w0_6, w0_7, w0_8, w0_9, w0_10, w0_11, w0_12, w0_13, w0_14, w0_15, w0_16, w0_17, w0_18, w0_19, w0_20, w0_21, w0_22, w0_23, w0_24, w0_25, w0_26, w0_27, w0_28, w0_29, w0_30, w0_31, w0_32, w0_33, w0_34, w0_35, w0_36, w0_37, w0_38, w0_39, w0_40, w0_41, w0_42, w0_43, w0_44, w0_45, w0_46, w0_47, w0_48, w0_49, w0_50, w0_51, w0_52, w0_53, w0_54, w0_55, w0_56, w0_57, w0_58, w0_59, w0_60, w0_61, w0_62, w0_63, w0_64, .ref a2, .ref a1])), (a1, .inl (E.2 0, 371, .inl g187_109)), (a2, .inl (E.2 0, 40, .inl s_ten))] := hV113
                          clear hVB173 hi110 e111
                          obtain ⟨v188_114, e115, h116⟩ := nmI_s h112
                          clear h112
                          refine lv_iinc (v := v188_114) (lv' := [(5, .int v188_114), (0, .ref a0), (1, .int p1), (2, .int p2), (3, .int p3), (4, .int x4_91), (6, .int x6_108)]) hx hb dX12_pen_188 hlB173 (k := 5) rfl (by rw [e115]; rfl) (by decide) rfl (fun ls hl117 => ?_)
                          clear hlB173 e115
                          refine lv_goto (tgt := 68) hx hb dX12_pen_191 (by decide) ?_
                          exact ih68 v188_114 g187_109 _ _ _ h116 hV113 (lv_sub hl117 [1, 2, 3, 4, 5, 0] rfl)
                        refine lv_if_le (tgt := 173) hx hb dX12_pen_87 (by decide) (fun c118 => ?_) (fun c118 => ?_)
                        · have h119 := itS c118 hB83
                          clear hB83 c118
                          exact J173 t0_106 _ _ _ h119 hVB83 (lv_sub hl107 [1, 2, 3, 4, 5, 6, 0] rfl)
                        · have h120 := ieS c118 hB83
                          clear hB83 c118
                          refine lv_iload hx hb dX12_pen_90 (lv_at hl107 6 rfl) ?_
                          refine lv_bipush (v := 40) hx hb dX12_pen_92 (by decide) ?_
                          refine lv_icmp_ge (tgt := 173) hx hb dX12_pen_94 (by decide) (fun c121 => ?_) (fun c121 => ?_)
                          · have h122 := itS c121 h120
                            clear h120 c121
                            exact J173 t0_106 _ _ _ h122 hVB83 (lv_sub hl107 [1, 2, 3, 4, 5, 6, 0] rfl)
                          · have h123 := ieS c121 h120
                            clear h120 c121
                            refine lv_aload_n hx hb dX12_pen_97 rfl (lv_at hl107 1 rfl) ?_
                            refine kget X hVB83 (ci := 12) inlX12 rfl 0 rfl 66 (by decide) mw_175 rfl dX12_pen_98 ?_
                            refine lv_bipush (v := 53) hx hb dX12_pen_101 (by decide) ?_
                            refine lv_iload hx hb dX12_pen_103 (lv_at hl107 5 rfl) ?_
                            refine lv_imul hx hb dX12_pen_105 ?_
                            refine lv_iload hx hb dX12_pen_106 (lv_at hl107 6 rfl) ?_
                            refine lv_iadd hx hb dX12_pen_108 ?_
                            refine lv_iconst (v := 1) hx hb dX12_pen_109 (by decide) ?_
                            refine lv_iadd hx hb dX12_pen_110 ?_
                            obtain ⟨hi125, v111_124, e126, h127⟩ := rdI_s h123
                            clear h123
                            refine kiald X hVB83 1 rfl hi125 e126 dX12_pen_111 ?_
                            clear hi125 e126
                            refine lv_istore (lv' := [(6, .int v111_124), (0, .ref a0), (1, .int p1), (2, .int p2), (3, .int p3), (4, .int x4_91), (5, .int x5_97)]) hx hb dX12_pen_112 hl107 (by decide) rfl (fun ls hl128 => ?_)
                            clear hl107
                            refine lv_aload_n hx hb dX12_pen_114 rfl (lv_at hl128 1 rfl) ?_
                            refine lv_iload hx hb dX12_pen_115 (lv_at hl128 5 rfl) ?_
                            refine lv_iconst (v := 1) hx hb dX12_pen_117 (by decide) ?_
                            refine lv_isub hx hb dX12_pen_118 ?_
                            refine lv_iload hx hb dX12_pen_119 (lv_at hl128 6 rfl) ?_
                            refine lv_iload_n hx hb dX12_pen_121 rfl (lv_at hl128 3 rfl) ?_
                            refine lv_iadd hx hb dX12_pen_122 ?_
                            obtain ⟨r123_129, hc130, h131⟩ := cb1_s h127
                            clear h127
                            refine kgoiE (krunV (rest := []) X hVB83 [0, 1] (c_X12_leastAt l E _ a0 a1 (w0_0) (w0_1) (w0_2) (w0_3) (w0_4) (w0_5) (w0_6) (w0_7) (w0_8) (w0_9) (w0_10) (w0_11) (w0_12) (w0_13) (w0_14) (w0_15) (w0_16) (w0_17) (w0_18) (w0_19) (w0_20) (w0_21) (w0_22) (w0_23) (w0_24) (w0_25) (w0_26) (w0_27) (w0_28) (w0_29) (w0_30) (w0_31) (w0_32) (w0_33) (w0_34) (w0_35) (w0_36) (w0_37) (w0_38) (w0_39) (w0_40) (w0_41) (w0_42) (w0_43) (w0_44) (w0_45) (w0_46) (w0_47) (w0_48) (w0_49) (w0_50) (w0_51) (w0_52) (w0_53) (w0_54) (w0_55) (w0_56) (w0_57) (w0_58) (w0_59) (w0_60) (w0_61) (w0_62) (w0_63) (w0_64) (.ref a2) leastFrom__98 (x4_91 - 1) (x5_97 + p2) r123_129 hc130) mw_1251 kb_X12_leastAt (ci := 12) rfl rfl (by decide) rfl rfl hl128.1 rfl (Nat.le_of_ble_eq_true rfl) dX12_pen_123 (by decide)) X hVB83 [0, 1] [2] rfl rfl rfl (by decide) (fun u H locs hV132 => ?_)
                            have hV132 : kV E A s.heap H locs [(a0, .inr (12, [w0_0, w0_1, w0_2, w0_3, w0_4, w0_5, w0_6, w0_7, w0_8, w0_9, w0_10, w0_11, w0_12, w0_13, w0_14, w0_15, w0_16, w0_17, w0_18, w0_19, w0_20, w0_21, w0_22, w0_23, w0_24, w0_25, w0_26, w0_27, w0_28, w0_29, w0_30, w0_31, w0_32, w0_33, w0_34, w0_35, w0_36, w0_37, w0_38, w0_39, w0_40, w0_41, w0_42, w0_43, w0_44, w0_45, w0_46, w0_47, w0_48, w0_49, w0_50, w0_51, w0_52, w0_53, w0_54, w0_55, w0_56, w0_57, w0_58, w0_59, w0_60, w0_61, w0_62, w0_63, w0_64, .ref a2, .ref a1])), (a1, .inl (E.2 0, 371, .inl leastFrom__98)), (a2, .inl (E.2 0, 40, .inl s_ten))] := hV132.sub [1, 2, 0] rfl rfl
                            clear hVB83
                            refine lv_istore (lv' := [(7, .int r123_129), (6, .int v111_124), (0, .ref a0), (1, .int p1), (2, .int p2), (3, .int p3), (4, .int x4_91), (5, .int x5_97)]) hx hb dX12_pen_126 hl128 (by decide) rfl (fun ls hl134 => ?_)
                            clear hl128
                            refine lv_iload hx hb dX12_pen_128 (lv_at hl134 0 rfl) ?_
                            have J150 : ∀ (t0_135 : Int32) (H : Heap) (locs : List Loc) (ls : Array Slot), (f_X12_pen_J150 v111_124 (f_X12_pen_J173 x4_91 x5_97 leastFrom__98 (f_X12_pen_L68 s_ten p2 x4_91 (f_X12_pen_L58 s_ten p1 p2 (f_X12_pen_J200 s_ten p1 p2 p3 ) n58) n68))) t0_135 = some (r, o_leastFrom) → kV E A s.heap H locs [(a0, .inr (12, [w0_0, w0_1, w0_2, w0_3, w0_4, w0_5, w0_6, w0_7, w0_8, w0_9, w0_10, w0_11, w0_12, w0_13, w0_14, w0_15, w0_16, w0_17, w0_18, w0_19, w0_20, w0_21, w0_22, w0_23, w0_24, w0_25, w0_26, w0_27, w0_28, w0_29, w0_30, w0_31, w0_32, w0_33, w0_34, w0_35, w0_36, w0_37, w0_38, w0_39, w0_40, w0_41, w0_42, w0_43, w0_44, w0_45, w0_46, w0_47, w0_48, w0_49, w0_50, w0_51, w0_52, w0_53, w0_54, w0_55, w0_56, w0_57, w0_58, w0_59, w0_60, w0_61, w0_62, w0_63, w0_64, .ref a2, .ref a1])), (a1, .inl (E.2 0, 371, .inl leastFrom__98)), (a2, .inl (E.2 0, 40, .inl s_ten))] → lv_has ls 9 [(0, .ref a0), (1, .int p1), (2, .int p2), (3, .int p3), (4, .int x4_91), (5, .int x5_97), (6, .int v111_124)] → W p l e r_X12_pen s m args below meth c H locs 0 0 Q (F0 m 150 ls [.int t0_135]) := by
                              intro t0_135 H locs ls hB150 hVB150 hlB150
                              rw [f_X12_pen_J150] at hB150
                              refine lv_istore (lv' := [(8, .int t0_135), (0, .ref a0), (1, .int p1), (2, .int p2), (3, .int p3), (4, .int x4_91), (5, .int x5_97), (6, .int v111_124)]) hx hb dX12_pen_150 hlB150 (by decide) rfl (fun ls hl136 => ?_)
                              clear hlB150
                              refine lv_iload hx hb dX12_pen_152 (lv_at hl136 0 rfl) ?_
                              refine lv_if_lt (tgt := 173) hx hb dX12_pen_154 (by decide) (fun c137 => ?_) (fun c137 => ?_)
                              · have h138 := itS c137 hB150
                                clear hB150 c137
                                exact J173 v111_124 _ _ _ h138 hVB150 (lv_sub hl136 [1, 2, 3, 4, 5, 6, 7] rfl)
                              · have h139 := ieS c137 hB150
                                clear hB150 c137
                                refine lv_iload hx hb dX12_pen_157 (lv_at hl136 7 rfl) ?_
                                refine lv_if_lt (tgt := 169) hx hb dX12_pen_159 (by decide) (fun c140 => ?_) (fun c140 => ?_)
                                · have h141 := itS c140 h139
                                  clear h139 c140
                                  refine lv_iload hx hb dX12_pen_169 (lv_at hl136 0 rfl) ?_
                                  refine lv_istore (lv' := [(6, .int t0_135), (8, .int t0_135), (0, .ref a0), (1, .int p1), (2, .int p2), (3, .int p3), (4, .int x4_91), (5, .int x5_97)]) hx hb dX12_pen_171 hl136 (by decide) rfl (fun ls hl143 => ?_)
                                  clear hl136
                                  exact J173 t0_135 _ _ _ h141 hVB150 (lv_sub hl143 [2, 3, 4, 5, 6, 7, 0] rfl)
                                · have h142 := ieS c140 h139
                                  clear h139 c140
                                  refine lv_iload hx hb dX12_pen_162 (lv_at hl136 0 rfl) ?_
                                  refine lv_iload hx hb dX12_pen_164 (lv_at hl136 7 rfl) ?_
                                  refine lv_icmp_ge (tgt := 173) hx hb dX12_pen_166 (by decide) (fun c144 => ?_) (fun c144 => ?_)
                                  · have h145 := itS c144 h142
                                    clear h142 c144
                                    exact J173 v111_124 _ _ _ h145 hVB150 (lv_sub hl136 [1, 2, 3, 4, 5, 6, 7] rfl)
                                  · have h146 := ieS c144 h142
                                    clear h142 c144
                                    refine lv_iload hx hb dX12_pen_169 (lv_at hl136 0 rfl) ?_
                                    refine lv_istore (lv' := [(6, .int t0_135), (8, .int t0_135), (0, .ref a0), (1, .int p1), (2, .int p2), (3, .int p3), (4, .int x4_91), (5, .int x5_97)]) hx hb dX12_pen_171 hl136 (by decide) rfl (fun ls hl147 => ?_)
                                    clear hl136
                                    exact J173 t0_135 _ _ _ h146 hVB150 (lv_sub hl147 [2, 3, 4, 5, 6, 7, 0] rfl)
                            refine lv_if_ge (tgt := 137) hx hb dX12_pen_130 (by decide) (fun c148 => ?_) (fun c148 => ?_)
                            · have h149 := itS c148 h131
                              clear h131 c148
                              refine lv_bipush (v := 10) hx hb dX12_pen_137 (by decide) ?_
                              refine lv_aload_n hx hb dX12_pen_139 rfl (lv_at hl134 2 rfl) ?_
                              refine kget X hV132 (ci := 12) inlX12 rfl 0 rfl 65 (by decide) mw_174 rfl dX12_pen_140 ?_
                              refine lv_iload hx hb dX12_pen_143 (lv_at hl134 7 rfl) ?_
                              obtain ⟨hi152, v145_151, e153, h154⟩ := rdI_s h149
                              clear h149
                              refine kiald X hV132 2 rfl hi152 e153 dX12_pen_145 ?_
                              clear hi152 e153
                              refine lv_isub hx hb dX12_pen_146 ?_
                              refine lv_iload hx hb dX12_pen_147 (lv_at hl134 0 rfl) ?_
                              refine lv_imul hx hb dX12_pen_149 ?_
                              exact J150 ((10 - v145_151) * r123_129) _ _ _ h154 hV132 (lv_sub hl134 [2, 3, 4, 5, 6, 7, 1] rfl)
                            · have h150 := ieS c148 h131
                              clear h131 c148
                              refine lv_iconst (v := (-1)) hx hb dX12_pen_133 (by decide) ?_
                              refine lv_goto (tgt := 150) hx hb dX12_pen_134 (by decide) ?_
                              exact J150 (-1) _ _ _ h150 hV132 (lv_sub hl134 [2, 3, 4, 5, 6, 7, 1] rfl)
                      refine lv_if_ne (tgt := 82) hx hb dX12_pen_75 (by decide) (fun c155 => ?_) (fun c155 => ?_)
                      · have h156 := ieS c155 h101
                        clear h101 c155
                        refine lv_iconst (v := (-1)) hx hb dX12_pen_82 (by decide) ?_
                        exact J83 (-1) _ _ _ h156 hVB68 (lv_sub hlB68 [0, 1, 2, 3, 4, 5] rfl)
                      · have h157 := itS c155 h101
                        clear h101 c155
                        refine lv_iconst (v := 1) hx hb dX12_pen_78 (by decide) ?_
                        refine lv_goto (tgt := 83) hx hb dX12_pen_79 (by decide) ?_
                        exact J83 1 _ _ _ h157 hVB68 (lv_sub hlB68 [0, 1, 2, 3, 4, 5] rfl)
                exact L68 FU 40 leastFrom__92 _ _ _ h95 hVB58 (lv_sub hl96 [1, 2, 3, 4, 5, 0] rfl)
          exact L58 FU 0 s_leastFrom _ _ _ h22 hVB43 (lv_sub hl24 [1, 2, 3, 4, 0] rfl)
        · have h23 := ieS c21 hB43
          clear hB43 c21
          refine lv_iconst (v := (-1)) hx hb dX12_pen_53 (by decide) ?_
          obtain ⟨q158, q159⟩ := tup2_s h23
          clear h23
          exact hret _ () _ _ _ _ q158 rfl (by rw [← q159]; exact hVB43) dX12_pen_54
      refine lv_icmp_eq (tgt := 43) hx hb dX12_pen_27 (by decide) (fun c160 => ?_) (fun c160 => ?_)
      · have h161 := itS c160 h18
        clear h18 c160
        exact J43  _ _ _ h161 hV14 (lv_sub hl [0, 1, 2, 3] rfl)
      · have h162 := ieS c160 h18
        clear h18 c160
        refine lv_iload_n hx hb dX12_pen_30 rfl (lv_at hl 3 rfl) ?_
        refine lv_i2l (v := Int32.toInt64 p3) hx hb dX12_pen_31 rfl ?_
        refine lv_lconst (v := 0) hx hb dX12_pen_32 (by decide) ?_
        refine lv_iload_n hx hb dX12_pen_33 rfl (lv_at hl 1 rfl) ?_
        refine lv_iconst (v := 1) hx hb dX12_pen_34 (by decide) ?_
        refine lv_isub hx hb dX12_pen_35 ?_
        refine lv_i2l (v := Int32.toInt64 (p1 - 1)) hx hb dX12_pen_36 rfl ?_
        obtain ⟨r37_163, hc164, h165⟩ := cb1_s h162
        clear h162
        refine kgoiE (krunS (rest := []) X hV14 [] (c_X12_lies l E _ (Int32.toInt64 p3) 0 (Int32.toInt64 (p1 - 1)) r37_163 hc164) mw_224 kb_X12_lies (by decide) rfl rfl hl.1 rfl (Nat.le_of_ble_eq_true rfl) dX12_pen_37 (by decide)) X hV14 [] [0, 1, 2] rfl rfl rfl (by decide) (fun u H locs hV166 => ?_)
        have hV166 : kV E A s.heap H locs [(a0, .inr (12, [w0_0, w0_1, w0_2, w0_3, w0_4, w0_5, w0_6, w0_7, w0_8, w0_9, w0_10, w0_11, w0_12, w0_13, w0_14, w0_15, w0_16, w0_17, w0_18, w0_19, w0_20, w0_21, w0_22, w0_23, w0_24, w0_25, w0_26, w0_27, w0_28, w0_29, w0_30, w0_31, w0_32, w0_33, w0_34, w0_35, w0_36, w0_37, w0_38, w0_39, w0_40, w0_41, w0_42, w0_43, w0_44, w0_45, w0_46, w0_47, w0_48, w0_49, w0_50, w0_51, w0_52, w0_53, w0_54, w0_55, w0_56, w0_57, w0_58, w0_59, w0_60, w0_61, w0_62, w0_63, w0_64, .ref a2, .ref a1])), (a1, .inl (E.2 0, 371, .inl s_leastFrom)), (a2, .inl (E.2 0, 40, .inl s_ten))] := hV166.sub [0, 1, 2] rfl rfl
        clear hV14
        refine lv_if_eq (tgt := 53) hx hb dX12_pen_40 (by decide) (fun c168 => ?_) (fun c168 => ?_)
        · have h169 := itS c168 h165
          clear h165 c168
          refine lv_iconst (v := (-1)) hx hb dX12_pen_53 (by decide) ?_
          obtain ⟨q171, q172⟩ := tup2_s h169
          clear h169
          exact hret _ () _ _ _ _ q171 rfl (by rw [← q172]; exact hV166) dX12_pen_54
        · have h170 := ieS c168 h165
          clear h165 c168
          exact J43  _ _ _ h170 hV166 (lv_sub hl [0, 1, 2, 3] rfl)
abbrev r_X12_choices : Room := { frames := 0, cells := 0, slots := 0, locals := 0 }
set_option maxHeartbeats 4000000 in
set_option maxRecDepth 100000 in
theorem c_X12_choices (l : Launch) (E : kE) (sz : Nat) (p1 : Int32) (p2 : Int32) (r : Int64) (h : f_X12_choices p1 p2 = some (r)) : kMl l yX12_choices cX12_choices 5 (some .long) r_X12_choices [.int p1, .int p2] E [] sz 0 0 (fun x (_ : Unit) => x = r) (fun _ => []) := by
  refine kmetl rfl (Nat.le_of_ble_eq_true rfl) ?_
  intro p e s m args below meth c ls A Q X hV hret hl
  have X : kC p s m c cX12_choices 5 RX12 args E A := X
  have hx := X.1
  have hb := X.2.1
  have hl : lv_has ls 5 [(0, .int p1), (1, .int p2)] := hl
  rw [f_X12_choices] at h
  refine lv_iload_n hx hb dX12_choices_0 rfl (lv_at hl 1 rfl) ?_
  refine lv_if_lt (tgt := 9) hx hb dX12_choices_1 (by decide) (fun c1 => ?_) (fun c1 => ?_)
  · have h2 := itS c1 h
    clear h c1
    refine lv_lconst (v := 0) hx hb dX12_choices_9 (by decide) ?_
    have q4 := tup1_s h2
    clear h2
    exact hret _ () _ _ _ _ q4 hV dX12_choices_10
  · have h3 := ieS c1 h
    clear h c1
    refine lv_iload_n hx hb dX12_choices_4 rfl (lv_at hl 1 rfl) ?_
    refine lv_iload_n hx hb dX12_choices_5 rfl (lv_at hl 0 rfl) ?_
    refine lv_icmp_le (tgt := 11) hx hb dX12_choices_6 (by decide) (fun c5 => ?_) (fun c5 => ?_)
    · have h6 := itS c5 h3
      clear h3 c5
      refine lv_lconst (v := 1) hx hb dX12_choices_11 (by decide) ?_
      refine lv_lstore_n (lv' := [(2, .long 1), (0, .int p1), (1, .int p2)]) hx hb dX12_choices_12 rfl hl (by decide) rfl (fun ls hl8 => ?_)
      clear hl
      refine lv_iconst (v := 1) hx hb dX12_choices_13 (by decide) ?_
      refine lv_istore (lv' := [(4, .int 1), (2, .long 1), (0, .int p1), (1, .int p2)]) hx hb dX12_choices_14 hl8 (by decide) rfl (fun ls hl9 => ?_)
      clear hl8
      have L16 : ∀ (n16 : Nat) (x2_10 : Int64) (x4_11 : Int32) (H : Heap) (locs : List Loc) (ls : Array Slot), (f_X12_choices_L16 p1 p2  n16) x2_10 x4_11 = some (r) → kV E A s.heap H locs [] → lv_has ls 5 [(0, .int p1), (1, .int p2), (2, .long x2_10), (4, .int x4_11)] → W p l e r_X12_choices s m args below meth c H locs 0 0 Q (F0 m 16 ls []) := by
        intro n16
        induction n16 with
        | zero =>
          intro x2_10 x4_11 H locs ls hB16 hVB16 hlB16
          rw [f_X12_choices_L16] at hB16
          exact nomatch hB16
        | succ n16 ih16 =>
          intro x2_10 x4_11 H locs ls hB16 hVB16 hlB16
          rw [f_X12_choices_L16] at hB16
          refine lv_iload hx hb dX12_choices_16 (lv_at hlB16 3 rfl) ?_
          refine lv_iload_n hx hb dX12_choices_18 rfl (lv_at hlB16 1 rfl) ?_
          refine lv_icmp_gt (tgt := 42) hx hb dX12_choices_19 (by decide) (fun c12 => ?_) (fun c12 => ?_)
          · have h13 := itS c12 hB16
            clear hB16 c12
            refine lv_lload_n hx hb dX12_choices_42 rfl (lv_at hlB16 2 rfl) ?_
            have q15 := tup1_s h13
            clear h13
            exact hret _ () _ _ _ _ q15 hVB16 dX12_choices_43
          · have h14 := ieS c12 hB16
            clear hB16 c12
            refine lv_lload_n hx hb dX12_choices_22 rfl (lv_at hlB16 2 rfl) ?_
            refine lv_iload_n hx hb dX12_choices_23 rfl (lv_at hlB16 0 rfl) ?_
            refine lv_iload_n hx hb dX12_choices_24 rfl (lv_at hlB16 1 rfl) ?_
            refine lv_isub hx hb dX12_choices_25 ?_
            refine lv_iload hx hb dX12_choices_26 (lv_at hlB16 3 rfl) ?_
            refine lv_iadd hx hb dX12_choices_28 ?_
            refine lv_i2l (v := Int32.toInt64 ((p1 - p2) + x4_11)) hx hb dX12_choices_29 rfl ?_
            refine lv_lmul hx hb dX12_choices_30 ?_
            refine lv_iload hx hb dX12_choices_31 (lv_at hlB16 3 rfl) ?_
            refine lv_i2l (v := Int32.toInt64 x4_11) hx hb dX12_choices_33 rfl ?_
            obtain ⟨hn16, h17⟩ := dvL_s h14
            clear h14
            refine lv_ldiv hx hb dX12_choices_34 hn16 ?_
            obtain ⟨v35_18, e19, h20⟩ := nmL_s h17
            clear h17
            refine ktopl e19 ?_
            clear e19
            refine lv_lstore_n (lv' := [(2, .long v35_18), (0, .int p1), (1, .int p2), (4, .int x4_11)]) hx hb dX12_choices_35 rfl hlB16 (by decide) rfl (fun ls hl21 => ?_)
            clear hlB16
            obtain ⟨v36_22, e23, h24⟩ := nmI_s h20
            clear h20
            refine lv_iinc (v := v36_22) (lv' := [(4, .int v36_22), (2, .long v35_18), (0, .int p1), (1, .int p2)]) hx hb dX12_choices_36 hl21 (k := 3) rfl (by rw [e23]; rfl) (by decide) rfl (fun ls hl25 => ?_)
            clear hl21 e23
            refine lv_goto (tgt := 16) hx hb dX12_choices_39 (by decide) ?_
            exact ih16 v35_18 v36_22 _ _ _ h24 hVB16 (lv_sub hl25 [2, 3, 1, 0] rfl)
      exact L16 FU 1 1 _ _ _ h6 hV (lv_sub hl9 [2, 3, 1, 0] rfl)
    · have h7 := ieS c5 h3
      clear h3 c5
      refine lv_lconst (v := 0) hx hb dX12_choices_9 (by decide) ?_
      have q26 := tup1_s h7
      clear h7
      exact hret _ () _ _ _ _ q26 hV dX12_choices_10
abbrev r_X12_divisor : Room := { frames := 0, cells := 0, slots := 0, locals := 0 }
set_option maxHeartbeats 4000000 in
set_option maxRecDepth 100000 in
theorem c_X12_divisor (l : Launch) (E : kE) (sz : Nat) (p1 : Int64) (p2 : Int64) (r : Int64) (h : f_X12_divisor p1 p2 = some (r)) : kMl l yX12_divisor cX12_divisor 10 (some .long) r_X12_divisor [.long p1, .long p2] E [] sz 0 0 (fun x (_ : Unit) => x = r) (fun _ => []) := by
  refine kmetl rfl (Nat.le_of_ble_eq_true rfl) ?_
  intro p e s m args below meth c ls A Q X hV hret hl
  have X : kC p s m c cX12_divisor 10 RX12 args E A := X
  have hx := X.1
  have hb := X.2.1
  have hl : lv_has ls 10 [(0, .long p1), (2, .long p2)] := hl
  rw [f_X12_divisor] at h
  refine lv_lload_n hx hb dX12_divisor_0 rfl (lv_at hl 0 rfl) ?_
  refine lv_lstore (lv' := [(4, .long p1), (0, .long p1), (2, .long p2)]) hx hb dX12_divisor_1 hl (by decide) rfl (fun ls hl1 => ?_)
  clear hl
  refine lv_lload_n hx hb dX12_divisor_3 rfl (lv_at hl1 2 rfl) ?_
  refine lv_lstore (lv' := [(6, .long p2), (4, .long p1), (0, .long p1), (2, .long p2)]) hx hb dX12_divisor_4 hl1 (by decide) rfl (fun ls hl2 => ?_)
  clear hl1
  have L6 : ∀ (n6 : Nat) (x4_3 : Int64) (x6_4 : Int64) (H : Heap) (locs : List Loc) (ls : Array Slot), (f_X12_divisor_L6   n6) x4_3 x6_4 = some (r) → kV E A s.heap H locs [] → lv_has ls 10 [(4, .long x4_3), (6, .long x6_4)] → W p l e r_X12_divisor s m args below meth c H locs 0 0 Q (F0 m 6 ls []) := by
    intro n6
    induction n6 with
    | zero =>
      intro x4_3 x6_4 H locs ls hB6 hVB6 hlB6
      rw [f_X12_divisor_L6] at hB6
      exact nomatch hB6
    | succ n6 ih6 =>
      intro x4_3 x6_4 H locs ls hB6 hVB6 hlB6
      rw [f_X12_divisor_L6] at hB6
      refine lv_lload hx hb dX12_divisor_6 (lv_at hlB6 1 rfl) ?_
      refine lv_lconst (v := 0) hx hb dX12_divisor_8 (by decide) ?_
      refine W.lcmp hx hb dX12_divisor_9 ?_
      refine lv_if_eq (tgt := 31) hx hb dX12_divisor_10 (by decide) (fun c5 => ?_) (fun c5 => ?_)
      · have h6 := itS c5 hB6
        clear hB6 c5
        refine lv_lload hx hb dX12_divisor_31 (lv_at hlB6 0 rfl) ?_
        have q8 := tup1_s h6
        clear h6
        exact hret _ () _ _ _ _ q8 hVB6 dX12_divisor_33
      · have h7 := ieS c5 hB6
        clear hB6 c5
        refine lv_lload hx hb dX12_divisor_13 (lv_at hlB6 0 rfl) ?_
        refine lv_lload hx hb dX12_divisor_15 (lv_at hlB6 1 rfl) ?_
        obtain ⟨hn9, h10⟩ := dvL_s h7
        clear h7
        refine lv_lrem hx hb dX12_divisor_17 hn9 ?_
        obtain ⟨v18_11, e12, h13⟩ := nmL_s h10
        clear h10
        refine ktopl e12 ?_
        clear e12
        refine lv_lstore (lv' := [(8, .long v18_11), (4, .long x4_3), (6, .long x6_4)]) hx hb dX12_divisor_18 hlB6 (by decide) rfl (fun ls hl14 => ?_)
        clear hlB6
        refine lv_lload hx hb dX12_divisor_20 (lv_at hl14 2 rfl) ?_
        refine lv_lstore (lv' := [(4, .long x6_4), (8, .long v18_11), (6, .long x6_4)]) hx hb dX12_divisor_22 hl14 (by decide) rfl (fun ls hl15 => ?_)
        clear hl14
        refine lv_lload hx hb dX12_divisor_24 (lv_at hl15 1 rfl) ?_
        refine lv_lstore (lv' := [(6, .long v18_11), (4, .long x6_4), (8, .long v18_11)]) hx hb dX12_divisor_26 hl15 (by decide) rfl (fun ls hl16 => ?_)
        clear hl15
        refine lv_goto (tgt := 6) hx hb dX12_divisor_28 (by decide) ?_
        exact ih6 x6_4 v18_11 _ _ _ h13 hVB6 (lv_sub hl16 [1, 0] rfl)
  exact L6 FU p1 p2 _ _ _ h hV (lv_sub hl2 [1, 0] rfl)
abbrev r_X12_canLook : Room := { frames := 1, cells := 0, slots := 0, locals := 25 }
set_option maxHeartbeats 4000000 in
set_option maxRecDepth 100000 in
theorem c_X12_canLook (l : Launch) (E : kE) (sz : Nat) (p1 : Int32) (p2 : Int32) (p3 : Int32) (r : Int32) (h : f_X12_canLook p1 p2 p3 = some (r)) : kMi l yX12_canLook cX12_canLook 3 (some .boolean) r_X12_canLook [.int p1, .int p2, .int p3] E [] sz 0 0 (fun x (_ : Unit) => x = r) (fun _ => []) := by
  refine kmeti rfl (Nat.le_of_ble_eq_true rfl) ?_
  intro p e s m args below meth c ls A Q X hV hret hl
  have X : kC p s m c cX12_canLook 3 RX12 args E A := X
  have hx := X.1
  have hb := X.2.1
  have hl : lv_has ls 3 [(0, .int p1), (1, .int p2), (2, .int p3)] := hl
  rw [f_X12_canLook] at h
  refine lv_iload_n hx hb dX12_canLook_0 rfl (lv_at hl 0 rfl) ?_
  refine lv_i2l (v := Int32.toInt64 p1) hx hb dX12_canLook_1 rfl ?_
  refine lv_lconst (v := 0) hx hb dX12_canLook_2 (by decide) ?_
  refine lv_ldc2 (v := 20) hx hb X.2.2.2.1 (X.2.2.2.2.1 _ mw_1285) dX12_canLook_3 ?_
  obtain ⟨r6_1, hc2, h3⟩ := cb1_s h
  clear h
  refine kgoiE (krunS (rest := []) X hV [] (c_X12_lies l E _ (Int32.toInt64 p1) 0 20 r6_1 hc2) mw_224 kb_X12_lies (by decide) rfl rfl hl.1 rfl (Nat.le_of_ble_eq_true rfl) dX12_canLook_6 (by decide)) X hV [] [] rfl rfl rfl (by decide) (fun u H locs hV4 => ?_)
  have hV4 : kV E A s.heap H locs [] := hV4.sub [] rfl rfl
  clear hV
  refine lv_if_eq (tgt := 44) hx hb dX12_canLook_9 (by decide) (fun c6 => ?_) (fun c6 => ?_)
  · have h7 := itS c6 h3
    clear h3 c6
    refine lv_iconst (v := 0) hx hb dX12_canLook_44 (by decide) ?_
    have q9 := tup1_s h7
    clear h7
    exact hret _ () _ _ _ _ q9 rfl hV4 dX12_canLook_45
  · have h8 := ieS c6 h3
    clear h3 c6
    refine lv_iload_n hx hb dX12_canLook_12 rfl (lv_at hl 1 rfl) ?_
    refine lv_i2l (v := Int32.toInt64 p2) hx hb dX12_canLook_13 rfl ?_
    refine lv_lconst (v := 0) hx hb dX12_canLook_14 (by decide) ?_
    refine lv_ldc2 (v := 20) hx hb X.2.2.2.1 (X.2.2.2.2.1 _ mw_1285) dX12_canLook_15 ?_
    obtain ⟨r18_10, hc11, h12⟩ := cb1_s h8
    clear h8
    refine kgoiE (krunS (rest := []) X hV4 [] (c_X12_lies l E _ (Int32.toInt64 p2) 0 20 r18_10 hc11) mw_224 kb_X12_lies (by decide) rfl rfl hl.1 rfl (Nat.le_of_ble_eq_true rfl) dX12_canLook_18 (by decide)) X hV4 [] [] rfl rfl rfl (by decide) (fun u H locs hV13 => ?_)
    have hV13 : kV E A s.heap H locs [] := hV13.sub [] rfl rfl
    clear hV4
    refine lv_if_eq (tgt := 44) hx hb dX12_canLook_21 (by decide) (fun c15 => ?_) (fun c15 => ?_)
    · have h16 := itS c15 h12
      clear h12 c15
      refine lv_iconst (v := 0) hx hb dX12_canLook_44 (by decide) ?_
      have q18 := tup1_s h16
      clear h16
      exact hret _ () _ _ _ _ q18 rfl hV13 dX12_canLook_45
    · have h17 := ieS c15 h12
      clear h12 c15
      refine lv_iload_n hx hb dX12_canLook_24 rfl (lv_at hl 2 rfl) ?_
      refine lv_i2l (v := Int32.toInt64 p3) hx hb dX12_canLook_25 rfl ?_
      refine lv_lconst (v := 0) hx hb dX12_canLook_26 (by decide) ?_
      refine lv_iload_n hx hb dX12_canLook_27 rfl (lv_at hl 0 rfl) ?_
      refine lv_i2l (v := Int32.toInt64 p1) hx hb dX12_canLook_28 rfl ?_
      obtain ⟨r29_19, hc20, h21⟩ := cb1_s h17
      clear h17
      refine kgoiE (krunS (rest := []) X hV13 [] (c_X12_lies l E _ (Int32.toInt64 p3) 0 (Int32.toInt64 p1) r29_19 hc20) mw_224 kb_X12_lies (by decide) rfl rfl hl.1 rfl (Nat.le_of_ble_eq_true rfl) dX12_canLook_29 (by decide)) X hV13 [] [] rfl rfl rfl (by decide) (fun u H locs hV22 => ?_)
      have hV22 : kV E A s.heap H locs [] := hV22.sub [] rfl rfl
      clear hV13
      refine lv_if_eq (tgt := 44) hx hb dX12_canLook_32 (by decide) (fun c24 => ?_) (fun c24 => ?_)
      · have h25 := itS c24 h21
        clear h21 c24
        refine lv_iconst (v := 0) hx hb dX12_canLook_44 (by decide) ?_
        have q27 := tup1_s h25
        clear h25
        exact hret _ () _ _ _ _ q27 rfl hV22 dX12_canLook_45
      · have h26 := ieS c24 h21
        clear h21 c24
        refine lv_iload_n hx hb dX12_canLook_35 rfl (lv_at hl 2 rfl) ?_
        refine lv_iload_n hx hb dX12_canLook_36 rfl (lv_at hl 1 rfl) ?_
        refine lv_icmp_gt (tgt := 44) hx hb dX12_canLook_37 (by decide) (fun c28 => ?_) (fun c28 => ?_)
        · have h29 := itS c28 h26
          clear h26 c28
          refine lv_iconst (v := 0) hx hb dX12_canLook_44 (by decide) ?_
          have q31 := tup1_s h29
          clear h29
          exact hret _ () _ _ _ _ q31 rfl hV22 dX12_canLook_45
        · have h30 := ieS c28 h26
          clear h26 c28
          refine lv_iconst (v := 1) hx hb dX12_canLook_40 (by decide) ?_
          refine lv_goto (tgt := 45) hx hb dX12_canLook_41 (by decide) ?_
          have q32 := tup1_s h30
          clear h30
          exact hret _ () _ _ _ _ q32 rfl hV22 dX12_canLook_45
abbrev r_X12_waysOf : Room := { frames := 1, cells := 0, slots := 0, locals := 24 }
set_option maxHeartbeats 4000000 in
set_option maxRecDepth 100000 in
theorem c_X12_waysOf (l : Launch) (E : kE) (sz : Nat) (p1 : Int32) (p2 : Int32) (p3 : Int32) (p4 : Int32) (r : Int64) (h : f_X12_waysOf p1 p2 p3 p4 = some (r)) : kMl l yX12_waysOf cX12_waysOf 4 (some .long) r_X12_waysOf [.int p1, .int p2, .int p3, .int p4] E [] sz 0 0 (fun x (_ : Unit) => x = r) (fun _ => []) := by
  refine kmetl rfl (Nat.le_of_ble_eq_true rfl) ?_
  intro p e s m args below meth c ls A Q X hV hret hl
  have X : kC p s m c cX12_waysOf 4 RX12 args E A := X
  have hx := X.1
  have hb := X.2.1
  have hl : lv_has ls 4 [(0, .int p1), (1, .int p2), (2, .int p3), (3, .int p4)] := hl
  rw [f_X12_waysOf] at h
  refine lv_iload_n hx hb dX12_waysOf_0 rfl (lv_at hl 0 rfl) ?_
  refine lv_iload_n hx hb dX12_waysOf_1 rfl (lv_at hl 2 rfl) ?_
  obtain ⟨r2_1, hc2, h3⟩ := cb1_s h
  clear h
  refine kgolE (krunS (rest := []) X hV [] (c_X12_choices l E _ p1 p3 r2_1 hc2) mw_1289 kb_X12_choices (by decide) rfl rfl hl.1 rfl (Nat.le_of_ble_eq_true rfl) dX12_waysOf_2 (by decide)) X hV [] [] rfl rfl rfl (by decide) (fun u H locs hV4 => ?_)
  have hV4 : kV E A s.heap H locs [] := hV4.sub [] rfl rfl
  clear hV
  refine lv_iload_n hx hb dX12_waysOf_5 rfl (lv_at hl 3 rfl) ?_
  refine lv_iload_n hx hb dX12_waysOf_6 rfl (lv_at hl 0 rfl) ?_
  refine lv_isub hx hb dX12_waysOf_7 ?_
  refine lv_iload_n hx hb dX12_waysOf_8 rfl (lv_at hl 1 rfl) ?_
  refine lv_iload_n hx hb dX12_waysOf_9 rfl (lv_at hl 2 rfl) ?_
  refine lv_isub hx hb dX12_waysOf_10 ?_
  obtain ⟨r11_6, hc7, h8⟩ := cb1_s h3
  clear h3
  refine kgolE (krunS (rest := [.long r2_1]) X hV4 [] (c_X12_choices l E _ (p4 - p1) (p2 - p3) r11_6 hc7) mw_1289 kb_X12_choices (by decide) rfl rfl hl.1 rfl (Nat.le_of_ble_eq_true rfl) dX12_waysOf_11 (by decide)) X hV4 [] [] rfl rfl rfl (by decide) (fun u H locs hV9 => ?_)
  have hV9 : kV E A s.heap H locs [] := hV9.sub [] rfl rfl
  clear hV4
  refine lv_lmul hx hb dX12_waysOf_14 ?_
  have q11 := tup1_s h8
  clear h8
  exact hret _ () _ _ _ _ q11 hV9 dX12_waysOf_15
abbrev r_X12_odds : Room := { frames := 2, cells := 0, slots := 0, locals := 47 }
set_option maxHeartbeats 4000000 in
set_option maxRecDepth 100000 in
theorem c_X12_odds (l : Launch) (E : kE) (sz : Nat) (a0 : Nat) (w0_0 w0_1 w0_2 w0_3 w0_4 w0_5 w0_6 w0_7 w0_8 w0_9 w0_10 w0_11 w0_12 w0_13 w0_14 w0_15 w0_16 w0_17 w0_18 w0_19 w0_20 w0_21 w0_22 w0_23 w0_24 w0_25 w0_26 w0_27 w0_28 w0_29 w0_30 w0_31 w0_32 w0_33 w0_34 w0_35 w0_36 w0_37 w0_38 w0_39 w0_40 w0_41 w0_42 w0_43 w0_44 w0_45 w0_46 w0_47 w0_48 w0_49 w0_50 w0_51 w0_52 w0_53 w0_54 w0_55 w0_56 w0_57 w0_58 w0_59 w0_60 w0_61 w0_62 w0_63 w0_64 w0_65 w0_66 : Value) (p1 : Int32) (p2 : Int32) (p3 : Int32) (p4 : Int32) (p5 : Int32) (r : Int64) (h : f_X12_odds p1 p2 p3 p4 p5 = some (r)) : kMl l yX12_odds cX12_odds 12 (some .long) r_X12_odds [.ref a0, .int p1, .int p2, .int p3, .int p4, .int p5] E [(a0, .inr (12, [w0_0, w0_1, w0_2, w0_3, w0_4, w0_5, w0_6, w0_7, w0_8, w0_9, w0_10, w0_11, w0_12, w0_13, w0_14, w0_15, w0_16, w0_17, w0_18, w0_19, w0_20, w0_21, w0_22, w0_23, w0_24, w0_25, w0_26, w0_27, w0_28, w0_29, w0_30, w0_31, w0_32, w0_33, w0_34, w0_35, w0_36, w0_37, w0_38, w0_39, w0_40, w0_41, w0_42, w0_43, w0_44, w0_45, w0_46, w0_47, w0_48, w0_49, w0_50, w0_51, w0_52, w0_53, w0_54, w0_55, w0_56, w0_57, w0_58, w0_59, w0_60, w0_61, w0_62, w0_63, w0_64, w0_65, w0_66]))] sz 0 0 (fun x (_ : Unit) => x = r) (fun _ => [(a0, .inr (12, [w0_0, w0_1, w0_2, w0_3, w0_4, w0_5, w0_6, w0_7, w0_8, w0_9, w0_10, w0_11, w0_12, w0_13, w0_14, w0_15, w0_16, w0_17, w0_18, w0_19, w0_20, w0_21, w0_22, w0_23, w0_24, w0_25, w0_26, w0_27, w0_28, w0_29, w0_30, w0_31, w0_32, w0_33, w0_34, w0_35, w0_36, w0_37, w0_38, w0_39, w0_40, w0_41, w0_42, w0_43, w0_44, w0_45, w0_46, w0_47, w0_48, w0_49, w0_50, w0_51, w0_52, w0_53, w0_54, w0_55, w0_56, w0_57, w0_58, w0_59, w0_60, w0_61, w0_62, w0_63, w0_64, w0_65, w0_66]))]) := by
  refine kmetl rfl (Nat.le_of_ble_eq_true rfl) ?_
  intro p e s m args below meth c ls A Q X hV hret hl
  have X : kC p s m c cX12_odds 12 RX12 args E A := X
  have hx := X.1
  have hb := X.2.1
  have hl : lv_has ls 12 [(0, .ref a0), (1, .int p1), (2, .int p2), (3, .int p3), (4, .int p4), (5, .int p5)] := hl
  rw [f_X12_odds] at h
  refine lv_iload_n hx hb dX12_odds_0 rfl (lv_at hl 1 rfl) ?_
  refine lv_iload_n hx hb dX12_odds_1 rfl (lv_at hl 2 rfl) ?_
  refine lv_iload_n hx hb dX12_odds_2 rfl (lv_at hl 3 rfl) ?_
  obtain ⟨r3_1, hc2, h3⟩ := cb1_s h
  clear h
  refine kgoiE (krunS (rest := []) X hV [] (c_X12_canLook l E _ p1 p2 p3 r3_1 hc2) mw_1282 kb_X12_canLook (by decide) rfl rfl hl.1 rfl (Nat.le_of_ble_eq_true rfl) dX12_odds_3 (by decide)) X hV [] [0] rfl rfl rfl (by decide) (fun u H locs hV4 => ?_)
  have hV4 : kV E A s.heap H locs [(a0, .inr (12, [w0_0, w0_1, w0_2, w0_3, w0_4, w0_5, w0_6, w0_7, w0_8, w0_9, w0_10, w0_11, w0_12, w0_13, w0_14, w0_15, w0_16, w0_17, w0_18, w0_19, w0_20, w0_21, w0_22, w0_23, w0_24, w0_25, w0_26, w0_27, w0_28, w0_29, w0_30, w0_31, w0_32, w0_33, w0_34, w0_35, w0_36, w0_37, w0_38, w0_39, w0_40, w0_41, w0_42, w0_43, w0_44, w0_45, w0_46, w0_47, w0_48, w0_49, w0_50, w0_51, w0_52, w0_53, w0_54, w0_55, w0_56, w0_57, w0_58, w0_59, w0_60, w0_61, w0_62, w0_63, w0_64, w0_65, w0_66]))] := hV4.sub [0] rfl rfl
  clear hV
  refine lv_if_eq (tgt := 38) hx hb dX12_odds_6 (by decide) (fun c6 => ?_) (fun c6 => ?_)
  · have h7 := itS c6 h3
    clear h3 c6
    refine lv_ldc2 (v := (-1)) hx hb X.2.2.2.1 (X.2.2.2.2.1 _ mw_1281) dX12_odds_38 ?_
    have q9 := tup1_s h7
    clear h7
    exact hret _ () _ _ _ _ q9 hV4 dX12_odds_41
  · have h8 := ieS c6 h3
    clear h3 c6
    refine lv_iload hx hb dX12_odds_9 (lv_at hl 4 rfl) ?_
    refine lv_i2l (v := Int32.toInt64 p4) hx hb dX12_odds_11 rfl ?_
    refine lv_iload_n hx hb dX12_odds_12 rfl (lv_at hl 1 rfl) ?_
    refine lv_iload_n hx hb dX12_odds_13 rfl (lv_at hl 2 rfl) ?_
    refine lv_iadd hx hb dX12_odds_14 ?_
    refine lv_iload_n hx hb dX12_odds_15 rfl (lv_at hl 3 rfl) ?_
    refine lv_isub hx hb dX12_odds_16 ?_
    refine lv_i2l (v := Int32.toInt64 ((p1 + p2) - p3)) hx hb dX12_odds_17 rfl ?_
    refine lv_ldc2 (v := 40) hx hb X.2.2.2.1 (X.2.2.2.2.1 _ mw_1280) dX12_odds_18 ?_
    obtain ⟨r21_10, hc11, h12⟩ := cb1_s h8
    clear h8
    refine kgoiE (krunS (rest := []) X hV4 [] (c_X12_lies l E _ (Int32.toInt64 p4) (Int32.toInt64 ((p1 + p2) - p3)) 40 r21_10 hc11) mw_224 kb_X12_lies (by decide) rfl rfl hl.1 rfl (Nat.le_of_ble_eq_true rfl) dX12_odds_21 (by decide)) X hV4 [] [0] rfl rfl rfl (by decide) (fun u H locs hV13 => ?_)
    have hV13 : kV E A s.heap H locs [(a0, .inr (12, [w0_0, w0_1, w0_2, w0_3, w0_4, w0_5, w0_6, w0_7, w0_8, w0_9, w0_10, w0_11, w0_12, w0_13, w0_14, w0_15, w0_16, w0_17, w0_18, w0_19, w0_20, w0_21, w0_22, w0_23, w0_24, w0_25, w0_26, w0_27, w0_28, w0_29, w0_30, w0_31, w0_32, w0_33, w0_34, w0_35, w0_36, w0_37, w0_38, w0_39, w0_40, w0_41, w0_42, w0_43, w0_44, w0_45, w0_46, w0_47, w0_48, w0_49, w0_50, w0_51, w0_52, w0_53, w0_54, w0_55, w0_56, w0_57, w0_58, w0_59, w0_60, w0_61, w0_62, w0_63, w0_64, w0_65, w0_66]))] := hV13.sub [0] rfl rfl
    clear hV4
    refine lv_if_eq (tgt := 38) hx hb dX12_odds_24 (by decide) (fun c15 => ?_) (fun c15 => ?_)
    · have h16 := itS c15 h12
      clear h12 c15
      refine lv_ldc2 (v := (-1)) hx hb X.2.2.2.1 (X.2.2.2.2.1 _ mw_1281) dX12_odds_38 ?_
      have q18 := tup1_s h16
      clear h16
      exact hret _ () _ _ _ _ q18 hV13 dX12_odds_41
    · have h17 := ieS c15 h12
      clear h12 c15
      refine lv_iload hx hb dX12_odds_27 (lv_at hl 5 rfl) ?_
      refine lv_i2l (v := Int32.toInt64 p5) hx hb dX12_odds_29 rfl ?_
      refine lv_lconst (v := 0) hx hb dX12_odds_30 (by decide) ?_
      refine lv_lconst (v := 1) hx hb dX12_odds_31 (by decide) ?_
      obtain ⟨r32_19, hc20, h21⟩ := cb1_s h17
      clear h17
      refine kgoiE (krunS (rest := []) X hV13 [] (c_X12_lies l E _ (Int32.toInt64 p5) 0 1 r32_19 hc20) mw_224 kb_X12_lies (by decide) rfl rfl hl.1 rfl (Nat.le_of_ble_eq_true rfl) dX12_odds_32 (by decide)) X hV13 [] [0] rfl rfl rfl (by decide) (fun u H locs hV22 => ?_)
      have hV22 : kV E A s.heap H locs [(a0, .inr (12, [w0_0, w0_1, w0_2, w0_3, w0_4, w0_5, w0_6, w0_7, w0_8, w0_9, w0_10, w0_11, w0_12, w0_13, w0_14, w0_15, w0_16, w0_17, w0_18, w0_19, w0_20, w0_21, w0_22, w0_23, w0_24, w0_25, w0_26, w0_27, w0_28, w0_29, w0_30, w0_31, w0_32, w0_33, w0_34, w0_35, w0_36, w0_37, w0_38, w0_39, w0_40, w0_41, w0_42, w0_43, w0_44, w0_45, w0_46, w0_47, w0_48, w0_49, w0_50, w0_51, w0_52, w0_53, w0_54, w0_55, w0_56, w0_57, w0_58, w0_59, w0_60, w0_61, w0_62, w0_63, w0_64, w0_65, w0_66]))] := hV22.sub [0] rfl rfl
      clear hV13
      refine lv_if_ne (tgt := 42) hx hb dX12_odds_35 (by decide) (fun c24 => ?_) (fun c24 => ?_)
      · have h25 := ieS c24 h21
        clear h21 c24
        refine lv_iload_n hx hb dX12_odds_42 rfl (lv_at hl 1 rfl) ?_
        refine lv_iload_n hx hb dX12_odds_43 rfl (lv_at hl 2 rfl) ?_
        refine lv_iload_n hx hb dX12_odds_44 rfl (lv_at hl 3 rfl) ?_
        refine lv_iload hx hb dX12_odds_45 (lv_at hl 4 rfl) ?_
        obtain ⟨r47_27, hc28, h29⟩ := cb1_s h25
        clear h25
        refine kgolE (krunS (rest := []) X hV22 [] (c_X12_waysOf l E _ p1 p2 p3 p4 r47_27 hc28) mw_1286 kb_X12_waysOf (by decide) rfl rfl hl.1 rfl (Nat.le_of_ble_eq_true rfl) dX12_odds_47 (by decide)) X hV22 [] [0] rfl rfl rfl (by decide) (fun u H locs hV30 => ?_)
        have hV30 : kV E A s.heap H locs [(a0, .inr (12, [w0_0, w0_1, w0_2, w0_3, w0_4, w0_5, w0_6, w0_7, w0_8, w0_9, w0_10, w0_11, w0_12, w0_13, w0_14, w0_15, w0_16, w0_17, w0_18, w0_19, w0_20, w0_21, w0_22, w0_23, w0_24, w0_25, w0_26, w0_27, w0_28, w0_29, w0_30, w0_31, w0_32, w0_33, w0_34, w0_35, w0_36, w0_37, w0_38, w0_39, w0_40, w0_41, w0_42, w0_43, w0_44, w0_45, w0_46, w0_47, w0_48, w0_49, w0_50, w0_51, w0_52, w0_53, w0_54, w0_55, w0_56, w0_57, w0_58, w0_59, w0_60, w0_61, w0_62, w0_63, w0_64, w0_65, w0_66]))] := hV30.sub [0] rfl rfl
        clear hV22
        refine lv_lstore (lv' := [(6, .long r47_27), (0, .ref a0), (1, .int p1), (2, .int p2), (3, .int p3), (4, .int p4), (5, .int p5)]) hx hb dX12_odds_50 hl (by decide) rfl (fun ls hl32 => ?_)
        clear hl
        refine lv_iload hx hb dX12_odds_52 (lv_at hl32 5 rfl) ?_
        refine lv_iload_n hx hb dX12_odds_54 rfl (lv_at hl32 3 rfl) ?_
        obtain ⟨r55_33, hc34, h35⟩ := cb1_s h29
        clear h29
        refine kgolE (krunS (rest := []) X hV30 [] (c_X12_choices l E _ p4 p2 r55_33 hc34) mw_1289 kb_X12_choices (by decide) rfl rfl hl32.1 rfl (Nat.le_of_ble_eq_true rfl) dX12_odds_55 (by decide)) X hV30 [] [0] rfl rfl rfl (by decide) (fun u H locs hV36 => ?_)
        have hV36 : kV E A s.heap H locs [(a0, .inr (12, [w0_0, w0_1, w0_2, w0_3, w0_4, w0_5, w0_6, w0_7, w0_8, w0_9, w0_10, w0_11, w0_12, w0_13, w0_14, w0_15, w0_16, w0_17, w0_18, w0_19, w0_20, w0_21, w0_22, w0_23, w0_24, w0_25, w0_26, w0_27, w0_28, w0_29, w0_30, w0_31, w0_32, w0_33, w0_34, w0_35, w0_36, w0_37, w0_38, w0_39, w0_40, w0_41, w0_42, w0_43, w0_44, w0_45, w0_46, w0_47, w0_48, w0_49, w0_50, w0_51, w0_52, w0_53, w0_54, w0_55, w0_56, w0_57, w0_58, w0_59, w0_60, w0_61, w0_62, w0_63, w0_64, w0_65, w0_66]))] := hV36.sub [0] rfl rfl
        clear hV30
        refine lv_lstore (lv' := [(8, .long r55_33), (6, .long r47_27), (0, .ref a0), (1, .int p1), (2, .int p2), (3, .int p3), (4, .int p4), (5, .int p5)]) hx hb dX12_odds_58 hl32 (by decide) rfl (fun ls hl38 => ?_)
        clear hl32
        refine lv_lload hx hb dX12_odds_60 (lv_at hl38 1 rfl) ?_
        refine lv_lload hx hb dX12_odds_62 (lv_at hl38 0 rfl) ?_
        obtain ⟨r64_39, hc40, h41⟩ := cb1_s h35
        clear h35
        refine kgolE (krunS (rest := []) X hV36 [] (c_X12_divisor l E _ r47_27 r55_33 r64_39 hc40) mw_1292 kb_X12_divisor (by decide) rfl rfl hl38.1 rfl (Nat.le_of_ble_eq_true rfl) dX12_odds_64 (by decide)) X hV36 [] [0] rfl rfl rfl (by decide) (fun u H locs hV42 => ?_)
        have hV42 : kV E A s.heap H locs [(a0, .inr (12, [w0_0, w0_1, w0_2, w0_3, w0_4, w0_5, w0_6, w0_7, w0_8, w0_9, w0_10, w0_11, w0_12, w0_13, w0_14, w0_15, w0_16, w0_17, w0_18, w0_19, w0_20, w0_21, w0_22, w0_23, w0_24, w0_25, w0_26, w0_27, w0_28, w0_29, w0_30, w0_31, w0_32, w0_33, w0_34, w0_35, w0_36, w0_37, w0_38, w0_39, w0_40, w0_41, w0_42, w0_43, w0_44, w0_45, w0_46, w0_47, w0_48, w0_49, w0_50, w0_51, w0_52, w0_53, w0_54, w0_55, w0_56, w0_57, w0_58, w0_59, w0_60, w0_61, w0_62, w0_63, w0_64, w0_65, w0_66]))] := hV42.sub [0] rfl rfl
        clear hV36
        refine lv_lstore (lv' := [(10, .long r64_39), (8, .long r55_33), (6, .long r47_27), (0, .ref a0), (1, .int p1), (2, .int p2), (3, .int p3), (4, .int p4), (5, .int p5)]) hx hb dX12_odds_67 hl38 (by decide) rfl (fun ls hl44 => ?_)
        clear hl38
        refine lv_iload hx hb dX12_odds_69 (lv_at hl44 8 rfl) ?_
        refine lv_if_ne (tgt := 82) hx hb dX12_odds_71 (by decide) (fun c45 => ?_) (fun c45 => ?_)
        · have h46 := ieS c45 h41
          clear h41 c45
          refine lv_lload hx hb dX12_odds_82 (lv_at hl44 1 rfl) ?_
          refine lv_lload hx hb dX12_odds_84 (lv_at hl44 0 rfl) ?_
          obtain ⟨hn48, h49⟩ := dvL_s h46
          clear h46
          refine lv_ldiv hx hb dX12_odds_86 hn48 ?_
          have q50 := tup1_s h49
          clear h49
          exact hret _ () _ _ _ _ q50 hV42 dX12_odds_87
        · have h47 := itS c45 h41
          clear h41 c45
          refine lv_lload hx hb dX12_odds_74 (lv_at hl44 2 rfl) ?_
          refine lv_lload hx hb dX12_odds_76 (lv_at hl44 0 rfl) ?_
          obtain ⟨hn51, h52⟩ := dvL_s h47
          clear h47
          refine lv_ldiv hx hb dX12_odds_78 hn51 ?_
          refine lv_goto (tgt := 87) hx hb dX12_odds_79 (by decide) ?_
          have q53 := tup1_s h52
          clear h52
          exact hret _ () _ _ _ _ q53 hV42 dX12_odds_87
      · have h26 := itS c24 h21
        clear h21 c24
        refine lv_ldc2 (v := (-1)) hx hb X.2.2.2.1 (X.2.2.2.2.1 _ mw_1281) dX12_odds_38 ?_
        have q54 := tup1_s h26
        clear h26
        exact hret _ () _ _ _ _ q54 hV22 dX12_odds_41
abbrev r_X12_more : Room := { frames := 2, cells := 0, slots := 0, locals := 47 }
set_option maxHeartbeats 4000000 in
set_option maxRecDepth 100000 in
theorem c_X12_more (l : Launch) (E : kE) (sz : Nat) (a0 : Nat) (w0_0 w0_1 w0_2 w0_3 w0_4 w0_5 w0_6 w0_7 w0_8 w0_9 w0_10 w0_11 w0_12 w0_13 w0_14 w0_15 w0_16 w0_17 w0_18 w0_19 w0_20 w0_21 w0_22 w0_23 w0_24 w0_25 w0_26 w0_27 w0_28 w0_29 w0_30 w0_31 w0_32 w0_33 w0_34 w0_35 w0_36 w0_37 w0_38 w0_39 w0_40 w0_41 w0_42 w0_43 w0_44 w0_45 w0_46 w0_47 w0_48 w0_49 w0_50 w0_51 w0_52 w0_53 w0_54 w0_55 w0_56 w0_57 w0_58 w0_59 w0_60 w0_61 w0_62 w0_63 w0_64 w0_65 w0_66 : Value) (p1 : Int32) (p2 : Int32) (p3 : Int32) (p4 : Int32) (p5 : Int32) (r : Int32) (h : f_X12_more p1 p2 p3 p4 p5 = some (r)) : kMi l yX12_more cX12_more 8 (some .int) r_X12_more [.ref a0, .int p1, .int p2, .int p3, .int p4, .int p5] E [(a0, .inr (12, [w0_0, w0_1, w0_2, w0_3, w0_4, w0_5, w0_6, w0_7, w0_8, w0_9, w0_10, w0_11, w0_12, w0_13, w0_14, w0_15, w0_16, w0_17, w0_18, w0_19, w0_20, w0_21, w0_22, w0_23, w0_24, w0_25, w0_26, w0_27, w0_28, w0_29, w0_30, w0_31, w0_32, w0_33, w0_34, w0_35, w0_36, w0_37, w0_38, w0_39, w0_40, w0_41, w0_42, w0_43, w0_44, w0_45, w0_46, w0_47, w0_48, w0_49, w0_50, w0_51, w0_52, w0_53, w0_54, w0_55, w0_56, w0_57, w0_58, w0_59, w0_60, w0_61, w0_62, w0_63, w0_64, w0_65, w0_66]))] sz 0 0 (fun x (_ : Unit) => x = r) (fun _ => [(a0, .inr (12, [w0_0, w0_1, w0_2, w0_3, w0_4, w0_5, w0_6, w0_7, w0_8, w0_9, w0_10, w0_11, w0_12, w0_13, w0_14, w0_15, w0_16, w0_17, w0_18, w0_19, w0_20, w0_21, w0_22, w0_23, w0_24, w0_25, w0_26, w0_27, w0_28, w0_29, w0_30, w0_31, w0_32, w0_33, w0_34, w0_35, w0_36, w0_37, w0_38, w0_39, w0_40, w0_41, w0_42, w0_43, w0_44, w0_45, w0_46, w0_47, w0_48, w0_49, w0_50, w0_51, w0_52, w0_53, w0_54, w0_55, w0_56, w0_57, w0_58, w0_59, w0_60, w0_61, w0_62, w0_63, w0_64, w0_65, w0_66]))]) := by
  refine kmeti rfl (Nat.le_of_ble_eq_true rfl) ?_
  intro p e s m args below meth c ls A Q X hV hret hl
  have X : kC p s m c cX12_more 8 RX12 args E A := X
  have hx := X.1
  have hb := X.2.1
  have hl : lv_has ls 8 [(0, .ref a0), (1, .int p1), (2, .int p2), (3, .int p3), (4, .int p4), (5, .int p5)] := hl
  rw [f_X12_more] at h
  refine lv_iload_n hx hb dX12_more_0 rfl (lv_at hl 1 rfl) ?_
  refine lv_iload_n hx hb dX12_more_1 rfl (lv_at hl 2 rfl) ?_
  refine lv_iload_n hx hb dX12_more_2 rfl (lv_at hl 3 rfl) ?_
  obtain ⟨r3_1, hc2, h3⟩ := cb1_s h
  clear h
  refine kgoiE (krunS (rest := []) X hV [] (c_X12_canLook l E _ p1 p2 p3 r3_1 hc2) mw_1282 kb_X12_canLook (by decide) rfl rfl hl.1 rfl (Nat.le_of_ble_eq_true rfl) dX12_more_3 (by decide)) X hV [] [0] rfl rfl rfl (by decide) (fun u H locs hV4 => ?_)
  have hV4 : kV E A s.heap H locs [(a0, .inr (12, [w0_0, w0_1, w0_2, w0_3, w0_4, w0_5, w0_6, w0_7, w0_8, w0_9, w0_10, w0_11, w0_12, w0_13, w0_14, w0_15, w0_16, w0_17, w0_18, w0_19, w0_20, w0_21, w0_22, w0_23, w0_24, w0_25, w0_26, w0_27, w0_28, w0_29, w0_30, w0_31, w0_32, w0_33, w0_34, w0_35, w0_36, w0_37, w0_38, w0_39, w0_40, w0_41, w0_42, w0_43, w0_44, w0_45, w0_46, w0_47, w0_48, w0_49, w0_50, w0_51, w0_52, w0_53, w0_54, w0_55, w0_56, w0_57, w0_58, w0_59, w0_60, w0_61, w0_62, w0_63, w0_64, w0_65, w0_66]))] := hV4.sub [0] rfl rfl
  clear hV
  refine lv_if_eq (tgt := 33) hx hb dX12_more_6 (by decide) (fun c6 => ?_) (fun c6 => ?_)
  · have h7 := itS c6 h3
    clear h3 c6
    refine lv_iconst (v := (-1)) hx hb dX12_more_33 (by decide) ?_
    have q9 := tup1_s h7
    clear h7
    exact hret _ () _ _ _ _ q9 rfl hV4 dX12_more_34
  · have h8 := ieS c6 h3
    clear h3 c6
    refine lv_iload hx hb dX12_more_9 (lv_at hl 4 rfl) ?_
    refine lv_i2l (v := Int32.toInt64 p4) hx hb dX12_more_11 rfl ?_
    refine lv_lconst (v := 1) hx hb dX12_more_12 (by decide) ?_
    refine lv_ldc2 (v := 1000) hx hb X.2.2.2.1 (X.2.2.2.2.1 _ mw_1010) dX12_more_13 ?_
    obtain ⟨r16_10, hc11, h12⟩ := cb1_s h8
    clear h8
    refine kgoiE (krunS (rest := []) X hV4 [] (c_X12_lies l E _ (Int32.toInt64 p4) 1 1000 r16_10 hc11) mw_224 kb_X12_lies (by decide) rfl rfl hl.1 rfl (Nat.le_of_ble_eq_true rfl) dX12_more_16 (by decide)) X hV4 [] [0] rfl rfl rfl (by decide) (fun u H locs hV13 => ?_)
    have hV13 : kV E A s.heap H locs [(a0, .inr (12, [w0_0, w0_1, w0_2, w0_3, w0_4, w0_5, w0_6, w0_7, w0_8, w0_9, w0_10, w0_11, w0_12, w0_13, w0_14, w0_15, w0_16, w0_17, w0_18, w0_19, w0_20, w0_21, w0_22, w0_23, w0_24, w0_25, w0_26, w0_27, w0_28, w0_29, w0_30, w0_31, w0_32, w0_33, w0_34, w0_35, w0_36, w0_37, w0_38, w0_39, w0_40, w0_41, w0_42, w0_43, w0_44, w0_45, w0_46, w0_47, w0_48, w0_49, w0_50, w0_51, w0_52, w0_53, w0_54, w0_55, w0_56, w0_57, w0_58, w0_59, w0_60, w0_61, w0_62, w0_63, w0_64, w0_65, w0_66]))] := hV13.sub [0] rfl rfl
    clear hV4
    refine lv_if_eq (tgt := 33) hx hb dX12_more_19 (by decide) (fun c15 => ?_) (fun c15 => ?_)
    · have h16 := itS c15 h12
      clear h12 c15
      refine lv_iconst (v := (-1)) hx hb dX12_more_33 (by decide) ?_
      have q18 := tup1_s h16
      clear h16
      exact hret _ () _ _ _ _ q18 rfl hV13 dX12_more_34
    · have h17 := ieS c15 h12
      clear h12 c15
      refine lv_iload hx hb dX12_more_22 (lv_at hl 5 rfl) ?_
      refine lv_i2l (v := Int32.toInt64 p5) hx hb dX12_more_24 rfl ?_
      refine lv_lconst (v := 0) hx hb dX12_more_25 (by decide) ?_
      refine lv_lconst (v := 1) hx hb dX12_more_26 (by decide) ?_
      obtain ⟨r27_19, hc20, h21⟩ := cb1_s h17
      clear h17
      refine kgoiE (krunS (rest := []) X hV13 [] (c_X12_lies l E _ (Int32.toInt64 p5) 0 1 r27_19 hc20) mw_224 kb_X12_lies (by decide) rfl rfl hl.1 rfl (Nat.le_of_ble_eq_true rfl) dX12_more_27 (by decide)) X hV13 [] [0] rfl rfl rfl (by decide) (fun u H locs hV22 => ?_)
      have hV22 : kV E A s.heap H locs [(a0, .inr (12, [w0_0, w0_1, w0_2, w0_3, w0_4, w0_5, w0_6, w0_7, w0_8, w0_9, w0_10, w0_11, w0_12, w0_13, w0_14, w0_15, w0_16, w0_17, w0_18, w0_19, w0_20, w0_21, w0_22, w0_23, w0_24, w0_25, w0_26, w0_27, w0_28, w0_29, w0_30, w0_31, w0_32, w0_33, w0_34, w0_35, w0_36, w0_37, w0_38, w0_39, w0_40, w0_41, w0_42, w0_43, w0_44, w0_45, w0_46, w0_47, w0_48, w0_49, w0_50, w0_51, w0_52, w0_53, w0_54, w0_55, w0_56, w0_57, w0_58, w0_59, w0_60, w0_61, w0_62, w0_63, w0_64, w0_65, w0_66]))] := hV22.sub [0] rfl rfl
      clear hV13
      refine lv_if_ne (tgt := 35) hx hb dX12_more_30 (by decide) (fun c24 => ?_) (fun c24 => ?_)
      · have h25 := ieS c24 h21
        clear h21 c24
        refine lv_bipush (v := (-2)) hx hb dX12_more_35 (by decide) ?_
        refine lv_istore (lv' := [(6, .int (-2)), (0, .ref a0), (1, .int p1), (2, .int p2), (3, .int p3), (4, .int p4), (5, .int p5)]) hx hb dX12_more_37 hl (by decide) rfl (fun ls hl27 => ?_)
        clear hl
        refine lv_iload_n hx hb dX12_more_39 rfl (lv_at hl27 2 rfl) ?_
        refine lv_iload_n hx hb dX12_more_40 rfl (lv_at hl27 3 rfl) ?_
        refine lv_iadd hx hb dX12_more_41 ?_
        refine lv_iload_n hx hb dX12_more_42 rfl (lv_at hl27 4 rfl) ?_
        refine lv_isub hx hb dX12_more_43 ?_
        obtain ⟨v44_28, e29, h30⟩ := nmI_s h25
        clear h25
        refine ktopi e29 ?_
        clear e29
        refine lv_istore (lv' := [(7, .int v44_28), (6, .int (-2)), (0, .ref a0), (1, .int p1), (2, .int p2), (3, .int p3), (4, .int p4), (5, .int p5)]) hx hb dX12_more_44 hl27 (by decide) rfl (fun ls hl31 => ?_)
        clear hl27
        have L46 : ∀ (n46 : Nat) (x6_32 : Int32) (x7_33 : Int32) (H : Heap) (locs : List Loc) (ls : Array Slot), (f_X12_more_L46 p1 p2 p3 p4 p5  n46) x6_32 x7_33 = some (r) → kV E A s.heap H locs [(a0, .inr (12, [w0_0, w0_1, w0_2, w0_3, w0_4, w0_5, w0_6, w0_7, w0_8, w0_9, w0_10, w0_11, w0_12, w0_13, w0_14, w0_15, w0_16, w0_17, w0_18, w0_19, w0_20, w0_21, w0_22, w0_23, w0_24, w0_25, w0_26, w0_27, w0_28, w0_29, w0_30, w0_31, w0_32, w0_33, w0_34, w0_35, w0_36, w0_37, w0_38, w0_39, w0_40, w0_41, w0_42, w0_43, w0_44, w0_45, w0_46, w0_47, w0_48, w0_49, w0_50, w0_51, w0_52, w0_53, w0_54, w0_55, w0_56, w0_57, w0_58, w0_59, w0_60, w0_61, w0_62, w0_63, w0_64, w0_65, w0_66]))] → lv_has ls 8 [(1, .int p1), (2, .int p2), (3, .int p3), (4, .int p4), (5, .int p5), (6, .int x6_32), (7, .int x7_33)] → W p l e r_X12_more s m args below meth c H locs 0 0 Q (F0 m 46 ls []) := by
          intro n46
          induction n46 with
          | zero =>
            intro x6_32 x7_33 H locs ls hB46 hVB46 hlB46
            rw [f_X12_more_L46] at hB46
            exact nomatch hB46
          | succ n46 ih46 =>
            intro x6_32 x7_33 H locs ls hB46 hVB46 hlB46
            rw [f_X12_more_L46] at hB46
            refine lv_iload hx hb dX12_more_46 (lv_at hlB46 6 rfl) ?_
            refine lv_bipush (v := 40) hx hb dX12_more_48 (by decide) ?_
            refine lv_icmp_gt (tgt := 100) hx hb dX12_more_50 (by decide) (fun c34 => ?_) (fun c34 => ?_)
            · have h35 := itS c34 hB46
              clear hB46 c34
              refine lv_iload hx hb dX12_more_100 (lv_at hlB46 5 rfl) ?_
              have q37 := tup1_s h35
              clear h35
              exact hret _ () _ _ _ _ q37 rfl hVB46 dX12_more_102
            · have h36 := ieS c34 hB46
              clear hB46 c34
              refine lv_iload_n hx hb dX12_more_53 rfl (lv_at hlB46 0 rfl) ?_
              refine lv_iload_n hx hb dX12_more_54 rfl (lv_at hlB46 1 rfl) ?_
              refine lv_iload_n hx hb dX12_more_55 rfl (lv_at hlB46 2 rfl) ?_
              refine lv_iload hx hb dX12_more_56 (lv_at hlB46 6 rfl) ?_
              obtain ⟨r58_38, hc39, h40⟩ := cb1_s h36
              clear h36
              refine kgolE (krunS (rest := []) X hVB46 [] (c_X12_waysOf l E _ p1 p2 p3 x7_33 r58_38 hc39) mw_1286 kb_X12_waysOf (by decide) rfl rfl hlB46.1 rfl (Nat.le_of_ble_eq_true rfl) dX12_more_58 (by decide)) X hVB46 [] [0] rfl rfl rfl (by decide) (fun u H locs hV41 => ?_)
              have hV41 : kV E A s.heap H locs [(a0, .inr (12, [w0_0, w0_1, w0_2, w0_3, w0_4, w0_5, w0_6, w0_7, w0_8, w0_9, w0_10, w0_11, w0_12, w0_13, w0_14, w0_15, w0_16, w0_17, w0_18, w0_19, w0_20, w0_21, w0_22, w0_23, w0_24, w0_25, w0_26, w0_27, w0_28, w0_29, w0_30, w0_31, w0_32, w0_33, w0_34, w0_35, w0_36, w0_37, w0_38, w0_39, w0_40, w0_41, w0_42, w0_43, w0_44, w0_45, w0_46, w0_47, w0_48, w0_49, w0_50, w0_51, w0_52, w0_53, w0_54, w0_55, w0_56, w0_57, w0_58, w0_59, w0_60, w0_61, w0_62, w0_63, w0_64, w0_65, w0_66]))] := hV41.sub [0] rfl rfl
              clear hVB46
              refine lv_ldc2 (v := 1000) hx hb X.2.2.2.1 (X.2.2.2.2.1 _ mw_1010) dX12_more_61 ?_
              refine lv_lmul hx hb dX12_more_64 ?_
              refine lv_iload hx hb dX12_more_65 (lv_at hlB46 3 rfl) ?_
              refine lv_i2l (v := Int32.toInt64 p4) hx hb dX12_more_67 rfl ?_
              refine lv_iload hx hb dX12_more_68 (lv_at hlB46 6 rfl) ?_
              refine lv_iload_n hx hb dX12_more_70 rfl (lv_at hlB46 1 rfl) ?_
              obtain ⟨r71_43, hc44, h45⟩ := cb1_s h40
              clear h40
              refine kgolE (krunS (rest := [.long (Int32.toInt64 p4), .long (r58_38 * 1000)]) X hV41 [] (c_X12_choices l E _ x7_33 p2 r71_43 hc44) mw_1289 kb_X12_choices (by decide) rfl rfl hlB46.1 rfl (Nat.le_of_ble_eq_true rfl) dX12_more_71 (by decide)) X hV41 [] [0] rfl rfl rfl (by decide) (fun u H locs hV46 => ?_)
              have hV46 : kV E A s.heap H locs [(a0, .inr (12, [w0_0, w0_1, w0_2, w0_3, w0_4, w0_5, w0_6, w0_7, w0_8, w0_9, w0_10, w0_11, w0_12, w0_13, w0_14, w0_15, w0_16, w0_17, w0_18, w0_19, w0_20, w0_21, w0_22, w0_23, w0_24, w0_25, w0_26, w0_27, w0_28, w0_29, w0_30, w0_31, w0_32, w0_33, w0_34, w0_35, w0_36, w0_37, w0_38, w0_39, w0_40, w0_41, w0_42, w0_43, w0_44, w0_45, w0_46, w0_47, w0_48, w0_49, w0_50, w0_51, w0_52, w0_53, w0_54, w0_55, w0_56, w0_57, w0_58, w0_59, w0_60, w0_61, w0_62, w0_63, w0_64, w0_65, w0_66]))] := hV46.sub [0] rfl rfl
              clear hV41
              refine lv_lmul hx hb dX12_more_74 ?_
              refine W.lcmp hx hb dX12_more_75 ?_
              refine lv_if_lt (tgt := 94) hx hb dX12_more_76 (by decide) (fun c48 => ?_) (fun c48 => ?_)
              · have h49 := itS c48 h45
                clear h45 c48
                obtain ⟨v94_51, e52, h53⟩ := nmI_s h49
                clear h49
                refine lv_iinc (v := v94_51) (lv' := [(7, .int v94_51), (1, .int p1), (2, .int p2), (3, .int p3), (4, .int p4), (5, .int p5), (6, .int x6_32)]) hx hb dX12_more_94 hlB46 (k := 6) rfl (by rw [e52]; rfl) (by decide) rfl (fun ls hl54 => ?_)
                clear hlB46 e52
                refine lv_goto (tgt := 46) hx hb dX12_more_97 (by decide) ?_
                exact ih46 x6_32 v94_51 _ _ _ h53 hV46 (lv_sub hl54 [1, 2, 3, 4, 5, 6, 0] rfl)
              · have h50 := ieS c48 h45
                clear h45 c48
                refine lv_iload hx hb dX12_more_79 (lv_at hlB46 4 rfl) ?_
                refine lv_iconst (v := 1) hx hb dX12_more_81 (by decide) ?_
                refine lv_icmp_eq (tgt := 90) hx hb dX12_more_82 (by decide) (fun c55 => ?_) (fun c55 => ?_)
                · have h56 := itS c55 h50
                  clear h50 c55
                  refine lv_iload hx hb dX12_more_90 (lv_at hlB46 6 rfl) ?_
                  refine lv_istore (lv' := [(6, .int x7_33), (1, .int p1), (2, .int p2), (3, .int p3), (4, .int p4), (5, .int p5), (7, .int x7_33)]) hx hb dX12_more_92 hlB46 (by decide) rfl (fun ls hl58 => ?_)
                  clear hlB46
                  obtain ⟨v94_59, e60, h61⟩ := nmI_s h56
                  clear h56
                  refine lv_iinc (v := v94_59) (lv' := [(7, .int v94_59), (6, .int x7_33), (1, .int p1), (2, .int p2), (3, .int p3), (4, .int p4), (5, .int p5)]) hx hb dX12_more_94 hl58 (k := 6) rfl (by rw [e60]; rfl) (by decide) rfl (fun ls hl62 => ?_)
                  clear hl58 e60
                  refine lv_goto (tgt := 46) hx hb dX12_more_97 (by decide) ?_
                  exact ih46 x7_33 v94_59 _ _ _ h61 hV46 (lv_sub hl62 [2, 3, 4, 5, 6, 1, 0] rfl)
                · have h57 := ieS c55 h50
                  clear h50 c55
                  refine lv_iload hx hb dX12_more_85 (lv_at hlB46 5 rfl) ?_
                  refine lv_if_ge (tgt := 94) hx hb dX12_more_87 (by decide) (fun c63 => ?_) (fun c63 => ?_)
                  · have h64 := itS c63 h57
                    clear h57 c63
                    obtain ⟨v94_66, e67, h68⟩ := nmI_s h64
                    clear h64
                    refine lv_iinc (v := v94_66) (lv' := [(7, .int v94_66), (1, .int p1), (2, .int p2), (3, .int p3), (4, .int p4), (5, .int p5), (6, .int x6_32)]) hx hb dX12_more_94 hlB46 (k := 6) rfl (by rw [e67]; rfl) (by decide) rfl (fun ls hl69 => ?_)
                    clear hlB46 e67
                    refine lv_goto (tgt := 46) hx hb dX12_more_97 (by decide) ?_
                    exact ih46 x6_32 v94_66 _ _ _ h68 hV46 (lv_sub hl69 [1, 2, 3, 4, 5, 6, 0] rfl)
                  · have h65 := ieS c63 h57
                    clear h57 c63
                    refine lv_iload hx hb dX12_more_90 (lv_at hlB46 6 rfl) ?_
                    refine lv_istore (lv' := [(6, .int x7_33), (1, .int p1), (2, .int p2), (3, .int p3), (4, .int p4), (5, .int p5), (7, .int x7_33)]) hx hb dX12_more_92 hlB46 (by decide) rfl (fun ls hl70 => ?_)
                    clear hlB46
                    obtain ⟨v94_71, e72, h73⟩ := nmI_s h65
                    clear h65
                    refine lv_iinc (v := v94_71) (lv' := [(7, .int v94_71), (6, .int x7_33), (1, .int p1), (2, .int p2), (3, .int p3), (4, .int p4), (5, .int p5)]) hx hb dX12_more_94 hl70 (k := 6) rfl (by rw [e72]; rfl) (by decide) rfl (fun ls hl74 => ?_)
                    clear hl70 e72
                    refine lv_goto (tgt := 46) hx hb dX12_more_97 (by decide) ?_
                    exact ih46 x7_33 v94_71 _ _ _ h73 hV46 (lv_sub hl74 [2, 3, 4, 5, 6, 1, 0] rfl)
        exact L46 FU (-2) v44_28 _ _ _ h30 hV22 (lv_sub hl31 [3, 4, 5, 6, 7, 1, 0] rfl)
      · have h26 := itS c24 h21
        clear h21 c24
        refine lv_iconst (v := (-1)) hx hb dX12_more_33 (by decide) ?_
        have q75 := tup1_s h26
        clear h26
        exact hret _ () _ _ _ _ q75 rfl hV22 dX12_more_34
abbrev r_X12_numberAt : Room := { frames := 0, cells := 0, slots := 0, locals := 0 }
set_option maxHeartbeats 4000000 in
set_option maxRecDepth 100000 in
theorem c_X12_numberAt (l : Launch) (E : kE) (sz : Nat) (a0 a1 : Nat) (w0_1 w0_2 w0_3 w0_4 w0_5 w0_6 w0_7 w0_8 w0_9 w0_10 w0_11 w0_12 w0_13 w0_14 w0_15 w0_16 w0_17 w0_18 w0_19 w0_20 w0_21 w0_22 w0_23 w0_24 w0_25 w0_26 w0_27 w0_28 w0_29 w0_30 w0_31 w0_32 w0_33 w0_34 w0_35 w0_36 w0_37 w0_38 w0_39 w0_40 w0_41 w0_42 w0_43 w0_44 w0_45 w0_46 w0_47 w0_48 w0_49 w0_50 w0_51 w0_52 w0_53 w0_54 w0_55 w0_56 w0_57 w0_58 w0_59 w0_60 w0_61 w0_62 w0_63 w0_64 w0_65 w0_66 : Value) (s_tape : Nat → Int32) (p1 : Int32) (r : Int32) (h : f_X12_numberAt s_tape p1 = some (r)) : kMi l yX12_numberAt cX12_numberAt 4 (some .int) r_X12_numberAt [.ref a0, .int p1] E [(a0, .inr (12, [.ref a1, w0_1, w0_2, w0_3, w0_4, w0_5, w0_6, w0_7, w0_8, w0_9, w0_10, w0_11, w0_12, w0_13, w0_14, w0_15, w0_16, w0_17, w0_18, w0_19, w0_20, w0_21, w0_22, w0_23, w0_24, w0_25, w0_26, w0_27, w0_28, w0_29, w0_30, w0_31, w0_32, w0_33, w0_34, w0_35, w0_36, w0_37, w0_38, w0_39, w0_40, w0_41, w0_42, w0_43, w0_44, w0_45, w0_46, w0_47, w0_48, w0_49, w0_50, w0_51, w0_52, w0_53, w0_54, w0_55, w0_56, w0_57, w0_58, w0_59, w0_60, w0_61, w0_62, w0_63, w0_64, w0_65, w0_66])), (a1, .inl (E.2 1, 200, .inl s_tape))] sz 0 0 (fun x (_ : Unit) => x = r) (fun _ => [(a0, .inr (12, [.ref a1, w0_1, w0_2, w0_3, w0_4, w0_5, w0_6, w0_7, w0_8, w0_9, w0_10, w0_11, w0_12, w0_13, w0_14, w0_15, w0_16, w0_17, w0_18, w0_19, w0_20, w0_21, w0_22, w0_23, w0_24, w0_25, w0_26, w0_27, w0_28, w0_29, w0_30, w0_31, w0_32, w0_33, w0_34, w0_35, w0_36, w0_37, w0_38, w0_39, w0_40, w0_41, w0_42, w0_43, w0_44, w0_45, w0_46, w0_47, w0_48, w0_49, w0_50, w0_51, w0_52, w0_53, w0_54, w0_55, w0_56, w0_57, w0_58, w0_59, w0_60, w0_61, w0_62, w0_63, w0_64, w0_65, w0_66])), (a1, .inl (E.2 1, 200, .inl s_tape))]) := by
  refine kmeti rfl (Nat.le_of_ble_eq_true rfl) ?_
  intro p e s m args below meth c ls A Q X hV hret hl
  have X : kC p s m c cX12_numberAt 4 RX12 args E A := X
  have hx := X.1
  have hb := X.2.1
  have hl : lv_has ls 4 [(0, .ref a0), (1, .int p1)] := hl
  rw [f_X12_numberAt] at h
  refine lv_iconst (v := 0) hx hb dX12_numberAt_0 (by decide) ?_
  refine lv_istore_n (lv' := [(2, .int 0), (0, .ref a0), (1, .int p1)]) hx hb dX12_numberAt_1 rfl hl (by decide) rfl (fun ls hl1 => ?_)
  clear hl
  refine lv_iconst (v := 0) hx hb dX12_numberAt_2 (by decide) ?_
  refine lv_istore_n (lv' := [(3, .int 0), (2, .int 0), (0, .ref a0), (1, .int p1)]) hx hb dX12_numberAt_3 rfl hl1 (by decide) rfl (fun ls hl2 => ?_)
  clear hl1
  have L4 : ∀ (n4 : Nat) (x2_3 : Int32) (x3_4 : Int32) (H : Heap) (locs : List Loc) (ls : Array Slot), (f_X12_numberAt_L4 s_tape p1  n4) x2_3 x3_4 = some (r) → kV E A s.heap H locs [(a0, .inr (12, [.ref a1, w0_1, w0_2, w0_3, w0_4, w0_5, w0_6, w0_7, w0_8, w0_9, w0_10, w0_11, w0_12, w0_13, w0_14, w0_15, w0_16, w0_17, w0_18, w0_19, w0_20, w0_21, w0_22, w0_23, w0_24, w0_25, w0_26, w0_27, w0_28, w0_29, w0_30, w0_31, w0_32, w0_33, w0_34, w0_35, w0_36, w0_37, w0_38, w0_39, w0_40, w0_41, w0_42, w0_43, w0_44, w0_45, w0_46, w0_47, w0_48, w0_49, w0_50, w0_51, w0_52, w0_53, w0_54, w0_55, w0_56, w0_57, w0_58, w0_59, w0_60, w0_61, w0_62, w0_63, w0_64, w0_65, w0_66])), (a1, .inl (E.2 1, 200, .inl s_tape))] → lv_has ls 4 [(0, .ref a0), (1, .int p1), (2, .int x2_3), (3, .int x3_4)] → W p l e r_X12_numberAt s m args below meth c H locs 0 0 Q (F0 m 4 ls []) := by
    intro n4
    induction n4 with
    | zero =>
      intro x2_3 x3_4 H locs ls hB4 hVB4 hlB4
      rw [f_X12_numberAt_L4] at hB4
      exact nomatch hB4
    | succ n4 ih4 =>
      intro x2_3 x3_4 H locs ls hB4 hVB4 hlB4
      rw [f_X12_numberAt_L4] at hB4
      refine lv_iload_n hx hb dX12_numberAt_4 rfl (lv_at hlB4 3 rfl) ?_
      refine lv_iconst (v := 4) hx hb dX12_numberAt_5 (by decide) ?_
      refine lv_icmp_ge (tgt := 35) hx hb dX12_numberAt_6 (by decide) (fun c5 => ?_) (fun c5 => ?_)
      · have h6 := itS c5 hB4
        clear hB4 c5
        refine lv_iload_n hx hb dX12_numberAt_35 rfl (lv_at hlB4 2 rfl) ?_
        have q8 := tup1_s h6
        clear h6
        exact hret _ () _ _ _ _ q8 rfl hVB4 dX12_numberAt_36
      · have h7 := ieS c5 hB4
        clear hB4 c5
        refine lv_iload_n hx hb dX12_numberAt_9 rfl (lv_at hlB4 2 rfl) ?_
        refine lv_bipush (v := 8) hx hb dX12_numberAt_10 (by decide) ?_
        refine lv_ishl hx hb dX12_numberAt_12 ?_
        refine lv_aload_n hx hb dX12_numberAt_13 rfl (lv_at hlB4 0 rfl) ?_
        refine kget X hVB4 (ci := 12) inlX12 rfl 0 rfl 0 (by decide) mw_141 rfl dX12_numberAt_14 ?_
        refine lv_iconst (v := 4) hx hb dX12_numberAt_17 (by decide) ?_
        refine lv_iload_n hx hb dX12_numberAt_18 rfl (lv_at hlB4 1 rfl) ?_
        refine lv_imul hx hb dX12_numberAt_19 ?_
        refine lv_iload_n hx hb dX12_numberAt_20 rfl (lv_at hlB4 3 rfl) ?_
        refine lv_iadd hx hb dX12_numberAt_21 ?_
        obtain ⟨hi10, v22_9, e11, h12⟩ := rdI_s h7
        clear h7
        refine kbald X hVB4 1 rfl hi10 e11 dX12_numberAt_22 ?_
        clear hi10 e11
        refine lv_sipush (v := 255) hx hb dX12_numberAt_23 (by decide) ?_
        refine lv_iand hx hb dX12_numberAt_26 ?_
        refine lv_ior hx hb dX12_numberAt_27 ?_
        obtain ⟨v28_13, e14, h15⟩ := nmI_s h12
        clear h12
        refine ktopi e14 ?_
        clear e14
        refine lv_istore_n (lv' := [(2, .int v28_13), (0, .ref a0), (1, .int p1), (3, .int x3_4)]) hx hb dX12_numberAt_28 rfl hlB4 (by decide) rfl (fun ls hl16 => ?_)
        clear hlB4
        obtain ⟨v29_17, e18, h19⟩ := nmI_s h15
        clear h15
        refine lv_iinc (v := v29_17) (lv' := [(3, .int v29_17), (2, .int v28_13), (0, .ref a0), (1, .int p1)]) hx hb dX12_numberAt_29 hl16 (k := 3) rfl (by rw [e18]; rfl) (by decide) rfl (fun ls hl20 => ?_)
        clear hl16 e18
        refine lv_goto (tgt := 4) hx hb dX12_numberAt_32 (by decide) ?_
        exact ih4 v28_13 v29_17 _ _ _ h19 hVB4 (lv_sub hl20 [2, 3, 1, 0] rfl)
  exact L4 FU 0 0 _ _ _ h hV (lv_sub hl2 [2, 3, 1, 0] rfl)
