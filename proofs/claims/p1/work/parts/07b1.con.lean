abbrev r_X12_lies : Room := { frames := 0, cells := 0, slots := 0, locals := 0 }
set_option maxHeartbeats 4000000 in
set_option maxRecDepth 100000 in
theorem c_X12_lies (l : Launch) (E : kE) (sz : Nat) (p1 : Int64) (p2 : Int64) (p3 : Int64) (r : Int32) (h : f_X12_lies p1 p2 p3 = some (r)) : kMi l yX12_lies cX12_lies 6 (some .boolean) r_X12_lies [.long p1, .long p2, .long p3] E [] sz 0 0 (fun x (_ : Unit) => x = r) (fun _ => []) := by
  refine kmeti rfl (Nat.le_of_ble_eq_true rfl) ?_
  intro p e s m args below meth c ls A Q X hV hret hl
  have X : kC p s m c cX12_lies 6 RX12 args E A := X
  have hx := X.1
  have hb := X.2.1
  have hl : lv_has ls 6 [(0, .long p1), (2, .long p2), (4, .long p3)] := hl
  rw [f_X12_lies] at h
  refine lv_lload_n hx hb dX12_lies_0 rfl (lv_at hl 0 rfl) ?_
  refine lv_lload_n hx hb dX12_lies_1 rfl (lv_at hl 1 rfl) ?_
  refine W.lcmp hx hb dX12_lies_2 ?_
  refine lv_if_lt (tgt := 17) hx hb dX12_lies_3 (by decide) (fun c1 => ?_) (fun c1 => ?_)
  · have h2 := itS c1 h
    clear h c1
    refine lv_iconst (v := 0) hx hb dX12_lies_17 (by decide) ?_
    have q4 := tup1_s h2
    clear h2
    exact hret _ () _ _ _ _ q4 rfl hV dX12_lies_18
  · have h3 := ieS c1 h
    clear h c1
    refine lv_lload_n hx hb dX12_lies_6 rfl (lv_at hl 0 rfl) ?_
    refine lv_lload hx hb dX12_lies_7 (lv_at hl 2 rfl) ?_
    refine W.lcmp hx hb dX12_lies_9 ?_
    refine lv_if_gt (tgt := 17) hx hb dX12_lies_10 (by decide) (fun c5 => ?_) (fun c5 => ?_)
    · have h6 := itS c5 h3
      clear h3 c5
      refine lv_iconst (v := 0) hx hb dX12_lies_17 (by decide) ?_
      have q8 := tup1_s h6
      clear h6
      exact hret _ () _ _ _ _ q8 rfl hV dX12_lies_18
    · have h7 := ieS c5 h3
      clear h3 c5
      refine lv_iconst (v := 1) hx hb dX12_lies_13 (by decide) ?_
      refine lv_goto (tgt := 18) hx hb dX12_lies_14 (by decide) ?_
      have q9 := tup1_s h7
      clear h7
      exact hret _ () _ _ _ _ q9 rfl hV dX12_lies_18
abbrev r_X12_push : Room := { frames := 0, cells := 0, slots := 0, locals := 0 }
set_option maxHeartbeats 4000000 in
set_option maxRecDepth 100000 in
theorem c_X12_push (l : Launch) (E : kE) (sz : Nat) (a0 a1 : Nat) (w0_2 w0_3 w0_4 w0_5 w0_6 w0_7 w0_8 w0_9 w0_10 w0_11 w0_12 w0_13 w0_14 w0_15 w0_16 w0_17 w0_18 w0_19 w0_20 w0_21 w0_22 w0_23 w0_24 w0_25 w0_26 w0_27 w0_28 w0_29 w0_30 w0_31 w0_32 w0_33 w0_34 w0_35 w0_36 w0_37 w0_38 w0_39 w0_40 w0_41 w0_42 w0_43 w0_44 w0_45 w0_46 w0_47 w0_48 w0_49 w0_50 w0_51 w0_52 w0_53 w0_54 w0_55 w0_56 w0_57 w0_58 w0_59 w0_60 w0_61 w0_62 w0_63 w0_64 w0_65 w0_66 : Value) (s_taped : Int32) (s_tape : Nat → Int32) (p1 : Int32) (o_taped : Int32) (o_tape : Nat → Int32) (h : f_X12_push s_taped s_tape p1 = some (o_taped, o_tape)) : kMv l yX12_push cX12_push 3 r_X12_push [.ref a0, .int p1] E [(a0, .inr (12, [.ref a1, .int s_taped, w0_2, w0_3, w0_4, w0_5, w0_6, w0_7, w0_8, w0_9, w0_10, w0_11, w0_12, w0_13, w0_14, w0_15, w0_16, w0_17, w0_18, w0_19, w0_20, w0_21, w0_22, w0_23, w0_24, w0_25, w0_26, w0_27, w0_28, w0_29, w0_30, w0_31, w0_32, w0_33, w0_34, w0_35, w0_36, w0_37, w0_38, w0_39, w0_40, w0_41, w0_42, w0_43, w0_44, w0_45, w0_46, w0_47, w0_48, w0_49, w0_50, w0_51, w0_52, w0_53, w0_54, w0_55, w0_56, w0_57, w0_58, w0_59, w0_60, w0_61, w0_62, w0_63, w0_64, w0_65, w0_66])), (a1, .inl (E.2 1, 200, .inl s_tape))] sz 0 0 (fun (_ : Unit) => True) (fun _ => [(a0, .inr (12, [.ref a1, .int o_taped, w0_2, w0_3, w0_4, w0_5, w0_6, w0_7, w0_8, w0_9, w0_10, w0_11, w0_12, w0_13, w0_14, w0_15, w0_16, w0_17, w0_18, w0_19, w0_20, w0_21, w0_22, w0_23, w0_24, w0_25, w0_26, w0_27, w0_28, w0_29, w0_30, w0_31, w0_32, w0_33, w0_34, w0_35, w0_36, w0_37, w0_38, w0_39, w0_40, w0_41, w0_42, w0_43, w0_44, w0_45, w0_46, w0_47, w0_48, w0_49, w0_50, w0_51, w0_52, w0_53, w0_54, w0_55, w0_56, w0_57, w0_58, w0_59, w0_60, w0_61, w0_62, w0_63, w0_64, w0_65, w0_66])), (a1, .inl (E.2 1, 200, .inl o_tape))]) := by
  refine kmetv rfl (Nat.le_of_ble_eq_true rfl) ?_
  intro p e s m args below meth c ls A Q X hnm hV hret hl
  have X : kC p s m c cX12_push 3 RX12 args E A := X
  have hx := X.1
  have hb := X.2.1
  have hl : lv_has ls 3 [(0, .ref a0), (1, .int p1)] := hl
  rw [f_X12_push] at h
  refine lv_bipush (v := 24) hx hb dX12_push_0 (by decide) ?_
  refine lv_istore_n (lv' := [(2, .int 24), (0, .ref a0), (1, .int p1)]) hx hb dX12_push_2 rfl hl (by decide) rfl (fun ls hl1 => ?_)
  clear hl
  have L3 : ∀ (n3 : Nat) (x2_2 : Int32) (taped__3 : Int32) (tape__4 : Nat → Int32) (H : Heap) (locs : List Loc) (ls : Array Slot), (f_X12_push_L3 p1  n3) x2_2 taped__3 tape__4 = some (o_taped, o_tape) → kV E A s.heap H locs [(a0, .inr (12, [.ref a1, .int taped__3, w0_2, w0_3, w0_4, w0_5, w0_6, w0_7, w0_8, w0_9, w0_10, w0_11, w0_12, w0_13, w0_14, w0_15, w0_16, w0_17, w0_18, w0_19, w0_20, w0_21, w0_22, w0_23, w0_24, w0_25, w0_26, w0_27, w0_28, w0_29, w0_30, w0_31, w0_32, w0_33, w0_34, w0_35, w0_36, w0_37, w0_38, w0_39, w0_40, w0_41, w0_42, w0_43, w0_44, w0_45, w0_46, w0_47, w0_48, w0_49, w0_50, w0_51, w0_52, w0_53, w0_54, w0_55, w0_56, w0_57, w0_58, w0_59, w0_60, w0_61, w0_62, w0_63, w0_64, w0_65, w0_66])), (a1, .inl (E.2 1, 200, .inl tape__4))] → lv_has ls 3 [(0, .ref a0), (1, .int p1), (2, .int x2_2)] → W p l e r_X12_push s m args below meth c H locs 0 0 Q (F0 m 3 ls []) := by
    intro n3
    induction n3 with
    | zero =>
      intro x2_2 taped__3 tape__4 H locs ls hB3 hVB3 hlB3
      rw [f_X12_push_L3] at hB3
      exact nomatch hB3
    | succ n3 ih3 =>
      intro x2_2 taped__3 tape__4 H locs ls hB3 hVB3 hlB3
      rw [f_X12_push_L3] at hB3
      refine lv_iload_n hx hb dX12_push_3 rfl (lv_at hlB3 2 rfl) ?_
      refine lv_if_lt (tgt := 36) hx hb dX12_push_4 (by decide) (fun c5 => ?_) (fun c5 => ?_)
      · have h6 := itS c5 hB3
        clear hB3 c5
        obtain ⟨q8, q9⟩ := tup2_s h6
        clear h6
        exact hret () _ _ _ _ trivial (by rw [← q8, ← q9]; exact hVB3) dX12_push_36
      · have h7 := ieS c5 hB3
        clear hB3 c5
        refine lv_aload_n hx hb dX12_push_7 rfl (lv_at hlB3 0 rfl) ?_
        refine kget X hVB3 (ci := 12) inlX12 rfl 0 rfl 0 (by decide) mw_141 rfl dX12_push_8 ?_
        refine lv_aload_n hx hb dX12_push_11 rfl (lv_at hlB3 0 rfl) ?_
        refine kget X hVB3 (ci := 12) inlX12 rfl 0 rfl 1 (by decide) mw_251 rfl dX12_push_12 ?_
        refine lv_iload_n hx hb dX12_push_15 rfl (lv_at hlB3 1 rfl) ?_
        refine lv_iload_n hx hb dX12_push_16 rfl (lv_at hlB3 2 rfl) ?_
        refine lv_ishr hx hb dX12_push_17 ?_
        refine lv_i2b (v := ji2b (jshr p1 x2_2)) hx hb dX12_push_18 rfl ?_
        obtain ⟨v19_10, e11, h12⟩ := nmI_s h7
        clear h7
        refine ktopi e11 ?_
        clear e11
        obtain ⟨hi14, g19_13, e15, h16⟩ := wrB_s h12
        clear h12
        refine kbast X hVB3 1 rfl hi14 e15 dX12_push_19 (fun H locs hV17 => ?_)
        have hV17 : kV E A s.heap H locs [(a0, .inr (12, [.ref a1, .int taped__3, w0_2, w0_3, w0_4, w0_5, w0_6, w0_7, w0_8, w0_9, w0_10, w0_11, w0_12, w0_13, w0_14, w0_15, w0_16, w0_17, w0_18, w0_19, w0_20, w0_21, w0_22, w0_23, w0_24, w0_25, w0_26, w0_27, w0_28, w0_29, w0_30, w0_31, w0_32, w0_33, w0_34, w0_35, w0_36, w0_37, w0_38, w0_39, w0_40, w0_41, w0_42, w0_43, w0_44, w0_45, w0_46, w0_47, w0_48, w0_49, w0_50, w0_51, w0_52, w0_53, w0_54, w0_55, w0_56, w0_57, w0_58, w0_59, w0_60, w0_61, w0_62, w0_63, w0_64, w0_65, w0_66])), (a1, .inl (E.2 1, 200, .inl g19_13))] := hV17
        clear hVB3 hi14 e15
        refine lv_aload_n hx hb dX12_push_20 rfl (lv_at hlB3 0 rfl) ?_
        refine lv_dup hx hb dX12_push_21 rfl ?_
        refine kget X hV17 (ci := 12) inlX12 rfl 0 rfl 1 (by decide) mw_251 rfl dX12_push_22 ?_
        refine lv_iconst (v := 1) hx hb dX12_push_25 (by decide) ?_
        refine lv_iadd hx hb dX12_push_26 ?_
        obtain ⟨v27_18, e19, h20⟩ := nmI_s h16
        clear h16
        refine ktopi e19 ?_
        clear e19
        refine kput X hV17 (ci := 12) inlX12 rfl tyX12 tyX12_ok nmX12 0 rfl 1 (by decide) mw_251 rfl rfl rfl (Nat.le_of_ble_eq_true rfl) dX12_push_27 (fun H locs hV21 => ?_)
        have hV21 : kV E A s.heap H locs [(a0, .inr (12, [.ref a1, .int v27_18, w0_2, w0_3, w0_4, w0_5, w0_6, w0_7, w0_8, w0_9, w0_10, w0_11, w0_12, w0_13, w0_14, w0_15, w0_16, w0_17, w0_18, w0_19, w0_20, w0_21, w0_22, w0_23, w0_24, w0_25, w0_26, w0_27, w0_28, w0_29, w0_30, w0_31, w0_32, w0_33, w0_34, w0_35, w0_36, w0_37, w0_38, w0_39, w0_40, w0_41, w0_42, w0_43, w0_44, w0_45, w0_46, w0_47, w0_48, w0_49, w0_50, w0_51, w0_52, w0_53, w0_54, w0_55, w0_56, w0_57, w0_58, w0_59, w0_60, w0_61, w0_62, w0_63, w0_64, w0_65, w0_66])), (a1, .inl (E.2 1, 200, .inl g19_13))] := hV21
        clear hV17
        obtain ⟨v30_22, e23, h24⟩ := nmI_s h20
        clear h20
        refine lv_iinc (v := v30_22) (lv' := [(2, .int v30_22), (0, .ref a0), (1, .int p1)]) hx hb dX12_push_30 hlB3 (k := 2) rfl (by rw [e23]; rfl) (by decide) rfl (fun ls hl25 => ?_)
        clear hlB3 e23
        refine lv_goto (tgt := 3) hx hb dX12_push_33 (by decide) ?_
        exact ih3 v30_22 v27_18 g19_13 _ _ _ h24 hV21 (lv_sub hl25 [1, 2, 0] rfl)
  exact L3 FU 24 s_taped s_tape _ _ _ h hV (lv_sub hl1 [1, 2, 0] rfl)
abbrev r_X12_feed : Room := { frames := 1, cells := 0, slots := 0, locals := 22 }
set_option maxHeartbeats 4000000 in
set_option maxRecDepth 100000 in
theorem c_X12_feed (l : Launch) (E : kE) (sz : Nat) (a0 a1 : Nat) (w0_2 w0_3 w0_4 w0_5 w0_6 w0_7 w0_8 w0_9 w0_10 w0_11 w0_12 w0_13 w0_14 w0_15 w0_16 w0_17 w0_18 w0_19 w0_20 w0_21 w0_22 w0_23 w0_24 w0_25 w0_26 w0_27 w0_28 w0_29 w0_30 w0_31 w0_32 w0_33 w0_34 w0_35 w0_36 w0_37 w0_38 w0_39 w0_40 w0_41 w0_42 w0_43 w0_44 w0_45 w0_46 w0_47 w0_48 w0_49 w0_50 w0_51 w0_52 w0_53 w0_54 w0_55 w0_56 w0_57 w0_58 w0_59 w0_60 w0_61 w0_62 w0_63 w0_64 w0_65 w0_66 : Value) (s_taped : Int32) (s_tape : Nat → Int32) (p1 : Int32) (p2 : Int32) (p3 : Int32) (p4 : Int32) (p5 : Int32) (r : Int32) (o_taped : Int32) (o_tape : Nat → Int32) (h : f_X12_feed s_taped s_tape p1 p2 p3 p4 p5 = some (r, o_taped, o_tape)) : kMi l yX12_feed cX12_feed 6 (some .int) r_X12_feed [.ref a0, .int p1, .int p2, .int p3, .int p4, .int p5] E [(a0, .inr (12, [.ref a1, .int s_taped, w0_2, w0_3, w0_4, w0_5, w0_6, w0_7, w0_8, w0_9, w0_10, w0_11, w0_12, w0_13, w0_14, w0_15, w0_16, w0_17, w0_18, w0_19, w0_20, w0_21, w0_22, w0_23, w0_24, w0_25, w0_26, w0_27, w0_28, w0_29, w0_30, w0_31, w0_32, w0_33, w0_34, w0_35, w0_36, w0_37, w0_38, w0_39, w0_40, w0_41, w0_42, w0_43, w0_44, w0_45, w0_46, w0_47, w0_48, w0_49, w0_50, w0_51, w0_52, w0_53, w0_54, w0_55, w0_56, w0_57, w0_58, w0_59, w0_60, w0_61, w0_62, w0_63, w0_64, w0_65, w0_66])), (a1, .inl (E.2 1, 200, .inl s_tape))] sz 0 0 (fun x (_ : Unit) => x = r) (fun _ => [(a0, .inr (12, [.ref a1, .int o_taped, w0_2, w0_3, w0_4, w0_5, w0_6, w0_7, w0_8, w0_9, w0_10, w0_11, w0_12, w0_13, w0_14, w0_15, w0_16, w0_17, w0_18, w0_19, w0_20, w0_21, w0_22, w0_23, w0_24, w0_25, w0_26, w0_27, w0_28, w0_29, w0_30, w0_31, w0_32, w0_33, w0_34, w0_35, w0_36, w0_37, w0_38, w0_39, w0_40, w0_41, w0_42, w0_43, w0_44, w0_45, w0_46, w0_47, w0_48, w0_49, w0_50, w0_51, w0_52, w0_53, w0_54, w0_55, w0_56, w0_57, w0_58, w0_59, w0_60, w0_61, w0_62, w0_63, w0_64, w0_65, w0_66])), (a1, .inl (E.2 1, 200, .inl o_tape))]) := by
  refine kmeti rfl (Nat.le_of_ble_eq_true rfl) ?_
  intro p e s m args below meth c ls A Q X hV hret hl
  have X : kC p s m c cX12_feed 6 RX12 args E A := X
  have hx := X.1
  have hb := X.2.1
  have hl : lv_has ls 6 [(0, .ref a0), (1, .int p1), (2, .int p2), (3, .int p3), (4, .int p4), (5, .int p5)] := hl
  rw [f_X12_feed] at h
  refine lv_aload_n hx hb dX12_feed_0 rfl (lv_at hl 0 rfl) ?_
  refine kget X hV (ci := 12) inlX12 rfl 0 rfl 1 (by decide) mw_251 rfl dX12_feed_1 ?_
  refine lv_bipush (v := 20) hx hb dX12_feed_4 (by decide) ?_
  refine lv_iadd hx hb dX12_feed_6 ?_
  refine lv_sipush (v := 200) hx hb dX12_feed_7 (by decide) ?_
  refine lv_icmp_le (tgt := 15) hx hb dX12_feed_10 (by decide) (fun c1 => ?_) (fun c1 => ?_)
  · have h2 := itS c1 h
    clear h c1
    refine lv_aload_n hx hb dX12_feed_15 rfl (lv_at hl 0 rfl) ?_
    refine lv_iload_n hx hb dX12_feed_16 rfl (lv_at hl 1 rfl) ?_
    obtain ⟨o_taped17_4, o_tape17_5, hc6, h7⟩ := cb2_s h2
    clear h2
    refine kgov (krunV (rest := []) X hV [0, 1] (c_X12_push l E _ a0 a1 (w0_2) (w0_3) (w0_4) (w0_5) (w0_6) (w0_7) (w0_8) (w0_9) (w0_10) (w0_11) (w0_12) (w0_13) (w0_14) (w0_15) (w0_16) (w0_17) (w0_18) (w0_19) (w0_20) (w0_21) (w0_22) (w0_23) (w0_24) (w0_25) (w0_26) (w0_27) (w0_28) (w0_29) (w0_30) (w0_31) (w0_32) (w0_33) (w0_34) (w0_35) (w0_36) (w0_37) (w0_38) (w0_39) (w0_40) (w0_41) (w0_42) (w0_43) (w0_44) (w0_45) (w0_46) (w0_47) (w0_48) (w0_49) (w0_50) (w0_51) (w0_52) (w0_53) (w0_54) (w0_55) (w0_56) (w0_57) (w0_58) (w0_59) (w0_60) (w0_61) (w0_62) (w0_63) (w0_64) (w0_65) (w0_66) s_taped s_tape p1 o_taped17_4 o_tape17_5 hc6) mw_252 kb_X12_push (ci := 12) rfl rfl (by decide) rfl rfl hl.1 rfl (Nat.le_of_ble_eq_true rfl) dX12_feed_17 (by decide)) X hV [0, 1] [] rfl rfl rfl (by decide) (fun u H locs hp9 hV8 => ?_)
    have hV8 : kV E A s.heap H locs [(a0, .inr (12, [.ref a1, .int o_taped17_4, w0_2, w0_3, w0_4, w0_5, w0_6, w0_7, w0_8, w0_9, w0_10, w0_11, w0_12, w0_13, w0_14, w0_15, w0_16, w0_17, w0_18, w0_19, w0_20, w0_21, w0_22, w0_23, w0_24, w0_25, w0_26, w0_27, w0_28, w0_29, w0_30, w0_31, w0_32, w0_33, w0_34, w0_35, w0_36, w0_37, w0_38, w0_39, w0_40, w0_41, w0_42, w0_43, w0_44, w0_45, w0_46, w0_47, w0_48, w0_49, w0_50, w0_51, w0_52, w0_53, w0_54, w0_55, w0_56, w0_57, w0_58, w0_59, w0_60, w0_61, w0_62, w0_63, w0_64, w0_65, w0_66])), (a1, .inl (E.2 1, 200, .inl o_tape17_5))] := hV8.sub [0, 1] rfl rfl
    clear hV
    refine lv_aload_n hx hb dX12_feed_20 rfl (lv_at hl 0 rfl) ?_
    refine lv_iload_n hx hb dX12_feed_21 rfl (lv_at hl 2 rfl) ?_
    obtain ⟨o_taped22_10, o_tape22_11, hc12, h13⟩ := cb2_s h7
    clear h7
    refine kgov (krunV (rest := []) X hV8 [0, 1] (c_X12_push l E _ a0 a1 (w0_2) (w0_3) (w0_4) (w0_5) (w0_6) (w0_7) (w0_8) (w0_9) (w0_10) (w0_11) (w0_12) (w0_13) (w0_14) (w0_15) (w0_16) (w0_17) (w0_18) (w0_19) (w0_20) (w0_21) (w0_22) (w0_23) (w0_24) (w0_25) (w0_26) (w0_27) (w0_28) (w0_29) (w0_30) (w0_31) (w0_32) (w0_33) (w0_34) (w0_35) (w0_36) (w0_37) (w0_38) (w0_39) (w0_40) (w0_41) (w0_42) (w0_43) (w0_44) (w0_45) (w0_46) (w0_47) (w0_48) (w0_49) (w0_50) (w0_51) (w0_52) (w0_53) (w0_54) (w0_55) (w0_56) (w0_57) (w0_58) (w0_59) (w0_60) (w0_61) (w0_62) (w0_63) (w0_64) (w0_65) (w0_66) o_taped17_4 o_tape17_5 p2 o_taped22_10 o_tape22_11 hc12) mw_252 kb_X12_push (ci := 12) rfl rfl (by decide) rfl rfl hl.1 rfl (Nat.le_of_ble_eq_true rfl) dX12_feed_22 (by decide)) X hV8 [0, 1] [] rfl rfl rfl (by decide) (fun u H locs hp15 hV14 => ?_)
    have hV14 : kV E A s.heap H locs [(a0, .inr (12, [.ref a1, .int o_taped22_10, w0_2, w0_3, w0_4, w0_5, w0_6, w0_7, w0_8, w0_9, w0_10, w0_11, w0_12, w0_13, w0_14, w0_15, w0_16, w0_17, w0_18, w0_19, w0_20, w0_21, w0_22, w0_23, w0_24, w0_25, w0_26, w0_27, w0_28, w0_29, w0_30, w0_31, w0_32, w0_33, w0_34, w0_35, w0_36, w0_37, w0_38, w0_39, w0_40, w0_41, w0_42, w0_43, w0_44, w0_45, w0_46, w0_47, w0_48, w0_49, w0_50, w0_51, w0_52, w0_53, w0_54, w0_55, w0_56, w0_57, w0_58, w0_59, w0_60, w0_61, w0_62, w0_63, w0_64, w0_65, w0_66])), (a1, .inl (E.2 1, 200, .inl o_tape22_11))] := hV14.sub [0, 1] rfl rfl
    clear hV8
    refine lv_aload_n hx hb dX12_feed_25 rfl (lv_at hl 0 rfl) ?_
    refine lv_iload_n hx hb dX12_feed_26 rfl (lv_at hl 3 rfl) ?_
    obtain ⟨o_taped27_16, o_tape27_17, hc18, h19⟩ := cb2_s h13
    clear h13
    refine kgov (krunV (rest := []) X hV14 [0, 1] (c_X12_push l E _ a0 a1 (w0_2) (w0_3) (w0_4) (w0_5) (w0_6) (w0_7) (w0_8) (w0_9) (w0_10) (w0_11) (w0_12) (w0_13) (w0_14) (w0_15) (w0_16) (w0_17) (w0_18) (w0_19) (w0_20) (w0_21) (w0_22) (w0_23) (w0_24) (w0_25) (w0_26) (w0_27) (w0_28) (w0_29) (w0_30) (w0_31) (w0_32) (w0_33) (w0_34) (w0_35) (w0_36) (w0_37) (w0_38) (w0_39) (w0_40) (w0_41) (w0_42) (w0_43) (w0_44) (w0_45) (w0_46) (w0_47) (w0_48) (w0_49) (w0_50) (w0_51) (w0_52) (w0_53) (w0_54) (w0_55) (w0_56) (w0_57) (w0_58) (w0_59) (w0_60) (w0_61) (w0_62) (w0_63) (w0_64) (w0_65) (w0_66) o_taped22_10 o_tape22_11 p3 o_taped27_16 o_tape27_17 hc18) mw_252 kb_X12_push (ci := 12) rfl rfl (by decide) rfl rfl hl.1 rfl (Nat.le_of_ble_eq_true rfl) dX12_feed_27 (by decide)) X hV14 [0, 1] [] rfl rfl rfl (by decide) (fun u H locs hp21 hV20 => ?_)
    have hV20 : kV E A s.heap H locs [(a0, .inr (12, [.ref a1, .int o_taped27_16, w0_2, w0_3, w0_4, w0_5, w0_6, w0_7, w0_8, w0_9, w0_10, w0_11, w0_12, w0_13, w0_14, w0_15, w0_16, w0_17, w0_18, w0_19, w0_20, w0_21, w0_22, w0_23, w0_24, w0_25, w0_26, w0_27, w0_28, w0_29, w0_30, w0_31, w0_32, w0_33, w0_34, w0_35, w0_36, w0_37, w0_38, w0_39, w0_40, w0_41, w0_42, w0_43, w0_44, w0_45, w0_46, w0_47, w0_48, w0_49, w0_50, w0_51, w0_52, w0_53, w0_54, w0_55, w0_56, w0_57, w0_58, w0_59, w0_60, w0_61, w0_62, w0_63, w0_64, w0_65, w0_66])), (a1, .inl (E.2 1, 200, .inl o_tape27_17))] := hV20.sub [0, 1] rfl rfl
    clear hV14
    refine lv_aload_n hx hb dX12_feed_30 rfl (lv_at hl 0 rfl) ?_
    refine lv_iload hx hb dX12_feed_31 (lv_at hl 4 rfl) ?_
    obtain ⟨o_taped33_22, o_tape33_23, hc24, h25⟩ := cb2_s h19
    clear h19
    refine kgov (krunV (rest := []) X hV20 [0, 1] (c_X12_push l E _ a0 a1 (w0_2) (w0_3) (w0_4) (w0_5) (w0_6) (w0_7) (w0_8) (w0_9) (w0_10) (w0_11) (w0_12) (w0_13) (w0_14) (w0_15) (w0_16) (w0_17) (w0_18) (w0_19) (w0_20) (w0_21) (w0_22) (w0_23) (w0_24) (w0_25) (w0_26) (w0_27) (w0_28) (w0_29) (w0_30) (w0_31) (w0_32) (w0_33) (w0_34) (w0_35) (w0_36) (w0_37) (w0_38) (w0_39) (w0_40) (w0_41) (w0_42) (w0_43) (w0_44) (w0_45) (w0_46) (w0_47) (w0_48) (w0_49) (w0_50) (w0_51) (w0_52) (w0_53) (w0_54) (w0_55) (w0_56) (w0_57) (w0_58) (w0_59) (w0_60) (w0_61) (w0_62) (w0_63) (w0_64) (w0_65) (w0_66) o_taped27_16 o_tape27_17 p4 o_taped33_22 o_tape33_23 hc24) mw_252 kb_X12_push (ci := 12) rfl rfl (by decide) rfl rfl hl.1 rfl (Nat.le_of_ble_eq_true rfl) dX12_feed_33 (by decide)) X hV20 [0, 1] [] rfl rfl rfl (by decide) (fun u H locs hp27 hV26 => ?_)
    have hV26 : kV E A s.heap H locs [(a0, .inr (12, [.ref a1, .int o_taped33_22, w0_2, w0_3, w0_4, w0_5, w0_6, w0_7, w0_8, w0_9, w0_10, w0_11, w0_12, w0_13, w0_14, w0_15, w0_16, w0_17, w0_18, w0_19, w0_20, w0_21, w0_22, w0_23, w0_24, w0_25, w0_26, w0_27, w0_28, w0_29, w0_30, w0_31, w0_32, w0_33, w0_34, w0_35, w0_36, w0_37, w0_38, w0_39, w0_40, w0_41, w0_42, w0_43, w0_44, w0_45, w0_46, w0_47, w0_48, w0_49, w0_50, w0_51, w0_52, w0_53, w0_54, w0_55, w0_56, w0_57, w0_58, w0_59, w0_60, w0_61, w0_62, w0_63, w0_64, w0_65, w0_66])), (a1, .inl (E.2 1, 200, .inl o_tape33_23))] := hV26.sub [0, 1] rfl rfl
    clear hV20
    refine lv_aload_n hx hb dX12_feed_36 rfl (lv_at hl 0 rfl) ?_
    refine lv_iload hx hb dX12_feed_37 (lv_at hl 5 rfl) ?_
    obtain ⟨o_taped39_28, o_tape39_29, hc30, h31⟩ := cb2_s h25
    clear h25
    refine kgov (krunV (rest := []) X hV26 [0, 1] (c_X12_push l E _ a0 a1 (w0_2) (w0_3) (w0_4) (w0_5) (w0_6) (w0_7) (w0_8) (w0_9) (w0_10) (w0_11) (w0_12) (w0_13) (w0_14) (w0_15) (w0_16) (w0_17) (w0_18) (w0_19) (w0_20) (w0_21) (w0_22) (w0_23) (w0_24) (w0_25) (w0_26) (w0_27) (w0_28) (w0_29) (w0_30) (w0_31) (w0_32) (w0_33) (w0_34) (w0_35) (w0_36) (w0_37) (w0_38) (w0_39) (w0_40) (w0_41) (w0_42) (w0_43) (w0_44) (w0_45) (w0_46) (w0_47) (w0_48) (w0_49) (w0_50) (w0_51) (w0_52) (w0_53) (w0_54) (w0_55) (w0_56) (w0_57) (w0_58) (w0_59) (w0_60) (w0_61) (w0_62) (w0_63) (w0_64) (w0_65) (w0_66) o_taped33_22 o_tape33_23 p5 o_taped39_28 o_tape39_29 hc30) mw_252 kb_X12_push (ci := 12) rfl rfl (by decide) rfl rfl hl.1 rfl (Nat.le_of_ble_eq_true rfl) dX12_feed_39 (by decide)) X hV26 [0, 1] [] rfl rfl rfl (by decide) (fun u H locs hp33 hV32 => ?_)
    have hV32 : kV E A s.heap H locs [(a0, .inr (12, [.ref a1, .int o_taped39_28, w0_2, w0_3, w0_4, w0_5, w0_6, w0_7, w0_8, w0_9, w0_10, w0_11, w0_12, w0_13, w0_14, w0_15, w0_16, w0_17, w0_18, w0_19, w0_20, w0_21, w0_22, w0_23, w0_24, w0_25, w0_26, w0_27, w0_28, w0_29, w0_30, w0_31, w0_32, w0_33, w0_34, w0_35, w0_36, w0_37, w0_38, w0_39, w0_40, w0_41, w0_42, w0_43, w0_44, w0_45, w0_46, w0_47, w0_48, w0_49, w0_50, w0_51, w0_52, w0_53, w0_54, w0_55, w0_56, w0_57, w0_58, w0_59, w0_60, w0_61, w0_62, w0_63, w0_64, w0_65, w0_66])), (a1, .inl (E.2 1, 200, .inl o_tape39_29))] := hV32.sub [0, 1] rfl rfl
    clear hV26
    refine lv_aload_n hx hb dX12_feed_42 rfl (lv_at hl 0 rfl) ?_
    refine kget X hV32 (ci := 12) inlX12 rfl 0 rfl 1 (by decide) mw_251 rfl dX12_feed_43 ?_
    obtain ⟨q34, q35, q36⟩ := tup3_s h31
    clear h31
    exact hret _ () _ _ _ _ q34 rfl (by rw [← q35, ← q36]; exact hV32) dX12_feed_46
  · have h3 := ieS c1 h
    clear h c1
    refine lv_iconst (v := (-1)) hx hb dX12_feed_13 (by decide) ?_
    obtain ⟨q37, q38, q39⟩ := tup3_s h3
    clear h3
    exact hret _ () _ _ _ _ q37 rfl (by rw [← q38, ← q39]; exact hV) dX12_feed_14
abbrev r_X12_isSource : Room := { frames := 1, cells := 0, slots := 0, locals := 25 }
set_option maxHeartbeats 4000000 in
set_option maxRecDepth 100000 in
theorem c_X12_isSource (l : Launch) (E : kE) (sz : Nat) (a0 : Nat) (w0_0 w0_1 w0_3 w0_4 w0_5 w0_6 w0_7 w0_8 w0_9 w0_10 w0_11 w0_12 w0_13 w0_14 w0_15 w0_16 w0_17 w0_18 w0_19 w0_20 w0_21 w0_22 w0_23 w0_24 w0_25 w0_26 w0_27 w0_28 w0_29 w0_30 w0_31 w0_32 w0_33 w0_34 w0_35 w0_36 w0_37 w0_38 w0_39 w0_40 w0_41 w0_42 w0_43 w0_44 w0_45 w0_46 w0_47 w0_48 w0_49 w0_50 w0_51 w0_52 w0_53 w0_54 w0_55 w0_56 w0_57 w0_58 w0_59 w0_60 w0_61 w0_62 w0_63 w0_64 w0_65 w0_66 : Value) (s_sources : Int32) (p1 : Int32) (r : Int32) (h : f_X12_isSource s_sources p1 = some (r)) : kMi l yX12_isSource cX12_isSource 2 (some .boolean) r_X12_isSource [.ref a0, .int p1] E [(a0, .inr (12, [w0_0, w0_1, .int s_sources, w0_3, w0_4, w0_5, w0_6, w0_7, w0_8, w0_9, w0_10, w0_11, w0_12, w0_13, w0_14, w0_15, w0_16, w0_17, w0_18, w0_19, w0_20, w0_21, w0_22, w0_23, w0_24, w0_25, w0_26, w0_27, w0_28, w0_29, w0_30, w0_31, w0_32, w0_33, w0_34, w0_35, w0_36, w0_37, w0_38, w0_39, w0_40, w0_41, w0_42, w0_43, w0_44, w0_45, w0_46, w0_47, w0_48, w0_49, w0_50, w0_51, w0_52, w0_53, w0_54, w0_55, w0_56, w0_57, w0_58, w0_59, w0_60, w0_61, w0_62, w0_63, w0_64, w0_65, w0_66]))] sz 0 0 (fun x (_ : Unit) => x = r) (fun _ => [(a0, .inr (12, [w0_0, w0_1, .int s_sources, w0_3, w0_4, w0_5, w0_6, w0_7, w0_8, w0_9, w0_10, w0_11, w0_12, w0_13, w0_14, w0_15, w0_16, w0_17, w0_18, w0_19, w0_20, w0_21, w0_22, w0_23, w0_24, w0_25, w0_26, w0_27, w0_28, w0_29, w0_30, w0_31, w0_32, w0_33, w0_34, w0_35, w0_36, w0_37, w0_38, w0_39, w0_40, w0_41, w0_42, w0_43, w0_44, w0_45, w0_46, w0_47, w0_48, w0_49, w0_50, w0_51, w0_52, w0_53, w0_54, w0_55, w0_56, w0_57, w0_58, w0_59, w0_60, w0_61, w0_62, w0_63, w0_64, w0_65, w0_66]))]) := by
  refine kmeti rfl (Nat.le_of_ble_eq_true rfl) ?_
  intro p e s m args below meth c ls A Q X hV hret hl
  have X : kC p s m c cX12_isSource 2 RX12 args E A := X
  have hx := X.1
  have hb := X.2.1
  have hl : lv_has ls 2 [(0, .ref a0), (1, .int p1)] := hl
  rw [f_X12_isSource] at h
  refine lv_iload_n hx hb dX12_isSource_0 rfl (lv_at hl 1 rfl) ?_
  refine lv_i2l (v := Int32.toInt64 p1) hx hb dX12_isSource_1 rfl ?_
  refine lv_lconst (v := 0) hx hb dX12_isSource_2 (by decide) ?_
  refine lv_aload_n hx hb dX12_isSource_3 rfl (lv_at hl 0 rfl) ?_
  refine kget X hV (ci := 12) inlX12 rfl 0 rfl 2 (by decide) mw_216 rfl dX12_isSource_4 ?_
  refine lv_iconst (v := 1) hx hb dX12_isSource_7 (by decide) ?_
  refine lv_isub hx hb dX12_isSource_8 ?_
  refine lv_i2l (v := Int32.toInt64 (s_sources - 1)) hx hb dX12_isSource_9 rfl ?_
  obtain ⟨r10_1, hc2, h3⟩ := cb1_s h
  clear h
  refine kgoiE (krunS (rest := []) X hV [] (c_X12_lies l E _ (Int32.toInt64 p1) 0 (Int32.toInt64 (s_sources - 1)) r10_1 hc2) mw_224 kb_X12_lies (by decide) rfl rfl hl.1 rfl (Nat.le_of_ble_eq_true rfl) dX12_isSource_10 (by decide)) X hV [] [0] rfl rfl rfl (by decide) (fun u H locs hV4 => ?_)
  have hV4 : kV E A s.heap H locs [(a0, .inr (12, [w0_0, w0_1, .int s_sources, w0_3, w0_4, w0_5, w0_6, w0_7, w0_8, w0_9, w0_10, w0_11, w0_12, w0_13, w0_14, w0_15, w0_16, w0_17, w0_18, w0_19, w0_20, w0_21, w0_22, w0_23, w0_24, w0_25, w0_26, w0_27, w0_28, w0_29, w0_30, w0_31, w0_32, w0_33, w0_34, w0_35, w0_36, w0_37, w0_38, w0_39, w0_40, w0_41, w0_42, w0_43, w0_44, w0_45, w0_46, w0_47, w0_48, w0_49, w0_50, w0_51, w0_52, w0_53, w0_54, w0_55, w0_56, w0_57, w0_58, w0_59, w0_60, w0_61, w0_62, w0_63, w0_64, w0_65, w0_66]))] := hV4.sub [0] rfl rfl
  clear hV
  obtain ⟨hb6, h7⟩ := bo_s h3
  clear h3
  have q8 := tup1_s h7
  clear h7
  exact hret _ () _ _ _ _ q8 hb6 hV4 dX12_isSource_13
abbrev r_X12_isReader : Room := { frames := 1, cells := 0, slots := 0, locals := 25 }
set_option maxHeartbeats 4000000 in
set_option maxRecDepth 100000 in
theorem c_X12_isReader (l : Launch) (E : kE) (sz : Nat) (p1 : Int32) (r : Int32) (h : f_X12_isReader p1 = some (r)) : kMi l yX12_isReader cX12_isReader 1 (some .boolean) r_X12_isReader [.int p1] E [] sz 0 0 (fun x (_ : Unit) => x = r) (fun _ => []) := by
  refine kmeti rfl (Nat.le_of_ble_eq_true rfl) ?_
  intro p e s m args below meth c ls A Q X hV hret hl
  have X : kC p s m c cX12_isReader 1 RX12 args E A := X
  have hx := X.1
  have hb := X.2.1
  have hl : lv_has ls 1 [(0, .int p1)] := hl
  rw [f_X12_isReader] at h
  refine lv_iload_n hx hb dX12_isReader_0 rfl (lv_at hl 0 rfl) ?_
  refine lv_i2l (v := Int32.toInt64 p1) hx hb dX12_isReader_1 rfl ?_
  refine lv_lconst (v := 0) hx hb dX12_isReader_2 (by decide) ?_
  refine lv_ldc2 (v := 3) hx hb X.2.2.2.1 (X.2.2.2.2.1 _ mw_218) dX12_isReader_3 ?_
  obtain ⟨r6_1, hc2, h3⟩ := cb1_s h
  clear h
  refine kgoiE (krunS (rest := []) X hV [] (c_X12_lies l E _ (Int32.toInt64 p1) 0 3 r6_1 hc2) mw_224 kb_X12_lies (by decide) rfl rfl hl.1 rfl (Nat.le_of_ble_eq_true rfl) dX12_isReader_6 (by decide)) X hV [] [] rfl rfl rfl (by decide) (fun u H locs hV4 => ?_)
  have hV4 : kV E A s.heap H locs [] := hV4.sub [] rfl rfl
  clear hV
  obtain ⟨hb6, h7⟩ := bo_s h3
  clear h3
  have q8 := tup1_s h7
  clear h7
  exact hret _ () _ _ _ _ q8 hb6 hV4 dX12_isReader_9
abbrev r_X12_canRead : Room := { frames := 1, cells := 0, slots := 0, locals := 25 }
set_option maxHeartbeats 4000000 in
set_option maxRecDepth 100000 in
theorem c_X12_canRead (l : Launch) (E : kE) (sz : Nat) (a0 : Nat) (w0_0 w0_2 w0_3 w0_4 w0_5 w0_6 w0_7 w0_8 w0_9 w0_10 w0_11 w0_12 w0_13 w0_14 w0_15 w0_16 w0_17 w0_18 w0_19 w0_20 w0_21 w0_22 w0_23 w0_24 w0_25 w0_26 w0_27 w0_28 w0_29 w0_30 w0_31 w0_32 w0_33 w0_34 w0_35 w0_36 w0_37 w0_38 w0_39 w0_40 w0_41 w0_42 w0_43 w0_44 w0_45 w0_46 w0_47 w0_48 w0_49 w0_50 w0_51 w0_52 w0_53 w0_54 w0_55 w0_56 w0_57 w0_58 w0_59 w0_60 w0_61 w0_62 w0_63 w0_64 w0_65 w0_66 : Value) (s_taped : Int32) (p1 : Int32) (p2 : Int32) (r : Int32) (h : f_X12_canRead s_taped p1 p2 = some (r)) : kMi l yX12_canRead cX12_canRead 3 (some .boolean) r_X12_canRead [.ref a0, .int p1, .int p2] E [(a0, .inr (12, [w0_0, .int s_taped, w0_2, w0_3, w0_4, w0_5, w0_6, w0_7, w0_8, w0_9, w0_10, w0_11, w0_12, w0_13, w0_14, w0_15, w0_16, w0_17, w0_18, w0_19, w0_20, w0_21, w0_22, w0_23, w0_24, w0_25, w0_26, w0_27, w0_28, w0_29, w0_30, w0_31, w0_32, w0_33, w0_34, w0_35, w0_36, w0_37, w0_38, w0_39, w0_40, w0_41, w0_42, w0_43, w0_44, w0_45, w0_46, w0_47, w0_48, w0_49, w0_50, w0_51, w0_52, w0_53, w0_54, w0_55, w0_56, w0_57, w0_58, w0_59, w0_60, w0_61, w0_62, w0_63, w0_64, w0_65, w0_66]))] sz 0 0 (fun x (_ : Unit) => x = r) (fun _ => [(a0, .inr (12, [w0_0, .int s_taped, w0_2, w0_3, w0_4, w0_5, w0_6, w0_7, w0_8, w0_9, w0_10, w0_11, w0_12, w0_13, w0_14, w0_15, w0_16, w0_17, w0_18, w0_19, w0_20, w0_21, w0_22, w0_23, w0_24, w0_25, w0_26, w0_27, w0_28, w0_29, w0_30, w0_31, w0_32, w0_33, w0_34, w0_35, w0_36, w0_37, w0_38, w0_39, w0_40, w0_41, w0_42, w0_43, w0_44, w0_45, w0_46, w0_47, w0_48, w0_49, w0_50, w0_51, w0_52, w0_53, w0_54, w0_55, w0_56, w0_57, w0_58, w0_59, w0_60, w0_61, w0_62, w0_63, w0_64, w0_65, w0_66]))]) := by
  refine kmeti rfl (Nat.le_of_ble_eq_true rfl) ?_
  intro p e s m args below meth c ls A Q X hV hret hl
  have X : kC p s m c cX12_canRead 3 RX12 args E A := X
  have hx := X.1
  have hb := X.2.1
  have hl : lv_has ls 3 [(0, .ref a0), (1, .int p1), (2, .int p2)] := hl
  rw [f_X12_canRead] at h
  refine lv_iload_n hx hb dX12_canRead_0 rfl (lv_at hl 1 rfl) ?_
  refine lv_i2l (v := Int32.toInt64 p1) hx hb dX12_canRead_1 rfl ?_
  refine lv_lconst (v := 1) hx hb dX12_canRead_2 (by decide) ?_
  refine lv_iload_n hx hb dX12_canRead_3 rfl (lv_at hl 2 rfl) ?_
  refine lv_i2l (v := Int32.toInt64 p2) hx hb dX12_canRead_4 rfl ?_
  obtain ⟨r5_1, hc2, h3⟩ := cb1_s h
  clear h
  refine kgoiE (krunS (rest := []) X hV [] (c_X12_lies l E _ (Int32.toInt64 p1) 1 (Int32.toInt64 p2) r5_1 hc2) mw_224 kb_X12_lies (by decide) rfl rfl hl.1 rfl (Nat.le_of_ble_eq_true rfl) dX12_canRead_5 (by decide)) X hV [] [0] rfl rfl rfl (by decide) (fun u H locs hV4 => ?_)
  have hV4 : kV E A s.heap H locs [(a0, .inr (12, [w0_0, .int s_taped, w0_2, w0_3, w0_4, w0_5, w0_6, w0_7, w0_8, w0_9, w0_10, w0_11, w0_12, w0_13, w0_14, w0_15, w0_16, w0_17, w0_18, w0_19, w0_20, w0_21, w0_22, w0_23, w0_24, w0_25, w0_26, w0_27, w0_28, w0_29, w0_30, w0_31, w0_32, w0_33, w0_34, w0_35, w0_36, w0_37, w0_38, w0_39, w0_40, w0_41, w0_42, w0_43, w0_44, w0_45, w0_46, w0_47, w0_48, w0_49, w0_50, w0_51, w0_52, w0_53, w0_54, w0_55, w0_56, w0_57, w0_58, w0_59, w0_60, w0_61, w0_62, w0_63, w0_64, w0_65, w0_66]))] := hV4.sub [0] rfl rfl
  clear hV
  refine lv_if_eq (tgt := 23) hx hb dX12_canRead_8 (by decide) (fun c6 => ?_) (fun c6 => ?_)
  · have h7 := itS c6 h3
    clear h3 c6
    refine lv_iconst (v := 0) hx hb dX12_canRead_23 (by decide) ?_
    have q9 := tup1_s h7
    clear h7
    exact hret _ () _ _ _ _ q9 rfl hV4 dX12_canRead_24
  · have h8 := ieS c6 h3
    clear h3 c6
    refine lv_iload_n hx hb dX12_canRead_11 rfl (lv_at hl 1 rfl) ?_
    refine lv_aload_n hx hb dX12_canRead_12 rfl (lv_at hl 0 rfl) ?_
    refine kget X hV4 (ci := 12) inlX12 rfl 0 rfl 1 (by decide) mw_251 rfl dX12_canRead_13 ?_
    refine lv_icmp_gt (tgt := 23) hx hb dX12_canRead_16 (by decide) (fun c10 => ?_) (fun c10 => ?_)
    · have h11 := itS c10 h8
      clear h8 c10
      refine lv_iconst (v := 0) hx hb dX12_canRead_23 (by decide) ?_
      have q13 := tup1_s h11
      clear h11
      exact hret _ () _ _ _ _ q13 rfl hV4 dX12_canRead_24
    · have h12 := ieS c10 h8
      clear h8 c10
      refine lv_iconst (v := 1) hx hb dX12_canRead_19 (by decide) ?_
      refine lv_goto (tgt := 24) hx hb dX12_canRead_20 (by decide) ?_
      have q14 := tup1_s h12
      clear h12
      exact hret _ () _ _ _ _ q14 rfl hV4 dX12_canRead_24
abbrev r_X12_law : Room := { frames := 2, cells := 0, slots := 0, locals := 47 }
set_option maxHeartbeats 4000000 in
set_option maxRecDepth 100000 in
theorem c_X12_law (l : Launch) (E : kE) (sz : Nat) (a0 : Nat) (w0_0 w0_3 w0_4 w0_5 w0_6 w0_7 w0_8 w0_9 w0_10 w0_11 w0_12 w0_13 w0_14 w0_15 w0_16 w0_17 w0_18 w0_19 w0_20 w0_21 w0_22 w0_23 w0_24 w0_25 w0_26 w0_27 w0_28 w0_29 w0_30 w0_31 w0_32 w0_33 w0_34 w0_35 w0_36 w0_37 w0_38 w0_39 w0_40 w0_41 w0_42 w0_43 w0_44 w0_45 w0_46 w0_47 w0_48 w0_49 w0_50 w0_51 w0_52 w0_53 w0_54 w0_55 w0_56 w0_57 w0_58 w0_59 w0_60 w0_61 w0_62 w0_63 w0_64 w0_65 w0_66 : Value) (s_taped : Int32) (s_sources : Int32) (p1 : Int32) (p2 : Int32) (r : Int32) (h : f_X12_law s_taped s_sources p1 p2 = some (r)) : kMi l yX12_law cX12_law 3 (some .int) r_X12_law [.ref a0, .int p1, .int p2] E [(a0, .inr (12, [w0_0, .int s_taped, .int s_sources, w0_3, w0_4, w0_5, w0_6, w0_7, w0_8, w0_9, w0_10, w0_11, w0_12, w0_13, w0_14, w0_15, w0_16, w0_17, w0_18, w0_19, w0_20, w0_21, w0_22, w0_23, w0_24, w0_25, w0_26, w0_27, w0_28, w0_29, w0_30, w0_31, w0_32, w0_33, w0_34, w0_35, w0_36, w0_37, w0_38, w0_39, w0_40, w0_41, w0_42, w0_43, w0_44, w0_45, w0_46, w0_47, w0_48, w0_49, w0_50, w0_51, w0_52, w0_53, w0_54, w0_55, w0_56, w0_57, w0_58, w0_59, w0_60, w0_61, w0_62, w0_63, w0_64, w0_65, w0_66]))] sz 0 0 (fun x (_ : Unit) => x = r) (fun _ => [(a0, .inr (12, [w0_0, .int s_taped, .int s_sources, w0_3, w0_4, w0_5, w0_6, w0_7, w0_8, w0_9, w0_10, w0_11, w0_12, w0_13, w0_14, w0_15, w0_16, w0_17, w0_18, w0_19, w0_20, w0_21, w0_22, w0_23, w0_24, w0_25, w0_26, w0_27, w0_28, w0_29, w0_30, w0_31, w0_32, w0_33, w0_34, w0_35, w0_36, w0_37, w0_38, w0_39, w0_40, w0_41, w0_42, w0_43, w0_44, w0_45, w0_46, w0_47, w0_48, w0_49, w0_50, w0_51, w0_52, w0_53, w0_54, w0_55, w0_56, w0_57, w0_58, w0_59, w0_60, w0_61, w0_62, w0_63, w0_64, w0_65, w0_66]))]) := by
  refine kmeti rfl (Nat.le_of_ble_eq_true rfl) ?_
  intro p e s m args below meth c ls A Q X hV hret hl
  have X : kC p s m c cX12_law 3 RX12 args E A := X
  have hx := X.1
  have hb := X.2.1
  have hl : lv_has ls 3 [(0, .ref a0), (1, .int p1), (2, .int p2)] := hl
  rw [f_X12_law] at h
  refine lv_aload_n hx hb dX12_law_0 rfl (lv_at hl 0 rfl) ?_
  refine lv_iload_n hx hb dX12_law_1 rfl (lv_at hl 1 rfl) ?_
  obtain ⟨r2_1, hc2, h3⟩ := cb1_s h
  clear h
  refine kgoiE (krunV (rest := []) X hV [0] (c_X12_isSource l E _ a0 (w0_0) (.int s_taped) (w0_3) (w0_4) (w0_5) (w0_6) (w0_7) (w0_8) (w0_9) (w0_10) (w0_11) (w0_12) (w0_13) (w0_14) (w0_15) (w0_16) (w0_17) (w0_18) (w0_19) (w0_20) (w0_21) (w0_22) (w0_23) (w0_24) (w0_25) (w0_26) (w0_27) (w0_28) (w0_29) (w0_30) (w0_31) (w0_32) (w0_33) (w0_34) (w0_35) (w0_36) (w0_37) (w0_38) (w0_39) (w0_40) (w0_41) (w0_42) (w0_43) (w0_44) (w0_45) (w0_46) (w0_47) (w0_48) (w0_49) (w0_50) (w0_51) (w0_52) (w0_53) (w0_54) (w0_55) (w0_56) (w0_57) (w0_58) (w0_59) (w0_60) (w0_61) (w0_62) (w0_63) (w0_64) (w0_65) (w0_66) s_sources p1 r2_1 hc2) mw_461 kb_X12_isSource (ci := 12) rfl rfl (by decide) rfl rfl hl.1 rfl (Nat.le_of_ble_eq_true rfl) dX12_law_2 (by decide)) X hV [0] [] rfl rfl rfl (by decide) (fun u H locs hV4 => ?_)
  have hV4 : kV E A s.heap H locs [(a0, .inr (12, [w0_0, .int s_taped, .int s_sources, w0_3, w0_4, w0_5, w0_6, w0_7, w0_8, w0_9, w0_10, w0_11, w0_12, w0_13, w0_14, w0_15, w0_16, w0_17, w0_18, w0_19, w0_20, w0_21, w0_22, w0_23, w0_24, w0_25, w0_26, w0_27, w0_28, w0_29, w0_30, w0_31, w0_32, w0_33, w0_34, w0_35, w0_36, w0_37, w0_38, w0_39, w0_40, w0_41, w0_42, w0_43, w0_44, w0_45, w0_46, w0_47, w0_48, w0_49, w0_50, w0_51, w0_52, w0_53, w0_54, w0_55, w0_56, w0_57, w0_58, w0_59, w0_60, w0_61, w0_62, w0_63, w0_64, w0_65, w0_66]))] := hV4.sub [0] rfl rfl
  clear hV
  refine lv_if_eq (tgt := 30) hx hb dX12_law_5 (by decide) (fun c6 => ?_) (fun c6 => ?_)
  · have h7 := itS c6 h3
    clear h3 c6
    refine lv_iconst (v := (-1)) hx hb dX12_law_30 (by decide) ?_
    have q9 := tup1_s h7
    clear h7
    exact hret _ () _ _ _ _ q9 rfl hV4 dX12_law_31
  · have h8 := ieS c6 h3
    clear h3 c6
    refine lv_aload_n hx hb dX12_law_8 rfl (lv_at hl 0 rfl) ?_
    refine lv_iload_n hx hb dX12_law_9 rfl (lv_at hl 2 rfl) ?_
    refine lv_bipush (v := 120) hx hb dX12_law_10 (by decide) ?_
    obtain ⟨r12_10, hc11, h12⟩ := cb1_s h8
    clear h8
    refine kgoiE (krunV (rest := []) X hV4 [0] (c_X12_canRead l E _ a0 (w0_0) (.int s_sources) (w0_3) (w0_4) (w0_5) (w0_6) (w0_7) (w0_8) (w0_9) (w0_10) (w0_11) (w0_12) (w0_13) (w0_14) (w0_15) (w0_16) (w0_17) (w0_18) (w0_19) (w0_20) (w0_21) (w0_22) (w0_23) (w0_24) (w0_25) (w0_26) (w0_27) (w0_28) (w0_29) (w0_30) (w0_31) (w0_32) (w0_33) (w0_34) (w0_35) (w0_36) (w0_37) (w0_38) (w0_39) (w0_40) (w0_41) (w0_42) (w0_43) (w0_44) (w0_45) (w0_46) (w0_47) (w0_48) (w0_49) (w0_50) (w0_51) (w0_52) (w0_53) (w0_54) (w0_55) (w0_56) (w0_57) (w0_58) (w0_59) (w0_60) (w0_61) (w0_62) (w0_63) (w0_64) (w0_65) (w0_66) s_taped p2 120 r12_10 hc11) mw_465 kb_X12_canRead (ci := 12) rfl rfl (by decide) rfl rfl hl.1 rfl (Nat.le_of_ble_eq_true rfl) dX12_law_12 (by decide)) X hV4 [0] [] rfl rfl rfl (by decide) (fun u H locs hV13 => ?_)
    have hV13 : kV E A s.heap H locs [(a0, .inr (12, [w0_0, .int s_taped, .int s_sources, w0_3, w0_4, w0_5, w0_6, w0_7, w0_8, w0_9, w0_10, w0_11, w0_12, w0_13, w0_14, w0_15, w0_16, w0_17, w0_18, w0_19, w0_20, w0_21, w0_22, w0_23, w0_24, w0_25, w0_26, w0_27, w0_28, w0_29, w0_30, w0_31, w0_32, w0_33, w0_34, w0_35, w0_36, w0_37, w0_38, w0_39, w0_40, w0_41, w0_42, w0_43, w0_44, w0_45, w0_46, w0_47, w0_48, w0_49, w0_50, w0_51, w0_52, w0_53, w0_54, w0_55, w0_56, w0_57, w0_58, w0_59, w0_60, w0_61, w0_62, w0_63, w0_64, w0_65, w0_66]))] := hV13.sub [0] rfl rfl
    clear hV4
    refine lv_if_eq (tgt := 30) hx hb dX12_law_15 (by decide) (fun c15 => ?_) (fun c15 => ?_)
    · have h16 := itS c15 h12
      clear h12 c15
      refine lv_iconst (v := (-1)) hx hb dX12_law_30 (by decide) ?_
      have q18 := tup1_s h16
      clear h16
      exact hret _ () _ _ _ _ q18 rfl hV13 dX12_law_31
    · have h17 := ieS c15 h12
      clear h12 c15
      refine lv_aload_n hx hb dX12_law_18 rfl (lv_at hl 0 rfl) ?_
      refine lv_iconst (v := 0) hx hb dX12_law_19 (by decide) ?_
      refine lv_iload_n hx hb dX12_law_20 rfl (lv_at hl 1 rfl) ?_
      refine lv_iadd hx hb dX12_law_21 ?_
      refine lv_iload_n hx hb dX12_law_22 rfl (lv_at hl 2 rfl) ?_
      refine lv_iconst (v := 1) hx hb dX12_law_23 (by decide) ?_
      exact nomatch h17
abbrev r_X12_way : Room := { frames := 2, cells := 0, slots := 0, locals := 47 }
set_option maxHeartbeats 4000000 in
set_option maxRecDepth 100000 in
theorem c_X12_way (l : Launch) (E : kE) (sz : Nat) (a0 : Nat) (w0_0 w0_2 w0_3 w0_4 w0_5 w0_6 w0_7 w0_8 w0_9 w0_10 w0_11 w0_12 w0_13 w0_14 w0_15 w0_16 w0_17 w0_18 w0_19 w0_20 w0_21 w0_22 w0_23 w0_24 w0_25 w0_26 w0_27 w0_28 w0_29 w0_30 w0_31 w0_32 w0_33 w0_34 w0_35 w0_36 w0_37 w0_38 w0_39 w0_40 w0_41 w0_42 w0_43 w0_44 w0_45 w0_46 w0_47 w0_48 w0_49 w0_50 w0_51 w0_52 w0_53 w0_54 w0_55 w0_56 w0_57 w0_58 w0_59 w0_60 w0_61 w0_62 w0_63 w0_64 w0_65 w0_66 : Value) (s_taped : Int32) (p1 : Int32) (p2 : Int32) (r : Int32) (h : f_X12_way s_taped p1 p2 = some (r)) : kMi l yX12_way cX12_way 3 (some .int) r_X12_way [.ref a0, .int p1, .int p2] E [(a0, .inr (12, [w0_0, .int s_taped, w0_2, w0_3, w0_4, w0_5, w0_6, w0_7, w0_8, w0_9, w0_10, w0_11, w0_12, w0_13, w0_14, w0_15, w0_16, w0_17, w0_18, w0_19, w0_20, w0_21, w0_22, w0_23, w0_24, w0_25, w0_26, w0_27, w0_28, w0_29, w0_30, w0_31, w0_32, w0_33, w0_34, w0_35, w0_36, w0_37, w0_38, w0_39, w0_40, w0_41, w0_42, w0_43, w0_44, w0_45, w0_46, w0_47, w0_48, w0_49, w0_50, w0_51, w0_52, w0_53, w0_54, w0_55, w0_56, w0_57, w0_58, w0_59, w0_60, w0_61, w0_62, w0_63, w0_64, w0_65, w0_66]))] sz 0 0 (fun x (_ : Unit) => x = r) (fun _ => [(a0, .inr (12, [w0_0, .int s_taped, w0_2, w0_3, w0_4, w0_5, w0_6, w0_7, w0_8, w0_9, w0_10, w0_11, w0_12, w0_13, w0_14, w0_15, w0_16, w0_17, w0_18, w0_19, w0_20, w0_21, w0_22, w0_23, w0_24, w0_25, w0_26, w0_27, w0_28, w0_29, w0_30, w0_31, w0_32, w0_33, w0_34, w0_35, w0_36, w0_37, w0_38, w0_39, w0_40, w0_41, w0_42, w0_43, w0_44, w0_45, w0_46, w0_47, w0_48, w0_49, w0_50, w0_51, w0_52, w0_53, w0_54, w0_55, w0_56, w0_57, w0_58, w0_59, w0_60, w0_61, w0_62, w0_63, w0_64, w0_65, w0_66]))]) := by
  refine kmeti rfl (Nat.le_of_ble_eq_true rfl) ?_
  intro p e s m args below meth c ls A Q X hV hret hl
  have X : kC p s m c cX12_way 3 RX12 args E A := X
  have hx := X.1
  have hb := X.2.1
  have hl : lv_has ls 3 [(0, .ref a0), (1, .int p1), (2, .int p2)] := hl
  rw [f_X12_way] at h
  refine lv_iload_n hx hb dX12_way_0 rfl (lv_at hl 1 rfl) ?_
  obtain ⟨r1_1, hc2, h3⟩ := cb1_s h
  clear h
  refine kgoiE (krunS (rest := []) X hV [] (c_X12_isReader l E _ p1 r1_1 hc2) mw_595 kb_X12_isReader (by decide) rfl rfl hl.1 rfl (Nat.le_of_ble_eq_true rfl) dX12_way_1 (by decide)) X hV [] [0] rfl rfl rfl (by decide) (fun u H locs hV4 => ?_)
  have hV4 : kV E A s.heap H locs [(a0, .inr (12, [w0_0, .int s_taped, w0_2, w0_3, w0_4, w0_5, w0_6, w0_7, w0_8, w0_9, w0_10, w0_11, w0_12, w0_13, w0_14, w0_15, w0_16, w0_17, w0_18, w0_19, w0_20, w0_21, w0_22, w0_23, w0_24, w0_25, w0_26, w0_27, w0_28, w0_29, w0_30, w0_31, w0_32, w0_33, w0_34, w0_35, w0_36, w0_37, w0_38, w0_39, w0_40, w0_41, w0_42, w0_43, w0_44, w0_45, w0_46, w0_47, w0_48, w0_49, w0_50, w0_51, w0_52, w0_53, w0_54, w0_55, w0_56, w0_57, w0_58, w0_59, w0_60, w0_61, w0_62, w0_63, w0_64, w0_65, w0_66]))] := hV4.sub [0] rfl rfl
  clear hV
  refine lv_if_eq (tgt := 30) hx hb dX12_way_4 (by decide) (fun c6 => ?_) (fun c6 => ?_)
  · have h7 := itS c6 h3
    clear h3 c6
    refine lv_iconst (v := (-1)) hx hb dX12_way_30 (by decide) ?_
    have q9 := tup1_s h7
    clear h7
    exact hret _ () _ _ _ _ q9 rfl hV4 dX12_way_31
  · have h8 := ieS c6 h3
    clear h3 c6
    refine lv_aload_n hx hb dX12_way_7 rfl (lv_at hl 0 rfl) ?_
    refine lv_iload_n hx hb dX12_way_8 rfl (lv_at hl 2 rfl) ?_
    refine lv_bipush (v := 120) hx hb dX12_way_9 (by decide) ?_
    obtain ⟨r11_10, hc11, h12⟩ := cb1_s h8
    clear h8
    refine kgoiE (krunV (rest := []) X hV4 [0] (c_X12_canRead l E _ a0 (w0_0) (w0_2) (w0_3) (w0_4) (w0_5) (w0_6) (w0_7) (w0_8) (w0_9) (w0_10) (w0_11) (w0_12) (w0_13) (w0_14) (w0_15) (w0_16) (w0_17) (w0_18) (w0_19) (w0_20) (w0_21) (w0_22) (w0_23) (w0_24) (w0_25) (w0_26) (w0_27) (w0_28) (w0_29) (w0_30) (w0_31) (w0_32) (w0_33) (w0_34) (w0_35) (w0_36) (w0_37) (w0_38) (w0_39) (w0_40) (w0_41) (w0_42) (w0_43) (w0_44) (w0_45) (w0_46) (w0_47) (w0_48) (w0_49) (w0_50) (w0_51) (w0_52) (w0_53) (w0_54) (w0_55) (w0_56) (w0_57) (w0_58) (w0_59) (w0_60) (w0_61) (w0_62) (w0_63) (w0_64) (w0_65) (w0_66) s_taped p2 120 r11_10 hc11) mw_465 kb_X12_canRead (ci := 12) rfl rfl (by decide) rfl rfl hl.1 rfl (Nat.le_of_ble_eq_true rfl) dX12_way_11 (by decide)) X hV4 [0] [] rfl rfl rfl (by decide) (fun u H locs hV13 => ?_)
    have hV13 : kV E A s.heap H locs [(a0, .inr (12, [w0_0, .int s_taped, w0_2, w0_3, w0_4, w0_5, w0_6, w0_7, w0_8, w0_9, w0_10, w0_11, w0_12, w0_13, w0_14, w0_15, w0_16, w0_17, w0_18, w0_19, w0_20, w0_21, w0_22, w0_23, w0_24, w0_25, w0_26, w0_27, w0_28, w0_29, w0_30, w0_31, w0_32, w0_33, w0_34, w0_35, w0_36, w0_37, w0_38, w0_39, w0_40, w0_41, w0_42, w0_43, w0_44, w0_45, w0_46, w0_47, w0_48, w0_49, w0_50, w0_51, w0_52, w0_53, w0_54, w0_55, w0_56, w0_57, w0_58, w0_59, w0_60, w0_61, w0_62, w0_63, w0_64, w0_65, w0_66]))] := hV13.sub [0] rfl rfl
    clear hV4
    refine lv_if_eq (tgt := 30) hx hb dX12_way_14 (by decide) (fun c15 => ?_) (fun c15 => ?_)
    · have h16 := itS c15 h12
      clear h12 c15
      refine lv_iconst (v := (-1)) hx hb dX12_way_30 (by decide) ?_
      have q18 := tup1_s h16
      clear h16
      exact hret _ () _ _ _ _ q18 rfl hV13 dX12_way_31
    · have h17 := ieS c15 h12
      clear h12 c15
      refine lv_aload_n hx hb dX12_way_17 rfl (lv_at hl 0 rfl) ?_
      refine lv_bipush (v := 10) hx hb dX12_way_18 (by decide) ?_
      refine lv_iload_n hx hb dX12_way_20 rfl (lv_at hl 1 rfl) ?_
      refine lv_iadd hx hb dX12_way_21 ?_
      refine lv_iload_n hx hb dX12_way_22 rfl (lv_at hl 2 rfl) ?_
      refine lv_iconst (v := 0) hx hb dX12_way_23 (by decide) ?_
      exact nomatch h17
abbrev r_X12_isTale : Room := { frames := 1, cells := 0, slots := 0, locals := 25 }
set_option maxHeartbeats 4000000 in
set_option maxRecDepth 100000 in
theorem c_X12_isTale (l : Launch) (E : kE) (sz : Nat) (p1 : Int32) (r : Int32) (h : f_X12_isTale p1 = some (r)) : kMi l yX12_isTale cX12_isTale 1 (some .boolean) r_X12_isTale [.int p1] E [] sz 0 0 (fun x (_ : Unit) => x = r) (fun _ => []) := by
  refine kmeti rfl (Nat.le_of_ble_eq_true rfl) ?_
  intro p e s m args below meth c ls A Q X hV hret hl
  have X : kC p s m c cX12_isTale 1 RX12 args E A := X
  have hx := X.1
  have hb := X.2.1
  have hl : lv_has ls 1 [(0, .int p1)] := hl
  rw [f_X12_isTale] at h
  refine lv_iload_n hx hb dX12_isTale_0 rfl (lv_at hl 0 rfl) ?_
  refine lv_i2l (v := Int32.toInt64 p1) hx hb dX12_isTale_1 rfl ?_
  refine lv_lconst (v := 0) hx hb dX12_isTale_2 (by decide) ?_
  refine lv_ldc2 (v := 5) hx hb X.2.2.2.1 (X.2.2.2.2.1 _ mw_617) dX12_isTale_3 ?_
  obtain ⟨r6_1, hc2, h3⟩ := cb1_s h
  clear h
  refine kgoiE (krunS (rest := []) X hV [] (c_X12_lies l E _ (Int32.toInt64 p1) 0 5 r6_1 hc2) mw_224 kb_X12_lies (by decide) rfl rfl hl.1 rfl (Nat.le_of_ble_eq_true rfl) dX12_isTale_6 (by decide)) X hV [] [] rfl rfl rfl (by decide) (fun u H locs hV4 => ?_)
  have hV4 : kV E A s.heap H locs [] := hV4.sub [] rfl rfl
  clear hV
  obtain ⟨hb6, h7⟩ := bo_s h3
  clear h3
  have q8 := tup1_s h7
  clear h7
  exact hret _ () _ _ _ _ q8 hb6 hV4 dX12_isTale_9
abbrev r_X12_story : Room := { frames := 2, cells := 0, slots := 0, locals := 47 }
set_option maxHeartbeats 4000000 in
set_option maxRecDepth 100000 in
theorem c_X12_story (l : Launch) (E : kE) (sz : Nat) (a0 : Nat) (w0_0 w0_2 w0_3 w0_4 w0_5 w0_6 w0_7 w0_8 w0_9 w0_10 w0_11 w0_12 w0_13 w0_14 w0_15 w0_16 w0_17 w0_18 w0_19 w0_20 w0_21 w0_22 w0_23 w0_24 w0_25 w0_26 w0_27 w0_28 w0_29 w0_30 w0_31 w0_32 w0_33 w0_34 w0_35 w0_36 w0_37 w0_38 w0_39 w0_40 w0_41 w0_42 w0_43 w0_44 w0_45 w0_46 w0_47 w0_48 w0_49 w0_50 w0_51 w0_52 w0_53 w0_54 w0_55 w0_56 w0_57 w0_58 w0_59 w0_60 w0_61 w0_62 w0_63 w0_64 w0_65 w0_66 : Value) (s_taped : Int32) (p1 : Int32) (p2 : Int32) (r : Int32) (h : f_X12_story s_taped p1 p2 = some (r)) : kMi l yX12_story cX12_story 3 (some .int) r_X12_story [.ref a0, .int p1, .int p2] E [(a0, .inr (12, [w0_0, .int s_taped, w0_2, w0_3, w0_4, w0_5, w0_6, w0_7, w0_8, w0_9, w0_10, w0_11, w0_12, w0_13, w0_14, w0_15, w0_16, w0_17, w0_18, w0_19, w0_20, w0_21, w0_22, w0_23, w0_24, w0_25, w0_26, w0_27, w0_28, w0_29, w0_30, w0_31, w0_32, w0_33, w0_34, w0_35, w0_36, w0_37, w0_38, w0_39, w0_40, w0_41, w0_42, w0_43, w0_44, w0_45, w0_46, w0_47, w0_48, w0_49, w0_50, w0_51, w0_52, w0_53, w0_54, w0_55, w0_56, w0_57, w0_58, w0_59, w0_60, w0_61, w0_62, w0_63, w0_64, w0_65, w0_66]))] sz 0 0 (fun x (_ : Unit) => x = r) (fun _ => [(a0, .inr (12, [w0_0, .int s_taped, w0_2, w0_3, w0_4, w0_5, w0_6, w0_7, w0_8, w0_9, w0_10, w0_11, w0_12, w0_13, w0_14, w0_15, w0_16, w0_17, w0_18, w0_19, w0_20, w0_21, w0_22, w0_23, w0_24, w0_25, w0_26, w0_27, w0_28, w0_29, w0_30, w0_31, w0_32, w0_33, w0_34, w0_35, w0_36, w0_37, w0_38, w0_39, w0_40, w0_41, w0_42, w0_43, w0_44, w0_45, w0_46, w0_47, w0_48, w0_49, w0_50, w0_51, w0_52, w0_53, w0_54, w0_55, w0_56, w0_57, w0_58, w0_59, w0_60, w0_61, w0_62, w0_63, w0_64, w0_65, w0_66]))]) := by
  refine kmeti rfl (Nat.le_of_ble_eq_true rfl) ?_
  intro p e s m args below meth c ls A Q X hV hret hl
  have X : kC p s m c cX12_story 3 RX12 args E A := X
  have hx := X.1
  have hb := X.2.1
  have hl : lv_has ls 3 [(0, .ref a0), (1, .int p1), (2, .int p2)] := hl
  rw [f_X12_story] at h
  refine lv_iload_n hx hb dX12_story_0 rfl (lv_at hl 1 rfl) ?_
  obtain ⟨r1_1, hc2, h3⟩ := cb1_s h
  clear h
  refine kgoiE (krunS (rest := []) X hV [] (c_X12_isTale l E _ p1 r1_1 hc2) mw_614 kb_X12_isTale (by decide) rfl rfl hl.1 rfl (Nat.le_of_ble_eq_true rfl) dX12_story_1 (by decide)) X hV [] [0] rfl rfl rfl (by decide) (fun u H locs hV4 => ?_)
  have hV4 : kV E A s.heap H locs [(a0, .inr (12, [w0_0, .int s_taped, w0_2, w0_3, w0_4, w0_5, w0_6, w0_7, w0_8, w0_9, w0_10, w0_11, w0_12, w0_13, w0_14, w0_15, w0_16, w0_17, w0_18, w0_19, w0_20, w0_21, w0_22, w0_23, w0_24, w0_25, w0_26, w0_27, w0_28, w0_29, w0_30, w0_31, w0_32, w0_33, w0_34, w0_35, w0_36, w0_37, w0_38, w0_39, w0_40, w0_41, w0_42, w0_43, w0_44, w0_45, w0_46, w0_47, w0_48, w0_49, w0_50, w0_51, w0_52, w0_53, w0_54, w0_55, w0_56, w0_57, w0_58, w0_59, w0_60, w0_61, w0_62, w0_63, w0_64, w0_65, w0_66]))] := hV4.sub [0] rfl rfl
  clear hV
  refine lv_if_eq (tgt := 17) hx hb dX12_story_4 (by decide) (fun c6 => ?_) (fun c6 => ?_)
  · have h7 := itS c6 h3
    clear h3 c6
    refine lv_iconst (v := (-1)) hx hb dX12_story_17 (by decide) ?_
    have q9 := tup1_s h7
    clear h7
    exact hret _ () _ _ _ _ q9 rfl hV4 dX12_story_18
  · have h8 := ieS c6 h3
    clear h3 c6
    refine lv_aload_n hx hb dX12_story_7 rfl (lv_at hl 0 rfl) ?_
    refine lv_iload_n hx hb dX12_story_8 rfl (lv_at hl 2 rfl) ?_
    refine lv_bipush (v := 60) hx hb dX12_story_9 (by decide) ?_
    obtain ⟨r11_10, hc11, h12⟩ := cb1_s h8
    clear h8
    refine kgoiE (krunV (rest := []) X hV4 [0] (c_X12_canRead l E _ a0 (w0_0) (w0_2) (w0_3) (w0_4) (w0_5) (w0_6) (w0_7) (w0_8) (w0_9) (w0_10) (w0_11) (w0_12) (w0_13) (w0_14) (w0_15) (w0_16) (w0_17) (w0_18) (w0_19) (w0_20) (w0_21) (w0_22) (w0_23) (w0_24) (w0_25) (w0_26) (w0_27) (w0_28) (w0_29) (w0_30) (w0_31) (w0_32) (w0_33) (w0_34) (w0_35) (w0_36) (w0_37) (w0_38) (w0_39) (w0_40) (w0_41) (w0_42) (w0_43) (w0_44) (w0_45) (w0_46) (w0_47) (w0_48) (w0_49) (w0_50) (w0_51) (w0_52) (w0_53) (w0_54) (w0_55) (w0_56) (w0_57) (w0_58) (w0_59) (w0_60) (w0_61) (w0_62) (w0_63) (w0_64) (w0_65) (w0_66) s_taped p2 60 r11_10 hc11) mw_465 kb_X12_canRead (ci := 12) rfl rfl (by decide) rfl rfl hl.1 rfl (Nat.le_of_ble_eq_true rfl) dX12_story_11 (by decide)) X hV4 [0] [] rfl rfl rfl (by decide) (fun u H locs hV13 => ?_)
    have hV13 : kV E A s.heap H locs [(a0, .inr (12, [w0_0, .int s_taped, w0_2, w0_3, w0_4, w0_5, w0_6, w0_7, w0_8, w0_9, w0_10, w0_11, w0_12, w0_13, w0_14, w0_15, w0_16, w0_17, w0_18, w0_19, w0_20, w0_21, w0_22, w0_23, w0_24, w0_25, w0_26, w0_27, w0_28, w0_29, w0_30, w0_31, w0_32, w0_33, w0_34, w0_35, w0_36, w0_37, w0_38, w0_39, w0_40, w0_41, w0_42, w0_43, w0_44, w0_45, w0_46, w0_47, w0_48, w0_49, w0_50, w0_51, w0_52, w0_53, w0_54, w0_55, w0_56, w0_57, w0_58, w0_59, w0_60, w0_61, w0_62, w0_63, w0_64, w0_65, w0_66]))] := hV13.sub [0] rfl rfl
    clear hV4
    refine lv_if_ne (tgt := 19) hx hb dX12_story_14 (by decide) (fun c15 => ?_) (fun c15 => ?_)
    · have h16 := ieS c15 h12
      clear h12 c15
      refine lv_aload_n hx hb dX12_story_19 rfl (lv_at hl 0 rfl) ?_
      refine lv_iload_n hx hb dX12_story_20 rfl (lv_at hl 2 rfl) ?_
      exact nomatch h16
    · have h17 := itS c15 h12
      clear h12 c15
      refine lv_iconst (v := (-1)) hx hb dX12_story_17 (by decide) ?_
      have q18 := tup1_s h17
      clear h17
      exact hret _ () _ _ _ _ q18 rfl hV13 dX12_story_18
abbrev r_X12_clears : Room := { frames := 0, cells := 0, slots := 0, locals := 0 }
set_option maxHeartbeats 4000000 in
set_option maxRecDepth 100000 in
theorem c_X12_clears (l : Launch) (E : kE) (sz : Nat) (a0 : Nat) (w0_0 w0_1 w0_2 w0_3 w0_4 w0_5 w0_6 w0_7 w0_8 w0_9 w0_10 w0_11 w0_12 w0_13 w0_14 w0_15 w0_16 w0_17 w0_18 w0_19 w0_20 w0_21 w0_22 w0_23 w0_24 w0_25 w0_26 w0_27 w0_41 w0_42 w0_43 w0_44 w0_45 w0_46 w0_47 w0_48 w0_49 w0_50 w0_51 w0_52 w0_53 w0_54 w0_55 w0_56 w0_57 w0_58 w0_59 w0_60 w0_61 w0_62 w0_63 w0_64 w0_65 w0_66 : Value) (s_atA : Int32) (s_atB : Int32) (s_atD : Int32) (s_atF : Int32) (s_atG : Int32) (s_atH : Int32) (s_atL : Int32) (s_atM : Int32) (s_atN : Int32) (s_atS : Int32) (s_atT : Int32) (s_atU : Int32) (s_atX : Int32) (o_atA : Int32) (o_atB : Int32) (o_atD : Int32) (o_atF : Int32) (o_atG : Int32) (o_atH : Int32) (o_atL : Int32) (o_atM : Int32) (o_atN : Int32) (o_atS : Int32) (o_atT : Int32) (o_atU : Int32) (o_atX : Int32) (h : f_X12_clears s_atA s_atB s_atD s_atF s_atG s_atH s_atL s_atM s_atN s_atS s_atT s_atU s_atX = some (o_atA, o_atB, o_atD, o_atF, o_atG, o_atH, o_atL, o_atM, o_atN, o_atS, o_atT, o_atU, o_atX)) : kMv l yX12_clears cX12_clears 1 r_X12_clears [.ref a0] E [(a0, .inr (12, [w0_0, w0_1, w0_2, w0_3, w0_4, w0_5, w0_6, w0_7, w0_8, w0_9, w0_10, w0_11, w0_12, w0_13, w0_14, w0_15, w0_16, w0_17, w0_18, w0_19, w0_20, w0_21, w0_22, w0_23, w0_24, w0_25, w0_26, w0_27, .int s_atA, .int s_atB, .int s_atD, .int s_atF, .int s_atG, .int s_atH, .int s_atL, .int s_atM, .int s_atN, .int s_atS, .int s_atT, .int s_atU, .int s_atX, w0_41, w0_42, w0_43, w0_44, w0_45, w0_46, w0_47, w0_48, w0_49, w0_50, w0_51, w0_52, w0_53, w0_54, w0_55, w0_56, w0_57, w0_58, w0_59, w0_60, w0_61, w0_62, w0_63, w0_64, w0_65, w0_66]))] sz 0 0 (fun (_ : Unit) => True) (fun _ => [(a0, .inr (12, [w0_0, w0_1, w0_2, w0_3, w0_4, w0_5, w0_6, w0_7, w0_8, w0_9, w0_10, w0_11, w0_12, w0_13, w0_14, w0_15, w0_16, w0_17, w0_18, w0_19, w0_20, w0_21, w0_22, w0_23, w0_24, w0_25, w0_26, w0_27, .int o_atA, .int o_atB, .int o_atD, .int o_atF, .int o_atG, .int o_atH, .int o_atL, .int o_atM, .int o_atN, .int o_atS, .int o_atT, .int o_atU, .int o_atX, w0_41, w0_42, w0_43, w0_44, w0_45, w0_46, w0_47, w0_48, w0_49, w0_50, w0_51, w0_52, w0_53, w0_54, w0_55, w0_56, w0_57, w0_58, w0_59, w0_60, w0_61, w0_62, w0_63, w0_64, w0_65, w0_66]))]) := by
  refine kmetv rfl (Nat.le_of_ble_eq_true rfl) ?_
  intro p e s m args below meth c ls A Q X hnm hV hret hl
  have X : kC p s m c cX12_clears 1 RX12 args E A := X
  have hx := X.1
  have hb := X.2.1
  have hl : lv_has ls 1 [(0, .ref a0)] := hl
  rw [f_X12_clears] at h
  refine lv_aload_n hx hb dX12_clears_0 rfl (lv_at hl 0 rfl) ?_
  refine lv_iconst (v := 0) hx hb dX12_clears_1 (by decide) ?_
  refine kput X hV (ci := 12) inlX12 rfl tyX12 tyX12_ok nmX12 0 rfl 28 (by decide) mw_700 rfl rfl rfl (Nat.le_of_ble_eq_true rfl) dX12_clears_2 (fun H locs hV1 => ?_)
  have hV1 : kV E A s.heap H locs [(a0, .inr (12, [w0_0, w0_1, w0_2, w0_3, w0_4, w0_5, w0_6, w0_7, w0_8, w0_9, w0_10, w0_11, w0_12, w0_13, w0_14, w0_15, w0_16, w0_17, w0_18, w0_19, w0_20, w0_21, w0_22, w0_23, w0_24, w0_25, w0_26, w0_27, .int 0, .int s_atB, .int s_atD, .int s_atF, .int s_atG, .int s_atH, .int s_atL, .int s_atM, .int s_atN, .int s_atS, .int s_atT, .int s_atU, .int s_atX, w0_41, w0_42, w0_43, w0_44, w0_45, w0_46, w0_47, w0_48, w0_49, w0_50, w0_51, w0_52, w0_53, w0_54, w0_55, w0_56, w0_57, w0_58, w0_59, w0_60, w0_61, w0_62, w0_63, w0_64, w0_65, w0_66]))] := hV1
  clear hV
  refine lv_aload_n hx hb dX12_clears_5 rfl (lv_at hl 0 rfl) ?_
  refine lv_iconst (v := 0) hx hb dX12_clears_6 (by decide) ?_
  refine kput X hV1 (ci := 12) inlX12 rfl tyX12 tyX12_ok nmX12 0 rfl 29 (by decide) mw_725 rfl rfl rfl (Nat.le_of_ble_eq_true rfl) dX12_clears_7 (fun H locs hV2 => ?_)
  have hV2 : kV E A s.heap H locs [(a0, .inr (12, [w0_0, w0_1, w0_2, w0_3, w0_4, w0_5, w0_6, w0_7, w0_8, w0_9, w0_10, w0_11, w0_12, w0_13, w0_14, w0_15, w0_16, w0_17, w0_18, w0_19, w0_20, w0_21, w0_22, w0_23, w0_24, w0_25, w0_26, w0_27, .int 0, .int 0, .int s_atD, .int s_atF, .int s_atG, .int s_atH, .int s_atL, .int s_atM, .int s_atN, .int s_atS, .int s_atT, .int s_atU, .int s_atX, w0_41, w0_42, w0_43, w0_44, w0_45, w0_46, w0_47, w0_48, w0_49, w0_50, w0_51, w0_52, w0_53, w0_54, w0_55, w0_56, w0_57, w0_58, w0_59, w0_60, w0_61, w0_62, w0_63, w0_64, w0_65, w0_66]))] := hV2
  clear hV1
  refine lv_aload_n hx hb dX12_clears_10 rfl (lv_at hl 0 rfl) ?_
  refine lv_iconst (v := 0) hx hb dX12_clears_11 (by decide) ?_
  refine kput X hV2 (ci := 12) inlX12 rfl tyX12 tyX12_ok nmX12 0 rfl 30 (by decide) mw_701 rfl rfl rfl (Nat.le_of_ble_eq_true rfl) dX12_clears_12 (fun H locs hV3 => ?_)
  have hV3 : kV E A s.heap H locs [(a0, .inr (12, [w0_0, w0_1, w0_2, w0_3, w0_4, w0_5, w0_6, w0_7, w0_8, w0_9, w0_10, w0_11, w0_12, w0_13, w0_14, w0_15, w0_16, w0_17, w0_18, w0_19, w0_20, w0_21, w0_22, w0_23, w0_24, w0_25, w0_26, w0_27, .int 0, .int 0, .int 0, .int s_atF, .int s_atG, .int s_atH, .int s_atL, .int s_atM, .int s_atN, .int s_atS, .int s_atT, .int s_atU, .int s_atX, w0_41, w0_42, w0_43, w0_44, w0_45, w0_46, w0_47, w0_48, w0_49, w0_50, w0_51, w0_52, w0_53, w0_54, w0_55, w0_56, w0_57, w0_58, w0_59, w0_60, w0_61, w0_62, w0_63, w0_64, w0_65, w0_66]))] := hV3
  clear hV2
  refine lv_aload_n hx hb dX12_clears_15 rfl (lv_at hl 0 rfl) ?_
  refine lv_iconst (v := 0) hx hb dX12_clears_16 (by decide) ?_
  refine kput X hV3 (ci := 12) inlX12 rfl tyX12 tyX12_ok nmX12 0 rfl 31 (by decide) mw_702 rfl rfl rfl (Nat.le_of_ble_eq_true rfl) dX12_clears_17 (fun H locs hV4 => ?_)
  have hV4 : kV E A s.heap H locs [(a0, .inr (12, [w0_0, w0_1, w0_2, w0_3, w0_4, w0_5, w0_6, w0_7, w0_8, w0_9, w0_10, w0_11, w0_12, w0_13, w0_14, w0_15, w0_16, w0_17, w0_18, w0_19, w0_20, w0_21, w0_22, w0_23, w0_24, w0_25, w0_26, w0_27, .int 0, .int 0, .int 0, .int 0, .int s_atG, .int s_atH, .int s_atL, .int s_atM, .int s_atN, .int s_atS, .int s_atT, .int s_atU, .int s_atX, w0_41, w0_42, w0_43, w0_44, w0_45, w0_46, w0_47, w0_48, w0_49, w0_50, w0_51, w0_52, w0_53, w0_54, w0_55, w0_56, w0_57, w0_58, w0_59, w0_60, w0_61, w0_62, w0_63, w0_64, w0_65, w0_66]))] := hV4
  clear hV3
  refine lv_aload_n hx hb dX12_clears_20 rfl (lv_at hl 0 rfl) ?_
  refine lv_iconst (v := 0) hx hb dX12_clears_21 (by decide) ?_
  refine kput X hV4 (ci := 12) inlX12 rfl tyX12 tyX12_ok nmX12 0 rfl 32 (by decide) mw_726 rfl rfl rfl (Nat.le_of_ble_eq_true rfl) dX12_clears_22 (fun H locs hV5 => ?_)
  have hV5 : kV E A s.heap H locs [(a0, .inr (12, [w0_0, w0_1, w0_2, w0_3, w0_4, w0_5, w0_6, w0_7, w0_8, w0_9, w0_10, w0_11, w0_12, w0_13, w0_14, w0_15, w0_16, w0_17, w0_18, w0_19, w0_20, w0_21, w0_22, w0_23, w0_24, w0_25, w0_26, w0_27, .int 0, .int 0, .int 0, .int 0, .int 0, .int s_atH, .int s_atL, .int s_atM, .int s_atN, .int s_atS, .int s_atT, .int s_atU, .int s_atX, w0_41, w0_42, w0_43, w0_44, w0_45, w0_46, w0_47, w0_48, w0_49, w0_50, w0_51, w0_52, w0_53, w0_54, w0_55, w0_56, w0_57, w0_58, w0_59, w0_60, w0_61, w0_62, w0_63, w0_64, w0_65, w0_66]))] := hV5
  clear hV4
  refine lv_aload_n hx hb dX12_clears_25 rfl (lv_at hl 0 rfl) ?_
  refine lv_iconst (v := 0) hx hb dX12_clears_26 (by decide) ?_
  refine kput X hV5 (ci := 12) inlX12 rfl tyX12 tyX12_ok nmX12 0 rfl 33 (by decide) mw_727 rfl rfl rfl (Nat.le_of_ble_eq_true rfl) dX12_clears_27 (fun H locs hV6 => ?_)
  have hV6 : kV E A s.heap H locs [(a0, .inr (12, [w0_0, w0_1, w0_2, w0_3, w0_4, w0_5, w0_6, w0_7, w0_8, w0_9, w0_10, w0_11, w0_12, w0_13, w0_14, w0_15, w0_16, w0_17, w0_18, w0_19, w0_20, w0_21, w0_22, w0_23, w0_24, w0_25, w0_26, w0_27, .int 0, .int 0, .int 0, .int 0, .int 0, .int 0, .int s_atL, .int s_atM, .int s_atN, .int s_atS, .int s_atT, .int s_atU, .int s_atX, w0_41, w0_42, w0_43, w0_44, w0_45, w0_46, w0_47, w0_48, w0_49, w0_50, w0_51, w0_52, w0_53, w0_54, w0_55, w0_56, w0_57, w0_58, w0_59, w0_60, w0_61, w0_62, w0_63, w0_64, w0_65, w0_66]))] := hV6
  clear hV5
  refine lv_aload_n hx hb dX12_clears_30 rfl (lv_at hl 0 rfl) ?_
  refine lv_iconst (v := 0) hx hb dX12_clears_31 (by decide) ?_
  refine kput X hV6 (ci := 12) inlX12 rfl tyX12 tyX12_ok nmX12 0 rfl 34 (by decide) mw_728 rfl rfl rfl (Nat.le_of_ble_eq_true rfl) dX12_clears_32 (fun H locs hV7 => ?_)
  have hV7 : kV E A s.heap H locs [(a0, .inr (12, [w0_0, w0_1, w0_2, w0_3, w0_4, w0_5, w0_6, w0_7, w0_8, w0_9, w0_10, w0_11, w0_12, w0_13, w0_14, w0_15, w0_16, w0_17, w0_18, w0_19, w0_20, w0_21, w0_22, w0_23, w0_24, w0_25, w0_26, w0_27, .int 0, .int 0, .int 0, .int 0, .int 0, .int 0, .int 0, .int s_atM, .int s_atN, .int s_atS, .int s_atT, .int s_atU, .int s_atX, w0_41, w0_42, w0_43, w0_44, w0_45, w0_46, w0_47, w0_48, w0_49, w0_50, w0_51, w0_52, w0_53, w0_54, w0_55, w0_56, w0_57, w0_58, w0_59, w0_60, w0_61, w0_62, w0_63, w0_64, w0_65, w0_66]))] := hV7
  clear hV6
  refine lv_aload_n hx hb dX12_clears_35 rfl (lv_at hl 0 rfl) ?_
  refine lv_iconst (v := 0) hx hb dX12_clears_36 (by decide) ?_
  refine kput X hV7 (ci := 12) inlX12 rfl tyX12 tyX12_ok nmX12 0 rfl 35 (by decide) mw_703 rfl rfl rfl (Nat.le_of_ble_eq_true rfl) dX12_clears_37 (fun H locs hV8 => ?_)
  have hV8 : kV E A s.heap H locs [(a0, .inr (12, [w0_0, w0_1, w0_2, w0_3, w0_4, w0_5, w0_6, w0_7, w0_8, w0_9, w0_10, w0_11, w0_12, w0_13, w0_14, w0_15, w0_16, w0_17, w0_18, w0_19, w0_20, w0_21, w0_22, w0_23, w0_24, w0_25, w0_26, w0_27, .int 0, .int 0, .int 0, .int 0, .int 0, .int 0, .int 0, .int 0, .int s_atN, .int s_atS, .int s_atT, .int s_atU, .int s_atX, w0_41, w0_42, w0_43, w0_44, w0_45, w0_46, w0_47, w0_48, w0_49, w0_50, w0_51, w0_52, w0_53, w0_54, w0_55, w0_56, w0_57, w0_58, w0_59, w0_60, w0_61, w0_62, w0_63, w0_64, w0_65, w0_66]))] := hV8
  clear hV7
  refine lv_aload_n hx hb dX12_clears_40 rfl (lv_at hl 0 rfl) ?_
  refine lv_iconst (v := 0) hx hb dX12_clears_41 (by decide) ?_
  refine kput X hV8 (ci := 12) inlX12 rfl tyX12 tyX12_ok nmX12 0 rfl 36 (by decide) mw_729 rfl rfl rfl (Nat.le_of_ble_eq_true rfl) dX12_clears_42 (fun H locs hV9 => ?_)
  have hV9 : kV E A s.heap H locs [(a0, .inr (12, [w0_0, w0_1, w0_2, w0_3, w0_4, w0_5, w0_6, w0_7, w0_8, w0_9, w0_10, w0_11, w0_12, w0_13, w0_14, w0_15, w0_16, w0_17, w0_18, w0_19, w0_20, w0_21, w0_22, w0_23, w0_24, w0_25, w0_26, w0_27, .int 0, .int 0, .int 0, .int 0, .int 0, .int 0, .int 0, .int 0, .int 0, .int s_atS, .int s_atT, .int s_atU, .int s_atX, w0_41, w0_42, w0_43, w0_44, w0_45, w0_46, w0_47, w0_48, w0_49, w0_50, w0_51, w0_52, w0_53, w0_54, w0_55, w0_56, w0_57, w0_58, w0_59, w0_60, w0_61, w0_62, w0_63, w0_64, w0_65, w0_66]))] := hV9
  clear hV8
  refine lv_aload_n hx hb dX12_clears_45 rfl (lv_at hl 0 rfl) ?_
  refine lv_iconst (v := 0) hx hb dX12_clears_46 (by decide) ?_
  refine kput X hV9 (ci := 12) inlX12 rfl tyX12 tyX12_ok nmX12 0 rfl 37 (by decide) mw_704 rfl rfl rfl (Nat.le_of_ble_eq_true rfl) dX12_clears_47 (fun H locs hV10 => ?_)
  have hV10 : kV E A s.heap H locs [(a0, .inr (12, [w0_0, w0_1, w0_2, w0_3, w0_4, w0_5, w0_6, w0_7, w0_8, w0_9, w0_10, w0_11, w0_12, w0_13, w0_14, w0_15, w0_16, w0_17, w0_18, w0_19, w0_20, w0_21, w0_22, w0_23, w0_24, w0_25, w0_26, w0_27, .int 0, .int 0, .int 0, .int 0, .int 0, .int 0, .int 0, .int 0, .int 0, .int 0, .int s_atT, .int s_atU, .int s_atX, w0_41, w0_42, w0_43, w0_44, w0_45, w0_46, w0_47, w0_48, w0_49, w0_50, w0_51, w0_52, w0_53, w0_54, w0_55, w0_56, w0_57, w0_58, w0_59, w0_60, w0_61, w0_62, w0_63, w0_64, w0_65, w0_66]))] := hV10
  clear hV9
  refine lv_aload_n hx hb dX12_clears_50 rfl (lv_at hl 0 rfl) ?_
  refine lv_iconst (v := 0) hx hb dX12_clears_51 (by decide) ?_
  refine kput X hV10 (ci := 12) inlX12 rfl tyX12 tyX12_ok nmX12 0 rfl 38 (by decide) mw_730 rfl rfl rfl (Nat.le_of_ble_eq_true rfl) dX12_clears_52 (fun H locs hV11 => ?_)
  have hV11 : kV E A s.heap H locs [(a0, .inr (12, [w0_0, w0_1, w0_2, w0_3, w0_4, w0_5, w0_6, w0_7, w0_8, w0_9, w0_10, w0_11, w0_12, w0_13, w0_14, w0_15, w0_16, w0_17, w0_18, w0_19, w0_20, w0_21, w0_22, w0_23, w0_24, w0_25, w0_26, w0_27, .int 0, .int 0, .int 0, .int 0, .int 0, .int 0, .int 0, .int 0, .int 0, .int 0, .int 0, .int s_atU, .int s_atX, w0_41, w0_42, w0_43, w0_44, w0_45, w0_46, w0_47, w0_48, w0_49, w0_50, w0_51, w0_52, w0_53, w0_54, w0_55, w0_56, w0_57, w0_58, w0_59, w0_60, w0_61, w0_62, w0_63, w0_64, w0_65, w0_66]))] := hV11
  clear hV10
  refine lv_aload_n hx hb dX12_clears_55 rfl (lv_at hl 0 rfl) ?_
  refine lv_iconst (v := 0) hx hb dX12_clears_56 (by decide) ?_
  refine kput X hV11 (ci := 12) inlX12 rfl tyX12 tyX12_ok nmX12 0 rfl 39 (by decide) mw_705 rfl rfl rfl (Nat.le_of_ble_eq_true rfl) dX12_clears_57 (fun H locs hV12 => ?_)
  have hV12 : kV E A s.heap H locs [(a0, .inr (12, [w0_0, w0_1, w0_2, w0_3, w0_4, w0_5, w0_6, w0_7, w0_8, w0_9, w0_10, w0_11, w0_12, w0_13, w0_14, w0_15, w0_16, w0_17, w0_18, w0_19, w0_20, w0_21, w0_22, w0_23, w0_24, w0_25, w0_26, w0_27, .int 0, .int 0, .int 0, .int 0, .int 0, .int 0, .int 0, .int 0, .int 0, .int 0, .int 0, .int 0, .int s_atX, w0_41, w0_42, w0_43, w0_44, w0_45, w0_46, w0_47, w0_48, w0_49, w0_50, w0_51, w0_52, w0_53, w0_54, w0_55, w0_56, w0_57, w0_58, w0_59, w0_60, w0_61, w0_62, w0_63, w0_64, w0_65, w0_66]))] := hV12
  clear hV11
  refine lv_aload_n hx hb dX12_clears_60 rfl (lv_at hl 0 rfl) ?_
  refine lv_iconst (v := 0) hx hb dX12_clears_61 (by decide) ?_
  refine kput X hV12 (ci := 12) inlX12 rfl tyX12 tyX12_ok nmX12 0 rfl 40 (by decide) mw_706 rfl rfl rfl (Nat.le_of_ble_eq_true rfl) dX12_clears_62 (fun H locs hV13 => ?_)
  have hV13 : kV E A s.heap H locs [(a0, .inr (12, [w0_0, w0_1, w0_2, w0_3, w0_4, w0_5, w0_6, w0_7, w0_8, w0_9, w0_10, w0_11, w0_12, w0_13, w0_14, w0_15, w0_16, w0_17, w0_18, w0_19, w0_20, w0_21, w0_22, w0_23, w0_24, w0_25, w0_26, w0_27, .int 0, .int 0, .int 0, .int 0, .int 0, .int 0, .int 0, .int 0, .int 0, .int 0, .int 0, .int 0, .int 0, w0_41, w0_42, w0_43, w0_44, w0_45, w0_46, w0_47, w0_48, w0_49, w0_50, w0_51, w0_52, w0_53, w0_54, w0_55, w0_56, w0_57, w0_58, w0_59, w0_60, w0_61, w0_62, w0_63, w0_64, w0_65, w0_66]))] := hV13
  clear hV12
  obtain ⟨q14, q15, q16, q17, q18, q19, q20, q21, q22, q23, q24, q25, q26⟩ := tup13_s h
  clear h
  exact hret () _ _ _ _ trivial (by rw [← q14, ← q15, ← q16, ← q17, ← q18, ← q19, ← q20, ← q21, ← q22, ← q23, ← q24, ← q25, ← q26]; exact hV13) dX12_clears_65
abbrev r_X12_isDay : Room := { frames := 1, cells := 0, slots := 0, locals := 25 }
set_option maxHeartbeats 4000000 in
set_option maxRecDepth 100000 in
theorem c_X12_isDay (l : Launch) (E : kE) (sz : Nat) (p1 : Int32) (r : Int32) (h : f_X12_isDay p1 = some (r)) : kMi l yX12_isDay cX12_isDay 1 (some .boolean) r_X12_isDay [.int p1] E [] sz 0 0 (fun x (_ : Unit) => x = r) (fun _ => []) := by
  refine kmeti rfl (Nat.le_of_ble_eq_true rfl) ?_
  intro p e s m args below meth c ls A Q X hV hret hl
  have X : kC p s m c cX12_isDay 1 RX12 args E A := X
  have hx := X.1
  have hb := X.2.1
  have hl : lv_has ls 1 [(0, .int p1)] := hl
  rw [f_X12_isDay] at h
  refine lv_iload_n hx hb dX12_isDay_0 rfl (lv_at hl 0 rfl) ?_
  refine lv_i2l (v := Int32.toInt64 p1) hx hb dX12_isDay_1 rfl ?_
  refine lv_lconst (v := 0) hx hb dX12_isDay_2 (by decide) ?_
  refine lv_ldc2 (v := 399) hx hb X.2.2.2.1 (X.2.2.2.2.1 _ mw_635) dX12_isDay_3 ?_
  obtain ⟨r6_1, hc2, h3⟩ := cb1_s h
  clear h
  refine kgoiE (krunS (rest := []) X hV [] (c_X12_lies l E _ (Int32.toInt64 p1) 0 399 r6_1 hc2) mw_224 kb_X12_lies (by decide) rfl rfl hl.1 rfl (Nat.le_of_ble_eq_true rfl) dX12_isDay_6 (by decide)) X hV [] [] rfl rfl rfl (by decide) (fun u H locs hV4 => ?_)
  have hV4 : kV E A s.heap H locs [] := hV4.sub [] rfl rfl
  clear hV
  obtain ⟨hb6, h7⟩ := bo_s h3
  clear h3
  have q8 := tup1_s h7
  clear h7
  exact hret _ () _ _ _ _ q8 hb6 hV4 dX12_isDay_9
abbrev r_X12_isMinute : Room := { frames := 1, cells := 0, slots := 0, locals := 25 }
set_option maxHeartbeats 4000000 in
set_option maxRecDepth 100000 in
theorem c_X12_isMinute (l : Launch) (E : kE) (sz : Nat) (p1 : Int32) (r : Int32) (h : f_X12_isMinute p1 = some (r)) : kMi l yX12_isMinute cX12_isMinute 1 (some .boolean) r_X12_isMinute [.int p1] E [] sz 0 0 (fun x (_ : Unit) => x = r) (fun _ => []) := by
  refine kmeti rfl (Nat.le_of_ble_eq_true rfl) ?_
  intro p e s m args below meth c ls A Q X hV hret hl
  have X : kC p s m c cX12_isMinute 1 RX12 args E A := X
  have hx := X.1
  have hb := X.2.1
  have hl : lv_has ls 1 [(0, .int p1)] := hl
  rw [f_X12_isMinute] at h
  refine lv_iload_n hx hb dX12_isMinute_0 rfl (lv_at hl 0 rfl) ?_
  refine lv_i2l (v := Int32.toInt64 p1) hx hb dX12_isMinute_1 rfl ?_
  refine lv_lconst (v := 0) hx hb dX12_isMinute_2 (by decide) ?_
  refine lv_ldc2 (v := 1439) hx hb X.2.2.2.1 (X.2.2.2.2.1 _ mw_223) dX12_isMinute_3 ?_
  obtain ⟨r6_1, hc2, h3⟩ := cb1_s h
  clear h
  refine kgoiE (krunS (rest := []) X hV [] (c_X12_lies l E _ (Int32.toInt64 p1) 0 1439 r6_1 hc2) mw_224 kb_X12_lies (by decide) rfl rfl hl.1 rfl (Nat.le_of_ble_eq_true rfl) dX12_isMinute_6 (by decide)) X hV [] [] rfl rfl rfl (by decide) (fun u H locs hV4 => ?_)
  have hV4 : kV E A s.heap H locs [] := hV4.sub [] rfl rfl
  clear hV
  obtain ⟨hb6, h7⟩ := bo_s h3
  clear h3
  have q8 := tup1_s h7
  clear h7
  exact hret _ () _ _ _ _ q8 hb6 hV4 dX12_isMinute_9
abbrev r_X12_source : Room := { frames := 2, cells := 0, slots := 0, locals := 45 }
set_option maxHeartbeats 4000000 in
set_option maxRecDepth 100000 in
theorem c_X12_source (l : Launch) (E : kE) (sz : Nat) (a0 a1 a2 a3 a4 a5 : Nat) (w0_0 w0_1 w0_3 w0_4 w0_5 w0_6 w0_7 w0_8 w0_9 w0_10 w0_11 w0_12 w0_13 w0_14 w0_15 w0_16 w0_17 w0_18 w0_19 w0_20 w0_21 w0_22 w0_23 w0_24 w0_25 w0_26 w0_27 w0_28 w0_29 w0_30 w0_31 w0_32 w0_33 w0_34 w0_35 w0_36 w0_37 w0_38 w0_39 w0_40 w0_41 w0_42 w0_48 w0_49 w0_50 w0_51 w0_52 w0_53 w0_54 w0_55 w0_56 w0_57 w0_58 w0_59 w0_60 w0_61 w0_62 w0_63 w0_64 w0_65 w0_66 : Value) (s_sources : Int32) (s_byStar : Nat → Int32) (s_minuteOf : Nat → Int32) (s_shape : Nat → Int32) (s_weekdays : Nat → Int32) (s_wide : Nat → Int32) (p1 : Int32) (p2 : Int32) (p3 : Int32) (p4 : Int32) (p5 : Int32) (r : Int32) (o_sources : Int32) (o_byStar : Nat → Int32) (o_minuteOf : Nat → Int32) (o_shape : Nat → Int32) (o_weekdays : Nat → Int32) (o_wide : Nat → Int32) (h : f_X12_source s_sources s_byStar s_minuteOf s_shape s_weekdays s_wide p1 p2 p3 p4 p5 = some (r, o_sources, o_byStar, o_minuteOf, o_shape, o_weekdays, o_wide)) : kMi l yX12_source cX12_source 6 (some .int) r_X12_source [.ref a0, .int p1, .int p2, .int p3, .int p4, .int p5] E [(a0, .inr (12, [w0_0, w0_1, .int s_sources, w0_3, w0_4, w0_5, w0_6, w0_7, w0_8, w0_9, w0_10, w0_11, w0_12, w0_13, w0_14, w0_15, w0_16, w0_17, w0_18, w0_19, w0_20, w0_21, w0_22, w0_23, w0_24, w0_25, w0_26, w0_27, w0_28, w0_29, w0_30, w0_31, w0_32, w0_33, w0_34, w0_35, w0_36, w0_37, w0_38, w0_39, w0_40, w0_41, w0_42, .ref a1, .ref a2, .ref a5, .ref a3, .ref a4, w0_48, w0_49, w0_50, w0_51, w0_52, w0_53, w0_54, w0_55, w0_56, w0_57, w0_58, w0_59, w0_60, w0_61, w0_62, w0_63, w0_64, w0_65, w0_66])), (a1, .inl (E.2 2, 10, .inl s_byStar)), (a2, .inl (E.2 0, 10, .inl s_minuteOf)), (a3, .inl (E.2 0, 10, .inl s_shape)), (a4, .inl (E.2 0, 10, .inl s_weekdays)), (a5, .inl (E.2 0, 10, .inl s_wide))] sz 0 0 (fun x (_ : Unit) => x = r) (fun _ => [(a0, .inr (12, [w0_0, w0_1, .int o_sources, w0_3, w0_4, w0_5, w0_6, w0_7, w0_8, w0_9, w0_10, w0_11, w0_12, w0_13, w0_14, w0_15, w0_16, w0_17, w0_18, w0_19, w0_20, w0_21, w0_22, w0_23, w0_24, w0_25, w0_26, w0_27, w0_28, w0_29, w0_30, w0_31, w0_32, w0_33, w0_34, w0_35, w0_36, w0_37, w0_38, w0_39, w0_40, w0_41, w0_42, .ref a1, .ref a2, .ref a5, .ref a3, .ref a4, w0_48, w0_49, w0_50, w0_51, w0_52, w0_53, w0_54, w0_55, w0_56, w0_57, w0_58, w0_59, w0_60, w0_61, w0_62, w0_63, w0_64, w0_65, w0_66])), (a1, .inl (E.2 2, 10, .inl o_byStar)), (a2, .inl (E.2 0, 10, .inl o_minuteOf)), (a3, .inl (E.2 0, 10, .inl o_shape)), (a4, .inl (E.2 0, 10, .inl o_weekdays)), (a5, .inl (E.2 0, 10, .inl o_wide))]) := by
  refine kmeti rfl (Nat.le_of_ble_eq_true rfl) ?_
  intro p e s m args below meth c ls A Q X hV hret hl
  have X : kC p s m c cX12_source 6 RX12 args E A := X
  have hx := X.1
  have hb := X.2.1
  have hl : lv_has ls 6 [(0, .ref a0), (1, .int p1), (2, .int p2), (3, .int p3), (4, .int p4), (5, .int p5)] := hl
  rw [f_X12_source] at h
  refine lv_aload_n hx hb dX12_source_0 rfl (lv_at hl 0 rfl) ?_
  refine kget X hV (ci := 12) inlX12 rfl 0 rfl 2 (by decide) mw_216 rfl dX12_source_1 ?_
  refine lv_bipush (v := 10) hx hb dX12_source_4 (by decide) ?_
  refine lv_icmp_eq (tgt := 54) hx hb dX12_source_6 (by decide) (fun c1 => ?_) (fun c1 => ?_)
  · have h2 := itS c1 h
    clear h c1
    refine lv_iconst (v := (-1)) hx hb dX12_source_54 (by decide) ?_
    obtain ⟨q4, q5, q6, q7, q8, q9, q10⟩ := tup7_s h2
    clear h2
    exact hret _ () _ _ _ _ q4 rfl (by rw [← q5, ← q6, ← q7, ← q8, ← q9, ← q10]; exact hV) dX12_source_55
  · have h3 := ieS c1 h
    clear h c1
    refine lv_iload_n hx hb dX12_source_9 rfl (lv_at hl 2 rfl) ?_
    obtain ⟨r10_11, hc12, h13⟩ := cb1_s h3
    clear h3
    refine kgoiE (krunS (rest := []) X hV [] (c_X12_isMinute l E _ p2 r10_11 hc12) mw_220 kb_X12_isMinute (by decide) rfl rfl hl.1 rfl (Nat.le_of_ble_eq_true rfl) dX12_source_10 (by decide)) X hV [] [0, 1, 2, 3, 4, 5] rfl rfl rfl (by decide) (fun u H locs hV14 => ?_)
    have hV14 : kV E A s.heap H locs [(a0, .inr (12, [w0_0, w0_1, .int s_sources, w0_3, w0_4, w0_5, w0_6, w0_7, w0_8, w0_9, w0_10, w0_11, w0_12, w0_13, w0_14, w0_15, w0_16, w0_17, w0_18, w0_19, w0_20, w0_21, w0_22, w0_23, w0_24, w0_25, w0_26, w0_27, w0_28, w0_29, w0_30, w0_31, w0_32, w0_33, w0_34, w0_35, w0_36, w0_37, w0_38, w0_39, w0_40, w0_41, w0_42, .ref a1, .ref a2, .ref a5, .ref a3, .ref a4, w0_48, w0_49, w0_50, w0_51, w0_52, w0_53, w0_54, w0_55, w0_56, w0_57, w0_58, w0_59, w0_60, w0_61, w0_62, w0_63, w0_64, w0_65, w0_66])), (a1, .inl (E.2 2, 10, .inl s_byStar)), (a2, .inl (E.2 0, 10, .inl s_minuteOf)), (a3, .inl (E.2 0, 10, .inl s_shape)), (a4, .inl (E.2 0, 10, .inl s_weekdays)), (a5, .inl (E.2 0, 10, .inl s_wide))] := hV14.sub [0, 1, 2, 3, 4, 5] rfl rfl
    clear hV
    refine lv_if_eq (tgt := 54) hx hb dX12_source_13 (by decide) (fun c16 => ?_) (fun c16 => ?_)
    · have h17 := itS c16 h13
      clear h13 c16
      refine lv_iconst (v := (-1)) hx hb dX12_source_54 (by decide) ?_
      obtain ⟨q19, q20, q21, q22, q23, q24, q25⟩ := tup7_s h17
      clear h17
      exact hret _ () _ _ _ _ q19 rfl (by rw [← q20, ← q21, ← q22, ← q23, ← q24, ← q25]; exact hV14) dX12_source_55
    · have h18 := ieS c16 h13
      clear h13 c16
      refine lv_iload_n hx hb dX12_source_16 rfl (lv_at hl 3 rfl) ?_
      refine lv_i2l (v := Int32.toInt64 p3) hx hb dX12_source_17 rfl ?_
      refine lv_lconst (v := 0) hx hb dX12_source_18 (by decide) ?_
      refine lv_ldc2 (v := 30) hx hb X.2.2.2.1 (X.2.2.2.2.1 _ mw_217) dX12_source_19 ?_
      obtain ⟨r22_26, hc27, h28⟩ := cb1_s h18
      clear h18
      refine kgoiE (krunS (rest := []) X hV14 [] (c_X12_lies l E _ (Int32.toInt64 p3) 0 30 r22_26 hc27) mw_224 kb_X12_lies (by decide) rfl rfl hl.1 rfl (Nat.le_of_ble_eq_true rfl) dX12_source_22 (by decide)) X hV14 [] [0, 1, 2, 3, 4, 5] rfl rfl rfl (by decide) (fun u H locs hV29 => ?_)
      have hV29 : kV E A s.heap H locs [(a0, .inr (12, [w0_0, w0_1, .int s_sources, w0_3, w0_4, w0_5, w0_6, w0_7, w0_8, w0_9, w0_10, w0_11, w0_12, w0_13, w0_14, w0_15, w0_16, w0_17, w0_18, w0_19, w0_20, w0_21, w0_22, w0_23, w0_24, w0_25, w0_26, w0_27, w0_28, w0_29, w0_30, w0_31, w0_32, w0_33, w0_34, w0_35, w0_36, w0_37, w0_38, w0_39, w0_40, w0_41, w0_42, .ref a1, .ref a2, .ref a5, .ref a3, .ref a4, w0_48, w0_49, w0_50, w0_51, w0_52, w0_53, w0_54, w0_55, w0_56, w0_57, w0_58, w0_59, w0_60, w0_61, w0_62, w0_63, w0_64, w0_65, w0_66])), (a1, .inl (E.2 2, 10, .inl s_byStar)), (a2, .inl (E.2 0, 10, .inl s_minuteOf)), (a3, .inl (E.2 0, 10, .inl s_shape)), (a4, .inl (E.2 0, 10, .inl s_weekdays)), (a5, .inl (E.2 0, 10, .inl s_wide))] := hV29.sub [0, 1, 2, 3, 4, 5] rfl rfl
      clear hV14
      refine lv_if_eq (tgt := 54) hx hb dX12_source_25 (by decide) (fun c31 => ?_) (fun c31 => ?_)
      · have h32 := itS c31 h28
        clear h28 c31
        refine lv_iconst (v := (-1)) hx hb dX12_source_54 (by decide) ?_
        obtain ⟨q34, q35, q36, q37, q38, q39, q40⟩ := tup7_s h32
        clear h32
        exact hret _ () _ _ _ _ q34 rfl (by rw [← q35, ← q36, ← q37, ← q38, ← q39, ← q40]; exact hV29) dX12_source_55
      · have h33 := ieS c31 h28
        clear h28 c31
        refine lv_iload hx hb dX12_source_28 (lv_at hl 4 rfl) ?_
        refine lv_i2l (v := Int32.toInt64 p4) hx hb dX12_source_30 rfl ?_
        refine lv_lconst (v := 0) hx hb dX12_source_31 (by decide) ?_
        refine lv_ldc2 (v := 3) hx hb X.2.2.2.1 (X.2.2.2.2.1 _ mw_218) dX12_source_32 ?_
        obtain ⟨r35_41, hc42, h43⟩ := cb1_s h33
        clear h33
        refine kgoiE (krunS (rest := []) X hV29 [] (c_X12_lies l E _ (Int32.toInt64 p4) 0 3 r35_41 hc42) mw_224 kb_X12_lies (by decide) rfl rfl hl.1 rfl (Nat.le_of_ble_eq_true rfl) dX12_source_35 (by decide)) X hV29 [] [0, 1, 2, 3, 4, 5] rfl rfl rfl (by decide) (fun u H locs hV44 => ?_)
        have hV44 : kV E A s.heap H locs [(a0, .inr (12, [w0_0, w0_1, .int s_sources, w0_3, w0_4, w0_5, w0_6, w0_7, w0_8, w0_9, w0_10, w0_11, w0_12, w0_13, w0_14, w0_15, w0_16, w0_17, w0_18, w0_19, w0_20, w0_21, w0_22, w0_23, w0_24, w0_25, w0_26, w0_27, w0_28, w0_29, w0_30, w0_31, w0_32, w0_33, w0_34, w0_35, w0_36, w0_37, w0_38, w0_39, w0_40, w0_41, w0_42, .ref a1, .ref a2, .ref a5, .ref a3, .ref a4, w0_48, w0_49, w0_50, w0_51, w0_52, w0_53, w0_54, w0_55, w0_56, w0_57, w0_58, w0_59, w0_60, w0_61, w0_62, w0_63, w0_64, w0_65, w0_66])), (a1, .inl (E.2 2, 10, .inl s_byStar)), (a2, .inl (E.2 0, 10, .inl s_minuteOf)), (a3, .inl (E.2 0, 10, .inl s_shape)), (a4, .inl (E.2 0, 10, .inl s_weekdays)), (a5, .inl (E.2 0, 10, .inl s_wide))] := hV44.sub [0, 1, 2, 3, 4, 5] rfl rfl
        clear hV29
        refine lv_if_eq (tgt := 54) hx hb dX12_source_38 (by decide) (fun c46 => ?_) (fun c46 => ?_)
        · have h47 := itS c46 h43
          clear h43 c46
          refine lv_iconst (v := (-1)) hx hb dX12_source_54 (by decide) ?_
          obtain ⟨q49, q50, q51, q52, q53, q54, q55⟩ := tup7_s h47
          clear h47
          exact hret _ () _ _ _ _ q49 rfl (by rw [← q50, ← q51, ← q52, ← q53, ← q54, ← q55]; exact hV44) dX12_source_55
        · have h48 := ieS c46 h43
          clear h43 c46
          refine lv_iload hx hb dX12_source_41 (lv_at hl 5 rfl) ?_
          refine lv_i2l (v := Int32.toInt64 p5) hx hb dX12_source_43 rfl ?_
          refine lv_lconst (v := 0) hx hb dX12_source_44 (by decide) ?_
          refine lv_ldc2 (v := 127) hx hb X.2.2.2.1 (X.2.2.2.2.1 _ mw_219) dX12_source_45 ?_
          obtain ⟨r48_56, hc57, h58⟩ := cb1_s h48
          clear h48
          refine kgoiE (krunS (rest := []) X hV44 [] (c_X12_lies l E _ (Int32.toInt64 p5) 0 127 r48_56 hc57) mw_224 kb_X12_lies (by decide) rfl rfl hl.1 rfl (Nat.le_of_ble_eq_true rfl) dX12_source_48 (by decide)) X hV44 [] [0, 1, 2, 3, 4, 5] rfl rfl rfl (by decide) (fun u H locs hV59 => ?_)
          have hV59 : kV E A s.heap H locs [(a0, .inr (12, [w0_0, w0_1, .int s_sources, w0_3, w0_4, w0_5, w0_6, w0_7, w0_8, w0_9, w0_10, w0_11, w0_12, w0_13, w0_14, w0_15, w0_16, w0_17, w0_18, w0_19, w0_20, w0_21, w0_22, w0_23, w0_24, w0_25, w0_26, w0_27, w0_28, w0_29, w0_30, w0_31, w0_32, w0_33, w0_34, w0_35, w0_36, w0_37, w0_38, w0_39, w0_40, w0_41, w0_42, .ref a1, .ref a2, .ref a5, .ref a3, .ref a4, w0_48, w0_49, w0_50, w0_51, w0_52, w0_53, w0_54, w0_55, w0_56, w0_57, w0_58, w0_59, w0_60, w0_61, w0_62, w0_63, w0_64, w0_65, w0_66])), (a1, .inl (E.2 2, 10, .inl s_byStar)), (a2, .inl (E.2 0, 10, .inl s_minuteOf)), (a3, .inl (E.2 0, 10, .inl s_shape)), (a4, .inl (E.2 0, 10, .inl s_weekdays)), (a5, .inl (E.2 0, 10, .inl s_wide))] := hV59.sub [0, 1, 2, 3, 4, 5] rfl rfl
          clear hV44
          refine lv_if_ne (tgt := 56) hx hb dX12_source_51 (by decide) (fun c61 => ?_) (fun c61 => ?_)
          · have h62 := ieS c61 h58
            clear h58 c61
            refine lv_aload_n hx hb dX12_source_56 rfl (lv_at hl 0 rfl) ?_
            refine kget X hV59 (ci := 12) inlX12 rfl 0 rfl 43 (by decide) mw_157 rfl dX12_source_57 ?_
            refine lv_aload_n hx hb dX12_source_60 rfl (lv_at hl 0 rfl) ?_
            refine kget X hV59 (ci := 12) inlX12 rfl 0 rfl 2 (by decide) mw_216 rfl dX12_source_61 ?_
            refine lv_iload_n hx hb dX12_source_64 rfl (lv_at hl 1 rfl) ?_
            obtain ⟨hi65, g65_64, e66, h67⟩ := wrZ_s h62
            clear h62
            refine kzast X hV59 1 rfl hi65 e66 dX12_source_65 (fun H locs hV68 => ?_)
            have hV68 : kV E A s.heap H locs [(a0, .inr (12, [w0_0, w0_1, .int s_sources, w0_3, w0_4, w0_5, w0_6, w0_7, w0_8, w0_9, w0_10, w0_11, w0_12, w0_13, w0_14, w0_15, w0_16, w0_17, w0_18, w0_19, w0_20, w0_21, w0_22, w0_23, w0_24, w0_25, w0_26, w0_27, w0_28, w0_29, w0_30, w0_31, w0_32, w0_33, w0_34, w0_35, w0_36, w0_37, w0_38, w0_39, w0_40, w0_41, w0_42, .ref a1, .ref a2, .ref a5, .ref a3, .ref a4, w0_48, w0_49, w0_50, w0_51, w0_52, w0_53, w0_54, w0_55, w0_56, w0_57, w0_58, w0_59, w0_60, w0_61, w0_62, w0_63, w0_64, w0_65, w0_66])), (a1, .inl (E.2 2, 10, .inl g65_64)), (a2, .inl (E.2 0, 10, .inl s_minuteOf)), (a3, .inl (E.2 0, 10, .inl s_shape)), (a4, .inl (E.2 0, 10, .inl s_weekdays)), (a5, .inl (E.2 0, 10, .inl s_wide))] := hV68
            clear hV59 hi65 e66
            refine lv_aload_n hx hb dX12_source_66 rfl (lv_at hl 0 rfl) ?_
            refine kget X hV68 (ci := 12) inlX12 rfl 0 rfl 44 (by decide) mw_158 rfl dX12_source_67 ?_
            refine lv_aload_n hx hb dX12_source_70 rfl (lv_at hl 0 rfl) ?_
            refine kget X hV68 (ci := 12) inlX12 rfl 0 rfl 2 (by decide) mw_216 rfl dX12_source_71 ?_
            refine lv_iload_n hx hb dX12_source_74 rfl (lv_at hl 2 rfl) ?_
            obtain ⟨hi70, g75_69, e71, h72⟩ := wrI_s h67
            clear h67
            refine kiast X hV68 2 rfl hi70 e71 dX12_source_75 (fun H locs hV73 => ?_)
            have hV73 : kV E A s.heap H locs [(a0, .inr (12, [w0_0, w0_1, .int s_sources, w0_3, w0_4, w0_5, w0_6, w0_7, w0_8, w0_9, w0_10, w0_11, w0_12, w0_13, w0_14, w0_15, w0_16, w0_17, w0_18, w0_19, w0_20, w0_21, w0_22, w0_23, w0_24, w0_25, w0_26, w0_27, w0_28, w0_29, w0_30, w0_31, w0_32, w0_33, w0_34, w0_35, w0_36, w0_37, w0_38, w0_39, w0_40, w0_41, w0_42, .ref a1, .ref a2, .ref a5, .ref a3, .ref a4, w0_48, w0_49, w0_50, w0_51, w0_52, w0_53, w0_54, w0_55, w0_56, w0_57, w0_58, w0_59, w0_60, w0_61, w0_62, w0_63, w0_64, w0_65, w0_66])), (a1, .inl (E.2 2, 10, .inl g65_64)), (a2, .inl (E.2 0, 10, .inl g75_69)), (a3, .inl (E.2 0, 10, .inl s_shape)), (a4, .inl (E.2 0, 10, .inl s_weekdays)), (a5, .inl (E.2 0, 10, .inl s_wide))] := hV73
            clear hV68 hi70 e71
            refine lv_aload_n hx hb dX12_source_76 rfl (lv_at hl 0 rfl) ?_
            refine kget X hV73 (ci := 12) inlX12 rfl 0 rfl 45 (by decide) mw_159 rfl dX12_source_77 ?_
            refine lv_aload_n hx hb dX12_source_80 rfl (lv_at hl 0 rfl) ?_
            refine kget X hV73 (ci := 12) inlX12 rfl 0 rfl 2 (by decide) mw_216 rfl dX12_source_81 ?_
            refine lv_iload_n hx hb dX12_source_84 rfl (lv_at hl 3 rfl) ?_
            obtain ⟨hi75, g85_74, e76, h77⟩ := wrI_s h72
            clear h72
            refine kiast X hV73 5 rfl hi75 e76 dX12_source_85 (fun H locs hV78 => ?_)
            have hV78 : kV E A s.heap H locs [(a0, .inr (12, [w0_0, w0_1, .int s_sources, w0_3, w0_4, w0_5, w0_6, w0_7, w0_8, w0_9, w0_10, w0_11, w0_12, w0_13, w0_14, w0_15, w0_16, w0_17, w0_18, w0_19, w0_20, w0_21, w0_22, w0_23, w0_24, w0_25, w0_26, w0_27, w0_28, w0_29, w0_30, w0_31, w0_32, w0_33, w0_34, w0_35, w0_36, w0_37, w0_38, w0_39, w0_40, w0_41, w0_42, .ref a1, .ref a2, .ref a5, .ref a3, .ref a4, w0_48, w0_49, w0_50, w0_51, w0_52, w0_53, w0_54, w0_55, w0_56, w0_57, w0_58, w0_59, w0_60, w0_61, w0_62, w0_63, w0_64, w0_65, w0_66])), (a1, .inl (E.2 2, 10, .inl g65_64)), (a2, .inl (E.2 0, 10, .inl g75_69)), (a3, .inl (E.2 0, 10, .inl s_shape)), (a4, .inl (E.2 0, 10, .inl s_weekdays)), (a5, .inl (E.2 0, 10, .inl g85_74))] := hV78
            clear hV73 hi75 e76
            refine lv_aload_n hx hb dX12_source_86 rfl (lv_at hl 0 rfl) ?_
            refine kget X hV78 (ci := 12) inlX12 rfl 0 rfl 46 (by decide) mw_160 rfl dX12_source_87 ?_
            refine lv_aload_n hx hb dX12_source_90 rfl (lv_at hl 0 rfl) ?_
            refine kget X hV78 (ci := 12) inlX12 rfl 0 rfl 2 (by decide) mw_216 rfl dX12_source_91 ?_
            refine lv_iload hx hb dX12_source_94 (lv_at hl 4 rfl) ?_
            obtain ⟨hi80, g96_79, e81, h82⟩ := wrI_s h77
            clear h77
            refine kiast X hV78 3 rfl hi80 e81 dX12_source_96 (fun H locs hV83 => ?_)
            have hV83 : kV E A s.heap H locs [(a0, .inr (12, [w0_0, w0_1, .int s_sources, w0_3, w0_4, w0_5, w0_6, w0_7, w0_8, w0_9, w0_10, w0_11, w0_12, w0_13, w0_14, w0_15, w0_16, w0_17, w0_18, w0_19, w0_20, w0_21, w0_22, w0_23, w0_24, w0_25, w0_26, w0_27, w0_28, w0_29, w0_30, w0_31, w0_32, w0_33, w0_34, w0_35, w0_36, w0_37, w0_38, w0_39, w0_40, w0_41, w0_42, .ref a1, .ref a2, .ref a5, .ref a3, .ref a4, w0_48, w0_49, w0_50, w0_51, w0_52, w0_53, w0_54, w0_55, w0_56, w0_57, w0_58, w0_59, w0_60, w0_61, w0_62, w0_63, w0_64, w0_65, w0_66])), (a1, .inl (E.2 2, 10, .inl g65_64)), (a2, .inl (E.2 0, 10, .inl g75_69)), (a3, .inl (E.2 0, 10, .inl g96_79)), (a4, .inl (E.2 0, 10, .inl s_weekdays)), (a5, .inl (E.2 0, 10, .inl g85_74))] := hV83
            clear hV78 hi80 e81
            refine lv_aload_n hx hb dX12_source_97 rfl (lv_at hl 0 rfl) ?_
            refine kget X hV83 (ci := 12) inlX12 rfl 0 rfl 47 (by decide) mw_161 rfl dX12_source_98 ?_
            refine lv_aload_n hx hb dX12_source_101 rfl (lv_at hl 0 rfl) ?_
            refine kget X hV83 (ci := 12) inlX12 rfl 0 rfl 2 (by decide) mw_216 rfl dX12_source_102 ?_
            refine lv_iload hx hb dX12_source_105 (lv_at hl 5 rfl) ?_
            obtain ⟨hi85, g107_84, e86, h87⟩ := wrI_s h82
            clear h82
            refine kiast X hV83 4 rfl hi85 e86 dX12_source_107 (fun H locs hV88 => ?_)
            have hV88 : kV E A s.heap H locs [(a0, .inr (12, [w0_0, w0_1, .int s_sources, w0_3, w0_4, w0_5, w0_6, w0_7, w0_8, w0_9, w0_10, w0_11, w0_12, w0_13, w0_14, w0_15, w0_16, w0_17, w0_18, w0_19, w0_20, w0_21, w0_22, w0_23, w0_24, w0_25, w0_26, w0_27, w0_28, w0_29, w0_30, w0_31, w0_32, w0_33, w0_34, w0_35, w0_36, w0_37, w0_38, w0_39, w0_40, w0_41, w0_42, .ref a1, .ref a2, .ref a5, .ref a3, .ref a4, w0_48, w0_49, w0_50, w0_51, w0_52, w0_53, w0_54, w0_55, w0_56, w0_57, w0_58, w0_59, w0_60, w0_61, w0_62, w0_63, w0_64, w0_65, w0_66])), (a1, .inl (E.2 2, 10, .inl g65_64)), (a2, .inl (E.2 0, 10, .inl g75_69)), (a3, .inl (E.2 0, 10, .inl g96_79)), (a4, .inl (E.2 0, 10, .inl g107_84)), (a5, .inl (E.2 0, 10, .inl g85_74))] := hV88
            clear hV83 hi85 e86
            refine lv_aload_n hx hb dX12_source_108 rfl (lv_at hl 0 rfl) ?_
            refine lv_dup hx hb dX12_source_109 rfl ?_
            refine kget X hV88 (ci := 12) inlX12 rfl 0 rfl 2 (by decide) mw_216 rfl dX12_source_110 ?_
            refine lv_iconst (v := 1) hx hb dX12_source_113 (by decide) ?_
            refine lv_iadd hx hb dX12_source_114 ?_
            obtain ⟨v115_89, e90, h91⟩ := nmI_s h87
            clear h87
            refine ktopi e90 ?_
            clear e90
            refine kput X hV88 (ci := 12) inlX12 rfl tyX12 tyX12_ok nmX12 0 rfl 2 (by decide) mw_216 rfl rfl rfl (Nat.le_of_ble_eq_true rfl) dX12_source_115 (fun H locs hV92 => ?_)
            have hV92 : kV E A s.heap H locs [(a0, .inr (12, [w0_0, w0_1, .int v115_89, w0_3, w0_4, w0_5, w0_6, w0_7, w0_8, w0_9, w0_10, w0_11, w0_12, w0_13, w0_14, w0_15, w0_16, w0_17, w0_18, w0_19, w0_20, w0_21, w0_22, w0_23, w0_24, w0_25, w0_26, w0_27, w0_28, w0_29, w0_30, w0_31, w0_32, w0_33, w0_34, w0_35, w0_36, w0_37, w0_38, w0_39, w0_40, w0_41, w0_42, .ref a1, .ref a2, .ref a5, .ref a3, .ref a4, w0_48, w0_49, w0_50, w0_51, w0_52, w0_53, w0_54, w0_55, w0_56, w0_57, w0_58, w0_59, w0_60, w0_61, w0_62, w0_63, w0_64, w0_65, w0_66])), (a1, .inl (E.2 2, 10, .inl g65_64)), (a2, .inl (E.2 0, 10, .inl g75_69)), (a3, .inl (E.2 0, 10, .inl g96_79)), (a4, .inl (E.2 0, 10, .inl g107_84)), (a5, .inl (E.2 0, 10, .inl g85_74))] := hV92
            clear hV88
            refine lv_aload_n hx hb dX12_source_118 rfl (lv_at hl 0 rfl) ?_
            refine kget X hV92 (ci := 12) inlX12 rfl 0 rfl 2 (by decide) mw_216 rfl dX12_source_119 ?_
            refine lv_iconst (v := 1) hx hb dX12_source_122 (by decide) ?_
            refine lv_isub hx hb dX12_source_123 ?_
            obtain ⟨q93, q94, q95, q96, q97, q98, q99⟩ := tup7_s h91
            clear h91
            exact hret _ () _ _ _ _ q93 rfl (by rw [← q94, ← q95, ← q96, ← q97, ← q98, ← q99]; exact hV92) dX12_source_124
          · have h63 := itS c61 h58
            clear h58 c61
            refine lv_iconst (v := (-1)) hx hb dX12_source_54 (by decide) ?_
            obtain ⟨q100, q101, q102, q103, q104, q105, q106⟩ := tup7_s h63
            clear h63
            exact hret _ () _ _ _ _ q100 rfl (by rw [← q101, ← q102, ← q103, ← q104, ← q105, ← q106]; exact hV59) dX12_source_55
abbrev r_X12_seed : Room := { frames := 1, cells := 0, slots := 0, locals := 25 }
set_option maxHeartbeats 4000000 in
set_option maxRecDepth 100000 in
theorem c_X12_seed (l : Launch) (E : kE) (sz : Nat) (a0 : Nat) (w0_0 w0_1 w0_2 w0_4 w0_5 w0_6 w0_7 w0_8 w0_9 w0_10 w0_11 w0_12 w0_13 w0_14 w0_15 w0_16 w0_17 w0_18 w0_19 w0_20 w0_21 w0_22 w0_23 w0_24 w0_25 w0_26 w0_27 w0_28 w0_29 w0_30 w0_31 w0_32 w0_33 w0_34 w0_35 w0_36 w0_37 w0_38 w0_39 w0_40 w0_41 w0_42 w0_43 w0_44 w0_45 w0_46 w0_47 w0_48 w0_49 w0_50 w0_51 w0_52 w0_53 w0_54 w0_55 w0_56 w0_57 w0_58 w0_59 w0_60 w0_61 w0_62 w0_63 w0_64 w0_65 w0_66 : Value) (s_seed : Int32) (p1 : Int32) (r : Int32) (o_seed : Int32) (h : f_X12_seed s_seed p1 = some (r, o_seed)) : kMi l yX12_seed cX12_seed 2 (some .boolean) r_X12_seed [.ref a0, .int p1] E [(a0, .inr (12, [w0_0, w0_1, w0_2, .int s_seed, w0_4, w0_5, w0_6, w0_7, w0_8, w0_9, w0_10, w0_11, w0_12, w0_13, w0_14, w0_15, w0_16, w0_17, w0_18, w0_19, w0_20, w0_21, w0_22, w0_23, w0_24, w0_25, w0_26, w0_27, w0_28, w0_29, w0_30, w0_31, w0_32, w0_33, w0_34, w0_35, w0_36, w0_37, w0_38, w0_39, w0_40, w0_41, w0_42, w0_43, w0_44, w0_45, w0_46, w0_47, w0_48, w0_49, w0_50, w0_51, w0_52, w0_53, w0_54, w0_55, w0_56, w0_57, w0_58, w0_59, w0_60, w0_61, w0_62, w0_63, w0_64, w0_65, w0_66]))] sz 0 0 (fun x (_ : Unit) => x = r) (fun _ => [(a0, .inr (12, [w0_0, w0_1, w0_2, .int o_seed, w0_4, w0_5, w0_6, w0_7, w0_8, w0_9, w0_10, w0_11, w0_12, w0_13, w0_14, w0_15, w0_16, w0_17, w0_18, w0_19, w0_20, w0_21, w0_22, w0_23, w0_24, w0_25, w0_26, w0_27, w0_28, w0_29, w0_30, w0_31, w0_32, w0_33, w0_34, w0_35, w0_36, w0_37, w0_38, w0_39, w0_40, w0_41, w0_42, w0_43, w0_44, w0_45, w0_46, w0_47, w0_48, w0_49, w0_50, w0_51, w0_52, w0_53, w0_54, w0_55, w0_56, w0_57, w0_58, w0_59, w0_60, w0_61, w0_62, w0_63, w0_64, w0_65, w0_66]))]) := by
  refine kmeti rfl (Nat.le_of_ble_eq_true rfl) ?_
  intro p e s m args below meth c ls A Q X hV hret hl
  have X : kC p s m c cX12_seed 2 RX12 args E A := X
  have hx := X.1
  have hb := X.2.1
  have hl : lv_has ls 2 [(0, .ref a0), (1, .int p1)] := hl
  rw [f_X12_seed] at h
  refine lv_iload_n hx hb dX12_seed_0 rfl (lv_at hl 1 rfl) ?_
  refine lv_i2l (v := Int32.toInt64 p1) hx hb dX12_seed_1 rfl ?_
  refine lv_lconst (v := 0) hx hb dX12_seed_2 (by decide) ?_
  refine lv_ldc2 (v := 999) hx hb X.2.2.2.1 (X.2.2.2.2.1 _ mw_236) dX12_seed_3 ?_
  obtain ⟨r6_1, hc2, h3⟩ := cb1_s h
  clear h
  refine kgoiE (krunS (rest := []) X hV [] (c_X12_lies l E _ (Int32.toInt64 p1) 0 999 r6_1 hc2) mw_224 kb_X12_lies (by decide) rfl rfl hl.1 rfl (Nat.le_of_ble_eq_true rfl) dX12_seed_6 (by decide)) X hV [] [0] rfl rfl rfl (by decide) (fun u H locs hV4 => ?_)
  have hV4 : kV E A s.heap H locs [(a0, .inr (12, [w0_0, w0_1, w0_2, .int s_seed, w0_4, w0_5, w0_6, w0_7, w0_8, w0_9, w0_10, w0_11, w0_12, w0_13, w0_14, w0_15, w0_16, w0_17, w0_18, w0_19, w0_20, w0_21, w0_22, w0_23, w0_24, w0_25, w0_26, w0_27, w0_28, w0_29, w0_30, w0_31, w0_32, w0_33, w0_34, w0_35, w0_36, w0_37, w0_38, w0_39, w0_40, w0_41, w0_42, w0_43, w0_44, w0_45, w0_46, w0_47, w0_48, w0_49, w0_50, w0_51, w0_52, w0_53, w0_54, w0_55, w0_56, w0_57, w0_58, w0_59, w0_60, w0_61, w0_62, w0_63, w0_64, w0_65, w0_66]))] := hV4.sub [0] rfl rfl
  clear hV
  refine lv_if_ne (tgt := 14) hx hb dX12_seed_9 (by decide) (fun c6 => ?_) (fun c6 => ?_)
  · have h7 := ieS c6 h3
    clear h3 c6
    refine lv_aload_n hx hb dX12_seed_14 rfl (lv_at hl 0 rfl) ?_
    refine lv_iload_n hx hb dX12_seed_15 rfl (lv_at hl 1 rfl) ?_
    refine kput X hV4 (ci := 12) inlX12 rfl tyX12 tyX12_ok nmX12 0 rfl 3 (by decide) mw_237 rfl rfl rfl (Nat.le_of_ble_eq_true rfl) dX12_seed_16 (fun H locs hV9 => ?_)
    have hV9 : kV E A s.heap H locs [(a0, .inr (12, [w0_0, w0_1, w0_2, .int p1, w0_4, w0_5, w0_6, w0_7, w0_8, w0_9, w0_10, w0_11, w0_12, w0_13, w0_14, w0_15, w0_16, w0_17, w0_18, w0_19, w0_20, w0_21, w0_22, w0_23, w0_24, w0_25, w0_26, w0_27, w0_28, w0_29, w0_30, w0_31, w0_32, w0_33, w0_34, w0_35, w0_36, w0_37, w0_38, w0_39, w0_40, w0_41, w0_42, w0_43, w0_44, w0_45, w0_46, w0_47, w0_48, w0_49, w0_50, w0_51, w0_52, w0_53, w0_54, w0_55, w0_56, w0_57, w0_58, w0_59, w0_60, w0_61, w0_62, w0_63, w0_64, w0_65, w0_66]))] := hV9
    clear hV4
    refine lv_iconst (v := 1) hx hb dX12_seed_19 (by decide) ?_
    obtain ⟨q10, q11⟩ := tup2_s h7
    clear h7
    exact hret _ () _ _ _ _ q10 rfl (by rw [← q11]; exact hV9) dX12_seed_20
  · have h8 := itS c6 h3
    clear h3 c6
    refine lv_iconst (v := 0) hx hb dX12_seed_12 (by decide) ?_
    obtain ⟨q12, q13⟩ := tup2_s h8
    clear h8
    exact hret _ () _ _ _ _ q12 rfl (by rw [← q13]; exact hV4) dX12_seed_13
abbrev r_X12_starAt : Room := { frames := 0, cells := 0, slots := 0, locals := 0 }
set_option maxHeartbeats 4000000 in
set_option maxRecDepth 100000 in
theorem c_X12_starAt (l : Launch) (E : kE) (sz : Nat) (p1 : Int32) (p2 : Int32) (r : Int32) (h : f_X12_starAt p1 p2 = some (r)) : kMi l yX12_starAt cX12_starAt 2 (some .int) r_X12_starAt [.int p1, .int p2] E [] sz 0 0 (fun x (_ : Unit) => x = r) (fun _ => []) := by
  refine kmeti rfl (Nat.le_of_ble_eq_true rfl) ?_
  intro p e s m args below meth c ls A Q X hV hret hl
  have X : kC p s m c cX12_starAt 2 RX12 args E A := X
  have hx := X.1
  have hb := X.2.1
  have hl : lv_has ls 2 [(0, .int p1), (1, .int p2)] := hl
  rw [f_X12_starAt] at h
  refine lv_iload_n hx hb dX12_starAt_0 rfl (lv_at hl 1 rfl) ?_
  refine lv_iconst (v := 4) hx hb dX12_starAt_1 (by decide) ?_
  refine lv_iload_n hx hb dX12_starAt_2 rfl (lv_at hl 0 rfl) ?_
  refine lv_imul hx hb dX12_starAt_3 ?_
  refine lv_iadd hx hb dX12_starAt_4 ?_
  refine lv_sipush (v := 1440) hx hb dX12_starAt_5 (by decide) ?_
  refine lv_irem hx hb dX12_starAt_8 (by decide) ?_
  have q1 := tup1_s h
  clear h
  exact hret _ () _ _ _ _ q1 rfl hV dX12_starAt_9
abbrev r_X12_star : Room := { frames := 2, cells := 0, slots := 0, locals := 45 }
set_option maxHeartbeats 4000000 in
set_option maxRecDepth 100000 in
theorem c_X12_star (l : Launch) (E : kE) (sz : Nat) (a0 : Nat) (w0_0 w0_1 w0_2 w0_3 w0_4 w0_5 w0_6 w0_7 w0_8 w0_9 w0_10 w0_11 w0_12 w0_13 w0_14 w0_15 w0_16 w0_17 w0_18 w0_19 w0_20 w0_21 w0_22 w0_23 w0_24 w0_25 w0_26 w0_27 w0_28 w0_29 w0_30 w0_31 w0_32 w0_33 w0_34 w0_35 w0_36 w0_37 w0_38 w0_39 w0_40 w0_41 w0_42 w0_43 w0_44 w0_45 w0_46 w0_47 w0_48 w0_49 w0_50 w0_51 w0_52 w0_53 w0_54 w0_55 w0_56 w0_57 w0_58 w0_59 w0_60 w0_61 w0_62 w0_63 w0_64 w0_65 w0_66 : Value) (p1 : Int32) (p2 : Int32) (r : Int32) (h : f_X12_star p1 p2 = some (r)) : kMi l yX12_star cX12_star 3 (some .int) r_X12_star [.ref a0, .int p1, .int p2] E [(a0, .inr (12, [w0_0, w0_1, w0_2, w0_3, w0_4, w0_5, w0_6, w0_7, w0_8, w0_9, w0_10, w0_11, w0_12, w0_13, w0_14, w0_15, w0_16, w0_17, w0_18, w0_19, w0_20, w0_21, w0_22, w0_23, w0_24, w0_25, w0_26, w0_27, w0_28, w0_29, w0_30, w0_31, w0_32, w0_33, w0_34, w0_35, w0_36, w0_37, w0_38, w0_39, w0_40, w0_41, w0_42, w0_43, w0_44, w0_45, w0_46, w0_47, w0_48, w0_49, w0_50, w0_51, w0_52, w0_53, w0_54, w0_55, w0_56, w0_57, w0_58, w0_59, w0_60, w0_61, w0_62, w0_63, w0_64, w0_65, w0_66]))] sz 0 0 (fun x (_ : Unit) => x = r) (fun _ => [(a0, .inr (12, [w0_0, w0_1, w0_2, w0_3, w0_4, w0_5, w0_6, w0_7, w0_8, w0_9, w0_10, w0_11, w0_12, w0_13, w0_14, w0_15, w0_16, w0_17, w0_18, w0_19, w0_20, w0_21, w0_22, w0_23, w0_24, w0_25, w0_26, w0_27, w0_28, w0_29, w0_30, w0_31, w0_32, w0_33, w0_34, w0_35, w0_36, w0_37, w0_38, w0_39, w0_40, w0_41, w0_42, w0_43, w0_44, w0_45, w0_46, w0_47, w0_48, w0_49, w0_50, w0_51, w0_52, w0_53, w0_54, w0_55, w0_56, w0_57, w0_58, w0_59, w0_60, w0_61, w0_62, w0_63, w0_64, w0_65, w0_66]))]) := by
  refine kmeti rfl (Nat.le_of_ble_eq_true rfl) ?_
  intro p e s m args below meth c ls A Q X hV hret hl
  have X : kC p s m c cX12_star 3 RX12 args E A := X
  have hx := X.1
  have hb := X.2.1
  have hl : lv_has ls 3 [(0, .ref a0), (1, .int p1), (2, .int p2)] := hl
  rw [f_X12_star] at h
  refine lv_iload_n hx hb dX12_star_0 rfl (lv_at hl 1 rfl) ?_
  obtain ⟨r1_1, hc2, h3⟩ := cb1_s h
  clear h
  refine kgoiE (krunS (rest := []) X hV [] (c_X12_isDay l E _ p1 r1_1 hc2) mw_632 kb_X12_isDay (by decide) rfl rfl hl.1 rfl (Nat.le_of_ble_eq_true rfl) dX12_star_1 (by decide)) X hV [] [0] rfl rfl rfl (by decide) (fun u H locs hV4 => ?_)
  have hV4 : kV E A s.heap H locs [(a0, .inr (12, [w0_0, w0_1, w0_2, w0_3, w0_4, w0_5, w0_6, w0_7, w0_8, w0_9, w0_10, w0_11, w0_12, w0_13, w0_14, w0_15, w0_16, w0_17, w0_18, w0_19, w0_20, w0_21, w0_22, w0_23, w0_24, w0_25, w0_26, w0_27, w0_28, w0_29, w0_30, w0_31, w0_32, w0_33, w0_34, w0_35, w0_36, w0_37, w0_38, w0_39, w0_40, w0_41, w0_42, w0_43, w0_44, w0_45, w0_46, w0_47, w0_48, w0_49, w0_50, w0_51, w0_52, w0_53, w0_54, w0_55, w0_56, w0_57, w0_58, w0_59, w0_60, w0_61, w0_62, w0_63, w0_64, w0_65, w0_66]))] := hV4.sub [0] rfl rfl
  clear hV
  refine lv_if_eq (tgt := 22) hx hb dX12_star_4 (by decide) (fun c6 => ?_) (fun c6 => ?_)
  · have h7 := itS c6 h3
    clear h3 c6
    refine lv_iconst (v := (-1)) hx hb dX12_star_22 (by decide) ?_
    have q9 := tup1_s h7
    clear h7
    exact hret _ () _ _ _ _ q9 rfl hV4 dX12_star_23
  · have h8 := ieS c6 h3
    clear h3 c6
    refine lv_iload_n hx hb dX12_star_7 rfl (lv_at hl 2 rfl) ?_
    obtain ⟨r8_10, hc11, h12⟩ := cb1_s h8
    clear h8
    refine kgoiE (krunS (rest := []) X hV4 [] (c_X12_isMinute l E _ p2 r8_10 hc11) mw_220 kb_X12_isMinute (by decide) rfl rfl hl.1 rfl (Nat.le_of_ble_eq_true rfl) dX12_star_8 (by decide)) X hV4 [] [0] rfl rfl rfl (by decide) (fun u H locs hV13 => ?_)
    have hV13 : kV E A s.heap H locs [(a0, .inr (12, [w0_0, w0_1, w0_2, w0_3, w0_4, w0_5, w0_6, w0_7, w0_8, w0_9, w0_10, w0_11, w0_12, w0_13, w0_14, w0_15, w0_16, w0_17, w0_18, w0_19, w0_20, w0_21, w0_22, w0_23, w0_24, w0_25, w0_26, w0_27, w0_28, w0_29, w0_30, w0_31, w0_32, w0_33, w0_34, w0_35, w0_36, w0_37, w0_38, w0_39, w0_40, w0_41, w0_42, w0_43, w0_44, w0_45, w0_46, w0_47, w0_48, w0_49, w0_50, w0_51, w0_52, w0_53, w0_54, w0_55, w0_56, w0_57, w0_58, w0_59, w0_60, w0_61, w0_62, w0_63, w0_64, w0_65, w0_66]))] := hV13.sub [0] rfl rfl
    clear hV4
    refine lv_if_eq (tgt := 22) hx hb dX12_star_11 (by decide) (fun c15 => ?_) (fun c15 => ?_)
    · have h16 := itS c15 h12
      clear h12 c15
      refine lv_iconst (v := (-1)) hx hb dX12_star_22 (by decide) ?_
      have q18 := tup1_s h16
      clear h16
      exact hret _ () _ _ _ _ q18 rfl hV13 dX12_star_23
    · have h17 := ieS c15 h12
      clear h12 c15
      refine lv_iload_n hx hb dX12_star_14 rfl (lv_at hl 1 rfl) ?_
      refine lv_iload_n hx hb dX12_star_15 rfl (lv_at hl 2 rfl) ?_
      obtain ⟨r16_19, hc20, h21⟩ := cb1_s h17
      clear h17
      refine kgoiE (krunS (rest := []) X hV13 [] (c_X12_starAt l E _ p1 p2 r16_19 hc20) mw_636 kb_X12_starAt (by decide) rfl rfl hl.1 rfl (Nat.le_of_ble_eq_true rfl) dX12_star_16 (by decide)) X hV13 [] [0] rfl rfl rfl (by decide) (fun u H locs hV22 => ?_)
      have hV22 : kV E A s.heap H locs [(a0, .inr (12, [w0_0, w0_1, w0_2, w0_3, w0_4, w0_5, w0_6, w0_7, w0_8, w0_9, w0_10, w0_11, w0_12, w0_13, w0_14, w0_15, w0_16, w0_17, w0_18, w0_19, w0_20, w0_21, w0_22, w0_23, w0_24, w0_25, w0_26, w0_27, w0_28, w0_29, w0_30, w0_31, w0_32, w0_33, w0_34, w0_35, w0_36, w0_37, w0_38, w0_39, w0_40, w0_41, w0_42, w0_43, w0_44, w0_45, w0_46, w0_47, w0_48, w0_49, w0_50, w0_51, w0_52, w0_53, w0_54, w0_55, w0_56, w0_57, w0_58, w0_59, w0_60, w0_61, w0_62, w0_63, w0_64, w0_65, w0_66]))] := hV22.sub [0] rfl rfl
      clear hV13
      refine lv_goto (tgt := 23) hx hb dX12_star_19 (by decide) ?_
      have q24 := tup1_s h21
      clear h21
      exact hret _ () _ _ _ _ q24 rfl hV22 dX12_star_23
abbrev r_X12_height : Room := { frames := 2, cells := 0, slots := 0, locals := 46 }
set_option maxHeartbeats 4000000 in
set_option maxRecDepth 100000 in
theorem c_X12_height (l : Launch) (E : kE) (sz : Nat) (a0 : Nat) (w0_0 w0_1 w0_3 w0_4 w0_5 w0_6 w0_7 w0_8 w0_9 w0_10 w0_11 w0_12 w0_13 w0_14 w0_15 w0_16 w0_17 w0_18 w0_19 w0_20 w0_21 w0_22 w0_23 w0_24 w0_25 w0_26 w0_27 w0_28 w0_29 w0_30 w0_31 w0_32 w0_33 w0_34 w0_35 w0_36 w0_37 w0_38 w0_39 w0_40 w0_41 w0_42 w0_43 w0_44 w0_45 w0_46 w0_47 w0_48 w0_49 w0_50 w0_51 w0_52 w0_53 w0_54 w0_55 w0_56 w0_57 w0_58 w0_59 w0_60 w0_61 w0_62 w0_63 w0_64 w0_65 w0_66 : Value) (s_sources : Int32) (p1 : Int32) (p2 : Int32) (p3 : Int32) (r : Int32) (h : f_X12_height s_sources p1 p2 p3 = some (r)) : kMi l yX12_height cX12_height 4 (some .int) r_X12_height [.ref a0, .int p1, .int p2, .int p3] E [(a0, .inr (12, [w0_0, w0_1, .int s_sources, w0_3, w0_4, w0_5, w0_6, w0_7, w0_8, w0_9, w0_10, w0_11, w0_12, w0_13, w0_14, w0_15, w0_16, w0_17, w0_18, w0_19, w0_20, w0_21, w0_22, w0_23, w0_24, w0_25, w0_26, w0_27, w0_28, w0_29, w0_30, w0_31, w0_32, w0_33, w0_34, w0_35, w0_36, w0_37, w0_38, w0_39, w0_40, w0_41, w0_42, w0_43, w0_44, w0_45, w0_46, w0_47, w0_48, w0_49, w0_50, w0_51, w0_52, w0_53, w0_54, w0_55, w0_56, w0_57, w0_58, w0_59, w0_60, w0_61, w0_62, w0_63, w0_64, w0_65, w0_66]))] sz 0 0 (fun x (_ : Unit) => x = r) (fun _ => [(a0, .inr (12, [w0_0, w0_1, .int s_sources, w0_3, w0_4, w0_5, w0_6, w0_7, w0_8, w0_9, w0_10, w0_11, w0_12, w0_13, w0_14, w0_15, w0_16, w0_17, w0_18, w0_19, w0_20, w0_21, w0_22, w0_23, w0_24, w0_25, w0_26, w0_27, w0_28, w0_29, w0_30, w0_31, w0_32, w0_33, w0_34, w0_35, w0_36, w0_37, w0_38, w0_39, w0_40, w0_41, w0_42, w0_43, w0_44, w0_45, w0_46, w0_47, w0_48, w0_49, w0_50, w0_51, w0_52, w0_53, w0_54, w0_55, w0_56, w0_57, w0_58, w0_59, w0_60, w0_61, w0_62, w0_63, w0_64, w0_65, w0_66]))]) := by
  refine kmeti rfl (Nat.le_of_ble_eq_true rfl) ?_
  intro p e s m args below meth c ls A Q X hV hret hl
  have X : kC p s m c cX12_height 4 RX12 args E A := X
  have hx := X.1
  have hb := X.2.1
  have hl : lv_has ls 4 [(0, .ref a0), (1, .int p1), (2, .int p2), (3, .int p3)] := hl
  rw [f_X12_height] at h
  refine lv_aload_n hx hb dX12_height_0 rfl (lv_at hl 0 rfl) ?_
  refine lv_iload_n hx hb dX12_height_1 rfl (lv_at hl 1 rfl) ?_
  obtain ⟨r2_1, hc2, h3⟩ := cb1_s h
  clear h
  refine kgoiE (krunV (rest := []) X hV [0] (c_X12_isSource l E _ a0 (w0_0) (w0_1) (w0_3) (w0_4) (w0_5) (w0_6) (w0_7) (w0_8) (w0_9) (w0_10) (w0_11) (w0_12) (w0_13) (w0_14) (w0_15) (w0_16) (w0_17) (w0_18) (w0_19) (w0_20) (w0_21) (w0_22) (w0_23) (w0_24) (w0_25) (w0_26) (w0_27) (w0_28) (w0_29) (w0_30) (w0_31) (w0_32) (w0_33) (w0_34) (w0_35) (w0_36) (w0_37) (w0_38) (w0_39) (w0_40) (w0_41) (w0_42) (w0_43) (w0_44) (w0_45) (w0_46) (w0_47) (w0_48) (w0_49) (w0_50) (w0_51) (w0_52) (w0_53) (w0_54) (w0_55) (w0_56) (w0_57) (w0_58) (w0_59) (w0_60) (w0_61) (w0_62) (w0_63) (w0_64) (w0_65) (w0_66) s_sources p1 r2_1 hc2) mw_461 kb_X12_isSource (ci := 12) rfl rfl (by decide) rfl rfl hl.1 rfl (Nat.le_of_ble_eq_true rfl) dX12_height_2 (by decide)) X hV [0] [] rfl rfl rfl (by decide) (fun u H locs hV4 => ?_)
  have hV4 : kV E A s.heap H locs [(a0, .inr (12, [w0_0, w0_1, .int s_sources, w0_3, w0_4, w0_5, w0_6, w0_7, w0_8, w0_9, w0_10, w0_11, w0_12, w0_13, w0_14, w0_15, w0_16, w0_17, w0_18, w0_19, w0_20, w0_21, w0_22, w0_23, w0_24, w0_25, w0_26, w0_27, w0_28, w0_29, w0_30, w0_31, w0_32, w0_33, w0_34, w0_35, w0_36, w0_37, w0_38, w0_39, w0_40, w0_41, w0_42, w0_43, w0_44, w0_45, w0_46, w0_47, w0_48, w0_49, w0_50, w0_51, w0_52, w0_53, w0_54, w0_55, w0_56, w0_57, w0_58, w0_59, w0_60, w0_61, w0_62, w0_63, w0_64, w0_65, w0_66]))] := hV4.sub [0] rfl rfl
  clear hV
  refine lv_if_eq (tgt := 32) hx hb dX12_height_5 (by decide) (fun c6 => ?_) (fun c6 => ?_)
  · have h7 := itS c6 h3
    clear h3 c6
    refine lv_iconst (v := (-1)) hx hb dX12_height_32 (by decide) ?_
    have q9 := tup1_s h7
    clear h7
    exact hret _ () _ _ _ _ q9 rfl hV4 dX12_height_33
  · have h8 := ieS c6 h3
    clear h3 c6
    refine lv_iload_n hx hb dX12_height_8 rfl (lv_at hl 2 rfl) ?_
    obtain ⟨r9_10, hc11, h12⟩ := cb1_s h8
    clear h8
    refine kgoiE (krunS (rest := []) X hV4 [] (c_X12_isDay l E _ p2 r9_10 hc11) mw_632 kb_X12_isDay (by decide) rfl rfl hl.1 rfl (Nat.le_of_ble_eq_true rfl) dX12_height_9 (by decide)) X hV4 [] [0] rfl rfl rfl (by decide) (fun u H locs hV13 => ?_)
    have hV13 : kV E A s.heap H locs [(a0, .inr (12, [w0_0, w0_1, .int s_sources, w0_3, w0_4, w0_5, w0_6, w0_7, w0_8, w0_9, w0_10, w0_11, w0_12, w0_13, w0_14, w0_15, w0_16, w0_17, w0_18, w0_19, w0_20, w0_21, w0_22, w0_23, w0_24, w0_25, w0_26, w0_27, w0_28, w0_29, w0_30, w0_31, w0_32, w0_33, w0_34, w0_35, w0_36, w0_37, w0_38, w0_39, w0_40, w0_41, w0_42, w0_43, w0_44, w0_45, w0_46, w0_47, w0_48, w0_49, w0_50, w0_51, w0_52, w0_53, w0_54, w0_55, w0_56, w0_57, w0_58, w0_59, w0_60, w0_61, w0_62, w0_63, w0_64, w0_65, w0_66]))] := hV13.sub [0] rfl rfl
    clear hV4
    refine lv_if_eq (tgt := 32) hx hb dX12_height_12 (by decide) (fun c15 => ?_) (fun c15 => ?_)
    · have h16 := itS c15 h12
      clear h12 c15
      refine lv_iconst (v := (-1)) hx hb dX12_height_32 (by decide) ?_
      have q18 := tup1_s h16
      clear h16
      exact hret _ () _ _ _ _ q18 rfl hV13 dX12_height_33
    · have h17 := ieS c15 h12
      clear h12 c15
      refine lv_iload_n hx hb dX12_height_15 rfl (lv_at hl 3 rfl) ?_
      obtain ⟨r16_19, hc20, h21⟩ := cb1_s h17
      clear h17
      refine kgoiE (krunS (rest := []) X hV13 [] (c_X12_isMinute l E _ p3 r16_19 hc20) mw_220 kb_X12_isMinute (by decide) rfl rfl hl.1 rfl (Nat.le_of_ble_eq_true rfl) dX12_height_16 (by decide)) X hV13 [] [0] rfl rfl rfl (by decide) (fun u H locs hV22 => ?_)
      have hV22 : kV E A s.heap H locs [(a0, .inr (12, [w0_0, w0_1, .int s_sources, w0_3, w0_4, w0_5, w0_6, w0_7, w0_8, w0_9, w0_10, w0_11, w0_12, w0_13, w0_14, w0_15, w0_16, w0_17, w0_18, w0_19, w0_20, w0_21, w0_22, w0_23, w0_24, w0_25, w0_26, w0_27, w0_28, w0_29, w0_30, w0_31, w0_32, w0_33, w0_34, w0_35, w0_36, w0_37, w0_38, w0_39, w0_40, w0_41, w0_42, w0_43, w0_44, w0_45, w0_46, w0_47, w0_48, w0_49, w0_50, w0_51, w0_52, w0_53, w0_54, w0_55, w0_56, w0_57, w0_58, w0_59, w0_60, w0_61, w0_62, w0_63, w0_64, w0_65, w0_66]))] := hV22.sub [0] rfl rfl
      clear hV13
      refine lv_if_eq (tgt := 32) hx hb dX12_height_19 (by decide) (fun c24 => ?_) (fun c24 => ?_)
      · have h25 := itS c24 h21
        clear h21 c24
        refine lv_iconst (v := (-1)) hx hb dX12_height_32 (by decide) ?_
        have q27 := tup1_s h25
        clear h25
        exact hret _ () _ _ _ _ q27 rfl hV22 dX12_height_33
      · have h26 := ieS c24 h21
        clear h21 c24
        refine lv_aload_n hx hb dX12_height_22 rfl (lv_at hl 0 rfl) ?_
        refine lv_iload_n hx hb dX12_height_23 rfl (lv_at hl 1 rfl) ?_
        refine lv_iload_n hx hb dX12_height_24 rfl (lv_at hl 2 rfl) ?_
        refine lv_iload_n hx hb dX12_height_25 rfl (lv_at hl 3 rfl) ?_
        exact nomatch h26
abbrev r_X12_looks : Room := { frames := 0, cells := 0, slots := 0, locals := 0 }
set_option maxHeartbeats 4000000 in
set_option maxRecDepth 100000 in
theorem c_X12_looks (l : Launch) (E : kE) (sz : Nat) (a0 : Nat) (w0_0 w0_1 w0_3 w0_4 w0_5 w0_6 w0_7 w0_8 w0_9 w0_10 w0_11 w0_12 w0_13 w0_14 w0_15 w0_16 w0_17 w0_18 w0_19 w0_20 w0_21 w0_22 w0_23 w0_24 w0_25 w0_26 w0_27 w0_28 w0_29 w0_30 w0_31 w0_32 w0_33 w0_34 w0_35 w0_36 w0_37 w0_38 w0_39 w0_40 w0_41 w0_42 w0_43 w0_44 w0_45 w0_46 w0_47 w0_50 w0_51 w0_52 w0_53 w0_54 w0_55 w0_56 w0_57 w0_58 w0_59 w0_60 w0_61 w0_62 w0_63 w0_64 w0_65 w0_66 : Value) (s_sources : Int32) (s_paperHigh : Int32) (s_paperShape : Int32) (p1 : Int32) (p2 : Int32) (o_paperHigh : Int32) (o_paperShape : Int32) (h : f_X12_looks s_sources s_paperHigh s_paperShape p1 p2 = some (o_paperHigh, o_paperShape)) : kMv l yX12_looks cX12_looks 6 r_X12_looks [.ref a0, .int p1, .int p2] E [(a0, .inr (12, [w0_0, w0_1, .int s_sources, w0_3, w0_4, w0_5, w0_6, w0_7, w0_8, w0_9, w0_10, w0_11, w0_12, w0_13, w0_14, w0_15, w0_16, w0_17, w0_18, w0_19, w0_20, w0_21, w0_22, w0_23, w0_24, w0_25, w0_26, w0_27, w0_28, w0_29, w0_30, w0_31, w0_32, w0_33, w0_34, w0_35, w0_36, w0_37, w0_38, w0_39, w0_40, w0_41, w0_42, w0_43, w0_44, w0_45, w0_46, w0_47, .int s_paperHigh, .int s_paperShape, w0_50, w0_51, w0_52, w0_53, w0_54, w0_55, w0_56, w0_57, w0_58, w0_59, w0_60, w0_61, w0_62, w0_63, w0_64, w0_65, w0_66]))] sz 0 0 (fun (_ : Unit) => True) (fun _ => [(a0, .inr (12, [w0_0, w0_1, .int s_sources, w0_3, w0_4, w0_5, w0_6, w0_7, w0_8, w0_9, w0_10, w0_11, w0_12, w0_13, w0_14, w0_15, w0_16, w0_17, w0_18, w0_19, w0_20, w0_21, w0_22, w0_23, w0_24, w0_25, w0_26, w0_27, w0_28, w0_29, w0_30, w0_31, w0_32, w0_33, w0_34, w0_35, w0_36, w0_37, w0_38, w0_39, w0_40, w0_41, w0_42, w0_43, w0_44, w0_45, w0_46, w0_47, .int o_paperHigh, .int o_paperShape, w0_50, w0_51, w0_52, w0_53, w0_54, w0_55, w0_56, w0_57, w0_58, w0_59, w0_60, w0_61, w0_62, w0_63, w0_64, w0_65, w0_66]))]) := by
  refine kmetv rfl (Nat.le_of_ble_eq_true rfl) ?_
  intro p e s m args below meth c ls A Q X hnm hV hret hl
  have X : kC p s m c cX12_looks 6 RX12 args E A := X
  have hx := X.1
  have hb := X.2.1
  have hl : lv_has ls 6 [(0, .ref a0), (1, .int p1), (2, .int p2)] := hl
  rw [f_X12_looks] at h
  refine lv_aload_n hx hb dX12_looks_0 rfl (lv_at hl 0 rfl) ?_
  refine lv_iconst (v := 0) hx hb dX12_looks_1 (by decide) ?_
  refine kput X hV (ci := 12) inlX12 rfl tyX12 tyX12_ok nmX12 0 rfl 48 (by decide) mw_797 rfl rfl rfl (Nat.le_of_ble_eq_true rfl) dX12_looks_2 (fun H locs hV1 => ?_)
  have hV1 : kV E A s.heap H locs [(a0, .inr (12, [w0_0, w0_1, .int s_sources, w0_3, w0_4, w0_5, w0_6, w0_7, w0_8, w0_9, w0_10, w0_11, w0_12, w0_13, w0_14, w0_15, w0_16, w0_17, w0_18, w0_19, w0_20, w0_21, w0_22, w0_23, w0_24, w0_25, w0_26, w0_27, w0_28, w0_29, w0_30, w0_31, w0_32, w0_33, w0_34, w0_35, w0_36, w0_37, w0_38, w0_39, w0_40, w0_41, w0_42, w0_43, w0_44, w0_45, w0_46, w0_47, .int 0, .int s_paperShape, w0_50, w0_51, w0_52, w0_53, w0_54, w0_55, w0_56, w0_57, w0_58, w0_59, w0_60, w0_61, w0_62, w0_63, w0_64, w0_65, w0_66]))] := hV1
  clear hV
  refine lv_aload_n hx hb dX12_looks_5 rfl (lv_at hl 0 rfl) ?_
  refine lv_iconst (v := 4) hx hb dX12_looks_6 (by decide) ?_
  refine kput X hV1 (ci := 12) inlX12 rfl tyX12 tyX12_ok nmX12 0 rfl 49 (by decide) mw_798 rfl rfl rfl (Nat.le_of_ble_eq_true rfl) dX12_looks_7 (fun H locs hV2 => ?_)
  have hV2 : kV E A s.heap H locs [(a0, .inr (12, [w0_0, w0_1, .int s_sources, w0_3, w0_4, w0_5, w0_6, w0_7, w0_8, w0_9, w0_10, w0_11, w0_12, w0_13, w0_14, w0_15, w0_16, w0_17, w0_18, w0_19, w0_20, w0_21, w0_22, w0_23, w0_24, w0_25, w0_26, w0_27, w0_28, w0_29, w0_30, w0_31, w0_32, w0_33, w0_34, w0_35, w0_36, w0_37, w0_38, w0_39, w0_40, w0_41, w0_42, w0_43, w0_44, w0_45, w0_46, w0_47, .int 0, .int 4, w0_50, w0_51, w0_52, w0_53, w0_54, w0_55, w0_56, w0_57, w0_58, w0_59, w0_60, w0_61, w0_62, w0_63, w0_64, w0_65, w0_66]))] := hV2
  clear hV1
  refine lv_iconst (v := 0) hx hb dX12_looks_10 (by decide) ?_
  refine lv_istore_n (lv' := [(3, .int 0), (0, .ref a0), (1, .int p1), (2, .int p2)]) hx hb dX12_looks_11 rfl hl (by decide) rfl (fun ls hl3 => ?_)
  clear hl
  refine lv_iconst (v := 0) hx hb dX12_looks_12 (by decide) ?_
  refine lv_istore (lv' := [(4, .int 0), (3, .int 0), (0, .ref a0), (1, .int p1), (2, .int p2)]) hx hb dX12_looks_13 hl3 (by decide) rfl (fun ls hl4 => ?_)
  clear hl3
  refine lv_iload hx hb dX12_looks_15 (lv_at hl4 0 rfl) ?_
  refine lv_aload_n hx hb dX12_looks_17 rfl (lv_at hl4 2 rfl) ?_
  refine kget X hV2 (ci := 12) inlX12 rfl 0 rfl 2 (by decide) mw_216 rfl dX12_looks_18 ?_
  refine lv_icmp_ge (tgt := 74) hx hb dX12_looks_21 (by decide) (fun c5 => ?_) (fun c5 => ?_)
  · have h6 := itS c5 h
    clear h c5
    obtain ⟨q8, q9⟩ := tup2_s h6
    clear h6
    exact hret () _ _ _ _ trivial (by rw [← q8, ← q9]; exact hV2) dX12_looks_74
  · have h7 := ieS c5 h
    clear h c5
    refine lv_aload_n hx hb dX12_looks_24 rfl (lv_at hl4 2 rfl) ?_
    refine lv_iload hx hb dX12_looks_25 (lv_at hl4 0 rfl) ?_
    refine lv_iload_n hx hb dX12_looks_27 rfl (lv_at hl4 3 rfl) ?_
    refine lv_iload_n hx hb dX12_looks_28 rfl (lv_at hl4 4 rfl) ?_
    exact nomatch h7
abbrev r_X12_paper : Room := { frames := 2, cells := 0, slots := 0, locals := 45 }
set_option maxHeartbeats 4000000 in
set_option maxRecDepth 100000 in
theorem c_X12_paper (l : Launch) (E : kE) (sz : Nat) (a0 : Nat) (w0_0 w0_1 w0_3 w0_4 w0_5 w0_6 w0_7 w0_8 w0_9 w0_10 w0_11 w0_12 w0_13 w0_14 w0_15 w0_16 w0_17 w0_18 w0_19 w0_20 w0_21 w0_22 w0_23 w0_24 w0_25 w0_26 w0_27 w0_28 w0_29 w0_30 w0_31 w0_32 w0_33 w0_34 w0_35 w0_36 w0_37 w0_38 w0_39 w0_40 w0_41 w0_42 w0_43 w0_44 w0_45 w0_46 w0_47 w0_50 w0_51 w0_52 w0_53 w0_54 w0_55 w0_56 w0_57 w0_58 w0_59 w0_60 w0_61 w0_62 w0_63 w0_64 w0_65 w0_66 : Value) (s_sources : Int32) (s_paperHigh : Int32) (s_paperShape : Int32) (p1 : Int32) (p2 : Int32) (p3 : Int32) (r : Int32) (o_paperHigh : Int32) (o_paperShape : Int32) (h : f_X12_paper s_sources s_paperHigh s_paperShape p1 p2 p3 = some (r, o_paperHigh, o_paperShape)) : kMi l yX12_paper cX12_paper 4 (some .int) r_X12_paper [.ref a0, .int p1, .int p2, .int p3] E [(a0, .inr (12, [w0_0, w0_1, .int s_sources, w0_3, w0_4, w0_5, w0_6, w0_7, w0_8, w0_9, w0_10, w0_11, w0_12, w0_13, w0_14, w0_15, w0_16, w0_17, w0_18, w0_19, w0_20, w0_21, w0_22, w0_23, w0_24, w0_25, w0_26, w0_27, w0_28, w0_29, w0_30, w0_31, w0_32, w0_33, w0_34, w0_35, w0_36, w0_37, w0_38, w0_39, w0_40, w0_41, w0_42, w0_43, w0_44, w0_45, w0_46, w0_47, .int s_paperHigh, .int s_paperShape, w0_50, w0_51, w0_52, w0_53, w0_54, w0_55, w0_56, w0_57, w0_58, w0_59, w0_60, w0_61, w0_62, w0_63, w0_64, w0_65, w0_66]))] sz 0 0 (fun x (_ : Unit) => x = r) (fun _ => [(a0, .inr (12, [w0_0, w0_1, .int s_sources, w0_3, w0_4, w0_5, w0_6, w0_7, w0_8, w0_9, w0_10, w0_11, w0_12, w0_13, w0_14, w0_15, w0_16, w0_17, w0_18, w0_19, w0_20, w0_21, w0_22, w0_23, w0_24, w0_25, w0_26, w0_27, w0_28, w0_29, w0_30, w0_31, w0_32, w0_33, w0_34, w0_35, w0_36, w0_37, w0_38, w0_39, w0_40, w0_41, w0_42, w0_43, w0_44, w0_45, w0_46, w0_47, .int o_paperHigh, .int o_paperShape, w0_50, w0_51, w0_52, w0_53, w0_54, w0_55, w0_56, w0_57, w0_58, w0_59, w0_60, w0_61, w0_62, w0_63, w0_64, w0_65, w0_66]))]) := by
  refine kmeti rfl (Nat.le_of_ble_eq_true rfl) ?_
  intro p e s m args below meth c ls A Q X hV hret hl
  have X : kC p s m c cX12_paper 4 RX12 args E A := X
  have hx := X.1
  have hb := X.2.1
  have hl : lv_has ls 4 [(0, .ref a0), (1, .int p1), (2, .int p2), (3, .int p3)] := hl
  rw [f_X12_paper] at h
  refine lv_iload_n hx hb dX12_paper_0 rfl (lv_at hl 1 rfl) ?_
  obtain ⟨r1_1, hc2, h3⟩ := cb1_s h
  clear h
  refine kgoiE (krunS (rest := []) X hV [] (c_X12_isDay l E _ p1 r1_1 hc2) mw_632 kb_X12_isDay (by decide) rfl rfl hl.1 rfl (Nat.le_of_ble_eq_true rfl) dX12_paper_1 (by decide)) X hV [] [0] rfl rfl rfl (by decide) (fun u H locs hV4 => ?_)
  have hV4 : kV E A s.heap H locs [(a0, .inr (12, [w0_0, w0_1, .int s_sources, w0_3, w0_4, w0_5, w0_6, w0_7, w0_8, w0_9, w0_10, w0_11, w0_12, w0_13, w0_14, w0_15, w0_16, w0_17, w0_18, w0_19, w0_20, w0_21, w0_22, w0_23, w0_24, w0_25, w0_26, w0_27, w0_28, w0_29, w0_30, w0_31, w0_32, w0_33, w0_34, w0_35, w0_36, w0_37, w0_38, w0_39, w0_40, w0_41, w0_42, w0_43, w0_44, w0_45, w0_46, w0_47, .int s_paperHigh, .int s_paperShape, w0_50, w0_51, w0_52, w0_53, w0_54, w0_55, w0_56, w0_57, w0_58, w0_59, w0_60, w0_61, w0_62, w0_63, w0_64, w0_65, w0_66]))] := hV4.sub [0] rfl rfl
  clear hV
  refine lv_if_eq (tgt := 24) hx hb dX12_paper_4 (by decide) (fun c6 => ?_) (fun c6 => ?_)
  · have h7 := itS c6 h3
    clear h3 c6
    refine lv_iconst (v := (-1)) hx hb dX12_paper_24 (by decide) ?_
    obtain ⟨q9, q10, q11⟩ := tup3_s h7
    clear h7
    exact hret _ () _ _ _ _ q9 rfl (by rw [← q10, ← q11]; exact hV4) dX12_paper_25
  · have h8 := ieS c6 h3
    clear h3 c6
    refine lv_iload_n hx hb dX12_paper_7 rfl (lv_at hl 2 rfl) ?_
    obtain ⟨r8_12, hc13, h14⟩ := cb1_s h8
    clear h8
    refine kgoiE (krunS (rest := []) X hV4 [] (c_X12_isMinute l E _ p2 r8_12 hc13) mw_220 kb_X12_isMinute (by decide) rfl rfl hl.1 rfl (Nat.le_of_ble_eq_true rfl) dX12_paper_8 (by decide)) X hV4 [] [0] rfl rfl rfl (by decide) (fun u H locs hV15 => ?_)
    have hV15 : kV E A s.heap H locs [(a0, .inr (12, [w0_0, w0_1, .int s_sources, w0_3, w0_4, w0_5, w0_6, w0_7, w0_8, w0_9, w0_10, w0_11, w0_12, w0_13, w0_14, w0_15, w0_16, w0_17, w0_18, w0_19, w0_20, w0_21, w0_22, w0_23, w0_24, w0_25, w0_26, w0_27, w0_28, w0_29, w0_30, w0_31, w0_32, w0_33, w0_34, w0_35, w0_36, w0_37, w0_38, w0_39, w0_40, w0_41, w0_42, w0_43, w0_44, w0_45, w0_46, w0_47, .int s_paperHigh, .int s_paperShape, w0_50, w0_51, w0_52, w0_53, w0_54, w0_55, w0_56, w0_57, w0_58, w0_59, w0_60, w0_61, w0_62, w0_63, w0_64, w0_65, w0_66]))] := hV15.sub [0] rfl rfl
    clear hV4
    refine lv_if_eq (tgt := 24) hx hb dX12_paper_11 (by decide) (fun c17 => ?_) (fun c17 => ?_)
    · have h18 := itS c17 h14
      clear h14 c17
      refine lv_iconst (v := (-1)) hx hb dX12_paper_24 (by decide) ?_
      obtain ⟨q20, q21, q22⟩ := tup3_s h18
      clear h18
      exact hret _ () _ _ _ _ q20 rfl (by rw [← q21, ← q22]; exact hV15) dX12_paper_25
    · have h19 := ieS c17 h14
      clear h14 c17
      refine lv_iload_n hx hb dX12_paper_14 rfl (lv_at hl 3 rfl) ?_
      refine lv_i2l (v := Int32.toInt64 p3) hx hb dX12_paper_15 rfl ?_
      refine lv_lconst (v := 0) hx hb dX12_paper_16 (by decide) ?_
      refine lv_lconst (v := 1) hx hb dX12_paper_17 (by decide) ?_
      obtain ⟨r18_23, hc24, h25⟩ := cb1_s h19
      clear h19
      refine kgoiE (krunS (rest := []) X hV15 [] (c_X12_lies l E _ (Int32.toInt64 p3) 0 1 r18_23 hc24) mw_224 kb_X12_lies (by decide) rfl rfl hl.1 rfl (Nat.le_of_ble_eq_true rfl) dX12_paper_18 (by decide)) X hV15 [] [0] rfl rfl rfl (by decide) (fun u H locs hV26 => ?_)
      have hV26 : kV E A s.heap H locs [(a0, .inr (12, [w0_0, w0_1, .int s_sources, w0_3, w0_4, w0_5, w0_6, w0_7, w0_8, w0_9, w0_10, w0_11, w0_12, w0_13, w0_14, w0_15, w0_16, w0_17, w0_18, w0_19, w0_20, w0_21, w0_22, w0_23, w0_24, w0_25, w0_26, w0_27, w0_28, w0_29, w0_30, w0_31, w0_32, w0_33, w0_34, w0_35, w0_36, w0_37, w0_38, w0_39, w0_40, w0_41, w0_42, w0_43, w0_44, w0_45, w0_46, w0_47, .int s_paperHigh, .int s_paperShape, w0_50, w0_51, w0_52, w0_53, w0_54, w0_55, w0_56, w0_57, w0_58, w0_59, w0_60, w0_61, w0_62, w0_63, w0_64, w0_65, w0_66]))] := hV26.sub [0] rfl rfl
      clear hV15
      refine lv_if_ne (tgt := 26) hx hb dX12_paper_21 (by decide) (fun c28 => ?_) (fun c28 => ?_)
      · have h29 := ieS c28 h25
        clear h25 c28
        refine lv_aload_n hx hb dX12_paper_26 rfl (lv_at hl 0 rfl) ?_
        refine lv_iload_n hx hb dX12_paper_27 rfl (lv_at hl 1 rfl) ?_
        refine lv_iload_n hx hb dX12_paper_28 rfl (lv_at hl 2 rfl) ?_
        obtain ⟨o_paperHigh29_31, o_paperShape29_32, hc33, h34⟩ := cb2_s h29
        clear h29
        refine kgov (krunV (rest := []) X hV26 [0] (c_X12_looks l E _ a0 (w0_0) (w0_1) (w0_3) (w0_4) (w0_5) (w0_6) (w0_7) (w0_8) (w0_9) (w0_10) (w0_11) (w0_12) (w0_13) (w0_14) (w0_15) (w0_16) (w0_17) (w0_18) (w0_19) (w0_20) (w0_21) (w0_22) (w0_23) (w0_24) (w0_25) (w0_26) (w0_27) (w0_28) (w0_29) (w0_30) (w0_31) (w0_32) (w0_33) (w0_34) (w0_35) (w0_36) (w0_37) (w0_38) (w0_39) (w0_40) (w0_41) (w0_42) (w0_43) (w0_44) (w0_45) (w0_46) (w0_47) (w0_50) (w0_51) (w0_52) (w0_53) (w0_54) (w0_55) (w0_56) (w0_57) (w0_58) (w0_59) (w0_60) (w0_61) (w0_62) (w0_63) (w0_64) (w0_65) (w0_66) s_sources s_paperHigh s_paperShape p1 p2 o_paperHigh29_31 o_paperShape29_32 hc33) mw_799 kb_X12_looks (ci := 12) rfl rfl (by decide) rfl rfl hl.1 rfl (Nat.le_of_ble_eq_true rfl) dX12_paper_29 (by decide)) X hV26 [0] [] rfl rfl rfl (by decide) (fun u H locs hp36 hV35 => ?_)
        have hV35 : kV E A s.heap H locs [(a0, .inr (12, [w0_0, w0_1, .int s_sources, w0_3, w0_4, w0_5, w0_6, w0_7, w0_8, w0_9, w0_10, w0_11, w0_12, w0_13, w0_14, w0_15, w0_16, w0_17, w0_18, w0_19, w0_20, w0_21, w0_22, w0_23, w0_24, w0_25, w0_26, w0_27, w0_28, w0_29, w0_30, w0_31, w0_32, w0_33, w0_34, w0_35, w0_36, w0_37, w0_38, w0_39, w0_40, w0_41, w0_42, w0_43, w0_44, w0_45, w0_46, w0_47, .int o_paperHigh29_31, .int o_paperShape29_32, w0_50, w0_51, w0_52, w0_53, w0_54, w0_55, w0_56, w0_57, w0_58, w0_59, w0_60, w0_61, w0_62, w0_63, w0_64, w0_65, w0_66]))] := hV35.sub [0] rfl rfl
        clear hV26
        refine lv_iload_n hx hb dX12_paper_32 rfl (lv_at hl 3 rfl) ?_
        refine lv_if_ne (tgt := 43) hx hb dX12_paper_33 (by decide) (fun c37 => ?_) (fun c37 => ?_)
        · have h38 := ieS c37 h34
          clear h34 c37
          refine lv_aload_n hx hb dX12_paper_43 rfl (lv_at hl 0 rfl) ?_
          refine kget X hV35 (ci := 12) inlX12 rfl 0 rfl 49 (by decide) mw_798 rfl dX12_paper_44 ?_
          obtain ⟨q40, q41, q42⟩ := tup3_s h38
          clear h38
          exact hret _ () _ _ _ _ q40 rfl (by rw [← q41, ← q42]; exact hV35) dX12_paper_47
        · have h39 := itS c37 h34
          clear h34 c37
          refine lv_aload_n hx hb dX12_paper_36 rfl (lv_at hl 0 rfl) ?_
          refine kget X hV35 (ci := 12) inlX12 rfl 0 rfl 48 (by decide) mw_797 rfl dX12_paper_37 ?_
          refine lv_goto (tgt := 47) hx hb dX12_paper_40 (by decide) ?_
          obtain ⟨q43, q44, q45⟩ := tup3_s h39
          clear h39
          exact hret _ () _ _ _ _ q43 rfl (by rw [← q44, ← q45]; exact hV35) dX12_paper_47
      · have h30 := itS c28 h25
        clear h25 c28
        refine lv_iconst (v := (-1)) hx hb dX12_paper_24 (by decide) ?_
        obtain ⟨q46, q47, q48⟩ := tup3_s h30
        clear h30
        exact hret _ () _ _ _ _ q46 rfl (by rw [← q47, ← q48]; exact hV26) dX12_paper_25
abbrev r_X12_lays : Room := { frames := 1, cells := 0, slots := 0, locals := 25 }
set_option maxHeartbeats 4000000 in
set_option maxRecDepth 100000 in
theorem c_X12_lays (l : Launch) (E : kE) (sz : Nat) (a0 a1 a2 : Nat) (w0_0 w0_1 w0_3 w0_4 w0_5 w0_6 w0_7 w0_8 w0_9 w0_10 w0_11 w0_12 w0_13 w0_14 w0_15 w0_16 w0_17 w0_18 w0_19 w0_20 w0_21 w0_22 w0_23 w0_24 w0_25 w0_26 w0_27 w0_28 w0_29 w0_30 w0_31 w0_32 w0_33 w0_34 w0_35 w0_36 w0_37 w0_38 w0_39 w0_40 w0_41 w0_42 w0_43 w0_44 w0_45 w0_46 w0_47 w0_52 w0_53 w0_54 w0_55 w0_56 w0_57 w0_58 w0_59 w0_60 w0_61 w0_62 w0_63 w0_64 w0_65 w0_66 : Value) (s_sources : Int32) (s_paperHigh : Int32) (s_paperShape : Int32) (s_highAt : Nat → Int32) (s_shapeAt : Nat → Int32) (p1 : Int32) (o_paperHigh : Int32) (o_paperShape : Int32) (o_highAt : Nat → Int32) (o_shapeAt : Nat → Int32) (h : f_X12_lays s_sources s_paperHigh s_paperShape s_highAt s_shapeAt p1 = some (o_paperHigh, o_paperShape, o_highAt, o_shapeAt)) : kMv l yX12_lays cX12_lays 3 r_X12_lays [.ref a0, .int p1] E [(a0, .inr (12, [w0_0, w0_1, .int s_sources, w0_3, w0_4, w0_5, w0_6, w0_7, w0_8, w0_9, w0_10, w0_11, w0_12, w0_13, w0_14, w0_15, w0_16, w0_17, w0_18, w0_19, w0_20, w0_21, w0_22, w0_23, w0_24, w0_25, w0_26, w0_27, w0_28, w0_29, w0_30, w0_31, w0_32, w0_33, w0_34, w0_35, w0_36, w0_37, w0_38, w0_39, w0_40, w0_41, w0_42, w0_43, w0_44, w0_45, w0_46, w0_47, .int s_paperHigh, .int s_paperShape, .ref a1, .ref a2, w0_52, w0_53, w0_54, w0_55, w0_56, w0_57, w0_58, w0_59, w0_60, w0_61, w0_62, w0_63, w0_64, w0_65, w0_66])), (a1, .inl (E.2 0, 1440, .inl s_highAt)), (a2, .inl (E.2 0, 1440, .inl s_shapeAt))] sz 0 0 (fun (_ : Unit) => True) (fun _ => [(a0, .inr (12, [w0_0, w0_1, .int s_sources, w0_3, w0_4, w0_5, w0_6, w0_7, w0_8, w0_9, w0_10, w0_11, w0_12, w0_13, w0_14, w0_15, w0_16, w0_17, w0_18, w0_19, w0_20, w0_21, w0_22, w0_23, w0_24, w0_25, w0_26, w0_27, w0_28, w0_29, w0_30, w0_31, w0_32, w0_33, w0_34, w0_35, w0_36, w0_37, w0_38, w0_39, w0_40, w0_41, w0_42, w0_43, w0_44, w0_45, w0_46, w0_47, .int o_paperHigh, .int o_paperShape, .ref a1, .ref a2, w0_52, w0_53, w0_54, w0_55, w0_56, w0_57, w0_58, w0_59, w0_60, w0_61, w0_62, w0_63, w0_64, w0_65, w0_66])), (a1, .inl (E.2 0, 1440, .inl o_highAt)), (a2, .inl (E.2 0, 1440, .inl o_shapeAt))]) := by
  refine kmetv rfl (Nat.le_of_ble_eq_true rfl) ?_
  intro p e s m args below meth c ls A Q X hnm hV hret hl
  have X : kC p s m c cX12_lays 3 RX12 args E A := X
  have hx := X.1
  have hb := X.2.1
  have hl : lv_has ls 3 [(0, .ref a0), (1, .int p1)] := hl
  rw [f_X12_lays] at h
  refine lv_iconst (v := 0) hx hb dX12_lays_0 (by decide) ?_
  refine lv_istore_n (lv' := [(2, .int 0), (0, .ref a0), (1, .int p1)]) hx hb dX12_lays_1 rfl hl (by decide) rfl (fun ls hl1 => ?_)
  clear hl
  have L2 : ∀ (n2 : Nat) (x2_2 : Int32) (paperHigh__3 : Int32) (paperShape__4 : Int32) (highAt__5 : Nat → Int32) (shapeAt__6 : Nat → Int32) (H : Heap) (locs : List Loc) (ls : Array Slot), (f_X12_lays_L2 s_sources p1  n2) x2_2 paperHigh__3 paperShape__4 highAt__5 shapeAt__6 = some (o_paperHigh, o_paperShape, o_highAt, o_shapeAt) → kV E A s.heap H locs [(a0, .inr (12, [w0_0, w0_1, .int s_sources, w0_3, w0_4, w0_5, w0_6, w0_7, w0_8, w0_9, w0_10, w0_11, w0_12, w0_13, w0_14, w0_15, w0_16, w0_17, w0_18, w0_19, w0_20, w0_21, w0_22, w0_23, w0_24, w0_25, w0_26, w0_27, w0_28, w0_29, w0_30, w0_31, w0_32, w0_33, w0_34, w0_35, w0_36, w0_37, w0_38, w0_39, w0_40, w0_41, w0_42, w0_43, w0_44, w0_45, w0_46, w0_47, .int paperHigh__3, .int paperShape__4, .ref a1, .ref a2, w0_52, w0_53, w0_54, w0_55, w0_56, w0_57, w0_58, w0_59, w0_60, w0_61, w0_62, w0_63, w0_64, w0_65, w0_66])), (a1, .inl (E.2 0, 1440, .inl highAt__5)), (a2, .inl (E.2 0, 1440, .inl shapeAt__6))] → lv_has ls 3 [(0, .ref a0), (1, .int p1), (2, .int x2_2)] → W p l e r_X12_lays s m args below meth c H locs 0 0 Q (F0 m 2 ls []) := by
    intro n2
    induction n2 with
    | zero =>
      intro x2_2 paperHigh__3 paperShape__4 highAt__5 shapeAt__6 H locs ls hB2 hVB2 hlB2
      rw [f_X12_lays_L2] at hB2
      exact nomatch hB2
    | succ n2 ih2 =>
      intro x2_2 paperHigh__3 paperShape__4 highAt__5 shapeAt__6 H locs ls hB2 hVB2 hlB2
      rw [f_X12_lays_L2] at hB2
      refine lv_iload_n hx hb dX12_lays_2 rfl (lv_at hlB2 2 rfl) ?_
      refine lv_sipush (v := 1440) hx hb dX12_lays_3 (by decide) ?_
      refine lv_icmp_ge (tgt := 41) hx hb dX12_lays_6 (by decide) (fun c7 => ?_) (fun c7 => ?_)
      · have h8 := itS c7 hB2
        clear hB2 c7
        obtain ⟨q10, q11, q12, q13⟩ := tup4_s h8
        clear h8
        exact hret () _ _ _ _ trivial (by rw [← q10, ← q11, ← q12, ← q13]; exact hVB2) dX12_lays_41
      · have h9 := ieS c7 hB2
        clear hB2 c7
        refine lv_aload_n hx hb dX12_lays_9 rfl (lv_at hlB2 0 rfl) ?_
        refine lv_iload_n hx hb dX12_lays_10 rfl (lv_at hlB2 1 rfl) ?_
        refine lv_iload_n hx hb dX12_lays_11 rfl (lv_at hlB2 2 rfl) ?_
        obtain ⟨o_paperHigh12_14, o_paperShape12_15, hc16, h17⟩ := cb2_s h9
        clear h9
        refine kgov (krunV (rest := []) X hVB2 [0] (c_X12_looks l E _ a0 (w0_0) (w0_1) (w0_3) (w0_4) (w0_5) (w0_6) (w0_7) (w0_8) (w0_9) (w0_10) (w0_11) (w0_12) (w0_13) (w0_14) (w0_15) (w0_16) (w0_17) (w0_18) (w0_19) (w0_20) (w0_21) (w0_22) (w0_23) (w0_24) (w0_25) (w0_26) (w0_27) (w0_28) (w0_29) (w0_30) (w0_31) (w0_32) (w0_33) (w0_34) (w0_35) (w0_36) (w0_37) (w0_38) (w0_39) (w0_40) (w0_41) (w0_42) (w0_43) (w0_44) (w0_45) (w0_46) (w0_47) (.ref a1) (.ref a2) (w0_52) (w0_53) (w0_54) (w0_55) (w0_56) (w0_57) (w0_58) (w0_59) (w0_60) (w0_61) (w0_62) (w0_63) (w0_64) (w0_65) (w0_66) s_sources paperHigh__3 paperShape__4 p1 x2_2 o_paperHigh12_14 o_paperShape12_15 hc16) mw_799 kb_X12_looks (ci := 12) rfl rfl (by decide) rfl rfl hlB2.1 rfl (Nat.le_of_ble_eq_true rfl) dX12_lays_12 (by decide)) X hVB2 [0] [1, 2] rfl rfl rfl (by decide) (fun u H locs hp19 hV18 => ?_)
        have hV18 : kV E A s.heap H locs [(a0, .inr (12, [w0_0, w0_1, .int s_sources, w0_3, w0_4, w0_5, w0_6, w0_7, w0_8, w0_9, w0_10, w0_11, w0_12, w0_13, w0_14, w0_15, w0_16, w0_17, w0_18, w0_19, w0_20, w0_21, w0_22, w0_23, w0_24, w0_25, w0_26, w0_27, w0_28, w0_29, w0_30, w0_31, w0_32, w0_33, w0_34, w0_35, w0_36, w0_37, w0_38, w0_39, w0_40, w0_41, w0_42, w0_43, w0_44, w0_45, w0_46, w0_47, .int o_paperHigh12_14, .int o_paperShape12_15, .ref a1, .ref a2, w0_52, w0_53, w0_54, w0_55, w0_56, w0_57, w0_58, w0_59, w0_60, w0_61, w0_62, w0_63, w0_64, w0_65, w0_66])), (a1, .inl (E.2 0, 1440, .inl highAt__5)), (a2, .inl (E.2 0, 1440, .inl shapeAt__6))] := hV18.sub [2, 0, 1] rfl rfl
        clear hVB2
        refine lv_aload_n hx hb dX12_lays_15 rfl (lv_at hlB2 0 rfl) ?_
        refine kget X hV18 (ci := 12) inlX12 rfl 0 rfl 50 (by decide) mw_162 rfl dX12_lays_16 ?_
        refine lv_iload_n hx hb dX12_lays_19 rfl (lv_at hlB2 2 rfl) ?_
        refine lv_aload_n hx hb dX12_lays_20 rfl (lv_at hlB2 0 rfl) ?_
        refine kget X hV18 (ci := 12) inlX12 rfl 0 rfl 48 (by decide) mw_797 rfl dX12_lays_21 ?_
        obtain ⟨hi21, g24_20, e22, h23⟩ := wrI_s h17
        clear h17
        refine kiast X hV18 1 rfl hi21 e22 dX12_lays_24 (fun H locs hV24 => ?_)
        have hV24 : kV E A s.heap H locs [(a0, .inr (12, [w0_0, w0_1, .int s_sources, w0_3, w0_4, w0_5, w0_6, w0_7, w0_8, w0_9, w0_10, w0_11, w0_12, w0_13, w0_14, w0_15, w0_16, w0_17, w0_18, w0_19, w0_20, w0_21, w0_22, w0_23, w0_24, w0_25, w0_26, w0_27, w0_28, w0_29, w0_30, w0_31, w0_32, w0_33, w0_34, w0_35, w0_36, w0_37, w0_38, w0_39, w0_40, w0_41, w0_42, w0_43, w0_44, w0_45, w0_46, w0_47, .int o_paperHigh12_14, .int o_paperShape12_15, .ref a1, .ref a2, w0_52, w0_53, w0_54, w0_55, w0_56, w0_57, w0_58, w0_59, w0_60, w0_61, w0_62, w0_63, w0_64, w0_65, w0_66])), (a1, .inl (E.2 0, 1440, .inl g24_20)), (a2, .inl (E.2 0, 1440, .inl shapeAt__6))] := hV24
        clear hV18 hi21 e22
        refine lv_aload_n hx hb dX12_lays_25 rfl (lv_at hlB2 0 rfl) ?_
        refine kget X hV24 (ci := 12) inlX12 rfl 0 rfl 51 (by decide) mw_163 rfl dX12_lays_26 ?_
        refine lv_iload_n hx hb dX12_lays_29 rfl (lv_at hlB2 2 rfl) ?_
        refine lv_aload_n hx hb dX12_lays_30 rfl (lv_at hlB2 0 rfl) ?_
        refine kget X hV24 (ci := 12) inlX12 rfl 0 rfl 49 (by decide) mw_798 rfl dX12_lays_31 ?_
        obtain ⟨hi26, g34_25, e27, h28⟩ := wrI_s h23
        clear h23
        refine kiast X hV24 2 rfl hi26 e27 dX12_lays_34 (fun H locs hV29 => ?_)
        have hV29 : kV E A s.heap H locs [(a0, .inr (12, [w0_0, w0_1, .int s_sources, w0_3, w0_4, w0_5, w0_6, w0_7, w0_8, w0_9, w0_10, w0_11, w0_12, w0_13, w0_14, w0_15, w0_16, w0_17, w0_18, w0_19, w0_20, w0_21, w0_22, w0_23, w0_24, w0_25, w0_26, w0_27, w0_28, w0_29, w0_30, w0_31, w0_32, w0_33, w0_34, w0_35, w0_36, w0_37, w0_38, w0_39, w0_40, w0_41, w0_42, w0_43, w0_44, w0_45, w0_46, w0_47, .int o_paperHigh12_14, .int o_paperShape12_15, .ref a1, .ref a2, w0_52, w0_53, w0_54, w0_55, w0_56, w0_57, w0_58, w0_59, w0_60, w0_61, w0_62, w0_63, w0_64, w0_65, w0_66])), (a1, .inl (E.2 0, 1440, .inl g24_20)), (a2, .inl (E.2 0, 1440, .inl g34_25))] := hV29
        clear hV24 hi26 e27
        obtain ⟨v35_30, e31, h32⟩ := nmI_s h28
        clear h28
        refine lv_iinc (v := v35_30) (lv' := [(2, .int v35_30), (0, .ref a0), (1, .int p1)]) hx hb dX12_lays_35 hlB2 (k := 2) rfl (by rw [e31]; rfl) (by decide) rfl (fun ls hl33 => ?_)
        clear hlB2 e31
        refine lv_goto (tgt := 2) hx hb dX12_lays_38 (by decide) ?_
        exact ih2 v35_30 o_paperHigh12_14 o_paperShape12_15 g24_20 g34_25 _ _ _ h32 hV29 (lv_sub hl33 [1, 2, 0] rfl)
  exact L2 FU 0 s_paperHigh s_paperShape s_highAt s_shapeAt _ _ _ h hV (lv_sub hl1 [1, 2, 0] rfl)
abbrev r_X12_isMarked : Room := { frames := 1, cells := 0, slots := 0, locals := 21 }
set_option maxHeartbeats 4000000 in
set_option maxRecDepth 100000 in
theorem c_X12_isMarked (l : Launch) (E : kE) (sz : Nat) (a0 a1 a2 a3 : Nat) (w0_0 w0_1 w0_2 w0_3 w0_4 w0_5 w0_6 w0_8 w0_9 w0_10 w0_11 w0_12 w0_13 w0_14 w0_15 w0_16 w0_17 w0_18 w0_19 w0_20 w0_21 w0_22 w0_23 w0_24 w0_25 w0_26 w0_27 w0_41 w0_42 w0_43 w0_44 w0_45 w0_46 w0_47 w0_48 w0_49 w0_52 w0_53 w0_54 w0_55 w0_56 w0_57 w0_58 w0_59 w0_60 w0_61 w0_62 w0_63 w0_64 w0_65 w0_66 : Value) (s_atA : Int32) (s_atB : Int32) (s_atD : Int32) (s_atF : Int32) (s_atG : Int32) (s_atH : Int32) (s_atL : Int32) (s_atM : Int32) (s_atN : Int32) (s_atS : Int32) (s_atT : Int32) (s_atU : Int32) (s_atX : Int32) (s_highAt : Nat → Int32) (s_many : Nat → Int32) (s_shapeAt : Nat → Int32) (p1 : Int32) (p2 : Int32) (p3 : Int32) (p4 : Int32) (r : Int32) (o_atA : Int32) (o_atB : Int32) (o_atD : Int32) (o_atF : Int32) (o_atG : Int32) (o_atH : Int32) (o_atL : Int32) (o_atM : Int32) (o_atN : Int32) (o_atS : Int32) (o_atT : Int32) (o_atU : Int32) (o_atX : Int32) (h : f_X12_isMarked s_atA s_atB s_atD s_atF s_atG s_atH s_atL s_atM s_atN s_atS s_atT s_atU s_atX s_highAt s_many s_shapeAt p1 p2 p3 p4 = some (r, o_atA, o_atB, o_atD, o_atF, o_atG, o_atH, o_atL, o_atM, o_atN, o_atS, o_atT, o_atU, o_atX)) : kMi l yX12_isMarked cX12_isMarked 6 (some .boolean) r_X12_isMarked [.ref a0, .int p1, .int p2, .int p3, .int p4] E [(a0, .inr (12, [w0_0, w0_1, w0_2, w0_3, w0_4, w0_5, w0_6, .ref a2, w0_8, w0_9, w0_10, w0_11, w0_12, w0_13, w0_14, w0_15, w0_16, w0_17, w0_18, w0_19, w0_20, w0_21, w0_22, w0_23, w0_24, w0_25, w0_26, w0_27, .int s_atA, .int s_atB, .int s_atD, .int s_atF, .int s_atG, .int s_atH, .int s_atL, .int s_atM, .int s_atN, .int s_atS, .int s_atT, .int s_atU, .int s_atX, w0_41, w0_42, w0_43, w0_44, w0_45, w0_46, w0_47, w0_48, w0_49, .ref a1, .ref a3, w0_52, w0_53, w0_54, w0_55, w0_56, w0_57, w0_58, w0_59, w0_60, w0_61, w0_62, w0_63, w0_64, w0_65, w0_66])), (a1, .inl (E.2 0, 1440, .inl s_highAt)), (a2, .inl (E.2 0, 20, .inl s_many)), (a3, .inl (E.2 0, 1440, .inl s_shapeAt))] sz 0 0 (fun x (_ : Unit) => x = r) (fun _ => [(a0, .inr (12, [w0_0, w0_1, w0_2, w0_3, w0_4, w0_5, w0_6, .ref a2, w0_8, w0_9, w0_10, w0_11, w0_12, w0_13, w0_14, w0_15, w0_16, w0_17, w0_18, w0_19, w0_20, w0_21, w0_22, w0_23, w0_24, w0_25, w0_26, w0_27, .int o_atA, .int o_atB, .int o_atD, .int o_atF, .int o_atG, .int o_atH, .int o_atL, .int o_atM, .int o_atN, .int o_atS, .int o_atT, .int o_atU, .int o_atX, w0_41, w0_42, w0_43, w0_44, w0_45, w0_46, w0_47, w0_48, w0_49, .ref a1, .ref a3, w0_52, w0_53, w0_54, w0_55, w0_56, w0_57, w0_58, w0_59, w0_60, w0_61, w0_62, w0_63, w0_64, w0_65, w0_66])), (a1, .inl (E.2 0, 1440, .inl s_highAt)), (a2, .inl (E.2 0, 20, .inl s_many)), (a3, .inl (E.2 0, 1440, .inl s_shapeAt))]) := by
  refine kmeti rfl (Nat.le_of_ble_eq_true rfl) ?_
  intro p e s m args below meth c ls A Q X hV hret hl
  have X : kC p s m c cX12_isMarked 6 RX12 args E A := X
  have hx := X.1
  have hb := X.2.1
  have hl : lv_has ls 6 [(0, .ref a0), (1, .int p1), (2, .int p2), (3, .int p3), (4, .int p4)] := hl
  rw [f_X12_isMarked] at h
  refine lv_aload_n hx hb dX12_isMarked_0 rfl (lv_at hl 0 rfl) ?_
  obtain ⟨o_atA1_1, o_atB1_2, o_atD1_3, o_atF1_4, o_atG1_5, o_atH1_6, o_atL1_7, o_atM1_8, o_atN1_9, o_atS1_10, o_atT1_11, o_atU1_12, o_atX1_13, hc14, h15⟩ := cb13_s h
  clear h
  refine kgov (krunV (rest := []) X hV [0] (c_X12_clears l E _ a0 (w0_0) (w0_1) (w0_2) (w0_3) (w0_4) (w0_5) (w0_6) (.ref a2) (w0_8) (w0_9) (w0_10) (w0_11) (w0_12) (w0_13) (w0_14) (w0_15) (w0_16) (w0_17) (w0_18) (w0_19) (w0_20) (w0_21) (w0_22) (w0_23) (w0_24) (w0_25) (w0_26) (w0_27) (w0_41) (w0_42) (w0_43) (w0_44) (w0_45) (w0_46) (w0_47) (w0_48) (w0_49) (.ref a1) (.ref a3) (w0_52) (w0_53) (w0_54) (w0_55) (w0_56) (w0_57) (w0_58) (w0_59) (w0_60) (w0_61) (w0_62) (w0_63) (w0_64) (w0_65) (w0_66) s_atA s_atB s_atD s_atF s_atG s_atH s_atL s_atM s_atN s_atS s_atT s_atU s_atX o_atA1_1 o_atB1_2 o_atD1_3 o_atF1_4 o_atG1_5 o_atH1_6 o_atL1_7 o_atM1_8 o_atN1_9 o_atS1_10 o_atT1_11 o_atU1_12 o_atX1_13 hc14) mw_721 kb_X12_clears (ci := 12) rfl rfl (by decide) rfl rfl hl.1 rfl (Nat.le_of_ble_eq_true rfl) dX12_isMarked_1 (by decide)) X hV [0] [1, 2, 3] rfl rfl rfl (by decide) (fun u H locs hp17 hV16 => ?_)
  have hV16 : kV E A s.heap H locs [(a0, .inr (12, [w0_0, w0_1, w0_2, w0_3, w0_4, w0_5, w0_6, .ref a2, w0_8, w0_9, w0_10, w0_11, w0_12, w0_13, w0_14, w0_15, w0_16, w0_17, w0_18, w0_19, w0_20, w0_21, w0_22, w0_23, w0_24, w0_25, w0_26, w0_27, .int o_atA1_1, .int o_atB1_2, .int o_atD1_3, .int o_atF1_4, .int o_atG1_5, .int o_atH1_6, .int o_atL1_7, .int o_atM1_8, .int o_atN1_9, .int o_atS1_10, .int o_atT1_11, .int o_atU1_12, .int o_atX1_13, w0_41, w0_42, w0_43, w0_44, w0_45, w0_46, w0_47, w0_48, w0_49, .ref a1, .ref a3, w0_52, w0_53, w0_54, w0_55, w0_56, w0_57, w0_58, w0_59, w0_60, w0_61, w0_62, w0_63, w0_64, w0_65, w0_66])), (a1, .inl (E.2 0, 1440, .inl s_highAt)), (a2, .inl (E.2 0, 20, .inl s_many)), (a3, .inl (E.2 0, 1440, .inl s_shapeAt))] := hV16.sub [3, 0, 1, 2] rfl rfl
  clear hV
  refine lv_aload_n hx hb dX12_isMarked_4 rfl (lv_at hl 0 rfl) ?_
  refine lv_aload_n hx hb dX12_isMarked_5 rfl (lv_at hl 0 rfl) ?_
  refine kget X hV16 (ci := 12) inlX12 rfl 0 rfl 50 (by decide) mw_162 rfl dX12_isMarked_6 ?_
  refine lv_iload_n hx hb dX12_isMarked_9 rfl (lv_at hl 3 rfl) ?_
  obtain ⟨hi19, v10_18, e20, h21⟩ := rdI_s h15
  clear h15
  refine kiald X hV16 1 rfl hi19 e20 dX12_isMarked_10 ?_
  clear hi19 e20
  refine kput X hV16 (ci := 12) inlX12 rfl tyX12 tyX12_ok nmX12 0 rfl 33 (by decide) mw_727 rfl rfl rfl (Nat.le_of_ble_eq_true rfl) dX12_isMarked_11 (fun H locs hV22 => ?_)
  have hV22 : kV E A s.heap H locs [(a0, .inr (12, [w0_0, w0_1, w0_2, w0_3, w0_4, w0_5, w0_6, .ref a2, w0_8, w0_9, w0_10, w0_11, w0_12, w0_13, w0_14, w0_15, w0_16, w0_17, w0_18, w0_19, w0_20, w0_21, w0_22, w0_23, w0_24, w0_25, w0_26, w0_27, .int o_atA1_1, .int o_atB1_2, .int o_atD1_3, .int o_atF1_4, .int o_atG1_5, .int v10_18, .int o_atL1_7, .int o_atM1_8, .int o_atN1_9, .int o_atS1_10, .int o_atT1_11, .int o_atU1_12, .int o_atX1_13, w0_41, w0_42, w0_43, w0_44, w0_45, w0_46, w0_47, w0_48, w0_49, .ref a1, .ref a3, w0_52, w0_53, w0_54, w0_55, w0_56, w0_57, w0_58, w0_59, w0_60, w0_61, w0_62, w0_63, w0_64, w0_65, w0_66])), (a1, .inl (E.2 0, 1440, .inl s_highAt)), (a2, .inl (E.2 0, 20, .inl s_many)), (a3, .inl (E.2 0, 1440, .inl s_shapeAt))] := hV22
  clear hV16
  refine lv_aload_n hx hb dX12_isMarked_14 rfl (lv_at hl 0 rfl) ?_
  refine lv_iload_n hx hb dX12_isMarked_15 rfl (lv_at hl 3 rfl) ?_
  have J31 : ∀ (t1_23 : Int32) (H : Heap) (locs : List Loc) (ls : Array Slot), (f_X12_isMarked_J31 s_highAt s_many s_shapeAt p1 p2 p3 p4 o_atA1_1 o_atG1_5 o_atN1_9 o_atU1_12 o_atX1_13 v10_18 ) t1_23 = some (r, o_atA, o_atB, o_atD, o_atF, o_atG, o_atH, o_atL, o_atM, o_atN, o_atS, o_atT, o_atU, o_atX) → kV E A s.heap H locs [(a0, .inr (12, [w0_0, w0_1, w0_2, w0_3, w0_4, w0_5, w0_6, .ref a2, w0_8, w0_9, w0_10, w0_11, w0_12, w0_13, w0_14, w0_15, w0_16, w0_17, w0_18, w0_19, w0_20, w0_21, w0_22, w0_23, w0_24, w0_25, w0_26, w0_27, .int o_atA1_1, .int o_atB1_2, .int o_atD1_3, .int o_atF1_4, .int o_atG1_5, .int v10_18, .int o_atL1_7, .int o_atM1_8, .int o_atN1_9, .int o_atS1_10, .int o_atT1_11, .int o_atU1_12, .int o_atX1_13, w0_41, w0_42, w0_43, w0_44, w0_45, w0_46, w0_47, w0_48, w0_49, .ref a1, .ref a3, w0_52, w0_53, w0_54, w0_55, w0_56, w0_57, w0_58, w0_59, w0_60, w0_61, w0_62, w0_63, w0_64, w0_65, w0_66])), (a1, .inl (E.2 0, 1440, .inl s_highAt)), (a2, .inl (E.2 0, 20, .inl s_many)), (a3, .inl (E.2 0, 1440, .inl s_shapeAt))] → lv_has ls 6 [(0, .ref a0), (1, .int p1), (2, .int p2), (3, .int p3), (4, .int p4)] → W p l e r_X12_isMarked s m args below meth c H locs 0 0 Q (F0 m 31 ls [.int t1_23, .ref a0]) := by
    intro t1_23 H locs ls hB31 hVB31 hlB31
    rw [f_X12_isMarked_J31] at hB31
    refine kput X hVB31 (ci := 12) inlX12 rfl tyX12 tyX12_ok nmX12 0 rfl 29 (by decide) mw_725 rfl rfl rfl (Nat.le_of_ble_eq_true rfl) dX12_isMarked_31 (fun H locs hV24 => ?_)
    have hV24 : kV E A s.heap H locs [(a0, .inr (12, [w0_0, w0_1, w0_2, w0_3, w0_4, w0_5, w0_6, .ref a2, w0_8, w0_9, w0_10, w0_11, w0_12, w0_13, w0_14, w0_15, w0_16, w0_17, w0_18, w0_19, w0_20, w0_21, w0_22, w0_23, w0_24, w0_25, w0_26, w0_27, .int o_atA1_1, .int t1_23, .int o_atD1_3, .int o_atF1_4, .int o_atG1_5, .int v10_18, .int o_atL1_7, .int o_atM1_8, .int o_atN1_9, .int o_atS1_10, .int o_atT1_11, .int o_atU1_12, .int o_atX1_13, w0_41, w0_42, w0_43, w0_44, w0_45, w0_46, w0_47, w0_48, w0_49, .ref a1, .ref a3, w0_52, w0_53, w0_54, w0_55, w0_56, w0_57, w0_58, w0_59, w0_60, w0_61, w0_62, w0_63, w0_64, w0_65, w0_66])), (a1, .inl (E.2 0, 1440, .inl s_highAt)), (a2, .inl (E.2 0, 20, .inl s_many)), (a3, .inl (E.2 0, 1440, .inl s_shapeAt))] := hV24
    clear hVB31
    refine lv_iload_n hx hb dX12_isMarked_34 rfl (lv_at hlB31 3 rfl) ?_
    refine lv_bipush (v := 10) hx hb dX12_isMarked_35 (by decide) ?_
    have J48 : ∀ (t0_25 : Int32) (H : Heap) (locs : List Loc) (ls : Array Slot), (f_X12_isMarked_J48 s_highAt s_many s_shapeAt p1 p2 p3 p4 o_atA1_1 o_atG1_5 o_atN1_9 o_atU1_12 o_atX1_13 v10_18 t1_23 ) t0_25 = some (r, o_atA, o_atB, o_atD, o_atF, o_atG, o_atH, o_atL, o_atM, o_atN, o_atS, o_atT, o_atU, o_atX) → kV E A s.heap H locs [(a0, .inr (12, [w0_0, w0_1, w0_2, w0_3, w0_4, w0_5, w0_6, .ref a2, w0_8, w0_9, w0_10, w0_11, w0_12, w0_13, w0_14, w0_15, w0_16, w0_17, w0_18, w0_19, w0_20, w0_21, w0_22, w0_23, w0_24, w0_25, w0_26, w0_27, .int o_atA1_1, .int t1_23, .int o_atD1_3, .int o_atF1_4, .int o_atG1_5, .int v10_18, .int o_atL1_7, .int o_atM1_8, .int o_atN1_9, .int o_atS1_10, .int o_atT1_11, .int o_atU1_12, .int o_atX1_13, w0_41, w0_42, w0_43, w0_44, w0_45, w0_46, w0_47, w0_48, w0_49, .ref a1, .ref a3, w0_52, w0_53, w0_54, w0_55, w0_56, w0_57, w0_58, w0_59, w0_60, w0_61, w0_62, w0_63, w0_64, w0_65, w0_66])), (a1, .inl (E.2 0, 1440, .inl s_highAt)), (a2, .inl (E.2 0, 20, .inl s_many)), (a3, .inl (E.2 0, 1440, .inl s_shapeAt))] → lv_has ls 6 [(0, .ref a0), (1, .int p1), (2, .int p2), (3, .int p3), (4, .int p4)] → W p l e r_X12_isMarked s m args below meth c H locs 0 0 Q (F0 m 48 ls [.int t0_25]) := by
      intro t0_25 H locs ls hB48 hVB48 hlB48
      rw [f_X12_isMarked_J48] at hB48
      refine lv_istore (lv' := [(5, .int t0_25), (0, .ref a0), (1, .int p1), (2, .int p2), (3, .int p3), (4, .int p4)]) hx hb dX12_isMarked_48 hlB48 (by decide) rfl (fun ls hl26 => ?_)
      clear hlB48
      have J94 : ∀ (atG__27 : Int32) (H : Heap) (locs : List Loc) (ls : Array Slot), (f_X12_isMarked_J94 s_many s_shapeAt p1 p2 p3 p4 o_atA1_1 o_atN1_9 o_atU1_12 o_atX1_13 v10_18 t1_23 ) atG__27 = some (r, o_atA, o_atB, o_atD, o_atF, o_atG, o_atH, o_atL, o_atM, o_atN, o_atS, o_atT, o_atU, o_atX) → kV E A s.heap H locs [(a0, .inr (12, [w0_0, w0_1, w0_2, w0_3, w0_4, w0_5, w0_6, .ref a2, w0_8, w0_9, w0_10, w0_11, w0_12, w0_13, w0_14, w0_15, w0_16, w0_17, w0_18, w0_19, w0_20, w0_21, w0_22, w0_23, w0_24, w0_25, w0_26, w0_27, .int o_atA1_1, .int t1_23, .int o_atD1_3, .int o_atF1_4, .int atG__27, .int v10_18, .int o_atL1_7, .int o_atM1_8, .int o_atN1_9, .int o_atS1_10, .int o_atT1_11, .int o_atU1_12, .int o_atX1_13, w0_41, w0_42, w0_43, w0_44, w0_45, w0_46, w0_47, w0_48, w0_49, .ref a1, .ref a3, w0_52, w0_53, w0_54, w0_55, w0_56, w0_57, w0_58, w0_59, w0_60, w0_61, w0_62, w0_63, w0_64, w0_65, w0_66])), (a1, .inl (E.2 0, 1440, .inl s_highAt)), (a2, .inl (E.2 0, 20, .inl s_many)), (a3, .inl (E.2 0, 1440, .inl s_shapeAt))] → lv_has ls 6 [(0, .ref a0), (1, .int p1), (2, .int p2), (3, .int p3), (4, .int p4)] → W p l e r_X12_isMarked s m args below meth c H locs 0 0 Q (F0 m 94 ls []) := by
        intro atG__27 H locs ls hB94 hVB94 hlB94
        rw [f_X12_isMarked_J94] at hB94
        refine lv_aload_n hx hb dX12_isMarked_94 rfl (lv_at hlB94 0 rfl) ?_
        refine lv_aload_n hx hb dX12_isMarked_95 rfl (lv_at hlB94 0 rfl) ?_
        refine kget X hVB94 (ci := 12) inlX12 rfl 0 rfl 51 (by decide) mw_163 rfl dX12_isMarked_96 ?_
        refine lv_iload_n hx hb dX12_isMarked_99 rfl (lv_at hlB94 3 rfl) ?_
        obtain ⟨hi29, v100_28, e30, h31⟩ := rdI_s hB94
        clear hB94
        refine kiald X hVB94 3 rfl hi29 e30 dX12_isMarked_100 ?_
        clear hi29 e30
        refine kput X hVB94 (ci := 12) inlX12 rfl tyX12 tyX12_ok nmX12 0 rfl 34 (by decide) mw_728 rfl rfl rfl (Nat.le_of_ble_eq_true rfl) dX12_isMarked_101 (fun H locs hV32 => ?_)
        have hV32 : kV E A s.heap H locs [(a0, .inr (12, [w0_0, w0_1, w0_2, w0_3, w0_4, w0_5, w0_6, .ref a2, w0_8, w0_9, w0_10, w0_11, w0_12, w0_13, w0_14, w0_15, w0_16, w0_17, w0_18, w0_19, w0_20, w0_21, w0_22, w0_23, w0_24, w0_25, w0_26, w0_27, .int o_atA1_1, .int t1_23, .int o_atD1_3, .int o_atF1_4, .int atG__27, .int v10_18, .int v100_28, .int o_atM1_8, .int o_atN1_9, .int o_atS1_10, .int o_atT1_11, .int o_atU1_12, .int o_atX1_13, w0_41, w0_42, w0_43, w0_44, w0_45, w0_46, w0_47, w0_48, w0_49, .ref a1, .ref a3, w0_52, w0_53, w0_54, w0_55, w0_56, w0_57, w0_58, w0_59, w0_60, w0_61, w0_62, w0_63, w0_64, w0_65, w0_66])), (a1, .inl (E.2 0, 1440, .inl s_highAt)), (a2, .inl (E.2 0, 20, .inl s_many)), (a3, .inl (E.2 0, 1440, .inl s_shapeAt))] := hV32
        clear hVB94
        refine lv_aload_n hx hb dX12_isMarked_104 rfl (lv_at hlB94 0 rfl) ?_
        refine lv_iload_n hx hb dX12_isMarked_105 rfl (lv_at hlB94 3 rfl) ?_
        refine kput X hV32 (ci := 12) inlX12 rfl tyX12 tyX12_ok nmX12 0 rfl 35 (by decide) mw_703 rfl rfl rfl (Nat.le_of_ble_eq_true rfl) dX12_isMarked_106 (fun H locs hV33 => ?_)
        have hV33 : kV E A s.heap H locs [(a0, .inr (12, [w0_0, w0_1, w0_2, w0_3, w0_4, w0_5, w0_6, .ref a2, w0_8, w0_9, w0_10, w0_11, w0_12, w0_13, w0_14, w0_15, w0_16, w0_17, w0_18, w0_19, w0_20, w0_21, w0_22, w0_23, w0_24, w0_25, w0_26, w0_27, .int o_atA1_1, .int t1_23, .int o_atD1_3, .int o_atF1_4, .int atG__27, .int v10_18, .int v100_28, .int p3, .int o_atN1_9, .int o_atS1_10, .int o_atT1_11, .int o_atU1_12, .int o_atX1_13, w0_41, w0_42, w0_43, w0_44, w0_45, w0_46, w0_47, w0_48, w0_49, .ref a1, .ref a3, w0_52, w0_53, w0_54, w0_55, w0_56, w0_57, w0_58, w0_59, w0_60, w0_61, w0_62, w0_63, w0_64, w0_65, w0_66])), (a1, .inl (E.2 0, 1440, .inl s_highAt)), (a2, .inl (E.2 0, 20, .inl s_many)), (a3, .inl (E.2 0, 1440, .inl s_shapeAt))] := hV33
        clear hV32
        refine lv_aload_n hx hb dX12_isMarked_109 rfl (lv_at hlB94 0 rfl) ?_
        refine lv_iload_n hx hb dX12_isMarked_110 rfl (lv_at hlB94 2 rfl) ?_
        refine lv_iload_n hx hb dX12_isMarked_111 rfl (lv_at hlB94 3 rfl) ?_
        obtain ⟨r112_34, hc35, h36⟩ := cb1_s h31
        clear h31
        refine kgoiE (krunS (rest := [.ref a0]) X hV33 [] (c_X12_starAt l E _ p2 p3 r112_34 hc35) mw_636 kb_X12_starAt (by decide) rfl rfl hlB94.1 rfl (Nat.le_of_ble_eq_true rfl) dX12_isMarked_112 (by decide)) X hV33 [] [0, 1, 2, 3] rfl rfl rfl (by decide) (fun u H locs hV37 => ?_)
        have hV37 : kV E A s.heap H locs [(a0, .inr (12, [w0_0, w0_1, w0_2, w0_3, w0_4, w0_5, w0_6, .ref a2, w0_8, w0_9, w0_10, w0_11, w0_12, w0_13, w0_14, w0_15, w0_16, w0_17, w0_18, w0_19, w0_20, w0_21, w0_22, w0_23, w0_24, w0_25, w0_26, w0_27, .int o_atA1_1, .int t1_23, .int o_atD1_3, .int o_atF1_4, .int atG__27, .int v10_18, .int v100_28, .int p3, .int o_atN1_9, .int o_atS1_10, .int o_atT1_11, .int o_atU1_12, .int o_atX1_13, w0_41, w0_42, w0_43, w0_44, w0_45, w0_46, w0_47, w0_48, w0_49, .ref a1, .ref a3, w0_52, w0_53, w0_54, w0_55, w0_56, w0_57, w0_58, w0_59, w0_60, w0_61, w0_62, w0_63, w0_64, w0_65, w0_66])), (a1, .inl (E.2 0, 1440, .inl s_highAt)), (a2, .inl (E.2 0, 20, .inl s_many)), (a3, .inl (E.2 0, 1440, .inl s_shapeAt))] := hV37.sub [0, 1, 2, 3] rfl rfl
        clear hV33
        refine kput X hV37 (ci := 12) inlX12 rfl tyX12 tyX12_ok nmX12 0 rfl 37 (by decide) mw_704 rfl rfl rfl (Nat.le_of_ble_eq_true rfl) dX12_isMarked_115 (fun H locs hV39 => ?_)
        have hV39 : kV E A s.heap H locs [(a0, .inr (12, [w0_0, w0_1, w0_2, w0_3, w0_4, w0_5, w0_6, .ref a2, w0_8, w0_9, w0_10, w0_11, w0_12, w0_13, w0_14, w0_15, w0_16, w0_17, w0_18, w0_19, w0_20, w0_21, w0_22, w0_23, w0_24, w0_25, w0_26, w0_27, .int o_atA1_1, .int t1_23, .int o_atD1_3, .int o_atF1_4, .int atG__27, .int v10_18, .int v100_28, .int p3, .int o_atN1_9, .int r112_34, .int o_atT1_11, .int o_atU1_12, .int o_atX1_13, w0_41, w0_42, w0_43, w0_44, w0_45, w0_46, w0_47, w0_48, w0_49, .ref a1, .ref a3, w0_52, w0_53, w0_54, w0_55, w0_56, w0_57, w0_58, w0_59, w0_60, w0_61, w0_62, w0_63, w0_64, w0_65, w0_66])), (a1, .inl (E.2 0, 1440, .inl s_highAt)), (a2, .inl (E.2 0, 20, .inl s_many)), (a3, .inl (E.2 0, 1440, .inl s_shapeAt))] := hV39
        clear hV37
        refine lv_aload_n hx hb dX12_isMarked_118 rfl (lv_at hlB94 0 rfl) ?_
        refine lv_iload_n hx hb dX12_isMarked_119 rfl (lv_at hlB94 2 rfl) ?_
        refine kput X hV39 (ci := 12) inlX12 rfl tyX12 tyX12_ok nmX12 0 rfl 30 (by decide) mw_701 rfl rfl rfl (Nat.le_of_ble_eq_true rfl) dX12_isMarked_120 (fun H locs hV40 => ?_)
        have hV40 : kV E A s.heap H locs [(a0, .inr (12, [w0_0, w0_1, w0_2, w0_3, w0_4, w0_5, w0_6, .ref a2, w0_8, w0_9, w0_10, w0_11, w0_12, w0_13, w0_14, w0_15, w0_16, w0_17, w0_18, w0_19, w0_20, w0_21, w0_22, w0_23, w0_24, w0_25, w0_26, w0_27, .int o_atA1_1, .int t1_23, .int p2, .int o_atF1_4, .int atG__27, .int v10_18, .int v100_28, .int p3, .int o_atN1_9, .int r112_34, .int o_atT1_11, .int o_atU1_12, .int o_atX1_13, w0_41, w0_42, w0_43, w0_44, w0_45, w0_46, w0_47, w0_48, w0_49, .ref a1, .ref a3, w0_52, w0_53, w0_54, w0_55, w0_56, w0_57, w0_58, w0_59, w0_60, w0_61, w0_62, w0_63, w0_64, w0_65, w0_66])), (a1, .inl (E.2 0, 1440, .inl s_highAt)), (a2, .inl (E.2 0, 20, .inl s_many)), (a3, .inl (E.2 0, 1440, .inl s_shapeAt))] := hV40
        clear hV39
        refine lv_aload_n hx hb dX12_isMarked_123 rfl (lv_at hlB94 0 rfl) ?_
        refine lv_iload_n hx hb dX12_isMarked_124 rfl (lv_at hlB94 2 rfl) ?_
        refine lv_bipush (v := 7) hx hb dX12_isMarked_125 (by decide) ?_
        refine lv_irem hx hb dX12_isMarked_127 (by decide) ?_
        obtain ⟨v128_41, e42, h43⟩ := nmI_s h36
        clear h36
        refine ktopi e42 ?_
        clear e42
        refine kput X hV40 (ci := 12) inlX12 rfl tyX12 tyX12_ok nmX12 0 rfl 31 (by decide) mw_702 rfl rfl rfl (Nat.le_of_ble_eq_true rfl) dX12_isMarked_128 (fun H locs hV44 => ?_)
        have hV44 : kV E A s.heap H locs [(a0, .inr (12, [w0_0, w0_1, w0_2, w0_3, w0_4, w0_5, w0_6, .ref a2, w0_8, w0_9, w0_10, w0_11, w0_12, w0_13, w0_14, w0_15, w0_16, w0_17, w0_18, w0_19, w0_20, w0_21, w0_22, w0_23, w0_24, w0_25, w0_26, w0_27, .int o_atA1_1, .int t1_23, .int p2, .int v128_41, .int atG__27, .int v10_18, .int v100_28, .int p3, .int o_atN1_9, .int r112_34, .int o_atT1_11, .int o_atU1_12, .int o_atX1_13, w0_41, w0_42, w0_43, w0_44, w0_45, w0_46, w0_47, w0_48, w0_49, .ref a1, .ref a3, w0_52, w0_53, w0_54, w0_55, w0_56, w0_57, w0_58, w0_59, w0_60, w0_61, w0_62, w0_63, w0_64, w0_65, w0_66])), (a1, .inl (E.2 0, 1440, .inl s_highAt)), (a2, .inl (E.2 0, 20, .inl s_many)), (a3, .inl (E.2 0, 1440, .inl s_shapeAt))] := hV44
        clear hV40
        refine lv_aload_n hx hb dX12_isMarked_131 rfl (lv_at hlB94 0 rfl) ?_
        refine lv_iload hx hb dX12_isMarked_132 (lv_at hlB94 4 rfl) ?_
        refine kput X hV44 (ci := 12) inlX12 rfl tyX12 tyX12_ok nmX12 0 rfl 38 (by decide) mw_730 rfl rfl rfl (Nat.le_of_ble_eq_true rfl) dX12_isMarked_134 (fun H locs hV45 => ?_)
        have hV45 : kV E A s.heap H locs [(a0, .inr (12, [w0_0, w0_1, w0_2, w0_3, w0_4, w0_5, w0_6, .ref a2, w0_8, w0_9, w0_10, w0_11, w0_12, w0_13, w0_14, w0_15, w0_16, w0_17, w0_18, w0_19, w0_20, w0_21, w0_22, w0_23, w0_24, w0_25, w0_26, w0_27, .int o_atA1_1, .int t1_23, .int p2, .int v128_41, .int atG__27, .int v10_18, .int v100_28, .int p3, .int o_atN1_9, .int r112_34, .int p4, .int o_atU1_12, .int o_atX1_13, w0_41, w0_42, w0_43, w0_44, w0_45, w0_46, w0_47, w0_48, w0_49, .ref a1, .ref a3, w0_52, w0_53, w0_54, w0_55, w0_56, w0_57, w0_58, w0_59, w0_60, w0_61, w0_62, w0_63, w0_64, w0_65, w0_66])), (a1, .inl (E.2 0, 1440, .inl s_highAt)), (a2, .inl (E.2 0, 20, .inl s_many)), (a3, .inl (E.2 0, 1440, .inl s_shapeAt))] := hV45
        clear hV44
        refine lv_bipush (v := 12) hx hb dX12_isMarked_137 (by decide) ?_
        refine lv_bipush (v := 10) hx hb dX12_isMarked_139 (by decide) ?_
        refine lv_iload_n hx hb dX12_isMarked_141 rfl (lv_at hlB94 1 rfl) ?_
        refine lv_iadd hx hb dX12_isMarked_142 ?_
        refine lv_imul hx hb dX12_isMarked_143 ?_
        obtain ⟨v144_46, e47, h48⟩ := nmI_s h43
        clear h43
        refine ktopi e47 ?_
        clear e47
        refine lv_istore (lv' := [(5, .int v144_46), (0, .ref a0), (1, .int p1), (2, .int p2), (3, .int p3), (4, .int p4)]) hx hb dX12_isMarked_144 hlB94 (by decide) rfl (fun ls hl49 => ?_)
        clear hlB94
        refine lv_iload hx hb dX12_isMarked_146 (lv_at hl49 0 rfl) ?_
        refine lv_bipush (v := 12) hx hb dX12_isMarked_148 (by decide) ?_
        refine lv_bipush (v := 10) hx hb dX12_isMarked_150 (by decide) ?_
        refine lv_iload_n hx hb dX12_isMarked_152 rfl (lv_at hl49 2 rfl) ?_
        refine lv_iadd hx hb dX12_isMarked_153 ?_
        refine lv_imul hx hb dX12_isMarked_154 ?_
        refine lv_aload_n hx hb dX12_isMarked_155 rfl (lv_at hl49 1 rfl) ?_
        refine kget X hV45 (ci := 12) inlX12 rfl 0 rfl 7 (by decide) mw_142 rfl dX12_isMarked_156 ?_
        refine lv_bipush (v := 10) hx hb dX12_isMarked_159 (by decide) ?_
        refine lv_iload_n hx hb dX12_isMarked_161 rfl (lv_at hl49 2 rfl) ?_
        refine lv_iadd hx hb dX12_isMarked_162 ?_
        obtain ⟨hi51, v163_50, e52, h53⟩ := rdI_s h48
        clear h48
        refine kiald X hV45 2 rfl hi51 e52 dX12_isMarked_163 ?_
        clear hi51 e52
        refine lv_iadd hx hb dX12_isMarked_164 ?_
        refine lv_icmp_ge (tgt := 185) hx hb dX12_isMarked_165 (by decide) (fun c54 => ?_) (fun c54 => ?_)
        · have h55 := itS c54 h53
          clear h53 c54
          refine lv_iconst (v := 0) hx hb dX12_isMarked_185 (by decide) ?_
          obtain ⟨q57, q58, q59, q60, q61, q62, q63, q64, q65, q66, q67, q68, q69, q70⟩ := tup14_s h55
          clear h55
          exact hret _ () _ _ _ _ q57 rfl (by rw [← q58, ← q59, ← q60, ← q61, ← q62, ← q63, ← q64, ← q65, ← q66, ← q67, ← q68, ← q69, ← q70]; exact hV45) dX12_isMarked_186
        · have h56 := ieS c54 h53
          clear h53 c54
          refine lv_aload_n hx hb dX12_isMarked_168 rfl (lv_at hl49 1 rfl) ?_
          refine lv_iload hx hb dX12_isMarked_169 (lv_at hl49 0 rfl) ?_
          exact nomatch h56
      have L50 : ∀ (n50 : Nat) (x5_71 : Int32) (atG__72 : Int32) (H : Heap) (locs : List Loc) (ls : Array Slot), (f_X12_isMarked_L50 s_highAt p3 (f_X12_isMarked_J94 s_many s_shapeAt p1 p2 p3 p4 o_atA1_1 o_atN1_9 o_atU1_12 o_atX1_13 v10_18 t1_23 ) n50) x5_71 atG__72 = some (r, o_atA, o_atB, o_atD, o_atF, o_atG, o_atH, o_atL, o_atM, o_atN, o_atS, o_atT, o_atU, o_atX) → kV E A s.heap H locs [(a0, .inr (12, [w0_0, w0_1, w0_2, w0_3, w0_4, w0_5, w0_6, .ref a2, w0_8, w0_9, w0_10, w0_11, w0_12, w0_13, w0_14, w0_15, w0_16, w0_17, w0_18, w0_19, w0_20, w0_21, w0_22, w0_23, w0_24, w0_25, w0_26, w0_27, .int o_atA1_1, .int t1_23, .int o_atD1_3, .int o_atF1_4, .int atG__72, .int v10_18, .int o_atL1_7, .int o_atM1_8, .int o_atN1_9, .int o_atS1_10, .int o_atT1_11, .int o_atU1_12, .int o_atX1_13, w0_41, w0_42, w0_43, w0_44, w0_45, w0_46, w0_47, w0_48, w0_49, .ref a1, .ref a3, w0_52, w0_53, w0_54, w0_55, w0_56, w0_57, w0_58, w0_59, w0_60, w0_61, w0_62, w0_63, w0_64, w0_65, w0_66])), (a1, .inl (E.2 0, 1440, .inl s_highAt)), (a2, .inl (E.2 0, 20, .inl s_many)), (a3, .inl (E.2 0, 1440, .inl s_shapeAt))] → lv_has ls 6 [(0, .ref a0), (1, .int p1), (2, .int p2), (3, .int p3), (4, .int p4), (5, .int x5_71)] → W p l e r_X12_isMarked s m args below meth c H locs 0 0 Q (F0 m 50 ls []) := by
        intro n50
        induction n50 with
        | zero =>
          intro x5_71 atG__72 H locs ls hB50 hVB50 hlB50
          rw [f_X12_isMarked_L50] at hB50
          exact nomatch hB50
        | succ n50 ih50 =>
          intro x5_71 atG__72 H locs ls hB50 hVB50 hlB50
          rw [f_X12_isMarked_L50] at hB50
          refine lv_iload hx hb dX12_isMarked_50 (lv_at hlB50 5 rfl) ?_
          refine lv_iload_n hx hb dX12_isMarked_52 rfl (lv_at hlB50 3 rfl) ?_
          refine lv_icmp_ge (tgt := 94) hx hb dX12_isMarked_53 (by decide) (fun c73 => ?_) (fun c73 => ?_)
          · have h74 := itS c73 hB50
            clear hB50 c73
            exact J94 atG__72 _ _ _ h74 hVB50 (lv_sub hlB50 [0, 1, 2, 3, 4] rfl)
          · have h75 := ieS c73 hB50
            clear hB50 c73
            refine lv_aload_n hx hb dX12_isMarked_56 rfl (lv_at hlB50 0 rfl) ?_
            refine lv_aload_n hx hb dX12_isMarked_57 rfl (lv_at hlB50 0 rfl) ?_
            refine kget X hVB50 (ci := 12) inlX12 rfl 0 rfl 50 (by decide) mw_162 rfl dX12_isMarked_58 ?_
            refine lv_iload hx hb dX12_isMarked_61 (lv_at hlB50 5 rfl) ?_
            obtain ⟨hi77, v63_76, e78, h79⟩ := rdI_s h75
            clear h75
            refine kiald X hVB50 1 rfl hi77 e78 dX12_isMarked_63 ?_
            clear hi77 e78
            refine lv_aload_n hx hb dX12_isMarked_64 rfl (lv_at hlB50 0 rfl) ?_
            refine kget X hVB50 (ci := 12) inlX12 rfl 0 rfl 32 (by decide) mw_726 rfl dX12_isMarked_65 ?_
            refine lv_icmp_le (tgt := 81) hx hb dX12_isMarked_68 (by decide) (fun c80 => ?_) (fun c80 => ?_)
            · have h81 := itS c80 h79
              clear h79 c80
              refine lv_aload_n hx hb dX12_isMarked_81 rfl (lv_at hlB50 0 rfl) ?_
              refine kget X hVB50 (ci := 12) inlX12 rfl 0 rfl 32 (by decide) mw_726 rfl dX12_isMarked_82 ?_
              refine kput X hVB50 (ci := 12) inlX12 rfl tyX12 tyX12_ok nmX12 0 rfl 32 (by decide) mw_726 rfl rfl rfl (Nat.le_of_ble_eq_true rfl) dX12_isMarked_85 (fun H locs hV83 => ?_)
              have hV83 : kV E A s.heap H locs [(a0, .inr (12, [w0_0, w0_1, w0_2, w0_3, w0_4, w0_5, w0_6, .ref a2, w0_8, w0_9, w0_10, w0_11, w0_12, w0_13, w0_14, w0_15, w0_16, w0_17, w0_18, w0_19, w0_20, w0_21, w0_22, w0_23, w0_24, w0_25, w0_26, w0_27, .int o_atA1_1, .int t1_23, .int o_atD1_3, .int o_atF1_4, .int atG__72, .int v10_18, .int o_atL1_7, .int o_atM1_8, .int o_atN1_9, .int o_atS1_10, .int o_atT1_11, .int o_atU1_12, .int o_atX1_13, w0_41, w0_42, w0_43, w0_44, w0_45, w0_46, w0_47, w0_48, w0_49, .ref a1, .ref a3, w0_52, w0_53, w0_54, w0_55, w0_56, w0_57, w0_58, w0_59, w0_60, w0_61, w0_62, w0_63, w0_64, w0_65, w0_66])), (a1, .inl (E.2 0, 1440, .inl s_highAt)), (a2, .inl (E.2 0, 20, .inl s_many)), (a3, .inl (E.2 0, 1440, .inl s_shapeAt))] := hV83
              clear hVB50
              obtain ⟨v88_84, e85, h86⟩ := nmI_s h81
              clear h81
              refine lv_iinc (v := v88_84) (lv' := [(5, .int v88_84), (0, .ref a0), (1, .int p1), (2, .int p2), (3, .int p3), (4, .int p4)]) hx hb dX12_isMarked_88 hlB50 (k := 5) rfl (by rw [e85]; rfl) (by decide) rfl (fun ls hl87 => ?_)
              clear hlB50 e85
              refine lv_goto (tgt := 50) hx hb dX12_isMarked_91 (by decide) ?_
              exact ih50 v88_84 atG__72 _ _ _ h86 hV83 (lv_sub hl87 [1, 2, 3, 4, 5, 0] rfl)
            · have h82 := ieS c80 h79
              clear h79 c80
              refine lv_aload_n hx hb dX12_isMarked_71 rfl (lv_at hlB50 0 rfl) ?_
              refine kget X hVB50 (ci := 12) inlX12 rfl 0 rfl 50 (by decide) mw_162 rfl dX12_isMarked_72 ?_
              refine lv_iload hx hb dX12_isMarked_75 (lv_at hlB50 5 rfl) ?_
              obtain ⟨hi89, v77_88, e90, h91⟩ := rdI_s h82
              clear h82
              refine kiald X hVB50 1 rfl hi89 e90 dX12_isMarked_77 ?_
              clear hi89 e90
              refine lv_goto (tgt := 85) hx hb dX12_isMarked_78 (by decide) ?_
              refine kput X hVB50 (ci := 12) inlX12 rfl tyX12 tyX12_ok nmX12 0 rfl 32 (by decide) mw_726 rfl rfl rfl (Nat.le_of_ble_eq_true rfl) dX12_isMarked_85 (fun H locs hV92 => ?_)
              have hV92 : kV E A s.heap H locs [(a0, .inr (12, [w0_0, w0_1, w0_2, w0_3, w0_4, w0_5, w0_6, .ref a2, w0_8, w0_9, w0_10, w0_11, w0_12, w0_13, w0_14, w0_15, w0_16, w0_17, w0_18, w0_19, w0_20, w0_21, w0_22, w0_23, w0_24, w0_25, w0_26, w0_27, .int o_atA1_1, .int t1_23, .int o_atD1_3, .int o_atF1_4, .int v77_88, .int v10_18, .int o_atL1_7, .int o_atM1_8, .int o_atN1_9, .int o_atS1_10, .int o_atT1_11, .int o_atU1_12, .int o_atX1_13, w0_41, w0_42, w0_43, w0_44, w0_45, w0_46, w0_47, w0_48, w0_49, .ref a1, .ref a3, w0_52, w0_53, w0_54, w0_55, w0_56, w0_57, w0_58, w0_59, w0_60, w0_61, w0_62, w0_63, w0_64, w0_65, w0_66])), (a1, .inl (E.2 0, 1440, .inl s_highAt)), (a2, .inl (E.2 0, 20, .inl s_many)), (a3, .inl (E.2 0, 1440, .inl s_shapeAt))] := hV92
              clear hVB50
              obtain ⟨v88_93, e94, h95⟩ := nmI_s h91
              clear h91
              refine lv_iinc (v := v88_93) (lv' := [(5, .int v88_93), (0, .ref a0), (1, .int p1), (2, .int p2), (3, .int p3), (4, .int p4)]) hx hb dX12_isMarked_88 hlB50 (k := 5) rfl (by rw [e94]; rfl) (by decide) rfl (fun ls hl96 => ?_)
              clear hlB50 e94
              refine lv_goto (tgt := 50) hx hb dX12_isMarked_91 (by decide) ?_
              exact ih50 v88_93 v77_88 _ _ _ h95 hV92 (lv_sub hl96 [1, 2, 3, 4, 5, 0] rfl)
      exact L50 FU t0_25 o_atG1_5 _ _ _ hB48 hVB48 (lv_sub hl26 [1, 2, 3, 4, 5, 0] rfl)
    refine lv_icmp_ge (tgt := 44) hx hb dX12_isMarked_37 (by decide) (fun c97 => ?_) (fun c97 => ?_)
    · have h98 := itS c97 hB31
      clear hB31 c97
      refine lv_iload_n hx hb dX12_isMarked_44 rfl (lv_at hlB31 3 rfl) ?_
      refine lv_bipush (v := 10) hx hb dX12_isMarked_45 (by decide) ?_
      refine lv_isub hx hb dX12_isMarked_47 ?_
      exact J48 (p3 - 10) _ _ _ h98 hV24 (lv_sub hlB31 [0, 1, 2, 3, 4] rfl)
    · have h99 := ieS c97 hB31
      clear hB31 c97
      refine lv_iconst (v := 0) hx hb dX12_isMarked_40 (by decide) ?_
      refine lv_goto (tgt := 48) hx hb dX12_isMarked_41 (by decide) ?_
      exact J48 0 _ _ _ h99 hV24 (lv_sub hlB31 [0, 1, 2, 3, 4] rfl)
  refine lv_if_ne (tgt := 23) hx hb dX12_isMarked_16 (by decide) (fun c100 => ?_) (fun c100 => ?_)
  · have h101 := ieS c100 h21
    clear h21 c100
    refine lv_aload_n hx hb dX12_isMarked_23 rfl (lv_at hl 0 rfl) ?_
    refine kget X hV22 (ci := 12) inlX12 rfl 0 rfl 50 (by decide) mw_162 rfl dX12_isMarked_24 ?_
    refine lv_iload_n hx hb dX12_isMarked_27 rfl (lv_at hl 3 rfl) ?_
    refine lv_iconst (v := 1) hx hb dX12_isMarked_28 (by decide) ?_
    refine lv_isub hx hb dX12_isMarked_29 ?_
    obtain ⟨hi104, v30_103, e105, h106⟩ := rdI_s h101
    clear h101
    refine kiald X hV22 1 rfl hi104 e105 dX12_isMarked_30 ?_
    clear hi104 e105
    exact J31 v30_103 _ _ _ h106 hV22 (lv_sub hl [0, 1, 2, 3, 4] rfl)
  · have h102 := itS c100 h21
    clear h21 c100
    refine lv_iconst (v := 0) hx hb dX12_isMarked_19 (by decide) ?_
    refine lv_goto (tgt := 31) hx hb dX12_isMarked_20 (by decide) ?_
    exact J31 0 _ _ _ h102 hV22 (lv_sub hl [0, 1, 2, 3, 4] rfl)
