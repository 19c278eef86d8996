abbrev r_X12_lies : Room := { frames := 0, cells := 0, slots := 0, locals := 0 }
set_option maxHeartbeats 4000000 in
set_option maxRecDepth 100000 in
theorem c_X12_lies (l : Launch) (E : kE) (sz : Nat) (p1 : Int64) (p2 : Int64) (p3 : Int64) (r : Int32) (h : f_X12_lies p1 p2 p3 = some (r)) : kMi l yX12_lies cX12_lies 6 (some .boolean) r_X12_lies [.long p1, .long p2, .long p3] E [] sz 0 0 (fun x (_ : Unit) => x = r) (fun _ => []) := by
  refine kmeti rfl (Nat.le_of_ble_eq_true rfl) ?_
  intro p e s m args below meth c ls A Q X hV hret hl
  have X : kC p s m c cX12_lies 6 RX12 args E A := X
  have hx := X.1
  have hb := X.2.1
  have hl : lv_has ls 6 [(0, .long p1), (2, .long p2), (4, .long p3)] := hl
  rw [f_X12_lies] at h
  refine lv_lload_n hx hb dX12_lies_0 rfl (lv_at hl 0 rfl) ?_
  refine lv_lload_n hx hb dX12_lies_1 rfl (lv_at hl 1 rfl) ?_
  refine W.lcmp hx hb dX12_lies_2 ?_
  refine lv_if_lt (tgt := 17) hx hb dX12_lies_3 (by decide) (fun c1 => ?_) (fun c1 => ?_)
  · have h2 := itS c1 h
    clear h c1
    refine lv_iconst (v := 0) hx hb dX12_lies_17 (by decide) ?_
    have q4 := tup1_s h2
    clear h2
    exact hret _ () _ _ _ _ q4 rfl hV dX12_lies_18
  · have h3 := ieS c1 h
    clear h c1
    refine lv_lload_n hx hb dX12_lies_6 rfl (lv_at hl 0 rfl) ?_
    refine lv_lload hx hb dX12_lies_7 (lv_at hl 2 rfl) ?_
    refine W.lcmp hx hb dX12_lies_9 ?_
    refine lv_if_gt (tgt := 17) hx hb dX12_lies_10 (by decide) (fun c5 => ?_) (fun c5 => ?_)
    · have h6 := itS c5 h3
      clear h3 c5
      refine lv_iconst (v := 0) hx hb dX12_lies_17 (by decide) ?_
      have q8 := tup1_s h6
      clear h6
      exact hret _ () _ _ _ _ q8 rfl hV dX12_lies_18
    · have h7 := ieS c5 h3
      clear h3 c5
      refine lv_iconst (v := 1) hx hb dX12_lies_13 (by decide) ?_
      refine lv_goto (tgt := 18) hx hb dX12_lies_14 (by decide) ?_
      have q9 := tup1_s h7
      clear h7
      exact hret _ () _ _ _ _ q9 rfl hV dX12_lies_18
abbrev r_X12_has : Room := { frames := 0, cells := 0, slots := 0, locals := 0 }
set_option maxHeartbeats 4000000 in
set_option maxRecDepth 100000 in
theorem c_X12_has (l : Launch) (E : kE) (sz : Nat) (p1 : Int32) (p2 : Int32) (r : Int32) (h : f_X12_has p1 p2 = some (r)) : kMi l yX12_has cX12_has 2 (some .boolean) r_X12_has [.int p1, .int p2] E [] sz 0 0 (fun x (_ : Unit) => x = r) (fun _ => []) := by
  refine kmeti rfl (Nat.le_of_ble_eq_true rfl) ?_
  intro p e s m args below meth c ls A Q X hV hret hl
  have X : kC p s m c cX12_has 2 RX12 args E A := X
  have hx := X.1
  have hb := X.2.1
  have hl : lv_has ls 2 [(0, .int p1), (1, .int p2)] := hl
  rw [f_X12_has] at h
  refine lv_iload_n hx hb dX12_has_0 rfl (lv_at hl 0 rfl) ?_
  refine lv_iload_n hx hb dX12_has_1 rfl (lv_at hl 1 rfl) ?_
  refine lv_ishr hx hb dX12_has_2 ?_
  refine lv_iconst (v := 1) hx hb dX12_has_3 (by decide) ?_
  refine lv_iand hx hb dX12_has_4 ?_
  refine lv_iconst (v := 1) hx hb dX12_has_5 (by decide) ?_
  refine lv_icmp_ne (tgt := 13) hx hb dX12_has_6 (by decide) (fun c1 => ?_) (fun c1 => ?_)
  · have h2 := ieS c1 h
    clear h c1
    refine lv_iconst (v := 0) hx hb dX12_has_13 (by decide) ?_
    have q4 := tup1_s h2
    clear h2
    exact hret _ () _ _ _ _ q4 rfl hV dX12_has_14
  · have h3 := itS c1 h
    clear h c1
    refine lv_iconst (v := 1) hx hb dX12_has_9 (by decide) ?_
    refine lv_goto (tgt := 14) hx hb dX12_has_10 (by decide) ?_
    have q5 := tup1_s h3
    clear h3
    exact hret _ () _ _ _ _ q5 rfl hV dX12_has_14
abbrev r_X12_push : Room := { frames := 0, cells := 0, slots := 0, locals := 0 }
set_option maxHeartbeats 4000000 in
set_option maxRecDepth 100000 in
theorem c_X12_push (l : Launch) (E : kE) (sz : Nat) (a0 a1 : Nat) (w0_2 w0_3 w0_4 w0_5 w0_6 w0_7 w0_8 w0_9 w0_10 w0_11 w0_12 w0_13 w0_14 w0_15 w0_16 w0_17 w0_18 w0_19 w0_20 w0_21 w0_22 w0_23 w0_24 w0_25 w0_26 w0_27 w0_28 w0_29 w0_30 w0_31 w0_32 w0_33 w0_34 w0_35 w0_36 w0_37 w0_38 w0_39 w0_40 w0_41 w0_42 w0_43 w0_44 w0_45 w0_46 w0_47 w0_48 w0_49 w0_50 w0_51 w0_52 w0_53 w0_54 w0_55 w0_56 w0_57 w0_58 w0_59 w0_60 w0_61 w0_62 w0_63 w0_64 w0_65 w0_66 : Value) (s_taped : Int32) (s_tape : Nat → Int32) (p1 : Int32) (o_taped : Int32) (o_tape : Nat → Int32) (h : f_X12_push s_taped s_tape p1 = some (o_taped, o_tape)) : kMv l yX12_push cX12_push 3 r_X12_push [.ref a0, .int p1] E [(a0, .inr (12, [.ref a1, .int s_taped, w0_2, w0_3, w0_4, w0_5, w0_6, w0_7, w0_8, w0_9, w0_10, w0_11, w0_12, w0_13, w0_14, w0_15, w0_16, w0_17, w0_18, w0_19, w0_20, w0_21, w0_22, w0_23, w0_24, w0_25, w0_26, w0_27, w0_28, w0_29, w0_30, w0_31, w0_32, w0_33, w0_34, w0_35, w0_36, w0_37, w0_38, w0_39, w0_40, w0_41, w0_42, w0_43, w0_44, w0_45, w0_46, w0_47, w0_48, w0_49, w0_50, w0_51, w0_52, w0_53, w0_54, w0_55, w0_56, w0_57, w0_58, w0_59, w0_60, w0_61, w0_62, w0_63, w0_64, w0_65, w0_66])), (a1, .inl (E.2 1, 200, .inl s_tape))] sz 0 0 (fun (_ : Unit) => True) (fun _ => [(a0, .inr (12, [.ref a1, .int o_taped, w0_2, w0_3, w0_4, w0_5, w0_6, w0_7, w0_8, w0_9, w0_10, w0_11, w0_12, w0_13, w0_14, w0_15, w0_16, w0_17, w0_18, w0_19, w0_20, w0_21, w0_22, w0_23, w0_24, w0_25, w0_26, w0_27, w0_28, w0_29, w0_30, w0_31, w0_32, w0_33, w0_34, w0_35, w0_36, w0_37, w0_38, w0_39, w0_40, w0_41, w0_42, w0_43, w0_44, w0_45, w0_46, w0_47, w0_48, w0_49, w0_50, w0_51, w0_52, w0_53, w0_54, w0_55, w0_56, w0_57, w0_58, w0_59, w0_60, w0_61, w0_62, w0_63, w0_64, w0_65, w0_66])), (a1, .inl (E.2 1, 200, .inl o_tape))]) := by
  refine kmetv rfl (Nat.le_of_ble_eq_true rfl) ?_
  intro p e s m args below meth c ls A Q X hnm hV hret hl
  have X : kC p s m c cX12_push 3 RX12 args E A := X
  have hx := X.1
  have hb := X.2.1
  have hl : lv_has ls 3 [(0, .ref a0), (1, .int p1)] := hl
  rw [f_X12_push] at h
  refine lv_bipush (v := 24) hx hb dX12_push_0 (by decide) ?_
  refine lv_istore_n (lv' := [(2, .int 24), (0, .ref a0), (1, .int p1)]) hx hb dX12_push_2 rfl hl (by decide) rfl (fun ls hl1 => ?_)
  clear hl
  have L3 : ∀ (n3 : Nat) (x2_2 : Int32) (taped__3 : Int32) (tape__4 : Nat → Int32) (H : Heap) (locs : List Loc) (ls : Array Slot), (f_X12_push_L3 p1  n3) x2_2 taped__3 tape__4 = some (o_taped, o_tape) → kV E A s.heap H locs [(a0, .inr (12, [.ref a1, .int taped__3, w0_2, w0_3, w0_4, w0_5, w0_6, w0_7, w0_8, w0_9, w0_10, w0_11, w0_12, w0_13, w0_14, w0_15, w0_16, w0_17, w0_18, w0_19, w0_20, w0_21, w0_22, w0_23, w0_24, w0_25, w0_26, w0_27, w0_28, w0_29, w0_30, w0_31, w0_32, w0_33, w0_34, w0_35, w0_36, w0_37, w0_38, w0_39, w0_40, w0_41, w0_42, w0_43, w0_44, w0_45, w0_46, w0_47, w0_48, w0_49, w0_50, w0_51, w0_52, w0_53, w0_54, w0_55, w0_56, w0_57, w0_58, w0_59, w0_60, w0_61, w0_62, w0_63, w0_64, w0_65, w0_66])), (a1, .inl (E.2 1, 200, .inl tape__4))] → lv_has ls 3 [(0, .ref a0), (1, .int p1), (2, .int x2_2)] → W p l e r_X12_push s m args below meth c H locs 0 0 Q (F0 m 3 ls []) := by
    intro n3
    induction n3 with
    | zero =>
      intro x2_2 taped__3 tape__4 H locs ls hB3 hVB3 hlB3
      rw [f_X12_push_L3] at hB3
      exact nomatch hB3
    | succ n3 ih3 =>
      intro x2_2 taped__3 tape__4 H locs ls hB3 hVB3 hlB3
      rw [f_X12_push_L3] at hB3
      refine lv_iload_n hx hb dX12_push_3 rfl (lv_at hlB3 2 rfl) ?_
      refine lv_if_lt (tgt := 36) hx hb dX12_push_4 (by decide) (fun c5 => ?_) (fun c5 => ?_)
      · have h6 := itS c5 hB3
        clear hB3 c5
        obtain ⟨q8, q9⟩ := tup2_s h6
        clear h6
        exact hret () _ _ _ _ trivial (by rw [← q8, ← q9]; exact hVB3) dX12_push_36
      · have h7 := ieS c5 hB3
        clear hB3 c5
        refine lv_aload_n hx hb dX12_push_7 rfl (lv_at hlB3 0 rfl) ?_
        refine kget X hVB3 (ci := 12) inlX12 rfl 0 rfl 0 (by decide) mw_141 rfl dX12_push_8 ?_
        refine lv_aload_n hx hb dX12_push_11 rfl (lv_at hlB3 0 rfl) ?_
        refine kget X hVB3 (ci := 12) inlX12 rfl 0 rfl 1 (by decide) mw_251 rfl dX12_push_12 ?_
        refine lv_iload_n hx hb dX12_push_15 rfl (lv_at hlB3 1 rfl) ?_
        refine lv_iload_n hx hb dX12_push_16 rfl (lv_at hlB3 2 rfl) ?_
        refine lv_ishr hx hb dX12_push_17 ?_
        refine lv_i2b (v := ji2b (jshr p1 x2_2)) hx hb dX12_push_18 rfl ?_
        obtain ⟨v19_10, e11, h12⟩ := nmI_s h7
        clear h7
        refine ktopi e11 ?_
        clear e11
        obtain ⟨hi14, g19_13, e15, h16⟩ := wrB_s h12
        clear h12
        refine kbast X hVB3 1 rfl hi14 e15 dX12_push_19 (fun H locs hV17 => ?_)
        have hV17 : kV E A s.heap H locs [(a0, .inr (12, [.ref a1, .int taped__3, w0_2, w0_3, w0_4, w0_5, w0_6, w0_7, w0_8, w0_9, w0_10, w0_11, w0_12, w0_13, w0_14, w0_15, w0_16, w0_17, w0_18, w0_19, w0_20, w0_21, w0_22, w0_23, w0_24, w0_25, w0_26, w0_27, w0_28, w0_29, w0_30, w0_31, w0_32, w0_33, w0_34, w0_35, w0_36, w0_37, w0_38, w0_39, w0_40, w0_41, w0_42, w0_43, w0_44, w0_45, w0_46, w0_47, w0_48, w0_49, w0_50, w0_51, w0_52, w0_53, w0_54, w0_55, w0_56, w0_57, w0_58, w0_59, w0_60, w0_61, w0_62, w0_63, w0_64, w0_65, w0_66])), (a1, .inl (E.2 1, 200, .inl g19_13))] := hV17
        clear hVB3 hi14 e15
        refine lv_aload_n hx hb dX12_push_20 rfl (lv_at hlB3 0 rfl) ?_
        refine lv_dup hx hb dX12_push_21 rfl ?_
        refine kget X hV17 (ci := 12) inlX12 rfl 0 rfl 1 (by decide) mw_251 rfl dX12_push_22 ?_
        refine lv_iconst (v := 1) hx hb dX12_push_25 (by decide) ?_
        refine lv_iadd hx hb dX12_push_26 ?_
        obtain ⟨v27_18, e19, h20⟩ := nmI_s h16
        clear h16
        refine ktopi e19 ?_
        clear e19
        refine kput X hV17 (ci := 12) inlX12 rfl tyX12 tyX12_ok nmX12 0 rfl 1 (by decide) mw_251 rfl rfl rfl (Nat.le_of_ble_eq_true rfl) dX12_push_27 (fun H locs hV21 => ?_)
        have hV21 : kV E A s.heap H locs [(a0, .inr (12, [.ref a1, .int v27_18, w0_2, w0_3, w0_4, w0_5, w0_6, w0_7, w0_8, w0_9, w0_10, w0_11, w0_12, w0_13, w0_14, w0_15, w0_16, w0_17, w0_18, w0_19, w0_20, w0_21, w0_22, w0_23, w0_24, w0_25, w0_26, w0_27, w0_28, w0_29, w0_30, w0_31, w0_32, w0_33, w0_34, w0_35, w0_36, w0_37, w0_38, w0_39, w0_40, w0_41, w0_42, w0_43, w0_44, w0_45, w0_46, w0_47, w0_48, w0_49, w0_50, w0_51, w0_52, w0_53, w0_54, w0_55, w0_56, w0_57, w0_58, w0_59, w0_60, w0_61, w0_62, w0_63, w0_64, w0_65, w0_66])), (a1, .inl (E.2 1, 200, .inl g19_13))] := hV21
        clear hV17
        obtain ⟨v30_22, e23, h24⟩ := nmI_s h20
        clear h20
        refine lv_iinc (v := v30_22) (lv' := [(2, .int v30_22), (0, .ref a0), (1, .int p1)]) hx hb dX12_push_30 hlB3 (k := 2) rfl (by rw [e23]; rfl) (by decide) rfl (fun ls hl25 => ?_)
        clear hlB3 e23
        refine lv_goto (tgt := 3) hx hb dX12_push_33 (by decide) ?_
        exact ih3 v30_22 v27_18 g19_13 _ _ _ h24 hV21 (lv_sub hl25 [1, 2, 0] rfl)
  exact L3 FU 24 s_taped s_tape _ _ _ h hV (lv_sub hl1 [1, 2, 0] rfl)
abbrev r_X12_feed : Room := { frames := 1, cells := 0, slots := 0, locals := 22 }
set_option maxHeartbeats 4000000 in
set_option maxRecDepth 100000 in
theorem c_X12_feed (l : Launch) (E : kE) (sz : Nat) (a0 a1 : Nat) (w0_2 w0_3 w0_4 w0_5 w0_6 w0_7 w0_8 w0_9 w0_10 w0_11 w0_12 w0_13 w0_14 w0_15 w0_16 w0_17 w0_18 w0_19 w0_20 w0_21 w0_22 w0_23 w0_24 w0_25 w0_26 w0_27 w0_28 w0_29 w0_30 w0_31 w0_32 w0_33 w0_34 w0_35 w0_36 w0_37 w0_38 w0_39 w0_40 w0_41 w0_42 w0_43 w0_44 w0_45 w0_46 w0_47 w0_48 w0_49 w0_50 w0_51 w0_52 w0_53 w0_54 w0_55 w0_56 w0_57 w0_58 w0_59 w0_60 w0_61 w0_62 w0_63 w0_64 w0_65 w0_66 : Value) (s_taped : Int32) (s_tape : Nat → Int32) (p1 : Int32) (p2 : Int32) (p3 : Int32) (p4 : Int32) (p5 : Int32) (r : Int32) (o_taped : Int32) (o_tape : Nat → Int32) (h : f_X12_feed s_taped s_tape p1 p2 p3 p4 p5 = some (r, o_taped, o_tape)) : kMi l yX12_feed cX12_feed 6 (some .int) r_X12_feed [.ref a0, .int p1, .int p2, .int p3, .int p4, .int p5] E [(a0, .inr (12, [.ref a1, .int s_taped, w0_2, w0_3, w0_4, w0_5, w0_6, w0_7, w0_8, w0_9, w0_10, w0_11, w0_12, w0_13, w0_14, w0_15, w0_16, w0_17, w0_18, w0_19, w0_20, w0_21, w0_22, w0_23, w0_24, w0_25, w0_26, w0_27, w0_28, w0_29, w0_30, w0_31, w0_32, w0_33, w0_34, w0_35, w0_36, w0_37, w0_38, w0_39, w0_40, w0_41, w0_42, w0_43, w0_44, w0_45, w0_46, w0_47, w0_48, w0_49, w0_50, w0_51, w0_52, w0_53, w0_54, w0_55, w0_56, w0_57, w0_58, w0_59, w0_60, w0_61, w0_62, w0_63, w0_64, w0_65, w0_66])), (a1, .inl (E.2 1, 200, .inl s_tape))] sz 0 0 (fun x (_ : Unit) => x = r) (fun _ => [(a0, .inr (12, [.ref a1, .int o_taped, w0_2, w0_3, w0_4, w0_5, w0_6, w0_7, w0_8, w0_9, w0_10, w0_11, w0_12, w0_13, w0_14, w0_15, w0_16, w0_17, w0_18, w0_19, w0_20, w0_21, w0_22, w0_23, w0_24, w0_25, w0_26, w0_27, w0_28, w0_29, w0_30, w0_31, w0_32, w0_33, w0_34, w0_35, w0_36, w0_37, w0_38, w0_39, w0_40, w0_41, w0_42, w0_43, w0_44, w0_45, w0_46, w0_47, w0_48, w0_49, w0_50, w0_51, w0_52, w0_53, w0_54, w0_55, w0_56, w0_57, w0_58, w0_59, w0_60, w0_61, w0_62, w0_63, w0_64, w0_65, w0_66])), (a1, .inl (E.2 1, 200, .inl o_tape))]) := by
  refine kmeti rfl (Nat.le_of_ble_eq_true rfl) ?_
  intro p e s m args below meth c ls A Q X hV hret hl
  have X : kC p s m c cX12_feed 6 RX12 args E A := X
  have hx := X.1
  have hb := X.2.1
  have hl : lv_has ls 6 [(0, .ref a0), (1, .int p1), (2, .int p2), (3, .int p3), (4, .int p4), (5, .int p5)] := hl
  rw [f_X12_feed] at h
  refine lv_aload_n hx hb dX12_feed_0 rfl (lv_at hl 0 rfl) ?_
  refine kget X hV (ci := 12) inlX12 rfl 0 rfl 1 (by decide) mw_251 rfl dX12_feed_1 ?_
  refine lv_bipush (v := 20) hx hb dX12_feed_4 (by decide) ?_
  refine lv_iadd hx hb dX12_feed_6 ?_
  refine lv_sipush (v := 200) hx hb dX12_feed_7 (by decide) ?_
  refine lv_icmp_le (tgt := 15) hx hb dX12_feed_10 (by decide) (fun c1 => ?_) (fun c1 => ?_)
  · have h2 := itS c1 h
    clear h c1
    refine lv_aload_n hx hb dX12_feed_15 rfl (lv_at hl 0 rfl) ?_
    refine lv_iload_n hx hb dX12_feed_16 rfl (lv_at hl 1 rfl) ?_
    obtain ⟨o_taped17_4, o_tape17_5, hc6, h7⟩ := cb2_s h2
    clear h2
    refine kgov (krunV (rest := []) X hV [0, 1] (c_X12_push l E _ a0 a1 (w0_2) (w0_3) (w0_4) (w0_5) (w0_6) (w0_7) (w0_8) (w0_9) (w0_10) (w0_11) (w0_12) (w0_13) (w0_14) (w0_15) (w0_16) (w0_17) (w0_18) (w0_19) (w0_20) (w0_21) (w0_22) (w0_23) (w0_24) (w0_25) (w0_26) (w0_27) (w0_28) (w0_29) (w0_30) (w0_31) (w0_32) (w0_33) (w0_34) (w0_35) (w0_36) (w0_37) (w0_38) (w0_39) (w0_40) (w0_41) (w0_42) (w0_43) (w0_44) (w0_45) (w0_46) (w0_47) (w0_48) (w0_49) (w0_50) (w0_51) (w0_52) (w0_53) (w0_54) (w0_55) (w0_56) (w0_57) (w0_58) (w0_59) (w0_60) (w0_61) (w0_62) (w0_63) (w0_64) (w0_65) (w0_66) s_taped s_tape p1 o_taped17_4 o_tape17_5 hc6) mw_252 kb_X12_push (ci := 12) rfl rfl (by decide) rfl rfl hl.1 rfl (Nat.le_of_ble_eq_true rfl) dX12_feed_17 (by decide)) X hV [0, 1] [] rfl rfl rfl (by decide) (fun u H locs hp9 hV8 => ?_)
    have hV8 : kV E A s.heap H locs [(a0, .inr (12, [.ref a1, .int o_taped17_4, w0_2, w0_3, w0_4, w0_5, w0_6, w0_7, w0_8, w0_9, w0_10, w0_11, w0_12, w0_13, w0_14, w0_15, w0_16, w0_17, w0_18, w0_19, w0_20, w0_21, w0_22, w0_23, w0_24, w0_25, w0_26, w0_27, w0_28, w0_29, w0_30, w0_31, w0_32, w0_33, w0_34, w0_35, w0_36, w0_37, w0_38, w0_39, w0_40, w0_41, w0_42, w0_43, w0_44, w0_45, w0_46, w0_47, w0_48, w0_49, w0_50, w0_51, w0_52, w0_53, w0_54, w0_55, w0_56, w0_57, w0_58, w0_59, w0_60, w0_61, w0_62, w0_63, w0_64, w0_65, w0_66])), (a1, .inl (E.2 1, 200, .inl o_tape17_5))] := hV8.sub [0, 1] rfl rfl
    clear hV
    refine lv_aload_n hx hb dX12_feed_20 rfl (lv_at hl 0 rfl) ?_
    refine lv_iload_n hx hb dX12_feed_21 rfl (lv_at hl 2 rfl) ?_
    obtain ⟨o_taped22_10, o_tape22_11, hc12, h13⟩ := cb2_s h7
    clear h7
    refine kgov (krunV (rest := []) X hV8 [0, 1] (c_X12_push l E _ a0 a1 (w0_2) (w0_3) (w0_4) (w0_5) (w0_6) (w0_7) (w0_8) (w0_9) (w0_10) (w0_11) (w0_12) (w0_13) (w0_14) (w0_15) (w0_16) (w0_17) (w0_18) (w0_19) (w0_20) (w0_21) (w0_22) (w0_23) (w0_24) (w0_25) (w0_26) (w0_27) (w0_28) (w0_29) (w0_30) (w0_31) (w0_32) (w0_33) (w0_34) (w0_35) (w0_36) (w0_37) (w0_38) (w0_39) (w0_40) (w0_41) (w0_42) (w0_43) (w0_44) (w0_45) (w0_46) (w0_47) (w0_48) (w0_49) (w0_50) (w0_51) (w0_52) (w0_53) (w0_54) (w0_55) (w0_56) (w0_57) (w0_58) (w0_59) (w0_60) (w0_61) (w0_62) (w0_63) (w0_64) (w0_65) (w0_66) o_taped17_4 o_tape17_5 p2 o_taped22_10 o_tape22_11 hc12) mw_252 kb_X12_push (ci := 12) rfl rfl (by decide) rfl rfl hl.1 rfl (Nat.le_of_ble_eq_true rfl) dX12_feed_22 (by decide)) X hV8 [0, 1] [] rfl rfl rfl (by decide) (fun u H locs hp15 hV14 => ?_)
    have hV14 : kV E A s.heap H locs [(a0, .inr (12, [.ref a1, .int o_taped22_10, w0_2, w0_3, w0_4, w0_5, w0_6, w0_7, w0_8, w0_9, w0_10, w0_11, w0_12, w0_13, w0_14, w0_15, w0_16, w0_17, w0_18, w0_19, w0_20, w0_21, w0_22, w0_23, w0_24, w0_25, w0_26, w0_27, w0_28, w0_29, w0_30, w0_31, w0_32, w0_33, w0_34, w0_35, w0_36, w0_37, w0_38, w0_39, w0_40, w0_41, w0_42, w0_43, w0_44, w0_45, w0_46, w0_47, w0_48, w0_49, w0_50, w0_51, w0_52, w0_53, w0_54, w0_55, w0_56, w0_57, w0_58, w0_59, w0_60, w0_61, w0_62, w0_63, w0_64, w0_65, w0_66])), (a1, .inl (E.2 1, 200, .inl o_tape22_11))] := hV14.sub [0, 1] rfl rfl
    clear hV8
    refine lv_aload_n hx hb dX12_feed_25 rfl (lv_at hl 0 rfl) ?_
    refine lv_iload_n hx hb dX12_feed_26 rfl (lv_at hl 3 rfl) ?_
    obtain ⟨o_taped27_16, o_tape27_17, hc18, h19⟩ := cb2_s h13
    clear h13
    refine kgov (krunV (rest := []) X hV14 [0, 1] (c_X12_push l E _ a0 a1 (w0_2) (w0_3) (w0_4) (w0_5) (w0_6) (w0_7) (w0_8) (w0_9) (w0_10) (w0_11) (w0_12) (w0_13) (w0_14) (w0_15) (w0_16) (w0_17) (w0_18) (w0_19) (w0_20) (w0_21) (w0_22) (w0_23) (w0_24) (w0_25) (w0_26) (w0_27) (w0_28) (w0_29) (w0_30) (w0_31) (w0_32) (w0_33) (w0_34) (w0_35) (w0_36) (w0_37) (w0_38) (w0_39) (w0_40) (w0_41) (w0_42) (w0_43) (w0_44) (w0_45) (w0_46) (w0_47) (w0_48) (w0_49) (w0_50) (w0_51) (w0_52) (w0_53) (w0_54) (w0_55) (w0_56) (w0_57) (w0_58) (w0_59) (w0_60) (w0_61) (w0_62) (w0_63) (w0_64) (w0_65) (w0_66) o_taped22_10 o_tape22_11 p3 o_taped27_16 o_tape27_17 hc18) mw_252 kb_X12_push (ci := 12) rfl rfl (by decide) rfl rfl hl.1 rfl (Nat.le_of_ble_eq_true rfl) dX12_feed_27 (by decide)) X hV14 [0, 1] [] rfl rfl rfl (by decide) (fun u H locs hp21 hV20 => ?_)
    have hV20 : kV E A s.heap H locs [(a0, .inr (12, [.ref a1, .int o_taped27_16, w0_2, w0_3, w0_4, w0_5, w0_6, w0_7, w0_8, w0_9, w0_10, w0_11, w0_12, w0_13, w0_14, w0_15, w0_16, w0_17, w0_18, w0_19, w0_20, w0_21, w0_22, w0_23, w0_24, w0_25, w0_26, w0_27, w0_28, w0_29, w0_30, w0_31, w0_32, w0_33, w0_34, w0_35, w0_36, w0_37, w0_38, w0_39, w0_40, w0_41, w0_42, w0_43, w0_44, w0_45, w0_46, w0_47, w0_48, w0_49, w0_50, w0_51, w0_52, w0_53, w0_54, w0_55, w0_56, w0_57, w0_58, w0_59, w0_60, w0_61, w0_62, w0_63, w0_64, w0_65, w0_66])), (a1, .inl (E.2 1, 200, .inl o_tape27_17))] := hV20.sub [0, 1] rfl rfl
    clear hV14
    refine lv_aload_n hx hb dX12_feed_30 rfl (lv_at hl 0 rfl) ?_
    refine lv_iload hx hb dX12_feed_31 (lv_at hl 4 rfl) ?_
    obtain ⟨o_taped33_22, o_tape33_23, hc24, h25⟩ := cb2_s h19
    clear h19
    refine kgov (krunV (rest := []) X hV20 [0, 1] (c_X12_push l E _ a0 a1 (w0_2) (w0_3) (w0_4) (w0_5) (w0_6) (w0_7) (w0_8) (w0_9) (w0_10) (w0_11) (w0_12) (w0_13) (w0_14) (w0_15) (w0_16) (w0_17) (w0_18) (w0_19) (w0_20) (w0_21) (w0_22) (w0_23) (w0_24) (w0_25) (w0_26) (w0_27) (w0_28) (w0_29) (w0_30) (w0_31) (w0_32) (w0_33) (w0_34) (w0_35) (w0_36) (w0_37) (w0_38) (w0_39) (w0_40) (w0_41) (w0_42) (w0_43) (w0_44) (w0_45) (w0_46) (w0_47) (w0_48) (w0_49) (w0_50) (w0_51) (w0_52) (w0_53) (w0_54) (w0_55) (w0_56) (w0_57) (w0_58) (w0_59) (w0_60) (w0_61) (w0_62) (w0_63) (w0_64) (w0_65) (w0_66) o_taped27_16 o_tape27_17 p4 o_taped33_22 o_tape33_23 hc24) mw_252 kb_X12_push (ci := 12) rfl rfl (by decide) rfl rfl hl.1 rfl (Nat.le_of_ble_eq_true rfl) dX12_feed_33 (by decide)) X hV20 [0, 1] [] rfl rfl rfl (by decide) (fun u H locs hp27 hV26 => ?_)
    have hV26 : kV E A s.heap H locs [(a0, .inr (12, [.ref a1, .int o_taped33_22, w0_2, w0_3, w0_4, w0_5, w0_6, w0_7, w0_8, w0_9, w0_10, w0_11, w0_12, w0_13, w0_14, w0_15, w0_16, w0_17, w0_18, w0_19, w0_20, w0_21, w0_22, w0_23, w0_24, w0_25, w0_26, w0_27, w0_28, w0_29, w0_30, w0_31, w0_32, w0_33, w0_34, w0_35, w0_36, w0_37, w0_38, w0_39, w0_40, w0_41, w0_42, w0_43, w0_44, w0_45, w0_46, w0_47, w0_48, w0_49, w0_50, w0_51, w0_52, w0_53, w0_54, w0_55, w0_56, w0_57, w0_58, w0_59, w0_60, w0_61, w0_62, w0_63, w0_64, w0_65, w0_66])), (a1, .inl (E.2 1, 200, .inl o_tape33_23))] := hV26.sub [0, 1] rfl rfl
    clear hV20
    refine lv_aload_n hx hb dX12_feed_36 rfl (lv_at hl 0 rfl) ?_
    refine lv_iload hx hb dX12_feed_37 (lv_at hl 5 rfl) ?_
    obtain ⟨o_taped39_28, o_tape39_29, hc30, h31⟩ := cb2_s h25
    clear h25
    refine kgov (krunV (rest := []) X hV26 [0, 1] (c_X12_push l E _ a0 a1 (w0_2) (w0_3) (w0_4) (w0_5) (w0_6) (w0_7) (w0_8) (w0_9) (w0_10) (w0_11) (w0_12) (w0_13) (w0_14) (w0_15) (w0_16) (w0_17) (w0_18) (w0_19) (w0_20) (w0_21) (w0_22) (w0_23) (w0_24) (w0_25) (w0_26) (w0_27) (w0_28) (w0_29) (w0_30) (w0_31) (w0_32) (w0_33) (w0_34) (w0_35) (w0_36) (w0_37) (w0_38) (w0_39) (w0_40) (w0_41) (w0_42) (w0_43) (w0_44) (w0_45) (w0_46) (w0_47) (w0_48) (w0_49) (w0_50) (w0_51) (w0_52) (w0_53) (w0_54) (w0_55) (w0_56) (w0_57) (w0_58) (w0_59) (w0_60) (w0_61) (w0_62) (w0_63) (w0_64) (w0_65) (w0_66) o_taped33_22 o_tape33_23 p5 o_taped39_28 o_tape39_29 hc30) mw_252 kb_X12_push (ci := 12) rfl rfl (by decide) rfl rfl hl.1 rfl (Nat.le_of_ble_eq_true rfl) dX12_feed_39 (by decide)) X hV26 [0, 1] [] rfl rfl rfl (by decide) (fun u H locs hp33 hV32 => ?_)
    have hV32 : kV E A s.heap H locs [(a0, .inr (12, [.ref a1, .int o_taped39_28, w0_2, w0_3, w0_4, w0_5, w0_6, w0_7, w0_8, w0_9, w0_10, w0_11, w0_12, w0_13, w0_14, w0_15, w0_16, w0_17, w0_18, w0_19, w0_20, w0_21, w0_22, w0_23, w0_24, w0_25, w0_26, w0_27, w0_28, w0_29, w0_30, w0_31, w0_32, w0_33, w0_34, w0_35, w0_36, w0_37, w0_38, w0_39, w0_40, w0_41, w0_42, w0_43, w0_44, w0_45, w0_46, w0_47, w0_48, w0_49, w0_50, w0_51, w0_52, w0_53, w0_54, w0_55, w0_56, w0_57, w0_58, w0_59, w0_60, w0_61, w0_62, w0_63, w0_64, w0_65, w0_66])), (a1, .inl (E.2 1, 200, .inl o_tape39_29))] := hV32.sub [0, 1] rfl rfl
    clear hV26
    refine lv_aload_n hx hb dX12_feed_42 rfl (lv_at hl 0 rfl) ?_
    refine kget X hV32 (ci := 12) inlX12 rfl 0 rfl 1 (by decide) mw_251 rfl dX12_feed_43 ?_
    obtain ⟨q34, q35, q36⟩ := tup3_s h31
    clear h31
    exact hret _ () _ _ _ _ q34 rfl (by rw [← q35, ← q36]; exact hV32) dX12_feed_46
  · have h3 := ieS c1 h
    clear h c1
    refine lv_iconst (v := (-1)) hx hb dX12_feed_13 (by decide) ?_
    obtain ⟨q37, q38, q39⟩ := tup3_s h3
    clear h3
    exact hret _ () _ _ _ _ q37 rfl (by rw [← q38, ← q39]; exact hV) dX12_feed_14
abbrev r_X12_here : Room := { frames := 0, cells := 0, slots := 0, locals := 0 }
set_option maxHeartbeats 4000000 in
set_option maxRecDepth 100000 in
theorem c_X12_here (l : Launch) (E : kE) (sz : Nat) (a0 a1 : Nat) (w0_1 w0_2 w0_3 w0_4 w0_5 w0_6 w0_7 w0_8 w0_9 w0_10 w0_11 w0_12 w0_13 w0_14 w0_15 w0_16 w0_17 w0_20 w0_21 w0_22 w0_23 w0_24 w0_25 w0_26 w0_27 w0_28 w0_29 w0_30 w0_31 w0_32 w0_33 w0_34 w0_35 w0_36 w0_37 w0_38 w0_39 w0_40 w0_41 w0_42 w0_43 w0_44 w0_45 w0_46 w0_47 w0_48 w0_49 w0_50 w0_51 w0_52 w0_53 w0_54 w0_55 w0_56 w0_57 w0_58 w0_59 w0_60 w0_61 w0_62 w0_63 w0_64 w0_65 w0_66 : Value) (s_place : Int32) (s_end : Int32) (s_tape : Nat → Int32) (r : Int32) (h : f_X12_here s_place s_end s_tape = some (r)) : kMi l yX12_here cX12_here 1 (some .int) r_X12_here [.ref a0] E [(a0, .inr (12, [.ref a1, w0_1, w0_2, w0_3, w0_4, w0_5, w0_6, w0_7, w0_8, w0_9, w0_10, w0_11, w0_12, w0_13, w0_14, w0_15, w0_16, w0_17, .int s_place, .int s_end, w0_20, w0_21, w0_22, w0_23, w0_24, w0_25, w0_26, w0_27, w0_28, w0_29, w0_30, w0_31, w0_32, w0_33, w0_34, w0_35, w0_36, w0_37, w0_38, w0_39, w0_40, w0_41, w0_42, w0_43, w0_44, w0_45, w0_46, w0_47, w0_48, w0_49, w0_50, w0_51, w0_52, w0_53, w0_54, w0_55, w0_56, w0_57, w0_58, w0_59, w0_60, w0_61, w0_62, w0_63, w0_64, w0_65, w0_66])), (a1, .inl (E.2 1, 200, .inl s_tape))] sz 0 0 (fun x (_ : Unit) => x = r) (fun _ => [(a0, .inr (12, [.ref a1, w0_1, w0_2, w0_3, w0_4, w0_5, w0_6, w0_7, w0_8, w0_9, w0_10, w0_11, w0_12, w0_13, w0_14, w0_15, w0_16, w0_17, .int s_place, .int s_end, w0_20, w0_21, w0_22, w0_23, w0_24, w0_25, w0_26, w0_27, w0_28, w0_29, w0_30, w0_31, w0_32, w0_33, w0_34, w0_35, w0_36, w0_37, w0_38, w0_39, w0_40, w0_41, w0_42, w0_43, w0_44, w0_45, w0_46, w0_47, w0_48, w0_49, w0_50, w0_51, w0_52, w0_53, w0_54, w0_55, w0_56, w0_57, w0_58, w0_59, w0_60, w0_61, w0_62, w0_63, w0_64, w0_65, w0_66])), (a1, .inl (E.2 1, 200, .inl s_tape))]) := by
  refine kmeti rfl (Nat.le_of_ble_eq_true rfl) ?_
  intro p e s m args below meth c ls A Q X hV hret hl
  have X : kC p s m c cX12_here 1 RX12 args E A := X
  have hx := X.1
  have hb := X.2.1
  have hl : lv_has ls 1 [(0, .ref a0)] := hl
  rw [f_X12_here] at h
  refine lv_aload_n hx hb dX12_here_0 rfl (lv_at hl 0 rfl) ?_
  refine kget X hV (ci := 12) inlX12 rfl 0 rfl 18 (by decide) mw_473 rfl dX12_here_1 ?_
  refine lv_aload_n hx hb dX12_here_4 rfl (lv_at hl 0 rfl) ?_
  refine kget X hV (ci := 12) inlX12 rfl 0 rfl 19 (by decide) mw_474 rfl dX12_here_5 ?_
  refine lv_icmp_ge (tgt := 27) hx hb dX12_here_8 (by decide) (fun c1 => ?_) (fun c1 => ?_)
  · have h2 := itS c1 h
    clear h c1
    refine lv_iconst (v := 0) hx hb dX12_here_27 (by decide) ?_
    have q4 := tup1_s h2
    clear h2
    exact hret _ () _ _ _ _ q4 rfl hV dX12_here_28
  · have h3 := ieS c1 h
    clear h c1
    refine lv_aload_n hx hb dX12_here_11 rfl (lv_at hl 0 rfl) ?_
    refine kget X hV (ci := 12) inlX12 rfl 0 rfl 0 (by decide) mw_141 rfl dX12_here_12 ?_
    refine lv_aload_n hx hb dX12_here_15 rfl (lv_at hl 0 rfl) ?_
    refine kget X hV (ci := 12) inlX12 rfl 0 rfl 18 (by decide) mw_473 rfl dX12_here_16 ?_
    obtain ⟨hi6, v19_5, e7, h8⟩ := rdI_s h3
    clear h3
    refine kbald X hV 1 rfl hi6 e7 dX12_here_19 ?_
    clear hi6 e7
    refine lv_sipush (v := 255) hx hb dX12_here_20 (by decide) ?_
    refine lv_iand hx hb dX12_here_23 ?_
    refine lv_goto (tgt := 28) hx hb dX12_here_24 (by decide) ?_
    have q9 := tup1_s h8
    clear h8
    exact hret _ () _ _ _ _ q9 rfl hV dX12_here_28
abbrev r_X12_wrongs : Room := { frames := 0, cells := 0, slots := 0, locals := 0 }
set_option maxHeartbeats 4000000 in
set_option maxRecDepth 100000 in
theorem c_X12_wrongs (l : Launch) (E : kE) (sz : Nat) (a0 : Nat) (w0_0 w0_1 w0_2 w0_3 w0_4 w0_5 w0_6 w0_7 w0_8 w0_9 w0_10 w0_11 w0_12 w0_13 w0_14 w0_15 w0_16 w0_17 w0_18 w0_19 w0_21 w0_22 w0_23 w0_24 w0_25 w0_26 w0_27 w0_28 w0_29 w0_30 w0_31 w0_32 w0_33 w0_34 w0_35 w0_36 w0_37 w0_38 w0_39 w0_40 w0_41 w0_42 w0_43 w0_44 w0_45 w0_46 w0_47 w0_48 w0_49 w0_50 w0_51 w0_52 w0_53 w0_54 w0_55 w0_56 w0_57 w0_58 w0_59 w0_60 w0_61 w0_62 w0_63 w0_64 w0_65 w0_66 : Value) (s_bad : Int32) (p1 : Int32) (p2 : Int32) (o_bad : Int32) (h : f_X12_wrongs s_bad p1 p2 = some (o_bad)) : kMv l yX12_wrongs cX12_wrongs 3 r_X12_wrongs [.ref a0, .int p1, .int p2] E [(a0, .inr (12, [w0_0, w0_1, w0_2, w0_3, w0_4, w0_5, w0_6, w0_7, w0_8, w0_9, w0_10, w0_11, w0_12, w0_13, w0_14, w0_15, w0_16, w0_17, w0_18, w0_19, .int s_bad, w0_21, w0_22, w0_23, w0_24, w0_25, w0_26, w0_27, w0_28, w0_29, w0_30, w0_31, w0_32, w0_33, w0_34, w0_35, w0_36, w0_37, w0_38, w0_39, w0_40, w0_41, w0_42, w0_43, w0_44, w0_45, w0_46, w0_47, w0_48, w0_49, w0_50, w0_51, w0_52, w0_53, w0_54, w0_55, w0_56, w0_57, w0_58, w0_59, w0_60, w0_61, w0_62, w0_63, w0_64, w0_65, w0_66]))] sz 0 0 (fun (_ : Unit) => True) (fun _ => [(a0, .inr (12, [w0_0, w0_1, w0_2, w0_3, w0_4, w0_5, w0_6, w0_7, w0_8, w0_9, w0_10, w0_11, w0_12, w0_13, w0_14, w0_15, w0_16, w0_17, w0_18, w0_19, .int o_bad, w0_21, w0_22, w0_23, w0_24, w0_25, w0_26, w0_27, w0_28, w0_29, w0_30, w0_31, w0_32, w0_33, w0_34, w0_35, w0_36, w0_37, w0_38, w0_39, w0_40, w0_41, w0_42, w0_43, w0_44, w0_45, w0_46, w0_47, w0_48, w0_49, w0_50, w0_51, w0_52, w0_53, w0_54, w0_55, w0_56, w0_57, w0_58, w0_59, w0_60, w0_61, w0_62, w0_63, w0_64, w0_65, w0_66]))]) := by
  refine kmetv rfl (Nat.le_of_ble_eq_true rfl) ?_
  intro p e s m args below meth c ls A Q X hnm hV hret hl
  have X : kC p s m c cX12_wrongs 3 RX12 args E A := X
  have hx := X.1
  have hb := X.2.1
  have hl : lv_has ls 3 [(0, .ref a0), (1, .int p1), (2, .int p2)] := hl
  rw [f_X12_wrongs] at h
  refine lv_aload_n hx hb dX12_wrongs_0 rfl (lv_at hl 0 rfl) ?_
  refine lv_aload_n hx hb dX12_wrongs_1 rfl (lv_at hl 0 rfl) ?_
  refine kget X hV (ci := 12) inlX12 rfl 0 rfl 20 (by decide) mw_475 rfl dX12_wrongs_2 ?_
  refine lv_if_ge (tgt := 15) hx hb dX12_wrongs_5 (by decide) (fun c1 => ?_) (fun c1 => ?_)
  · have h2 := itS c1 h
    clear h c1
    refine lv_sipush (v := (-1000)) hx hb dX12_wrongs_15 (by decide) ?_
    refine lv_iload_n hx hb dX12_wrongs_18 rfl (lv_at hl 1 rfl) ?_
    refine lv_imul hx hb dX12_wrongs_19 ?_
    refine lv_iload_n hx hb dX12_wrongs_20 rfl (lv_at hl 2 rfl) ?_
    refine lv_isub hx hb dX12_wrongs_21 ?_
    obtain ⟨v22_4, e5, h6⟩ := nmI_s h2
    clear h2
    refine ktopi e5 ?_
    clear e5
    refine kput X hV (ci := 12) inlX12 rfl tyX12 tyX12_ok nmX12 0 rfl 20 (by decide) mw_475 rfl rfl rfl (Nat.le_of_ble_eq_true rfl) dX12_wrongs_22 (fun H locs hV7 => ?_)
    have hV7 : kV E A s.heap H locs [(a0, .inr (12, [w0_0, w0_1, w0_2, w0_3, w0_4, w0_5, w0_6, w0_7, w0_8, w0_9, w0_10, w0_11, w0_12, w0_13, w0_14, w0_15, w0_16, w0_17, w0_18, w0_19, .int v22_4, w0_21, w0_22, w0_23, w0_24, w0_25, w0_26, w0_27, w0_28, w0_29, w0_30, w0_31, w0_32, w0_33, w0_34, w0_35, w0_36, w0_37, w0_38, w0_39, w0_40, w0_41, w0_42, w0_43, w0_44, w0_45, w0_46, w0_47, w0_48, w0_49, w0_50, w0_51, w0_52, w0_53, w0_54, w0_55, w0_56, w0_57, w0_58, w0_59, w0_60, w0_61, w0_62, w0_63, w0_64, w0_65, w0_66]))] := hV7
    clear hV
    have q8 := tup1_s h6
    clear h6
    exact hret () _ _ _ _ trivial (by rw [← q8]; exact hV7) dX12_wrongs_25
  · have h3 := ieS c1 h
    clear h c1
    refine lv_aload_n hx hb dX12_wrongs_8 rfl (lv_at hl 0 rfl) ?_
    refine kget X hV (ci := 12) inlX12 rfl 0 rfl 20 (by decide) mw_475 rfl dX12_wrongs_9 ?_
    refine lv_goto (tgt := 22) hx hb dX12_wrongs_12 (by decide) ?_
    refine kput X hV (ci := 12) inlX12 rfl tyX12 tyX12_ok nmX12 0 rfl 20 (by decide) mw_475 rfl rfl rfl (Nat.le_of_ble_eq_true rfl) dX12_wrongs_22 (fun H locs hV9 => ?_)
    have hV9 : kV E A s.heap H locs [(a0, .inr (12, [w0_0, w0_1, w0_2, w0_3, w0_4, w0_5, w0_6, w0_7, w0_8, w0_9, w0_10, w0_11, w0_12, w0_13, w0_14, w0_15, w0_16, w0_17, w0_18, w0_19, .int s_bad, w0_21, w0_22, w0_23, w0_24, w0_25, w0_26, w0_27, w0_28, w0_29, w0_30, w0_31, w0_32, w0_33, w0_34, w0_35, w0_36, w0_37, w0_38, w0_39, w0_40, w0_41, w0_42, w0_43, w0_44, w0_45, w0_46, w0_47, w0_48, w0_49, w0_50, w0_51, w0_52, w0_53, w0_54, w0_55, w0_56, w0_57, w0_58, w0_59, w0_60, w0_61, w0_62, w0_63, w0_64, w0_65, w0_66]))] := hV9
    clear hV
    have q10 := tup1_s h3
    clear h3
    exact hret () _ _ _ _ trivial (by rw [← q10]; exact hV9) dX12_wrongs_25
abbrev r_X12_isGood : Room := { frames := 0, cells := 0, slots := 0, locals := 0 }
set_option maxHeartbeats 4000000 in
set_option maxRecDepth 100000 in
theorem c_X12_isGood (l : Launch) (E : kE) (sz : Nat) (a0 : Nat) (w0_0 w0_1 w0_2 w0_3 w0_4 w0_5 w0_6 w0_7 w0_8 w0_9 w0_10 w0_11 w0_12 w0_13 w0_14 w0_15 w0_16 w0_17 w0_18 w0_19 w0_21 w0_22 w0_23 w0_24 w0_25 w0_26 w0_27 w0_28 w0_29 w0_30 w0_31 w0_32 w0_33 w0_34 w0_35 w0_36 w0_37 w0_38 w0_39 w0_40 w0_41 w0_42 w0_43 w0_44 w0_45 w0_46 w0_47 w0_48 w0_49 w0_50 w0_51 w0_52 w0_53 w0_54 w0_55 w0_56 w0_57 w0_58 w0_59 w0_60 w0_61 w0_62 w0_63 w0_64 w0_65 w0_66 : Value) (s_bad : Int32) (r : Int32) (h : f_X12_isGood s_bad = some (r)) : kMi l yX12_isGood cX12_isGood 1 (some .boolean) r_X12_isGood [.ref a0] E [(a0, .inr (12, [w0_0, w0_1, w0_2, w0_3, w0_4, w0_5, w0_6, w0_7, w0_8, w0_9, w0_10, w0_11, w0_12, w0_13, w0_14, w0_15, w0_16, w0_17, w0_18, w0_19, .int s_bad, w0_21, w0_22, w0_23, w0_24, w0_25, w0_26, w0_27, w0_28, w0_29, w0_30, w0_31, w0_32, w0_33, w0_34, w0_35, w0_36, w0_37, w0_38, w0_39, w0_40, w0_41, w0_42, w0_43, w0_44, w0_45, w0_46, w0_47, w0_48, w0_49, w0_50, w0_51, w0_52, w0_53, w0_54, w0_55, w0_56, w0_57, w0_58, w0_59, w0_60, w0_61, w0_62, w0_63, w0_64, w0_65, w0_66]))] sz 0 0 (fun x (_ : Unit) => x = r) (fun _ => [(a0, .inr (12, [w0_0, w0_1, w0_2, w0_3, w0_4, w0_5, w0_6, w0_7, w0_8, w0_9, w0_10, w0_11, w0_12, w0_13, w0_14, w0_15, w0_16, w0_17, w0_18, w0_19, .int s_bad, w0_21, w0_22, w0_23, w0_24, w0_25, w0_26, w0_27, w0_28, w0_29, w0_30, w0_31, w0_32, w0_33, w0_34, w0_35, w0_36, w0_37, w0_38, w0_39, w0_40, w0_41, w0_42, w0_43, w0_44, w0_45, w0_46, w0_47, w0_48, w0_49, w0_50, w0_51, w0_52, w0_53, w0_54, w0_55, w0_56, w0_57, w0_58, w0_59, w0_60, w0_61, w0_62, w0_63, w0_64, w0_65, w0_66]))]) := by
  refine kmeti rfl (Nat.le_of_ble_eq_true rfl) ?_
  intro p e s m args below meth c ls A Q X hV hret hl
  have X : kC p s m c cX12_isGood 1 RX12 args E A := X
  have hx := X.1
  have hb := X.2.1
  have hl : lv_has ls 1 [(0, .ref a0)] := hl
  rw [f_X12_isGood] at h
  refine lv_aload_n hx hb dX12_isGood_0 rfl (lv_at hl 0 rfl) ?_
  refine kget X hV (ci := 12) inlX12 rfl 0 rfl 20 (by decide) mw_475 rfl dX12_isGood_1 ?_
  refine lv_if_ne (tgt := 11) hx hb dX12_isGood_4 (by decide) (fun c1 => ?_) (fun c1 => ?_)
  · have h2 := ieS c1 h
    clear h c1
    refine lv_iconst (v := 0) hx hb dX12_isGood_11 (by decide) ?_
    have q4 := tup1_s h2
    clear h2
    exact hret _ () _ _ _ _ q4 rfl hV dX12_isGood_12
  · have h3 := itS c1 h
    clear h c1
    refine lv_iconst (v := 1) hx hb dX12_isGood_7 (by decide) ?_
    refine lv_goto (tgt := 12) hx hb dX12_isGood_8 (by decide) ?_
    have q5 := tup1_s h3
    clear h3
    exact hret _ () _ _ _ _ q5 rfl hV dX12_isGood_12
abbrev r_X12_emit : Room := { frames := 1, cells := 0, slots := 0, locals := 20 }
set_option maxHeartbeats 4000000 in
set_option maxRecDepth 100000 in
theorem c_X12_emit (l : Launch) (E : kE) (sz : Nat) (a0 a1 a2 : Nat) (w0_0 w0_1 w0_2 w0_3 w0_4 w0_5 w0_6 w0_7 w0_8 w0_9 w0_10 w0_11 w0_12 w0_13 w0_14 w0_15 w0_18 w0_19 w0_21 w0_23 w0_24 w0_25 w0_26 w0_27 w0_28 w0_29 w0_30 w0_31 w0_32 w0_33 w0_34 w0_35 w0_36 w0_37 w0_38 w0_39 w0_40 w0_41 w0_42 w0_43 w0_44 w0_45 w0_46 w0_47 w0_48 w0_49 w0_50 w0_51 w0_52 w0_53 w0_54 w0_55 w0_56 w0_57 w0_58 w0_59 w0_60 w0_61 w0_62 w0_63 w0_64 w0_65 w0_66 : Value) (s_bad : Int32) (s_codes : Int32) (s_newArg : Nat → Int32) (s_newCode : Nat → Int32) (p1 : Int32) (p2 : Int32) (o_codes : Int32) (o_newArg : Nat → Int32) (o_newCode : Nat → Int32) (h : f_X12_emit s_bad s_codes s_newArg s_newCode p1 p2 = some (o_codes, o_newArg, o_newCode)) : kMv l yX12_emit cX12_emit 3 r_X12_emit [.ref a0, .int p1, .int p2] E [(a0, .inr (12, [w0_0, w0_1, w0_2, w0_3, w0_4, w0_5, w0_6, w0_7, w0_8, w0_9, w0_10, w0_11, w0_12, w0_13, w0_14, w0_15, .ref a2, .ref a1, w0_18, w0_19, .int s_bad, w0_21, .int s_codes, w0_23, w0_24, w0_25, w0_26, w0_27, w0_28, w0_29, w0_30, w0_31, w0_32, w0_33, w0_34, w0_35, w0_36, w0_37, w0_38, w0_39, w0_40, w0_41, w0_42, w0_43, w0_44, w0_45, w0_46, w0_47, w0_48, w0_49, w0_50, w0_51, w0_52, w0_53, w0_54, w0_55, w0_56, w0_57, w0_58, w0_59, w0_60, w0_61, w0_62, w0_63, w0_64, w0_65, w0_66])), (a1, .inl (E.2 0, 120, .inl s_newArg)), (a2, .inl (E.2 0, 120, .inl s_newCode))] sz 0 0 (fun (_ : Unit) => True) (fun _ => [(a0, .inr (12, [w0_0, w0_1, w0_2, w0_3, w0_4, w0_5, w0_6, w0_7, w0_8, w0_9, w0_10, w0_11, w0_12, w0_13, w0_14, w0_15, .ref a2, .ref a1, w0_18, w0_19, .int s_bad, w0_21, .int o_codes, w0_23, w0_24, w0_25, w0_26, w0_27, w0_28, w0_29, w0_30, w0_31, w0_32, w0_33, w0_34, w0_35, w0_36, w0_37, w0_38, w0_39, w0_40, w0_41, w0_42, w0_43, w0_44, w0_45, w0_46, w0_47, w0_48, w0_49, w0_50, w0_51, w0_52, w0_53, w0_54, w0_55, w0_56, w0_57, w0_58, w0_59, w0_60, w0_61, w0_62, w0_63, w0_64, w0_65, w0_66])), (a1, .inl (E.2 0, 120, .inl o_newArg)), (a2, .inl (E.2 0, 120, .inl o_newCode))]) := by
  refine kmetv rfl (Nat.le_of_ble_eq_true rfl) ?_
  intro p e s m args below meth c ls A Q X hnm hV hret hl
  have X : kC p s m c cX12_emit 3 RX12 args E A := X
  have hx := X.1
  have hb := X.2.1
  have hl : lv_has ls 3 [(0, .ref a0), (1, .int p1), (2, .int p2)] := hl
  rw [f_X12_emit] at h
  refine lv_aload_n hx hb dX12_emit_0 rfl (lv_at hl 0 rfl) ?_
  obtain ⟨r1_1, hc2, h3⟩ := cb1_s h
  clear h
  refine kgoiE (krunV (rest := []) X hV [0] (c_X12_isGood l E _ a0 (w0_0) (w0_1) (w0_2) (w0_3) (w0_4) (w0_5) (w0_6) (w0_7) (w0_8) (w0_9) (w0_10) (w0_11) (w0_12) (w0_13) (w0_14) (w0_15) (.ref a2) (.ref a1) (w0_18) (w0_19) (w0_21) (.int s_codes) (w0_23) (w0_24) (w0_25) (w0_26) (w0_27) (w0_28) (w0_29) (w0_30) (w0_31) (w0_32) (w0_33) (w0_34) (w0_35) (w0_36) (w0_37) (w0_38) (w0_39) (w0_40) (w0_41) (w0_42) (w0_43) (w0_44) (w0_45) (w0_46) (w0_47) (w0_48) (w0_49) (w0_50) (w0_51) (w0_52) (w0_53) (w0_54) (w0_55) (w0_56) (w0_57) (w0_58) (w0_59) (w0_60) (w0_61) (w0_62) (w0_63) (w0_64) (w0_65) (w0_66) s_bad r1_1 hc2) mw_484 kb_X12_isGood (ci := 12) rfl rfl (by decide) rfl rfl hl.1 rfl (Nat.le_of_ble_eq_true rfl) dX12_emit_1 (by decide)) X hV [0] [1, 2] rfl rfl rfl (by decide) (fun u H locs hV4 => ?_)
  have hV4 : kV E A s.heap H locs [(a0, .inr (12, [w0_0, w0_1, w0_2, w0_3, w0_4, w0_5, w0_6, w0_7, w0_8, w0_9, w0_10, w0_11, w0_12, w0_13, w0_14, w0_15, .ref a2, .ref a1, w0_18, w0_19, .int s_bad, w0_21, .int s_codes, w0_23, w0_24, w0_25, w0_26, w0_27, w0_28, w0_29, w0_30, w0_31, w0_32, w0_33, w0_34, w0_35, w0_36, w0_37, w0_38, w0_39, w0_40, w0_41, w0_42, w0_43, w0_44, w0_45, w0_46, w0_47, w0_48, w0_49, w0_50, w0_51, w0_52, w0_53, w0_54, w0_55, w0_56, w0_57, w0_58, w0_59, w0_60, w0_61, w0_62, w0_63, w0_64, w0_65, w0_66])), (a1, .inl (E.2 0, 120, .inl s_newArg)), (a2, .inl (E.2 0, 120, .inl s_newCode))] := hV4.sub [2, 0, 1] rfl rfl
  clear hV
  refine lv_if_ne (tgt := 8) hx hb dX12_emit_4 (by decide) (fun c6 => ?_) (fun c6 => ?_)
  · have h7 := ieS c6 h3
    clear h3 c6
    refine lv_aload_n hx hb dX12_emit_8 rfl (lv_at hl 0 rfl) ?_
    refine kget X hV4 (ci := 12) inlX12 rfl 0 rfl 16 (by decide) mw_151 rfl dX12_emit_9 ?_
    refine lv_aload_n hx hb dX12_emit_12 rfl (lv_at hl 0 rfl) ?_
    refine kget X hV4 (ci := 12) inlX12 rfl 0 rfl 22 (by decide) mw_481 rfl dX12_emit_13 ?_
    refine lv_iload_n hx hb dX12_emit_16 rfl (lv_at hl 1 rfl) ?_
    obtain ⟨hi10, g17_9, e11, h12⟩ := wrI_s h7
    clear h7
    refine kiast X hV4 2 rfl hi10 e11 dX12_emit_17 (fun H locs hV13 => ?_)
    have hV13 : kV E A s.heap H locs [(a0, .inr (12, [w0_0, w0_1, w0_2, w0_3, w0_4, w0_5, w0_6, w0_7, w0_8, w0_9, w0_10, w0_11, w0_12, w0_13, w0_14, w0_15, .ref a2, .ref a1, w0_18, w0_19, .int s_bad, w0_21, .int s_codes, w0_23, w0_24, w0_25, w0_26, w0_27, w0_28, w0_29, w0_30, w0_31, w0_32, w0_33, w0_34, w0_35, w0_36, w0_37, w0_38, w0_39, w0_40, w0_41, w0_42, w0_43, w0_44, w0_45, w0_46, w0_47, w0_48, w0_49, w0_50, w0_51, w0_52, w0_53, w0_54, w0_55, w0_56, w0_57, w0_58, w0_59, w0_60, w0_61, w0_62, w0_63, w0_64, w0_65, w0_66])), (a1, .inl (E.2 0, 120, .inl s_newArg)), (a2, .inl (E.2 0, 120, .inl g17_9))] := hV13
    clear hV4 hi10 e11
    refine lv_aload_n hx hb dX12_emit_18 rfl (lv_at hl 0 rfl) ?_
    refine kget X hV13 (ci := 12) inlX12 rfl 0 rfl 17 (by decide) mw_152 rfl dX12_emit_19 ?_
    refine lv_aload_n hx hb dX12_emit_22 rfl (lv_at hl 0 rfl) ?_
    refine kget X hV13 (ci := 12) inlX12 rfl 0 rfl 22 (by decide) mw_481 rfl dX12_emit_23 ?_
    refine lv_iload_n hx hb dX12_emit_26 rfl (lv_at hl 2 rfl) ?_
    obtain ⟨hi15, g27_14, e16, h17⟩ := wrI_s h12
    clear h12
    refine kiast X hV13 1 rfl hi15 e16 dX12_emit_27 (fun H locs hV18 => ?_)
    have hV18 : kV E A s.heap H locs [(a0, .inr (12, [w0_0, w0_1, w0_2, w0_3, w0_4, w0_5, w0_6, w0_7, w0_8, w0_9, w0_10, w0_11, w0_12, w0_13, w0_14, w0_15, .ref a2, .ref a1, w0_18, w0_19, .int s_bad, w0_21, .int s_codes, w0_23, w0_24, w0_25, w0_26, w0_27, w0_28, w0_29, w0_30, w0_31, w0_32, w0_33, w0_34, w0_35, w0_36, w0_37, w0_38, w0_39, w0_40, w0_41, w0_42, w0_43, w0_44, w0_45, w0_46, w0_47, w0_48, w0_49, w0_50, w0_51, w0_52, w0_53, w0_54, w0_55, w0_56, w0_57, w0_58, w0_59, w0_60, w0_61, w0_62, w0_63, w0_64, w0_65, w0_66])), (a1, .inl (E.2 0, 120, .inl g27_14)), (a2, .inl (E.2 0, 120, .inl g17_9))] := hV18
    clear hV13 hi15 e16
    refine lv_aload_n hx hb dX12_emit_28 rfl (lv_at hl 0 rfl) ?_
    refine lv_dup hx hb dX12_emit_29 rfl ?_
    refine kget X hV18 (ci := 12) inlX12 rfl 0 rfl 22 (by decide) mw_481 rfl dX12_emit_30 ?_
    refine lv_iconst (v := 1) hx hb dX12_emit_33 (by decide) ?_
    refine lv_iadd hx hb dX12_emit_34 ?_
    obtain ⟨v35_19, e20, h21⟩ := nmI_s h17
    clear h17
    refine ktopi e20 ?_
    clear e20
    refine kput X hV18 (ci := 12) inlX12 rfl tyX12 tyX12_ok nmX12 0 rfl 22 (by decide) mw_481 rfl rfl rfl (Nat.le_of_ble_eq_true rfl) dX12_emit_35 (fun H locs hV22 => ?_)
    have hV22 : kV E A s.heap H locs [(a0, .inr (12, [w0_0, w0_1, w0_2, w0_3, w0_4, w0_5, w0_6, w0_7, w0_8, w0_9, w0_10, w0_11, w0_12, w0_13, w0_14, w0_15, .ref a2, .ref a1, w0_18, w0_19, .int s_bad, w0_21, .int v35_19, w0_23, w0_24, w0_25, w0_26, w0_27, w0_28, w0_29, w0_30, w0_31, w0_32, w0_33, w0_34, w0_35, w0_36, w0_37, w0_38, w0_39, w0_40, w0_41, w0_42, w0_43, w0_44, w0_45, w0_46, w0_47, w0_48, w0_49, w0_50, w0_51, w0_52, w0_53, w0_54, w0_55, w0_56, w0_57, w0_58, w0_59, w0_60, w0_61, w0_62, w0_63, w0_64, w0_65, w0_66])), (a1, .inl (E.2 0, 120, .inl g27_14)), (a2, .inl (E.2 0, 120, .inl g17_9))] := hV22
    clear hV18
    obtain ⟨q23, q24, q25⟩ := tup3_s h21
    clear h21
    exact hret () _ _ _ _ trivial (by rw [← q23, ← q24, ← q25]; exact hV22) dX12_emit_38
  · have h8 := itS c6 h3
    clear h3 c6
    obtain ⟨q26, q27, q28⟩ := tup3_s h8
    clear h8
    exact hret () _ _ _ _ trivial (by rw [← q26, ← q27, ← q28]; exact hV4) dX12_emit_7
abbrev r_X12_top : Room := { frames := 0, cells := 0, slots := 0, locals := 0 }
set_option maxHeartbeats 4000000 in
set_option maxRecDepth 100000 in
theorem c_X12_top (l : Launch) (E : kE) (sz : Nat) (a0 a1 : Nat) (w0_0 w0_1 w0_2 w0_3 w0_4 w0_5 w0_6 w0_7 w0_8 w0_9 w0_10 w0_11 w0_12 w0_13 w0_14 w0_15 w0_16 w0_17 w0_18 w0_19 w0_20 w0_21 w0_22 w0_23 w0_25 w0_26 w0_28 w0_29 w0_30 w0_31 w0_32 w0_33 w0_34 w0_35 w0_36 w0_37 w0_38 w0_39 w0_40 w0_41 w0_42 w0_43 w0_44 w0_45 w0_46 w0_47 w0_48 w0_49 w0_50 w0_51 w0_52 w0_53 w0_54 w0_55 w0_56 w0_57 w0_58 w0_59 w0_60 w0_61 w0_62 w0_63 w0_64 w0_65 w0_66 : Value) (s_stacked : Int32) (s_stack : Nat → Int32) (r : Int32) (h : f_X12_top s_stacked s_stack = some (r)) : kMi l yX12_top cX12_top 1 (some .int) r_X12_top [.ref a0] E [(a0, .inr (12, [w0_0, w0_1, w0_2, w0_3, w0_4, w0_5, w0_6, w0_7, w0_8, w0_9, w0_10, w0_11, w0_12, w0_13, w0_14, w0_15, w0_16, w0_17, w0_18, w0_19, w0_20, w0_21, w0_22, w0_23, .int s_stacked, w0_25, w0_26, .ref a1, w0_28, w0_29, w0_30, w0_31, w0_32, w0_33, w0_34, w0_35, w0_36, w0_37, w0_38, w0_39, w0_40, w0_41, w0_42, w0_43, w0_44, w0_45, w0_46, w0_47, w0_48, w0_49, w0_50, w0_51, w0_52, w0_53, w0_54, w0_55, w0_56, w0_57, w0_58, w0_59, w0_60, w0_61, w0_62, w0_63, w0_64, w0_65, w0_66])), (a1, .inl (E.2 0, 160, .inl s_stack))] sz 0 0 (fun x (_ : Unit) => x = r) (fun _ => [(a0, .inr (12, [w0_0, w0_1, w0_2, w0_3, w0_4, w0_5, w0_6, w0_7, w0_8, w0_9, w0_10, w0_11, w0_12, w0_13, w0_14, w0_15, w0_16, w0_17, w0_18, w0_19, w0_20, w0_21, w0_22, w0_23, .int s_stacked, w0_25, w0_26, .ref a1, w0_28, w0_29, w0_30, w0_31, w0_32, w0_33, w0_34, w0_35, w0_36, w0_37, w0_38, w0_39, w0_40, w0_41, w0_42, w0_43, w0_44, w0_45, w0_46, w0_47, w0_48, w0_49, w0_50, w0_51, w0_52, w0_53, w0_54, w0_55, w0_56, w0_57, w0_58, w0_59, w0_60, w0_61, w0_62, w0_63, w0_64, w0_65, w0_66])), (a1, .inl (E.2 0, 160, .inl s_stack))]) := by
  refine kmeti rfl (Nat.le_of_ble_eq_true rfl) ?_
  intro p e s m args below meth c ls A Q X hV hret hl
  have X : kC p s m c cX12_top 1 RX12 args E A := X
  have hx := X.1
  have hb := X.2.1
  have hl : lv_has ls 1 [(0, .ref a0)] := hl
  rw [f_X12_top] at h
  refine lv_aload_n hx hb dX12_top_0 rfl (lv_at hl 0 rfl) ?_
  refine kget X hV (ci := 12) inlX12 rfl 0 rfl 24 (by decide) mw_482 rfl dX12_top_1 ?_
  refine lv_if_le (tgt := 21) hx hb dX12_top_4 (by decide) (fun c1 => ?_) (fun c1 => ?_)
  · have h2 := itS c1 h
    clear h c1
    refine lv_iconst (v := 0) hx hb dX12_top_21 (by decide) ?_
    have q4 := tup1_s h2
    clear h2
    exact hret _ () _ _ _ _ q4 rfl hV dX12_top_22
  · have h3 := ieS c1 h
    clear h c1
    refine lv_aload_n hx hb dX12_top_7 rfl (lv_at hl 0 rfl) ?_
    refine kget X hV (ci := 12) inlX12 rfl 0 rfl 27 (by decide) mw_153 rfl dX12_top_8 ?_
    refine lv_aload_n hx hb dX12_top_11 rfl (lv_at hl 0 rfl) ?_
    refine kget X hV (ci := 12) inlX12 rfl 0 rfl 24 (by decide) mw_482 rfl dX12_top_12 ?_
    refine lv_iconst (v := 1) hx hb dX12_top_15 (by decide) ?_
    refine lv_isub hx hb dX12_top_16 ?_
    obtain ⟨hi6, v17_5, e7, h8⟩ := rdI_s h3
    clear h3
    refine kiald X hV 1 rfl hi6 e7 dX12_top_17 ?_
    clear hi6 e7
    refine lv_goto (tgt := 22) hx hb dX12_top_18 (by decide) ?_
    have q9 := tup1_s h8
    clear h8
    exact hret _ () _ _ _ _ q9 rfl hV dX12_top_22
abbrev r_X12_puts : Room := { frames := 0, cells := 0, slots := 0, locals := 0 }
set_option maxHeartbeats 4000000 in
set_option maxRecDepth 100000 in
theorem c_X12_puts (l : Launch) (E : kE) (sz : Nat) (a0 a1 : Nat) (w0_0 w0_1 w0_2 w0_3 w0_4 w0_5 w0_6 w0_7 w0_8 w0_9 w0_10 w0_11 w0_12 w0_13 w0_14 w0_15 w0_16 w0_17 w0_19 w0_20 w0_21 w0_22 w0_23 w0_25 w0_26 w0_28 w0_29 w0_30 w0_31 w0_32 w0_33 w0_34 w0_35 w0_36 w0_37 w0_38 w0_39 w0_40 w0_41 w0_42 w0_43 w0_44 w0_45 w0_46 w0_47 w0_48 w0_49 w0_50 w0_51 w0_52 w0_53 w0_54 w0_55 w0_56 w0_57 w0_58 w0_59 w0_60 w0_61 w0_62 w0_63 w0_64 w0_65 w0_66 : Value) (s_place : Int32) (s_stacked : Int32) (s_stack : Nat → Int32) (p1 : Int32) (o_place : Int32) (o_stacked : Int32) (o_stack : Nat → Int32) (h : f_X12_puts s_place s_stacked s_stack p1 = some (o_place, o_stacked, o_stack)) : kMv l yX12_puts cX12_puts 2 r_X12_puts [.ref a0, .int p1] E [(a0, .inr (12, [w0_0, w0_1, w0_2, w0_3, w0_4, w0_5, w0_6, w0_7, w0_8, w0_9, w0_10, w0_11, w0_12, w0_13, w0_14, w0_15, w0_16, w0_17, .int s_place, w0_19, w0_20, w0_21, w0_22, w0_23, .int s_stacked, w0_25, w0_26, .ref a1, w0_28, w0_29, w0_30, w0_31, w0_32, w0_33, w0_34, w0_35, w0_36, w0_37, w0_38, w0_39, w0_40, w0_41, w0_42, w0_43, w0_44, w0_45, w0_46, w0_47, w0_48, w0_49, w0_50, w0_51, w0_52, w0_53, w0_54, w0_55, w0_56, w0_57, w0_58, w0_59, w0_60, w0_61, w0_62, w0_63, w0_64, w0_65, w0_66])), (a1, .inl (E.2 0, 160, .inl s_stack))] sz 0 0 (fun (_ : Unit) => True) (fun _ => [(a0, .inr (12, [w0_0, w0_1, w0_2, w0_3, w0_4, w0_5, w0_6, w0_7, w0_8, w0_9, w0_10, w0_11, w0_12, w0_13, w0_14, w0_15, w0_16, w0_17, .int o_place, w0_19, w0_20, w0_21, w0_22, w0_23, .int o_stacked, w0_25, w0_26, .ref a1, w0_28, w0_29, w0_30, w0_31, w0_32, w0_33, w0_34, w0_35, w0_36, w0_37, w0_38, w0_39, w0_40, w0_41, w0_42, w0_43, w0_44, w0_45, w0_46, w0_47, w0_48, w0_49, w0_50, w0_51, w0_52, w0_53, w0_54, w0_55, w0_56, w0_57, w0_58, w0_59, w0_60, w0_61, w0_62, w0_63, w0_64, w0_65, w0_66])), (a1, .inl (E.2 0, 160, .inl o_stack))]) := by
  refine kmetv rfl (Nat.le_of_ble_eq_true rfl) ?_
  intro p e s m args below meth c ls A Q X hnm hV hret hl
  have X : kC p s m c cX12_puts 2 RX12 args E A := X
  have hx := X.1
  have hb := X.2.1
  have hl : lv_has ls 2 [(0, .ref a0), (1, .int p1)] := hl
  rw [f_X12_puts] at h
  refine lv_aload_n hx hb dX12_puts_0 rfl (lv_at hl 0 rfl) ?_
  refine kget X hV (ci := 12) inlX12 rfl 0 rfl 27 (by decide) mw_153 rfl dX12_puts_1 ?_
  refine lv_aload_n hx hb dX12_puts_4 rfl (lv_at hl 0 rfl) ?_
  refine kget X hV (ci := 12) inlX12 rfl 0 rfl 24 (by decide) mw_482 rfl dX12_puts_5 ?_
  refine lv_iload_n hx hb dX12_puts_8 rfl (lv_at hl 1 rfl) ?_
  obtain ⟨hi2, g9_1, e3, h4⟩ := wrI_s h
  clear h
  refine kiast X hV 1 rfl hi2 e3 dX12_puts_9 (fun H locs hV5 => ?_)
  have hV5 : kV E A s.heap H locs [(a0, .inr (12, [w0_0, w0_1, w0_2, w0_3, w0_4, w0_5, w0_6, w0_7, w0_8, w0_9, w0_10, w0_11, w0_12, w0_13, w0_14, w0_15, w0_16, w0_17, .int s_place, w0_19, w0_20, w0_21, w0_22, w0_23, .int s_stacked, w0_25, w0_26, .ref a1, w0_28, w0_29, w0_30, w0_31, w0_32, w0_33, w0_34, w0_35, w0_36, w0_37, w0_38, w0_39, w0_40, w0_41, w0_42, w0_43, w0_44, w0_45, w0_46, w0_47, w0_48, w0_49, w0_50, w0_51, w0_52, w0_53, w0_54, w0_55, w0_56, w0_57, w0_58, w0_59, w0_60, w0_61, w0_62, w0_63, w0_64, w0_65, w0_66])), (a1, .inl (E.2 0, 160, .inl g9_1))] := hV5
  clear hV hi2 e3
  refine lv_aload_n hx hb dX12_puts_10 rfl (lv_at hl 0 rfl) ?_
  refine lv_dup hx hb dX12_puts_11 rfl ?_
  refine kget X hV5 (ci := 12) inlX12 rfl 0 rfl 24 (by decide) mw_482 rfl dX12_puts_12 ?_
  refine lv_iconst (v := 1) hx hb dX12_puts_15 (by decide) ?_
  refine lv_iadd hx hb dX12_puts_16 ?_
  obtain ⟨v17_6, e7, h8⟩ := nmI_s h4
  clear h4
  refine ktopi e7 ?_
  clear e7
  refine kput X hV5 (ci := 12) inlX12 rfl tyX12 tyX12_ok nmX12 0 rfl 24 (by decide) mw_482 rfl rfl rfl (Nat.le_of_ble_eq_true rfl) dX12_puts_17 (fun H locs hV9 => ?_)
  have hV9 : kV E A s.heap H locs [(a0, .inr (12, [w0_0, w0_1, w0_2, w0_3, w0_4, w0_5, w0_6, w0_7, w0_8, w0_9, w0_10, w0_11, w0_12, w0_13, w0_14, w0_15, w0_16, w0_17, .int s_place, w0_19, w0_20, w0_21, w0_22, w0_23, .int v17_6, w0_25, w0_26, .ref a1, w0_28, w0_29, w0_30, w0_31, w0_32, w0_33, w0_34, w0_35, w0_36, w0_37, w0_38, w0_39, w0_40, w0_41, w0_42, w0_43, w0_44, w0_45, w0_46, w0_47, w0_48, w0_49, w0_50, w0_51, w0_52, w0_53, w0_54, w0_55, w0_56, w0_57, w0_58, w0_59, w0_60, w0_61, w0_62, w0_63, w0_64, w0_65, w0_66])), (a1, .inl (E.2 0, 160, .inl g9_1))] := hV9
  clear hV5
  refine lv_aload_n hx hb dX12_puts_20 rfl (lv_at hl 0 rfl) ?_
  refine lv_dup hx hb dX12_puts_21 rfl ?_
  refine kget X hV9 (ci := 12) inlX12 rfl 0 rfl 18 (by decide) mw_473 rfl dX12_puts_22 ?_
  refine lv_iconst (v := 1) hx hb dX12_puts_25 (by decide) ?_
  refine lv_iadd hx hb dX12_puts_26 ?_
  obtain ⟨v27_10, e11, h12⟩ := nmI_s h8
  clear h8
  refine ktopi e11 ?_
  clear e11
  refine kput X hV9 (ci := 12) inlX12 rfl tyX12 tyX12_ok nmX12 0 rfl 18 (by decide) mw_473 rfl rfl rfl (Nat.le_of_ble_eq_true rfl) dX12_puts_27 (fun H locs hV13 => ?_)
  have hV13 : kV E A s.heap H locs [(a0, .inr (12, [w0_0, w0_1, w0_2, w0_3, w0_4, w0_5, w0_6, w0_7, w0_8, w0_9, w0_10, w0_11, w0_12, w0_13, w0_14, w0_15, w0_16, w0_17, .int v27_10, w0_19, w0_20, w0_21, w0_22, w0_23, .int v17_6, w0_25, w0_26, .ref a1, w0_28, w0_29, w0_30, w0_31, w0_32, w0_33, w0_34, w0_35, w0_36, w0_37, w0_38, w0_39, w0_40, w0_41, w0_42, w0_43, w0_44, w0_45, w0_46, w0_47, w0_48, w0_49, w0_50, w0_51, w0_52, w0_53, w0_54, w0_55, w0_56, w0_57, w0_58, w0_59, w0_60, w0_61, w0_62, w0_63, w0_64, w0_65, w0_66])), (a1, .inl (E.2 0, 160, .inl g9_1))] := hV13
  clear hV9
  obtain ⟨q14, q15, q16⟩ := tup3_s h12
  clear h12
  exact hret () _ _ _ _ trivial (by rw [← q14, ← q15, ← q16]; exact hV13) dX12_puts_30
abbrev r_X12_opens : Room := { frames := 1, cells := 0, slots := 0, locals := 22 }
set_option maxHeartbeats 4000000 in
set_option maxRecDepth 100000 in
theorem c_X12_opens (l : Launch) (E : kE) (sz : Nat) (a0 a1 a2 : Nat) (w0_1 w0_2 w0_3 w0_4 w0_5 w0_6 w0_7 w0_8 w0_9 w0_10 w0_11 w0_12 w0_13 w0_14 w0_15 w0_16 w0_17 w0_21 w0_22 w0_25 w0_26 w0_28 w0_29 w0_30 w0_31 w0_32 w0_33 w0_34 w0_35 w0_36 w0_37 w0_38 w0_39 w0_40 w0_41 w0_42 w0_43 w0_44 w0_45 w0_46 w0_47 w0_48 w0_49 w0_50 w0_51 w0_52 w0_53 w0_54 w0_55 w0_56 w0_57 w0_58 w0_59 w0_60 w0_61 w0_62 w0_63 w0_64 w0_65 w0_66 : Value) (s_place : Int32) (s_end : Int32) (s_bad : Int32) (s_open : Int32) (s_stacked : Int32) (s_stack : Nat → Int32) (s_tape : Nat → Int32) (o_place : Int32) (o_bad : Int32) (o_open : Int32) (o_stacked : Int32) (o_stack : Nat → Int32) (h : f_X12_opens s_place s_end s_bad s_open s_stacked s_stack s_tape = some (o_place, o_bad, o_open, o_stacked, o_stack)) : kMv l yX12_opens cX12_opens 1 r_X12_opens [.ref a0] E [(a0, .inr (12, [.ref a2, w0_1, w0_2, w0_3, w0_4, w0_5, w0_6, w0_7, w0_8, w0_9, w0_10, w0_11, w0_12, w0_13, w0_14, w0_15, w0_16, w0_17, .int s_place, .int s_end, .int s_bad, w0_21, w0_22, .int s_open, .int s_stacked, w0_25, w0_26, .ref a1, w0_28, w0_29, w0_30, w0_31, w0_32, w0_33, w0_34, w0_35, w0_36, w0_37, w0_38, w0_39, w0_40, w0_41, w0_42, w0_43, w0_44, w0_45, w0_46, w0_47, w0_48, w0_49, w0_50, w0_51, w0_52, w0_53, w0_54, w0_55, w0_56, w0_57, w0_58, w0_59, w0_60, w0_61, w0_62, w0_63, w0_64, w0_65, w0_66])), (a1, .inl (E.2 0, 160, .inl s_stack)), (a2, .inl (E.2 1, 200, .inl s_tape))] sz 0 0 (fun (_ : Unit) => True) (fun _ => [(a0, .inr (12, [.ref a2, w0_1, w0_2, w0_3, w0_4, w0_5, w0_6, w0_7, w0_8, w0_9, w0_10, w0_11, w0_12, w0_13, w0_14, w0_15, w0_16, w0_17, .int o_place, .int s_end, .int o_bad, w0_21, w0_22, .int o_open, .int o_stacked, w0_25, w0_26, .ref a1, w0_28, w0_29, w0_30, w0_31, w0_32, w0_33, w0_34, w0_35, w0_36, w0_37, w0_38, w0_39, w0_40, w0_41, w0_42, w0_43, w0_44, w0_45, w0_46, w0_47, w0_48, w0_49, w0_50, w0_51, w0_52, w0_53, w0_54, w0_55, w0_56, w0_57, w0_58, w0_59, w0_60, w0_61, w0_62, w0_63, w0_64, w0_65, w0_66])), (a1, .inl (E.2 0, 160, .inl o_stack)), (a2, .inl (E.2 1, 200, .inl s_tape))]) := by
  refine kmetv rfl (Nat.le_of_ble_eq_true rfl) ?_
  intro p e s m args below meth c ls A Q X hnm hV hret hl
  have X : kC p s m c cX12_opens 1 RX12 args E A := X
  have hx := X.1
  have hb := X.2.1
  have hl : lv_has ls 1 [(0, .ref a0)] := hl
  rw [f_X12_opens] at h
  refine lv_aload_n hx hb dX12_opens_0 rfl (lv_at hl 0 rfl) ?_
  refine kget X hV (ci := 12) inlX12 rfl 0 rfl 23 (by decide) mw_483 rfl dX12_opens_1 ?_
  refine lv_bipush (v := 6) hx hb dX12_opens_4 (by decide) ?_
  have J18 : ∀ (bad__1 : Int32) (H : Heap) (locs : List Loc) (ls : Array Slot), (f_X12_opens_J18 s_place s_end s_open s_stacked s_stack s_tape ) bad__1 = some (o_place, o_bad, o_open, o_stacked, o_stack) → kV E A s.heap H locs [(a0, .inr (12, [.ref a2, w0_1, w0_2, w0_3, w0_4, w0_5, w0_6, w0_7, w0_8, w0_9, w0_10, w0_11, w0_12, w0_13, w0_14, w0_15, w0_16, w0_17, .int s_place, .int s_end, .int bad__1, w0_21, w0_22, .int s_open, .int s_stacked, w0_25, w0_26, .ref a1, w0_28, w0_29, w0_30, w0_31, w0_32, w0_33, w0_34, w0_35, w0_36, w0_37, w0_38, w0_39, w0_40, w0_41, w0_42, w0_43, w0_44, w0_45, w0_46, w0_47, w0_48, w0_49, w0_50, w0_51, w0_52, w0_53, w0_54, w0_55, w0_56, w0_57, w0_58, w0_59, w0_60, w0_61, w0_62, w0_63, w0_64, w0_65, w0_66])), (a1, .inl (E.2 0, 160, .inl s_stack)), (a2, .inl (E.2 1, 200, .inl s_tape))] → lv_has ls 1 [(0, .ref a0)] → W p l e r_X12_opens s m args below meth c H locs 0 0 Q (F0 m 18 ls []) := by
    intro bad__1 H locs ls hB18 hVB18 hlB18
    rw [f_X12_opens_J18] at hB18
    refine lv_aload_n hx hb dX12_opens_18 rfl (lv_at hlB18 0 rfl) ?_
    refine lv_dup hx hb dX12_opens_19 rfl ?_
    refine kget X hVB18 (ci := 12) inlX12 rfl 0 rfl 23 (by decide) mw_483 rfl dX12_opens_20 ?_
    refine lv_iconst (v := 1) hx hb dX12_opens_23 (by decide) ?_
    refine lv_iadd hx hb dX12_opens_24 ?_
    obtain ⟨v25_2, e3, h4⟩ := nmI_s hB18
    clear hB18
    refine ktopi e3 ?_
    clear e3
    refine kput X hVB18 (ci := 12) inlX12 rfl tyX12 tyX12_ok nmX12 0 rfl 23 (by decide) mw_483 rfl rfl rfl (Nat.le_of_ble_eq_true rfl) dX12_opens_25 (fun H locs hV5 => ?_)
    have hV5 : kV E A s.heap H locs [(a0, .inr (12, [.ref a2, w0_1, w0_2, w0_3, w0_4, w0_5, w0_6, w0_7, w0_8, w0_9, w0_10, w0_11, w0_12, w0_13, w0_14, w0_15, w0_16, w0_17, .int s_place, .int s_end, .int bad__1, w0_21, w0_22, .int v25_2, .int s_stacked, w0_25, w0_26, .ref a1, w0_28, w0_29, w0_30, w0_31, w0_32, w0_33, w0_34, w0_35, w0_36, w0_37, w0_38, w0_39, w0_40, w0_41, w0_42, w0_43, w0_44, w0_45, w0_46, w0_47, w0_48, w0_49, w0_50, w0_51, w0_52, w0_53, w0_54, w0_55, w0_56, w0_57, w0_58, w0_59, w0_60, w0_61, w0_62, w0_63, w0_64, w0_65, w0_66])), (a1, .inl (E.2 0, 160, .inl s_stack)), (a2, .inl (E.2 1, 200, .inl s_tape))] := hV5
    clear hVB18
    refine lv_aload_n hx hb dX12_opens_28 rfl (lv_at hlB18 0 rfl) ?_
    refine lv_aload_n hx hb dX12_opens_29 rfl (lv_at hlB18 0 rfl) ?_
    obtain ⟨r30_6, hc7, h8⟩ := cb1_s h4
    clear h4
    refine kgoiE (krunV (rest := [.ref a0]) X hV5 [0, 2] (c_X12_here l E _ a0 a2 (w0_1) (w0_2) (w0_3) (w0_4) (w0_5) (w0_6) (w0_7) (w0_8) (w0_9) (w0_10) (w0_11) (w0_12) (w0_13) (w0_14) (w0_15) (w0_16) (w0_17) (.int bad__1) (w0_21) (w0_22) (.int v25_2) (.int s_stacked) (w0_25) (w0_26) (.ref a1) (w0_28) (w0_29) (w0_30) (w0_31) (w0_32) (w0_33) (w0_34) (w0_35) (w0_36) (w0_37) (w0_38) (w0_39) (w0_40) (w0_41) (w0_42) (w0_43) (w0_44) (w0_45) (w0_46) (w0_47) (w0_48) (w0_49) (w0_50) (w0_51) (w0_52) (w0_53) (w0_54) (w0_55) (w0_56) (w0_57) (w0_58) (w0_59) (w0_60) (w0_61) (w0_62) (w0_63) (w0_64) (w0_65) (w0_66) s_place s_end s_tape r30_6 hc7) mw_492 kb_X12_here (ci := 12) rfl rfl (by decide) rfl rfl hlB18.1 rfl (Nat.le_of_ble_eq_true rfl) dX12_opens_30 (by decide)) X hV5 [0, 2] [1] rfl rfl rfl (by decide) (fun u H locs hV9 => ?_)
    have hV9 : kV E A s.heap H locs [(a0, .inr (12, [.ref a2, w0_1, w0_2, w0_3, w0_4, w0_5, w0_6, w0_7, w0_8, w0_9, w0_10, w0_11, w0_12, w0_13, w0_14, w0_15, w0_16, w0_17, .int s_place, .int s_end, .int bad__1, w0_21, w0_22, .int v25_2, .int s_stacked, w0_25, w0_26, .ref a1, w0_28, w0_29, w0_30, w0_31, w0_32, w0_33, w0_34, w0_35, w0_36, w0_37, w0_38, w0_39, w0_40, w0_41, w0_42, w0_43, w0_44, w0_45, w0_46, w0_47, w0_48, w0_49, w0_50, w0_51, w0_52, w0_53, w0_54, w0_55, w0_56, w0_57, w0_58, w0_59, w0_60, w0_61, w0_62, w0_63, w0_64, w0_65, w0_66])), (a1, .inl (E.2 0, 160, .inl s_stack)), (a2, .inl (E.2 1, 200, .inl s_tape))] := hV9.sub [1, 0, 2] rfl rfl
    clear hV5
    obtain ⟨o_place33_11, o_stacked33_12, o_stack33_13, hc14, h15⟩ := cb3_s h8
    clear h8
    refine kgov (krunV (rest := []) X hV9 [0, 1] (c_X12_puts l E _ a0 a1 (.ref a2) (w0_1) (w0_2) (w0_3) (w0_4) (w0_5) (w0_6) (w0_7) (w0_8) (w0_9) (w0_10) (w0_11) (w0_12) (w0_13) (w0_14) (w0_15) (w0_16) (w0_17) (.int s_end) (.int bad__1) (w0_21) (w0_22) (.int v25_2) (w0_25) (w0_26) (w0_28) (w0_29) (w0_30) (w0_31) (w0_32) (w0_33) (w0_34) (w0_35) (w0_36) (w0_37) (w0_38) (w0_39) (w0_40) (w0_41) (w0_42) (w0_43) (w0_44) (w0_45) (w0_46) (w0_47) (w0_48) (w0_49) (w0_50) (w0_51) (w0_52) (w0_53) (w0_54) (w0_55) (w0_56) (w0_57) (w0_58) (w0_59) (w0_60) (w0_61) (w0_62) (w0_63) (w0_64) (w0_65) (w0_66) s_place s_stacked s_stack r30_6 o_place33_11 o_stacked33_12 o_stack33_13 hc14) mw_513 kb_X12_puts (ci := 12) rfl rfl (by decide) rfl rfl hlB18.1 rfl (Nat.le_of_ble_eq_true rfl) dX12_opens_33 (by decide)) X hV9 [0, 1] [2] rfl rfl rfl (by decide) (fun u H locs hp17 hV16 => ?_)
    have hV16 : kV E A s.heap H locs [(a0, .inr (12, [.ref a2, w0_1, w0_2, w0_3, w0_4, w0_5, w0_6, w0_7, w0_8, w0_9, w0_10, w0_11, w0_12, w0_13, w0_14, w0_15, w0_16, w0_17, .int o_place33_11, .int s_end, .int bad__1, w0_21, w0_22, .int v25_2, .int o_stacked33_12, w0_25, w0_26, .ref a1, w0_28, w0_29, w0_30, w0_31, w0_32, w0_33, w0_34, w0_35, w0_36, w0_37, w0_38, w0_39, w0_40, w0_41, w0_42, w0_43, w0_44, w0_45, w0_46, w0_47, w0_48, w0_49, w0_50, w0_51, w0_52, w0_53, w0_54, w0_55, w0_56, w0_57, w0_58, w0_59, w0_60, w0_61, w0_62, w0_63, w0_64, w0_65, w0_66])), (a1, .inl (E.2 0, 160, .inl o_stack33_13)), (a2, .inl (E.2 1, 200, .inl s_tape))] := hV16.sub [1, 2, 0] rfl rfl
    clear hV9
    obtain ⟨q18, q19, q20, q21, q22⟩ := tup5_s h15
    clear h15
    exact hret () _ _ _ _ trivial (by rw [← q18, ← q19, ← q20, ← q21, ← q22]; exact hV16) dX12_opens_36
  refine lv_icmp_ne (tgt := 18) hx hb dX12_opens_6 (by decide) (fun c23 => ?_) (fun c23 => ?_)
  · have h24 := ieS c23 h
    clear h c23
    exact J18 s_bad _ _ _ h24 hV (lv_sub hl [0] rfl)
  · have h25 := itS c23 h
    clear h c23
    refine lv_aload_n hx hb dX12_opens_9 rfl (lv_at hl 0 rfl) ?_
    refine lv_iconst (v := 5) hx hb dX12_opens_10 (by decide) ?_
    refine lv_aload_n hx hb dX12_opens_11 rfl (lv_at hl 0 rfl) ?_
    refine kget X hV (ci := 12) inlX12 rfl 0 rfl 18 (by decide) mw_473 rfl dX12_opens_12 ?_
    obtain ⟨o_bad15_26, hc27, h28⟩ := cb1_s h25
    clear h25
    refine kgov (krunV (rest := []) X hV [0] (c_X12_wrongs l E _ a0 (.ref a2) (w0_1) (w0_2) (w0_3) (w0_4) (w0_5) (w0_6) (w0_7) (w0_8) (w0_9) (w0_10) (w0_11) (w0_12) (w0_13) (w0_14) (w0_15) (w0_16) (w0_17) (.int s_place) (.int s_end) (w0_21) (w0_22) (.int s_open) (.int s_stacked) (w0_25) (w0_26) (.ref a1) (w0_28) (w0_29) (w0_30) (w0_31) (w0_32) (w0_33) (w0_34) (w0_35) (w0_36) (w0_37) (w0_38) (w0_39) (w0_40) (w0_41) (w0_42) (w0_43) (w0_44) (w0_45) (w0_46) (w0_47) (w0_48) (w0_49) (w0_50) (w0_51) (w0_52) (w0_53) (w0_54) (w0_55) (w0_56) (w0_57) (w0_58) (w0_59) (w0_60) (w0_61) (w0_62) (w0_63) (w0_64) (w0_65) (w0_66) s_bad 5 s_place o_bad15_26 hc27) mw_496 kb_X12_wrongs (ci := 12) rfl rfl (by decide) rfl rfl hl.1 rfl (Nat.le_of_ble_eq_true rfl) dX12_opens_15 (by decide)) X hV [0] [1, 2] rfl rfl rfl (by decide) (fun u H locs hp30 hV29 => ?_)
    have hV29 : kV E A s.heap H locs [(a0, .inr (12, [.ref a2, w0_1, w0_2, w0_3, w0_4, w0_5, w0_6, w0_7, w0_8, w0_9, w0_10, w0_11, w0_12, w0_13, w0_14, w0_15, w0_16, w0_17, .int s_place, .int s_end, .int o_bad15_26, w0_21, w0_22, .int s_open, .int s_stacked, w0_25, w0_26, .ref a1, w0_28, w0_29, w0_30, w0_31, w0_32, w0_33, w0_34, w0_35, w0_36, w0_37, w0_38, w0_39, w0_40, w0_41, w0_42, w0_43, w0_44, w0_45, w0_46, w0_47, w0_48, w0_49, w0_50, w0_51, w0_52, w0_53, w0_54, w0_55, w0_56, w0_57, w0_58, w0_59, w0_60, w0_61, w0_62, w0_63, w0_64, w0_65, w0_66])), (a1, .inl (E.2 0, 160, .inl s_stack)), (a2, .inl (E.2 1, 200, .inl s_tape))] := hV29.sub [2, 0, 1] rfl rfl
    clear hV
    exact J18 o_bad15_26 _ _ _ h28 hV29 (lv_sub hl [0] rfl)
abbrev r_X12_seesDigit : Room := { frames := 1, cells := 0, slots := 0, locals := 25 }
set_option maxHeartbeats 4000000 in
set_option maxRecDepth 100000 in
theorem c_X12_seesDigit (l : Launch) (E : kE) (sz : Nat) (a0 a1 : Nat) (w0_1 w0_2 w0_3 w0_4 w0_5 w0_6 w0_7 w0_8 w0_9 w0_10 w0_11 w0_12 w0_13 w0_14 w0_15 w0_16 w0_17 w0_20 w0_21 w0_22 w0_23 w0_24 w0_25 w0_26 w0_27 w0_28 w0_29 w0_30 w0_31 w0_32 w0_33 w0_34 w0_35 w0_36 w0_37 w0_38 w0_39 w0_40 w0_41 w0_42 w0_43 w0_44 w0_45 w0_46 w0_47 w0_48 w0_49 w0_50 w0_51 w0_52 w0_53 w0_54 w0_55 w0_56 w0_57 w0_58 w0_59 w0_60 w0_61 w0_62 w0_63 w0_64 w0_65 w0_66 : Value) (s_place : Int32) (s_end : Int32) (s_tape : Nat → Int32) (r : Int32) (h : f_X12_seesDigit s_place s_end s_tape = some (r)) : kMi l yX12_seesDigit cX12_seesDigit 1 (some .boolean) r_X12_seesDigit [.ref a0] E [(a0, .inr (12, [.ref a1, w0_1, w0_2, w0_3, w0_4, w0_5, w0_6, w0_7, w0_8, w0_9, w0_10, w0_11, w0_12, w0_13, w0_14, w0_15, w0_16, w0_17, .int s_place, .int s_end, w0_20, w0_21, w0_22, w0_23, w0_24, w0_25, w0_26, w0_27, w0_28, w0_29, w0_30, w0_31, w0_32, w0_33, w0_34, w0_35, w0_36, w0_37, w0_38, w0_39, w0_40, w0_41, w0_42, w0_43, w0_44, w0_45, w0_46, w0_47, w0_48, w0_49, w0_50, w0_51, w0_52, w0_53, w0_54, w0_55, w0_56, w0_57, w0_58, w0_59, w0_60, w0_61, w0_62, w0_63, w0_64, w0_65, w0_66])), (a1, .inl (E.2 1, 200, .inl s_tape))] sz 0 0 (fun x (_ : Unit) => x = r) (fun _ => [(a0, .inr (12, [.ref a1, w0_1, w0_2, w0_3, w0_4, w0_5, w0_6, w0_7, w0_8, w0_9, w0_10, w0_11, w0_12, w0_13, w0_14, w0_15, w0_16, w0_17, .int s_place, .int s_end, w0_20, w0_21, w0_22, w0_23, w0_24, w0_25, w0_26, w0_27, w0_28, w0_29, w0_30, w0_31, w0_32, w0_33, w0_34, w0_35, w0_36, w0_37, w0_38, w0_39, w0_40, w0_41, w0_42, w0_43, w0_44, w0_45, w0_46, w0_47, w0_48, w0_49, w0_50, w0_51, w0_52, w0_53, w0_54, w0_55, w0_56, w0_57, w0_58, w0_59, w0_60, w0_61, w0_62, w0_63, w0_64, w0_65, w0_66])), (a1, .inl (E.2 1, 200, .inl s_tape))]) := by
  refine kmeti rfl (Nat.le_of_ble_eq_true rfl) ?_
  intro p e s m args below meth c ls A Q X hV hret hl
  have X : kC p s m c cX12_seesDigit 1 RX12 args E A := X
  have hx := X.1
  have hb := X.2.1
  have hl : lv_has ls 1 [(0, .ref a0)] := hl
  rw [f_X12_seesDigit] at h
  refine lv_aload_n hx hb dX12_seesDigit_0 rfl (lv_at hl 0 rfl) ?_
  obtain ⟨r1_1, hc2, h3⟩ := cb1_s h
  clear h
  refine kgoiE (krunV (rest := []) X hV [0, 1] (c_X12_here l E _ a0 a1 (w0_1) (w0_2) (w0_3) (w0_4) (w0_5) (w0_6) (w0_7) (w0_8) (w0_9) (w0_10) (w0_11) (w0_12) (w0_13) (w0_14) (w0_15) (w0_16) (w0_17) (w0_20) (w0_21) (w0_22) (w0_23) (w0_24) (w0_25) (w0_26) (w0_27) (w0_28) (w0_29) (w0_30) (w0_31) (w0_32) (w0_33) (w0_34) (w0_35) (w0_36) (w0_37) (w0_38) (w0_39) (w0_40) (w0_41) (w0_42) (w0_43) (w0_44) (w0_45) (w0_46) (w0_47) (w0_48) (w0_49) (w0_50) (w0_51) (w0_52) (w0_53) (w0_54) (w0_55) (w0_56) (w0_57) (w0_58) (w0_59) (w0_60) (w0_61) (w0_62) (w0_63) (w0_64) (w0_65) (w0_66) s_place s_end s_tape r1_1 hc2) mw_492 kb_X12_here (ci := 12) rfl rfl (by decide) rfl rfl hl.1 rfl (Nat.le_of_ble_eq_true rfl) dX12_seesDigit_1 (by decide)) X hV [0, 1] [] rfl rfl rfl (by decide) (fun u H locs hV4 => ?_)
  have hV4 : kV E A s.heap H locs [(a0, .inr (12, [.ref a1, w0_1, w0_2, w0_3, w0_4, w0_5, w0_6, w0_7, w0_8, w0_9, w0_10, w0_11, w0_12, w0_13, w0_14, w0_15, w0_16, w0_17, .int s_place, .int s_end, w0_20, w0_21, w0_22, w0_23, w0_24, w0_25, w0_26, w0_27, w0_28, w0_29, w0_30, w0_31, w0_32, w0_33, w0_34, w0_35, w0_36, w0_37, w0_38, w0_39, w0_40, w0_41, w0_42, w0_43, w0_44, w0_45, w0_46, w0_47, w0_48, w0_49, w0_50, w0_51, w0_52, w0_53, w0_54, w0_55, w0_56, w0_57, w0_58, w0_59, w0_60, w0_61, w0_62, w0_63, w0_64, w0_65, w0_66])), (a1, .inl (E.2 1, 200, .inl s_tape))] := hV4.sub [0, 1] rfl rfl
  clear hV
  refine lv_i2l (v := Int32.toInt64 r1_1) hx hb dX12_seesDigit_4 rfl ?_
  refine lv_ldc2 (v := 48) hx hb X.2.2.2.1 (X.2.2.2.2.1 _ mw_521) dX12_seesDigit_5 ?_
  refine lv_ldc2 (v := 57) hx hb X.2.2.2.1 (X.2.2.2.2.1 _ mw_522) dX12_seesDigit_8 ?_
  obtain ⟨r11_6, hc7, h8⟩ := cb1_s h3
  clear h3
  refine kgoiE (krunS (rest := []) X hV4 [] (c_X12_lies l E _ (Int32.toInt64 r1_1) 48 57 r11_6 hc7) mw_224 kb_X12_lies (by decide) rfl rfl hl.1 rfl (Nat.le_of_ble_eq_true rfl) dX12_seesDigit_11 (by decide)) X hV4 [] [0, 1] rfl rfl rfl (by decide) (fun u H locs hV9 => ?_)
  have hV9 : kV E A s.heap H locs [(a0, .inr (12, [.ref a1, w0_1, w0_2, w0_3, w0_4, w0_5, w0_6, w0_7, w0_8, w0_9, w0_10, w0_11, w0_12, w0_13, w0_14, w0_15, w0_16, w0_17, .int s_place, .int s_end, w0_20, w0_21, w0_22, w0_23, w0_24, w0_25, w0_26, w0_27, w0_28, w0_29, w0_30, w0_31, w0_32, w0_33, w0_34, w0_35, w0_36, w0_37, w0_38, w0_39, w0_40, w0_41, w0_42, w0_43, w0_44, w0_45, w0_46, w0_47, w0_48, w0_49, w0_50, w0_51, w0_52, w0_53, w0_54, w0_55, w0_56, w0_57, w0_58, w0_59, w0_60, w0_61, w0_62, w0_63, w0_64, w0_65, w0_66])), (a1, .inl (E.2 1, 200, .inl s_tape))] := hV9.sub [0, 1] rfl rfl
  clear hV4
  obtain ⟨hb11, h12⟩ := bo_s h8
  clear h8
  have q13 := tup1_s h12
  clear h12
  exact hret _ () _ _ _ _ q13 hb11 hV9 dX12_seesDigit_14
abbrev r_X12_reads : Room := { frames := 2, cells := 0, slots := 0, locals := 45 }
set_option maxHeartbeats 4000000 in
set_option maxRecDepth 100000 in
theorem c_X12_reads (l : Launch) (E : kE) (sz : Nat) (a0 a1 : Nat) (w0_1 w0_2 w0_3 w0_4 w0_5 w0_6 w0_7 w0_8 w0_9 w0_10 w0_11 w0_12 w0_13 w0_14 w0_15 w0_16 w0_17 w0_21 w0_22 w0_23 w0_24 w0_25 w0_26 w0_27 w0_28 w0_29 w0_30 w0_31 w0_32 w0_33 w0_34 w0_35 w0_36 w0_37 w0_38 w0_39 w0_40 w0_41 w0_42 w0_43 w0_44 w0_45 w0_46 w0_47 w0_48 w0_49 w0_50 w0_51 w0_52 w0_53 w0_54 w0_55 w0_56 w0_57 w0_58 w0_59 w0_60 w0_61 w0_62 w0_63 w0_64 w0_65 w0_66 : Value) (s_place : Int32) (s_end : Int32) (s_bad : Int32) (s_tape : Nat → Int32) (r : Int32) (o_place : Int32) (o_bad : Int32) (h : f_X12_reads s_place s_end s_bad s_tape = some (r, o_place, o_bad)) : kMi l yX12_reads cX12_reads 3 (some .int) r_X12_reads [.ref a0] E [(a0, .inr (12, [.ref a1, w0_1, w0_2, w0_3, w0_4, w0_5, w0_6, w0_7, w0_8, w0_9, w0_10, w0_11, w0_12, w0_13, w0_14, w0_15, w0_16, w0_17, .int s_place, .int s_end, .int s_bad, w0_21, w0_22, w0_23, w0_24, w0_25, w0_26, w0_27, w0_28, w0_29, w0_30, w0_31, w0_32, w0_33, w0_34, w0_35, w0_36, w0_37, w0_38, w0_39, w0_40, w0_41, w0_42, w0_43, w0_44, w0_45, w0_46, w0_47, w0_48, w0_49, w0_50, w0_51, w0_52, w0_53, w0_54, w0_55, w0_56, w0_57, w0_58, w0_59, w0_60, w0_61, w0_62, w0_63, w0_64, w0_65, w0_66])), (a1, .inl (E.2 1, 200, .inl s_tape))] sz 0 0 (fun x (_ : Unit) => x = r) (fun _ => [(a0, .inr (12, [.ref a1, w0_1, w0_2, w0_3, w0_4, w0_5, w0_6, w0_7, w0_8, w0_9, w0_10, w0_11, w0_12, w0_13, w0_14, w0_15, w0_16, w0_17, .int o_place, .int s_end, .int o_bad, w0_21, w0_22, w0_23, w0_24, w0_25, w0_26, w0_27, w0_28, w0_29, w0_30, w0_31, w0_32, w0_33, w0_34, w0_35, w0_36, w0_37, w0_38, w0_39, w0_40, w0_41, w0_42, w0_43, w0_44, w0_45, w0_46, w0_47, w0_48, w0_49, w0_50, w0_51, w0_52, w0_53, w0_54, w0_55, w0_56, w0_57, w0_58, w0_59, w0_60, w0_61, w0_62, w0_63, w0_64, w0_65, w0_66])), (a1, .inl (E.2 1, 200, .inl s_tape))]) := by
  refine kmeti rfl (Nat.le_of_ble_eq_true rfl) ?_
  intro p e s m args below meth c ls A Q X hV hret hl
  have X : kC p s m c cX12_reads 3 RX12 args E A := X
  have hx := X.1
  have hb := X.2.1
  have hl : lv_has ls 3 [(0, .ref a0)] := hl
  rw [f_X12_reads] at h
  refine lv_aload_n hx hb dX12_reads_0 rfl (lv_at hl 0 rfl) ?_
  refine kget X hV (ci := 12) inlX12 rfl 0 rfl 18 (by decide) mw_473 rfl dX12_reads_1 ?_
  refine lv_istore_n (lv' := [(1, .int s_place), (0, .ref a0)]) hx hb dX12_reads_4 rfl hl (by decide) rfl (fun ls hl1 => ?_)
  clear hl
  refine lv_iconst (v := 0) hx hb dX12_reads_5 (by decide) ?_
  refine lv_istore_n (lv' := [(2, .int 0), (1, .int s_place), (0, .ref a0)]) hx hb dX12_reads_6 rfl hl1 (by decide) rfl (fun ls hl2 => ?_)
  clear hl1
  have L7 : ∀ (n7 : Nat) (x2_3 : Int32) (bad__4 : Int32) (place__5 : Int32) (H : Heap) (locs : List Loc) (ls : Array Slot), (f_X12_reads_L7 s_place s_end s_tape  n7) x2_3 bad__4 place__5 = some (r, o_place, o_bad) → kV E A s.heap H locs [(a0, .inr (12, [.ref a1, w0_1, w0_2, w0_3, w0_4, w0_5, w0_6, w0_7, w0_8, w0_9, w0_10, w0_11, w0_12, w0_13, w0_14, w0_15, w0_16, w0_17, .int place__5, .int s_end, .int bad__4, w0_21, w0_22, w0_23, w0_24, w0_25, w0_26, w0_27, w0_28, w0_29, w0_30, w0_31, w0_32, w0_33, w0_34, w0_35, w0_36, w0_37, w0_38, w0_39, w0_40, w0_41, w0_42, w0_43, w0_44, w0_45, w0_46, w0_47, w0_48, w0_49, w0_50, w0_51, w0_52, w0_53, w0_54, w0_55, w0_56, w0_57, w0_58, w0_59, w0_60, w0_61, w0_62, w0_63, w0_64, w0_65, w0_66])), (a1, .inl (E.2 1, 200, .inl s_tape))] → lv_has ls 3 [(0, .ref a0), (1, .int s_place), (2, .int x2_3)] → W p l e r_X12_reads s m args below meth c H locs 0 0 Q (F0 m 7 ls []) := by
    intro n7
    induction n7 with
    | zero =>
      intro x2_3 bad__4 place__5 H locs ls hB7 hVB7 hlB7
      rw [f_X12_reads_L7] at hB7
      exact nomatch hB7
    | succ n7 ih7 =>
      intro x2_3 bad__4 place__5 H locs ls hB7 hVB7 hlB7
      rw [f_X12_reads_L7] at hB7
      refine lv_aload_n hx hb dX12_reads_7 rfl (lv_at hlB7 0 rfl) ?_
      obtain ⟨r8_6, hc7, h8⟩ := cb1_s hB7
      clear hB7
      refine kgoiE (krunV (rest := []) X hVB7 [0] (c_X12_isGood l E _ a0 (.ref a1) (w0_1) (w0_2) (w0_3) (w0_4) (w0_5) (w0_6) (w0_7) (w0_8) (w0_9) (w0_10) (w0_11) (w0_12) (w0_13) (w0_14) (w0_15) (w0_16) (w0_17) (.int place__5) (.int s_end) (w0_21) (w0_22) (w0_23) (w0_24) (w0_25) (w0_26) (w0_27) (w0_28) (w0_29) (w0_30) (w0_31) (w0_32) (w0_33) (w0_34) (w0_35) (w0_36) (w0_37) (w0_38) (w0_39) (w0_40) (w0_41) (w0_42) (w0_43) (w0_44) (w0_45) (w0_46) (w0_47) (w0_48) (w0_49) (w0_50) (w0_51) (w0_52) (w0_53) (w0_54) (w0_55) (w0_56) (w0_57) (w0_58) (w0_59) (w0_60) (w0_61) (w0_62) (w0_63) (w0_64) (w0_65) (w0_66) bad__4 r8_6 hc7) mw_484 kb_X12_isGood (ci := 12) rfl rfl (by decide) rfl rfl hlB7.1 rfl (Nat.le_of_ble_eq_true rfl) dX12_reads_8 (by decide)) X hVB7 [0] [1] rfl rfl rfl (by decide) (fun u H locs hV9 => ?_)
      have hV9 : kV E A s.heap H locs [(a0, .inr (12, [.ref a1, w0_1, w0_2, w0_3, w0_4, w0_5, w0_6, w0_7, w0_8, w0_9, w0_10, w0_11, w0_12, w0_13, w0_14, w0_15, w0_16, w0_17, .int place__5, .int s_end, .int bad__4, w0_21, w0_22, w0_23, w0_24, w0_25, w0_26, w0_27, w0_28, w0_29, w0_30, w0_31, w0_32, w0_33, w0_34, w0_35, w0_36, w0_37, w0_38, w0_39, w0_40, w0_41, w0_42, w0_43, w0_44, w0_45, w0_46, w0_47, w0_48, w0_49, w0_50, w0_51, w0_52, w0_53, w0_54, w0_55, w0_56, w0_57, w0_58, w0_59, w0_60, w0_61, w0_62, w0_63, w0_64, w0_65, w0_66])), (a1, .inl (E.2 1, 200, .inl s_tape))] := hV9.sub [1, 0] rfl rfl
      clear hVB7
      refine lv_if_eq (tgt := 66) hx hb dX12_reads_11 (by decide) (fun c11 => ?_) (fun c11 => ?_)
      · have h12 := itS c11 h8
        clear h8 c11
        refine lv_iload_n hx hb dX12_reads_66 rfl (lv_at hlB7 2 rfl) ?_
        obtain ⟨q14, q15, q16⟩ := tup3_s h12
        clear h12
        exact hret _ () _ _ _ _ q14 rfl (by rw [← q15, ← q16]; exact hV9) dX12_reads_67
      · have h13 := ieS c11 h8
        clear h8 c11
        refine lv_aload_n hx hb dX12_reads_14 rfl (lv_at hlB7 0 rfl) ?_
        obtain ⟨r15_17, hc18, h19⟩ := cb1_s h13
        clear h13
        refine kgoiE (krunV (rest := []) X hV9 [0, 1] (c_X12_seesDigit l E _ a0 a1 (w0_1) (w0_2) (w0_3) (w0_4) (w0_5) (w0_6) (w0_7) (w0_8) (w0_9) (w0_10) (w0_11) (w0_12) (w0_13) (w0_14) (w0_15) (w0_16) (w0_17) (.int bad__4) (w0_21) (w0_22) (w0_23) (w0_24) (w0_25) (w0_26) (w0_27) (w0_28) (w0_29) (w0_30) (w0_31) (w0_32) (w0_33) (w0_34) (w0_35) (w0_36) (w0_37) (w0_38) (w0_39) (w0_40) (w0_41) (w0_42) (w0_43) (w0_44) (w0_45) (w0_46) (w0_47) (w0_48) (w0_49) (w0_50) (w0_51) (w0_52) (w0_53) (w0_54) (w0_55) (w0_56) (w0_57) (w0_58) (w0_59) (w0_60) (w0_61) (w0_62) (w0_63) (w0_64) (w0_65) (w0_66) place__5 s_end s_tape r15_17 hc18) mw_517 kb_X12_seesDigit (ci := 12) rfl rfl (by decide) rfl rfl hlB7.1 rfl (Nat.le_of_ble_eq_true rfl) dX12_reads_15 (by decide)) X hV9 [0, 1] [] rfl rfl rfl (by decide) (fun u H locs hV20 => ?_)
        have hV20 : kV E A s.heap H locs [(a0, .inr (12, [.ref a1, w0_1, w0_2, w0_3, w0_4, w0_5, w0_6, w0_7, w0_8, w0_9, w0_10, w0_11, w0_12, w0_13, w0_14, w0_15, w0_16, w0_17, .int place__5, .int s_end, .int bad__4, w0_21, w0_22, w0_23, w0_24, w0_25, w0_26, w0_27, w0_28, w0_29, w0_30, w0_31, w0_32, w0_33, w0_34, w0_35, w0_36, w0_37, w0_38, w0_39, w0_40, w0_41, w0_42, w0_43, w0_44, w0_45, w0_46, w0_47, w0_48, w0_49, w0_50, w0_51, w0_52, w0_53, w0_54, w0_55, w0_56, w0_57, w0_58, w0_59, w0_60, w0_61, w0_62, w0_63, w0_64, w0_65, w0_66])), (a1, .inl (E.2 1, 200, .inl s_tape))] := hV20.sub [0, 1] rfl rfl
        clear hV9
        refine lv_if_eq (tgt := 66) hx hb dX12_reads_18 (by decide) (fun c22 => ?_) (fun c22 => ?_)
        · have h23 := itS c22 h19
          clear h19 c22
          refine lv_iload_n hx hb dX12_reads_66 rfl (lv_at hlB7 2 rfl) ?_
          obtain ⟨q25, q26, q27⟩ := tup3_s h23
          clear h23
          exact hret _ () _ _ _ _ q25 rfl (by rw [← q26, ← q27]; exact hV20) dX12_reads_67
        · have h24 := ieS c22 h19
          clear h19 c22
          refine lv_aload_n hx hb dX12_reads_21 rfl (lv_at hlB7 0 rfl) ?_
          refine kget X hV20 (ci := 12) inlX12 rfl 0 rfl 18 (by decide) mw_473 rfl dX12_reads_22 ?_
          refine lv_iload_n hx hb dX12_reads_25 rfl (lv_at hlB7 1 rfl) ?_
          refine lv_iconst (v := 5) hx hb dX12_reads_26 (by decide) ?_
          refine lv_iadd hx hb dX12_reads_27 ?_
          refine lv_icmp_ne (tgt := 40) hx hb dX12_reads_28 (by decide) (fun c28 => ?_) (fun c28 => ?_)
          · have h29 := ieS c28 h24
            clear h24 c28
            refine lv_bipush (v := 10) hx hb dX12_reads_40 (by decide) ?_
            refine lv_iload_n hx hb dX12_reads_42 rfl (lv_at hlB7 2 rfl) ?_
            refine lv_imul hx hb dX12_reads_43 ?_
            refine lv_aload_n hx hb dX12_reads_44 rfl (lv_at hlB7 0 rfl) ?_
            obtain ⟨r45_31, hc32, h33⟩ := cb1_s h29
            clear h29
            refine kgoiE (krunV (rest := [.int (10 * x2_3)]) X hV20 [0, 1] (c_X12_here l E _ a0 a1 (w0_1) (w0_2) (w0_3) (w0_4) (w0_5) (w0_6) (w0_7) (w0_8) (w0_9) (w0_10) (w0_11) (w0_12) (w0_13) (w0_14) (w0_15) (w0_16) (w0_17) (.int bad__4) (w0_21) (w0_22) (w0_23) (w0_24) (w0_25) (w0_26) (w0_27) (w0_28) (w0_29) (w0_30) (w0_31) (w0_32) (w0_33) (w0_34) (w0_35) (w0_36) (w0_37) (w0_38) (w0_39) (w0_40) (w0_41) (w0_42) (w0_43) (w0_44) (w0_45) (w0_46) (w0_47) (w0_48) (w0_49) (w0_50) (w0_51) (w0_52) (w0_53) (w0_54) (w0_55) (w0_56) (w0_57) (w0_58) (w0_59) (w0_60) (w0_61) (w0_62) (w0_63) (w0_64) (w0_65) (w0_66) place__5 s_end s_tape r45_31 hc32) mw_492 kb_X12_here (ci := 12) rfl rfl (by decide) rfl rfl hlB7.1 rfl (Nat.le_of_ble_eq_true rfl) dX12_reads_45 (by decide)) X hV20 [0, 1] [] rfl rfl rfl (by decide) (fun u H locs hV34 => ?_)
            have hV34 : kV E A s.heap H locs [(a0, .inr (12, [.ref a1, w0_1, w0_2, w0_3, w0_4, w0_5, w0_6, w0_7, w0_8, w0_9, w0_10, w0_11, w0_12, w0_13, w0_14, w0_15, w0_16, w0_17, .int place__5, .int s_end, .int bad__4, w0_21, w0_22, w0_23, w0_24, w0_25, w0_26, w0_27, w0_28, w0_29, w0_30, w0_31, w0_32, w0_33, w0_34, w0_35, w0_36, w0_37, w0_38, w0_39, w0_40, w0_41, w0_42, w0_43, w0_44, w0_45, w0_46, w0_47, w0_48, w0_49, w0_50, w0_51, w0_52, w0_53, w0_54, w0_55, w0_56, w0_57, w0_58, w0_59, w0_60, w0_61, w0_62, w0_63, w0_64, w0_65, w0_66])), (a1, .inl (E.2 1, 200, .inl s_tape))] := hV34.sub [0, 1] rfl rfl
            clear hV20
            refine lv_iadd hx hb dX12_reads_48 ?_
            refine lv_bipush (v := 48) hx hb dX12_reads_49 (by decide) ?_
            refine lv_isub hx hb dX12_reads_51 ?_
            obtain ⟨v52_36, e37, h38⟩ := nmI_s h33
            clear h33
            refine ktopi e37 ?_
            clear e37
            refine lv_istore_n (lv' := [(2, .int v52_36), (0, .ref a0), (1, .int s_place)]) hx hb dX12_reads_52 rfl hlB7 (by decide) rfl (fun ls hl39 => ?_)
            clear hlB7
            refine lv_aload_n hx hb dX12_reads_53 rfl (lv_at hl39 1 rfl) ?_
            refine lv_dup hx hb dX12_reads_54 rfl ?_
            refine kget X hV34 (ci := 12) inlX12 rfl 0 rfl 18 (by decide) mw_473 rfl dX12_reads_55 ?_
            refine lv_iconst (v := 1) hx hb dX12_reads_58 (by decide) ?_
            refine lv_iadd hx hb dX12_reads_59 ?_
            obtain ⟨v60_40, e41, h42⟩ := nmI_s h38
            clear h38
            refine ktopi e41 ?_
            clear e41
            refine kput X hV34 (ci := 12) inlX12 rfl tyX12 tyX12_ok nmX12 0 rfl 18 (by decide) mw_473 rfl rfl rfl (Nat.le_of_ble_eq_true rfl) dX12_reads_60 (fun H locs hV43 => ?_)
            have hV43 : kV E A s.heap H locs [(a0, .inr (12, [.ref a1, w0_1, w0_2, w0_3, w0_4, w0_5, w0_6, w0_7, w0_8, w0_9, w0_10, w0_11, w0_12, w0_13, w0_14, w0_15, w0_16, w0_17, .int v60_40, .int s_end, .int bad__4, w0_21, w0_22, w0_23, w0_24, w0_25, w0_26, w0_27, w0_28, w0_29, w0_30, w0_31, w0_32, w0_33, w0_34, w0_35, w0_36, w0_37, w0_38, w0_39, w0_40, w0_41, w0_42, w0_43, w0_44, w0_45, w0_46, w0_47, w0_48, w0_49, w0_50, w0_51, w0_52, w0_53, w0_54, w0_55, w0_56, w0_57, w0_58, w0_59, w0_60, w0_61, w0_62, w0_63, w0_64, w0_65, w0_66])), (a1, .inl (E.2 1, 200, .inl s_tape))] := hV43
            clear hV34
            refine lv_goto (tgt := 7) hx hb dX12_reads_63 (by decide) ?_
            exact ih7 v52_36 bad__4 v60_40 _ _ _ h42 hV43 (lv_sub hl39 [1, 2, 0] rfl)
          · have h30 := itS c28 h24
            clear h24 c28
            refine lv_aload_n hx hb dX12_reads_31 rfl (lv_at hlB7 0 rfl) ?_
            refine lv_iconst (v := 2) hx hb dX12_reads_32 (by decide) ?_
            refine lv_aload_n hx hb dX12_reads_33 rfl (lv_at hlB7 0 rfl) ?_
            refine kget X hV20 (ci := 12) inlX12 rfl 0 rfl 18 (by decide) mw_473 rfl dX12_reads_34 ?_
            obtain ⟨o_bad37_44, hc45, h46⟩ := cb1_s h30
            clear h30
            refine kgov (krunV (rest := []) X hV20 [0] (c_X12_wrongs l E _ a0 (.ref a1) (w0_1) (w0_2) (w0_3) (w0_4) (w0_5) (w0_6) (w0_7) (w0_8) (w0_9) (w0_10) (w0_11) (w0_12) (w0_13) (w0_14) (w0_15) (w0_16) (w0_17) (.int place__5) (.int s_end) (w0_21) (w0_22) (w0_23) (w0_24) (w0_25) (w0_26) (w0_27) (w0_28) (w0_29) (w0_30) (w0_31) (w0_32) (w0_33) (w0_34) (w0_35) (w0_36) (w0_37) (w0_38) (w0_39) (w0_40) (w0_41) (w0_42) (w0_43) (w0_44) (w0_45) (w0_46) (w0_47) (w0_48) (w0_49) (w0_50) (w0_51) (w0_52) (w0_53) (w0_54) (w0_55) (w0_56) (w0_57) (w0_58) (w0_59) (w0_60) (w0_61) (w0_62) (w0_63) (w0_64) (w0_65) (w0_66) bad__4 2 place__5 o_bad37_44 hc45) mw_496 kb_X12_wrongs (ci := 12) rfl rfl (by decide) rfl rfl hlB7.1 rfl (Nat.le_of_ble_eq_true rfl) dX12_reads_37 (by decide)) X hV20 [0] [1] rfl rfl rfl (by decide) (fun u H locs hp48 hV47 => ?_)
            have hV47 : kV E A s.heap H locs [(a0, .inr (12, [.ref a1, w0_1, w0_2, w0_3, w0_4, w0_5, w0_6, w0_7, w0_8, w0_9, w0_10, w0_11, w0_12, w0_13, w0_14, w0_15, w0_16, w0_17, .int place__5, .int s_end, .int o_bad37_44, w0_21, w0_22, w0_23, w0_24, w0_25, w0_26, w0_27, w0_28, w0_29, w0_30, w0_31, w0_32, w0_33, w0_34, w0_35, w0_36, w0_37, w0_38, w0_39, w0_40, w0_41, w0_42, w0_43, w0_44, w0_45, w0_46, w0_47, w0_48, w0_49, w0_50, w0_51, w0_52, w0_53, w0_54, w0_55, w0_56, w0_57, w0_58, w0_59, w0_60, w0_61, w0_62, w0_63, w0_64, w0_65, w0_66])), (a1, .inl (E.2 1, 200, .inl s_tape))] := hV47.sub [1, 0] rfl rfl
            clear hV20
            refine lv_bipush (v := 10) hx hb dX12_reads_40 (by decide) ?_
            refine lv_iload_n hx hb dX12_reads_42 rfl (lv_at hlB7 2 rfl) ?_
            refine lv_imul hx hb dX12_reads_43 ?_
            refine lv_aload_n hx hb dX12_reads_44 rfl (lv_at hlB7 0 rfl) ?_
            obtain ⟨r45_49, hc50, h51⟩ := cb1_s h46
            clear h46
            refine kgoiE (krunV (rest := [.int (10 * x2_3)]) X hV47 [0, 1] (c_X12_here l E _ a0 a1 (w0_1) (w0_2) (w0_3) (w0_4) (w0_5) (w0_6) (w0_7) (w0_8) (w0_9) (w0_10) (w0_11) (w0_12) (w0_13) (w0_14) (w0_15) (w0_16) (w0_17) (.int o_bad37_44) (w0_21) (w0_22) (w0_23) (w0_24) (w0_25) (w0_26) (w0_27) (w0_28) (w0_29) (w0_30) (w0_31) (w0_32) (w0_33) (w0_34) (w0_35) (w0_36) (w0_37) (w0_38) (w0_39) (w0_40) (w0_41) (w0_42) (w0_43) (w0_44) (w0_45) (w0_46) (w0_47) (w0_48) (w0_49) (w0_50) (w0_51) (w0_52) (w0_53) (w0_54) (w0_55) (w0_56) (w0_57) (w0_58) (w0_59) (w0_60) (w0_61) (w0_62) (w0_63) (w0_64) (w0_65) (w0_66) place__5 s_end s_tape r45_49 hc50) mw_492 kb_X12_here (ci := 12) rfl rfl (by decide) rfl rfl hlB7.1 rfl (Nat.le_of_ble_eq_true rfl) dX12_reads_45 (by decide)) X hV47 [0, 1] [] rfl rfl rfl (by decide) (fun u H locs hV52 => ?_)
            have hV52 : kV E A s.heap H locs [(a0, .inr (12, [.ref a1, w0_1, w0_2, w0_3, w0_4, w0_5, w0_6, w0_7, w0_8, w0_9, w0_10, w0_11, w0_12, w0_13, w0_14, w0_15, w0_16, w0_17, .int place__5, .int s_end, .int o_bad37_44, w0_21, w0_22, w0_23, w0_24, w0_25, w0_26, w0_27, w0_28, w0_29, w0_30, w0_31, w0_32, w0_33, w0_34, w0_35, w0_36, w0_37, w0_38, w0_39, w0_40, w0_41, w0_42, w0_43, w0_44, w0_45, w0_46, w0_47, w0_48, w0_49, w0_50, w0_51, w0_52, w0_53, w0_54, w0_55, w0_56, w0_57, w0_58, w0_59, w0_60, w0_61, w0_62, w0_63, w0_64, w0_65, w0_66])), (a1, .inl (E.2 1, 200, .inl s_tape))] := hV52.sub [0, 1] rfl rfl
            clear hV47
            refine lv_iadd hx hb dX12_reads_48 ?_
            refine lv_bipush (v := 48) hx hb dX12_reads_49 (by decide) ?_
            refine lv_isub hx hb dX12_reads_51 ?_
            obtain ⟨v52_54, e55, h56⟩ := nmI_s h51
            clear h51
            refine ktopi e55 ?_
            clear e55
            refine lv_istore_n (lv' := [(2, .int v52_54), (0, .ref a0), (1, .int s_place)]) hx hb dX12_reads_52 rfl hlB7 (by decide) rfl (fun ls hl57 => ?_)
            clear hlB7
            refine lv_aload_n hx hb dX12_reads_53 rfl (lv_at hl57 1 rfl) ?_
            refine lv_dup hx hb dX12_reads_54 rfl ?_
            refine kget X hV52 (ci := 12) inlX12 rfl 0 rfl 18 (by decide) mw_473 rfl dX12_reads_55 ?_
            refine lv_iconst (v := 1) hx hb dX12_reads_58 (by decide) ?_
            refine lv_iadd hx hb dX12_reads_59 ?_
            obtain ⟨v60_58, e59, h60⟩ := nmI_s h56
            clear h56
            refine ktopi e59 ?_
            clear e59
            refine kput X hV52 (ci := 12) inlX12 rfl tyX12 tyX12_ok nmX12 0 rfl 18 (by decide) mw_473 rfl rfl rfl (Nat.le_of_ble_eq_true rfl) dX12_reads_60 (fun H locs hV61 => ?_)
            have hV61 : kV E A s.heap H locs [(a0, .inr (12, [.ref a1, w0_1, w0_2, w0_3, w0_4, w0_5, w0_6, w0_7, w0_8, w0_9, w0_10, w0_11, w0_12, w0_13, w0_14, w0_15, w0_16, w0_17, .int v60_58, .int s_end, .int o_bad37_44, w0_21, w0_22, w0_23, w0_24, w0_25, w0_26, w0_27, w0_28, w0_29, w0_30, w0_31, w0_32, w0_33, w0_34, w0_35, w0_36, w0_37, w0_38, w0_39, w0_40, w0_41, w0_42, w0_43, w0_44, w0_45, w0_46, w0_47, w0_48, w0_49, w0_50, w0_51, w0_52, w0_53, w0_54, w0_55, w0_56, w0_57, w0_58, w0_59, w0_60, w0_61, w0_62, w0_63, w0_64, w0_65, w0_66])), (a1, .inl (E.2 1, 200, .inl s_tape))] := hV61
            clear hV52
            refine lv_goto (tgt := 7) hx hb dX12_reads_63 (by decide) ?_
            exact ih7 v52_54 o_bad37_44 v60_58 _ _ _ h60 hV61 (lv_sub hl57 [1, 2, 0] rfl)
  exact L7 FU 0 s_bad s_place _ _ _ h hV (lv_sub hl2 [2, 1, 0] rfl)
abbrev r_X12_isTimes : Room := { frames := 0, cells := 0, slots := 0, locals := 0 }
set_option maxHeartbeats 4000000 in
set_option maxRecDepth 100000 in
theorem c_X12_isTimes (l : Launch) (E : kE) (sz : Nat) (p1 : Int32) (r : Int32) (h : f_X12_isTimes p1 = some (r)) : kMi l yX12_isTimes cX12_isTimes 1 (some .boolean) r_X12_isTimes [.int p1] E [] sz 0 0 (fun x (_ : Unit) => x = r) (fun _ => []) := by
  refine kmeti rfl (Nat.le_of_ble_eq_true rfl) ?_
  intro p e s m args below meth c ls A Q X hV hret hl
  have X : kC p s m c cX12_isTimes 1 RX12 args E A := X
  have hx := X.1
  have hb := X.2.1
  have hl : lv_has ls 1 [(0, .int p1)] := hl
  rw [f_X12_isTimes] at h
  refine lv_iload_n hx hb dX12_isTimes_0 rfl (lv_at hl 0 rfl) ?_
  refine lv_bipush (v := 42) hx hb dX12_isTimes_1 (by decide) ?_
  refine lv_icmp_eq (tgt := 18) hx hb dX12_isTimes_3 (by decide) (fun c1 => ?_) (fun c1 => ?_)
  · have h2 := itS c1 h
    clear h c1
    refine lv_iconst (v := 1) hx hb dX12_isTimes_18 (by decide) ?_
    refine lv_goto (tgt := 23) hx hb dX12_isTimes_19 (by decide) ?_
    have q4 := tup1_s h2
    clear h2
    exact hret _ () _ _ _ _ q4 rfl hV dX12_isTimes_23
  · have h3 := ieS c1 h
    clear h c1
    refine lv_iload_n hx hb dX12_isTimes_6 rfl (lv_at hl 0 rfl) ?_
    refine lv_bipush (v := 47) hx hb dX12_isTimes_7 (by decide) ?_
    refine lv_icmp_eq (tgt := 18) hx hb dX12_isTimes_9 (by decide) (fun c5 => ?_) (fun c5 => ?_)
    · have h6 := itS c5 h3
      clear h3 c5
      refine lv_iconst (v := 1) hx hb dX12_isTimes_18 (by decide) ?_
      refine lv_goto (tgt := 23) hx hb dX12_isTimes_19 (by decide) ?_
      have q8 := tup1_s h6
      clear h6
      exact hret _ () _ _ _ _ q8 rfl hV dX12_isTimes_23
    · have h7 := ieS c5 h3
      clear h3 c5
      refine lv_iload_n hx hb dX12_isTimes_12 rfl (lv_at hl 0 rfl) ?_
      refine lv_bipush (v := 37) hx hb dX12_isTimes_13 (by decide) ?_
      refine lv_icmp_ne (tgt := 22) hx hb dX12_isTimes_15 (by decide) (fun c9 => ?_) (fun c9 => ?_)
      · have h10 := ieS c9 h7
        clear h7 c9
        refine lv_iconst (v := 0) hx hb dX12_isTimes_22 (by decide) ?_
        have q12 := tup1_s h10
        clear h10
        exact hret _ () _ _ _ _ q12 rfl hV dX12_isTimes_23
      · have h11 := itS c9 h7
        clear h7 c9
        refine lv_iconst (v := 1) hx hb dX12_isTimes_18 (by decide) ?_
        refine lv_goto (tgt := 23) hx hb dX12_isTimes_19 (by decide) ?_
        have q13 := tup1_s h11
        clear h11
        exact hret _ () _ _ _ _ q13 rfl hV dX12_isTimes_23
abbrev r_X12_isPlus : Room := { frames := 0, cells := 0, slots := 0, locals := 0 }
set_option maxHeartbeats 4000000 in
set_option maxRecDepth 100000 in
theorem c_X12_isPlus (l : Launch) (E : kE) (sz : Nat) (p1 : Int32) (r : Int32) (h : f_X12_isPlus p1 = some (r)) : kMi l yX12_isPlus cX12_isPlus 1 (some .boolean) r_X12_isPlus [.int p1] E [] sz 0 0 (fun x (_ : Unit) => x = r) (fun _ => []) := by
  refine kmeti rfl (Nat.le_of_ble_eq_true rfl) ?_
  intro p e s m args below meth c ls A Q X hV hret hl
  have X : kC p s m c cX12_isPlus 1 RX12 args E A := X
  have hx := X.1
  have hb := X.2.1
  have hl : lv_has ls 1 [(0, .int p1)] := hl
  rw [f_X12_isPlus] at h
  refine lv_iload_n hx hb dX12_isPlus_0 rfl (lv_at hl 0 rfl) ?_
  refine lv_bipush (v := 43) hx hb dX12_isPlus_1 (by decide) ?_
  refine lv_icmp_eq (tgt := 12) hx hb dX12_isPlus_3 (by decide) (fun c1 => ?_) (fun c1 => ?_)
  · have h2 := itS c1 h
    clear h c1
    refine lv_iconst (v := 1) hx hb dX12_isPlus_12 (by decide) ?_
    refine lv_goto (tgt := 17) hx hb dX12_isPlus_13 (by decide) ?_
    have q4 := tup1_s h2
    clear h2
    exact hret _ () _ _ _ _ q4 rfl hV dX12_isPlus_17
  · have h3 := ieS c1 h
    clear h c1
    refine lv_iload_n hx hb dX12_isPlus_6 rfl (lv_at hl 0 rfl) ?_
    refine lv_bipush (v := 45) hx hb dX12_isPlus_7 (by decide) ?_
    refine lv_icmp_ne (tgt := 16) hx hb dX12_isPlus_9 (by decide) (fun c5 => ?_) (fun c5 => ?_)
    · have h6 := ieS c5 h3
      clear h3 c5
      refine lv_iconst (v := 0) hx hb dX12_isPlus_16 (by decide) ?_
      have q8 := tup1_s h6
      clear h6
      exact hret _ () _ _ _ _ q8 rfl hV dX12_isPlus_17
    · have h7 := itS c5 h3
      clear h3 c5
      refine lv_iconst (v := 1) hx hb dX12_isPlus_12 (by decide) ?_
      refine lv_goto (tgt := 17) hx hb dX12_isPlus_13 (by decide) ?_
      have q9 := tup1_s h7
      clear h7
      exact hret _ () _ _ _ _ q9 rfl hV dX12_isPlus_17
abbrev r_X12_isSign : Room := { frames := 0, cells := 0, slots := 0, locals := 0 }
set_option maxHeartbeats 4000000 in
set_option maxRecDepth 100000 in
theorem c_X12_isSign (l : Launch) (E : kE) (sz : Nat) (p1 : Int32) (r : Int32) (h : f_X12_isSign p1 = some (r)) : kMi l yX12_isSign cX12_isSign 1 (some .boolean) r_X12_isSign [.int p1] E [] sz 0 0 (fun x (_ : Unit) => x = r) (fun _ => []) := by
  refine kmeti rfl (Nat.le_of_ble_eq_true rfl) ?_
  intro p e s m args below meth c ls A Q X hV hret hl
  have X : kC p s m c cX12_isSign 1 RX12 args E A := X
  have hx := X.1
  have hb := X.2.1
  have hl : lv_has ls 1 [(0, .int p1)] := hl
  rw [f_X12_isSign] at h
  refine lv_iload_n hx hb dX12_isSign_0 rfl (lv_at hl 0 rfl) ?_
  refine lv_bipush (v := 60) hx hb dX12_isSign_1 (by decide) ?_
  refine lv_icmp_eq (tgt := 18) hx hb dX12_isSign_3 (by decide) (fun c1 => ?_) (fun c1 => ?_)
  · have h2 := itS c1 h
    clear h c1
    refine lv_iconst (v := 1) hx hb dX12_isSign_18 (by decide) ?_
    refine lv_goto (tgt := 23) hx hb dX12_isSign_19 (by decide) ?_
    have q4 := tup1_s h2
    clear h2
    exact hret _ () _ _ _ _ q4 rfl hV dX12_isSign_23
  · have h3 := ieS c1 h
    clear h c1
    refine lv_iload_n hx hb dX12_isSign_6 rfl (lv_at hl 0 rfl) ?_
    refine lv_bipush (v := 62) hx hb dX12_isSign_7 (by decide) ?_
    refine lv_icmp_eq (tgt := 18) hx hb dX12_isSign_9 (by decide) (fun c5 => ?_) (fun c5 => ?_)
    · have h6 := itS c5 h3
      clear h3 c5
      refine lv_iconst (v := 1) hx hb dX12_isSign_18 (by decide) ?_
      refine lv_goto (tgt := 23) hx hb dX12_isSign_19 (by decide) ?_
      have q8 := tup1_s h6
      clear h6
      exact hret _ () _ _ _ _ q8 rfl hV dX12_isSign_23
    · have h7 := ieS c5 h3
      clear h3 c5
      refine lv_iload_n hx hb dX12_isSign_12 rfl (lv_at hl 0 rfl) ?_
      refine lv_bipush (v := 61) hx hb dX12_isSign_13 (by decide) ?_
      refine lv_icmp_ne (tgt := 22) hx hb dX12_isSign_15 (by decide) (fun c9 => ?_) (fun c9 => ?_)
      · have h10 := ieS c9 h7
        clear h7 c9
        refine lv_iconst (v := 0) hx hb dX12_isSign_22 (by decide) ?_
        have q12 := tup1_s h10
        clear h10
        exact hret _ () _ _ _ _ q12 rfl hV dX12_isSign_23
      · have h11 := itS c9 h7
        clear h7 c9
        refine lv_iconst (v := 1) hx hb dX12_isSign_18 (by decide) ?_
        refine lv_goto (tgt := 23) hx hb dX12_isSign_19 (by decide) ?_
        have q13 := tup1_s h11
        clear h11
        exact hret _ () _ _ _ _ q13 rfl hV dX12_isSign_23
abbrev r_X12_isValue : Room := { frames := 0, cells := 0, slots := 0, locals := 0 }
set_option maxHeartbeats 4000000 in
set_option maxRecDepth 100000 in
theorem c_X12_isValue (l : Launch) (E : kE) (sz : Nat) (p1 : Int32) (r : Int32) (h : f_X12_isValue p1 = some (r)) : kMi l yX12_isValue cX12_isValue 1 (some .boolean) r_X12_isValue [.int p1] E [] sz 0 0 (fun x (_ : Unit) => x = r) (fun _ => []) := by
  refine kmeti rfl (Nat.le_of_ble_eq_true rfl) ?_
  intro p e s m args below meth c ls A Q X hV hret hl
  have X : kC p s m c cX12_isValue 1 RX12 args E A := X
  have hx := X.1
  have hb := X.2.1
  have hl : lv_has ls 1 [(0, .int p1)] := hl
  rw [f_X12_isValue] at h
  refine lv_iload_n hx hb dX12_isValue_0 rfl (lv_at hl 0 rfl) ?_
  refine lv_bipush (v := 97) hx hb dX12_isValue_1 (by decide) ?_
  refine lv_icmp_eq (tgt := 78) hx hb dX12_isValue_3 (by decide) (fun c1 => ?_) (fun c1 => ?_)
  · have h2 := itS c1 h
    clear h c1
    refine lv_iconst (v := 1) hx hb dX12_isValue_78 (by decide) ?_
    refine lv_goto (tgt := 83) hx hb dX12_isValue_79 (by decide) ?_
    have q4 := tup1_s h2
    clear h2
    exact hret _ () _ _ _ _ q4 rfl hV dX12_isValue_83
  · have h3 := ieS c1 h
    clear h c1
    refine lv_iload_n hx hb dX12_isValue_6 rfl (lv_at hl 0 rfl) ?_
    refine lv_bipush (v := 98) hx hb dX12_isValue_7 (by decide) ?_
    refine lv_icmp_eq (tgt := 78) hx hb dX12_isValue_9 (by decide) (fun c5 => ?_) (fun c5 => ?_)
    · have h6 := itS c5 h3
      clear h3 c5
      refine lv_iconst (v := 1) hx hb dX12_isValue_78 (by decide) ?_
      refine lv_goto (tgt := 83) hx hb dX12_isValue_79 (by decide) ?_
      have q8 := tup1_s h6
      clear h6
      exact hret _ () _ _ _ _ q8 rfl hV dX12_isValue_83
    · have h7 := ieS c5 h3
      clear h3 c5
      refine lv_iload_n hx hb dX12_isValue_12 rfl (lv_at hl 0 rfl) ?_
      refine lv_bipush (v := 100) hx hb dX12_isValue_13 (by decide) ?_
      refine lv_icmp_eq (tgt := 78) hx hb dX12_isValue_15 (by decide) (fun c9 => ?_) (fun c9 => ?_)
      · have h10 := itS c9 h7
        clear h7 c9
        refine lv_iconst (v := 1) hx hb dX12_isValue_78 (by decide) ?_
        refine lv_goto (tgt := 83) hx hb dX12_isValue_79 (by decide) ?_
        have q12 := tup1_s h10
        clear h10
        exact hret _ () _ _ _ _ q12 rfl hV dX12_isValue_83
      · have h11 := ieS c9 h7
        clear h7 c9
        refine lv_iload_n hx hb dX12_isValue_18 rfl (lv_at hl 0 rfl) ?_
        refine lv_bipush (v := 102) hx hb dX12_isValue_19 (by decide) ?_
        refine lv_icmp_eq (tgt := 78) hx hb dX12_isValue_21 (by decide) (fun c13 => ?_) (fun c13 => ?_)
        · have h14 := itS c13 h11
          clear h11 c13
          refine lv_iconst (v := 1) hx hb dX12_isValue_78 (by decide) ?_
          refine lv_goto (tgt := 83) hx hb dX12_isValue_79 (by decide) ?_
          have q16 := tup1_s h14
          clear h14
          exact hret _ () _ _ _ _ q16 rfl hV dX12_isValue_83
        · have h15 := ieS c13 h11
          clear h11 c13
          refine lv_iload_n hx hb dX12_isValue_24 rfl (lv_at hl 0 rfl) ?_
          refine lv_bipush (v := 103) hx hb dX12_isValue_25 (by decide) ?_
          refine lv_icmp_eq (tgt := 78) hx hb dX12_isValue_27 (by decide) (fun c17 => ?_) (fun c17 => ?_)
          · have h18 := itS c17 h15
            clear h15 c17
            refine lv_iconst (v := 1) hx hb dX12_isValue_78 (by decide) ?_
            refine lv_goto (tgt := 83) hx hb dX12_isValue_79 (by decide) ?_
            have q20 := tup1_s h18
            clear h18
            exact hret _ () _ _ _ _ q20 rfl hV dX12_isValue_83
          · have h19 := ieS c17 h15
            clear h15 c17
            refine lv_iload_n hx hb dX12_isValue_30 rfl (lv_at hl 0 rfl) ?_
            refine lv_bipush (v := 104) hx hb dX12_isValue_31 (by decide) ?_
            refine lv_icmp_eq (tgt := 78) hx hb dX12_isValue_33 (by decide) (fun c21 => ?_) (fun c21 => ?_)
            · have h22 := itS c21 h19
              clear h19 c21
              refine lv_iconst (v := 1) hx hb dX12_isValue_78 (by decide) ?_
              refine lv_goto (tgt := 83) hx hb dX12_isValue_79 (by decide) ?_
              have q24 := tup1_s h22
              clear h22
              exact hret _ () _ _ _ _ q24 rfl hV dX12_isValue_83
            · have h23 := ieS c21 h19
              clear h19 c21
              refine lv_iload_n hx hb dX12_isValue_36 rfl (lv_at hl 0 rfl) ?_
              refine lv_bipush (v := 108) hx hb dX12_isValue_37 (by decide) ?_
              refine lv_icmp_eq (tgt := 78) hx hb dX12_isValue_39 (by decide) (fun c25 => ?_) (fun c25 => ?_)
              · have h26 := itS c25 h23
                clear h23 c25
                refine lv_iconst (v := 1) hx hb dX12_isValue_78 (by decide) ?_
                refine lv_goto (tgt := 83) hx hb dX12_isValue_79 (by decide) ?_
                have q28 := tup1_s h26
                clear h26
                exact hret _ () _ _ _ _ q28 rfl hV dX12_isValue_83
              · have h27 := ieS c25 h23
                clear h23 c25
                refine lv_iload_n hx hb dX12_isValue_42 rfl (lv_at hl 0 rfl) ?_
                refine lv_bipush (v := 109) hx hb dX12_isValue_43 (by decide) ?_
                refine lv_icmp_eq (tgt := 78) hx hb dX12_isValue_45 (by decide) (fun c29 => ?_) (fun c29 => ?_)
                · have h30 := itS c29 h27
                  clear h27 c29
                  refine lv_iconst (v := 1) hx hb dX12_isValue_78 (by decide) ?_
                  refine lv_goto (tgt := 83) hx hb dX12_isValue_79 (by decide) ?_
                  have q32 := tup1_s h30
                  clear h30
                  exact hret _ () _ _ _ _ q32 rfl hV dX12_isValue_83
                · have h31 := ieS c29 h27
                  clear h27 c29
                  refine lv_iload_n hx hb dX12_isValue_48 rfl (lv_at hl 0 rfl) ?_
                  refine lv_bipush (v := 110) hx hb dX12_isValue_49 (by decide) ?_
                  refine lv_icmp_eq (tgt := 78) hx hb dX12_isValue_51 (by decide) (fun c33 => ?_) (fun c33 => ?_)
                  · have h34 := itS c33 h31
                    clear h31 c33
                    refine lv_iconst (v := 1) hx hb dX12_isValue_78 (by decide) ?_
                    refine lv_goto (tgt := 83) hx hb dX12_isValue_79 (by decide) ?_
                    have q36 := tup1_s h34
                    clear h34
                    exact hret _ () _ _ _ _ q36 rfl hV dX12_isValue_83
                  · have h35 := ieS c33 h31
                    clear h31 c33
                    refine lv_iload_n hx hb dX12_isValue_54 rfl (lv_at hl 0 rfl) ?_
                    refine lv_bipush (v := 115) hx hb dX12_isValue_55 (by decide) ?_
                    refine lv_icmp_eq (tgt := 78) hx hb dX12_isValue_57 (by decide) (fun c37 => ?_) (fun c37 => ?_)
                    · have h38 := itS c37 h35
                      clear h35 c37
                      refine lv_iconst (v := 1) hx hb dX12_isValue_78 (by decide) ?_
                      refine lv_goto (tgt := 83) hx hb dX12_isValue_79 (by decide) ?_
                      have q40 := tup1_s h38
                      clear h38
                      exact hret _ () _ _ _ _ q40 rfl hV dX12_isValue_83
                    · have h39 := ieS c37 h35
                      clear h35 c37
                      refine lv_iload_n hx hb dX12_isValue_60 rfl (lv_at hl 0 rfl) ?_
                      refine lv_bipush (v := 116) hx hb dX12_isValue_61 (by decide) ?_
                      refine lv_icmp_eq (tgt := 78) hx hb dX12_isValue_63 (by decide) (fun c41 => ?_) (fun c41 => ?_)
                      · have h42 := itS c41 h39
                        clear h39 c41
                        refine lv_iconst (v := 1) hx hb dX12_isValue_78 (by decide) ?_
                        refine lv_goto (tgt := 83) hx hb dX12_isValue_79 (by decide) ?_
                        have q44 := tup1_s h42
                        clear h42
                        exact hret _ () _ _ _ _ q44 rfl hV dX12_isValue_83
                      · have h43 := ieS c41 h39
                        clear h39 c41
                        refine lv_iload_n hx hb dX12_isValue_66 rfl (lv_at hl 0 rfl) ?_
                        refine lv_bipush (v := 117) hx hb dX12_isValue_67 (by decide) ?_
                        refine lv_icmp_eq (tgt := 78) hx hb dX12_isValue_69 (by decide) (fun c45 => ?_) (fun c45 => ?_)
                        · have h46 := itS c45 h43
                          clear h43 c45
                          refine lv_iconst (v := 1) hx hb dX12_isValue_78 (by decide) ?_
                          refine lv_goto (tgt := 83) hx hb dX12_isValue_79 (by decide) ?_
                          have q48 := tup1_s h46
                          clear h46
                          exact hret _ () _ _ _ _ q48 rfl hV dX12_isValue_83
                        · have h47 := ieS c45 h43
                          clear h43 c45
                          refine lv_iload_n hx hb dX12_isValue_72 rfl (lv_at hl 0 rfl) ?_
                          refine lv_bipush (v := 120) hx hb dX12_isValue_73 (by decide) ?_
                          refine lv_icmp_ne (tgt := 82) hx hb dX12_isValue_75 (by decide) (fun c49 => ?_) (fun c49 => ?_)
                          · have h50 := ieS c49 h47
                            clear h47 c49
                            refine lv_iconst (v := 0) hx hb dX12_isValue_82 (by decide) ?_
                            have q52 := tup1_s h50
                            clear h50
                            exact hret _ () _ _ _ _ q52 rfl hV dX12_isValue_83
                          · have h51 := itS c49 h47
                            clear h47 c49
                            refine lv_iconst (v := 1) hx hb dX12_isValue_78 (by decide) ?_
                            refine lv_goto (tgt := 83) hx hb dX12_isValue_79 (by decide) ?_
                            have q53 := tup1_s h51
                            clear h51
                            exact hret _ () _ _ _ _ q53 rfl hV dX12_isValue_83
abbrev r_X12_sums : Room := { frames := 2, cells := 0, slots := 0, locals := 42 }
set_option maxHeartbeats 4000000 in
set_option maxRecDepth 100000 in
theorem c_X12_sums (l : Launch) (E : kE) (sz : Nat) (a0 a1 a2 a3 : Nat) (w0_0 w0_1 w0_2 w0_3 w0_4 w0_5 w0_6 w0_7 w0_8 w0_9 w0_10 w0_11 w0_12 w0_13 w0_14 w0_15 w0_18 w0_19 w0_21 w0_23 w0_25 w0_26 w0_28 w0_29 w0_30 w0_31 w0_32 w0_33 w0_34 w0_35 w0_36 w0_37 w0_38 w0_39 w0_40 w0_41 w0_42 w0_43 w0_44 w0_45 w0_46 w0_47 w0_48 w0_49 w0_50 w0_51 w0_52 w0_53 w0_54 w0_55 w0_56 w0_57 w0_58 w0_59 w0_60 w0_61 w0_62 w0_63 w0_64 w0_65 w0_66 : Value) (s_bad : Int32) (s_codes : Int32) (s_stacked : Int32) (s_newArg : Nat → Int32) (s_newCode : Nat → Int32) (s_stack : Nat → Int32) (p1 : Int32) (o_codes : Int32) (o_stacked : Int32) (o_newArg : Nat → Int32) (o_newCode : Nat → Int32) (h : f_X12_sums s_bad s_codes s_stacked s_newArg s_newCode s_stack p1 = some (o_codes, o_stacked, o_newArg, o_newCode)) : kMv l yX12_sums cX12_sums 2 r_X12_sums [.ref a0, .int p1] E [(a0, .inr (12, [w0_0, w0_1, w0_2, w0_3, w0_4, w0_5, w0_6, w0_7, w0_8, w0_9, w0_10, w0_11, w0_12, w0_13, w0_14, w0_15, .ref a2, .ref a1, w0_18, w0_19, .int s_bad, w0_21, .int s_codes, w0_23, .int s_stacked, w0_25, w0_26, .ref a3, w0_28, w0_29, w0_30, w0_31, w0_32, w0_33, w0_34, w0_35, w0_36, w0_37, w0_38, w0_39, w0_40, w0_41, w0_42, w0_43, w0_44, w0_45, w0_46, w0_47, w0_48, w0_49, w0_50, w0_51, w0_52, w0_53, w0_54, w0_55, w0_56, w0_57, w0_58, w0_59, w0_60, w0_61, w0_62, w0_63, w0_64, w0_65, w0_66])), (a1, .inl (E.2 0, 120, .inl s_newArg)), (a2, .inl (E.2 0, 120, .inl s_newCode)), (a3, .inl (E.2 0, 160, .inl s_stack))] sz 0 0 (fun (_ : Unit) => True) (fun _ => [(a0, .inr (12, [w0_0, w0_1, w0_2, w0_3, w0_4, w0_5, w0_6, w0_7, w0_8, w0_9, w0_10, w0_11, w0_12, w0_13, w0_14, w0_15, .ref a2, .ref a1, w0_18, w0_19, .int s_bad, w0_21, .int o_codes, w0_23, .int o_stacked, w0_25, w0_26, .ref a3, w0_28, w0_29, w0_30, w0_31, w0_32, w0_33, w0_34, w0_35, w0_36, w0_37, w0_38, w0_39, w0_40, w0_41, w0_42, w0_43, w0_44, w0_45, w0_46, w0_47, w0_48, w0_49, w0_50, w0_51, w0_52, w0_53, w0_54, w0_55, w0_56, w0_57, w0_58, w0_59, w0_60, w0_61, w0_62, w0_63, w0_64, w0_65, w0_66])), (a1, .inl (E.2 0, 120, .inl o_newArg)), (a2, .inl (E.2 0, 120, .inl o_newCode)), (a3, .inl (E.2 0, 160, .inl s_stack))]) := by
  refine kmetv rfl (Nat.le_of_ble_eq_true rfl) ?_
  intro p e s m args below meth c ls A Q X hnm hV hret hl
  have X : kC p s m c cX12_sums 2 RX12 args E A := X
  have hx := X.1
  have hb := X.2.1
  have hl : lv_has ls 2 [(0, .ref a0), (1, .int p1)] := hl
  rw [f_X12_sums] at h
  have L0 : ∀ (n0 : Nat) (codes__1 : Int32) (stacked__2 : Int32) (newArg__3 : Nat → Int32) (newCode__4 : Nat → Int32) (H : Heap) (locs : List Loc) (ls : Array Slot), (f_X12_sums_L0 s_bad s_stack p1  n0) codes__1 stacked__2 newArg__3 newCode__4 = some (o_codes, o_stacked, o_newArg, o_newCode) → kV E A s.heap H locs [(a0, .inr (12, [w0_0, w0_1, w0_2, w0_3, w0_4, w0_5, w0_6, w0_7, w0_8, w0_9, w0_10, w0_11, w0_12, w0_13, w0_14, w0_15, .ref a2, .ref a1, w0_18, w0_19, .int s_bad, w0_21, .int codes__1, w0_23, .int stacked__2, w0_25, w0_26, .ref a3, w0_28, w0_29, w0_30, w0_31, w0_32, w0_33, w0_34, w0_35, w0_36, w0_37, w0_38, w0_39, w0_40, w0_41, w0_42, w0_43, w0_44, w0_45, w0_46, w0_47, w0_48, w0_49, w0_50, w0_51, w0_52, w0_53, w0_54, w0_55, w0_56, w0_57, w0_58, w0_59, w0_60, w0_61, w0_62, w0_63, w0_64, w0_65, w0_66])), (a1, .inl (E.2 0, 120, .inl newArg__3)), (a2, .inl (E.2 0, 120, .inl newCode__4)), (a3, .inl (E.2 0, 160, .inl s_stack))] → lv_has ls 2 [(0, .ref a0), (1, .int p1)] → W p l e r_X12_sums s m args below meth c H locs 0 0 Q (F0 m 0 ls []) := by
    intro n0
    induction n0 with
    | zero =>
      intro codes__1 stacked__2 newArg__3 newCode__4 H locs ls hB0 hVB0 hlB0
      rw [f_X12_sums_L0] at hB0
      exact nomatch hB0
    | succ n0 ih0 =>
      intro codes__1 stacked__2 newArg__3 newCode__4 H locs ls hB0 hVB0 hlB0
      rw [f_X12_sums_L0] at hB0
      refine lv_aload_n hx hb dX12_sums_0 rfl (lv_at hlB0 0 rfl) ?_
      obtain ⟨r1_5, hc6, h7⟩ := cb1_s hB0
      clear hB0
      refine kgoiE (krunV (rest := []) X hVB0 [0, 3] (c_X12_top l E _ a0 a3 (w0_0) (w0_1) (w0_2) (w0_3) (w0_4) (w0_5) (w0_6) (w0_7) (w0_8) (w0_9) (w0_10) (w0_11) (w0_12) (w0_13) (w0_14) (w0_15) (.ref a2) (.ref a1) (w0_18) (w0_19) (.int s_bad) (w0_21) (.int codes__1) (w0_23) (w0_25) (w0_26) (w0_28) (w0_29) (w0_30) (w0_31) (w0_32) (w0_33) (w0_34) (w0_35) (w0_36) (w0_37) (w0_38) (w0_39) (w0_40) (w0_41) (w0_42) (w0_43) (w0_44) (w0_45) (w0_46) (w0_47) (w0_48) (w0_49) (w0_50) (w0_51) (w0_52) (w0_53) (w0_54) (w0_55) (w0_56) (w0_57) (w0_58) (w0_59) (w0_60) (w0_61) (w0_62) (w0_63) (w0_64) (w0_65) (w0_66) stacked__2 s_stack r1_5 hc6) mw_548 kb_X12_top (ci := 12) rfl rfl (by decide) rfl rfl hlB0.1 rfl (Nat.le_of_ble_eq_true rfl) dX12_sums_1 (by decide)) X hVB0 [0, 3] [1, 2] rfl rfl rfl (by decide) (fun u H locs hV8 => ?_)
      have hV8 : kV E A s.heap H locs [(a0, .inr (12, [w0_0, w0_1, w0_2, w0_3, w0_4, w0_5, w0_6, w0_7, w0_8, w0_9, w0_10, w0_11, w0_12, w0_13, w0_14, w0_15, .ref a2, .ref a1, w0_18, w0_19, .int s_bad, w0_21, .int codes__1, w0_23, .int stacked__2, w0_25, w0_26, .ref a3, w0_28, w0_29, w0_30, w0_31, w0_32, w0_33, w0_34, w0_35, w0_36, w0_37, w0_38, w0_39, w0_40, w0_41, w0_42, w0_43, w0_44, w0_45, w0_46, w0_47, w0_48, w0_49, w0_50, w0_51, w0_52, w0_53, w0_54, w0_55, w0_56, w0_57, w0_58, w0_59, w0_60, w0_61, w0_62, w0_63, w0_64, w0_65, w0_66])), (a1, .inl (E.2 0, 120, .inl newArg__3)), (a2, .inl (E.2 0, 120, .inl newCode__4)), (a3, .inl (E.2 0, 160, .inl s_stack))] := hV8.sub [2, 0, 1, 3] rfl rfl
      clear hVB0
      obtain ⟨r4_10, hc11, h12⟩ := cb1_s h7
      clear h7
      refine kgoiE (krunS (rest := []) X hV8 [] (c_X12_isTimes l E _ r1_5 r4_10 hc11) mw_538 kb_X12_isTimes (by decide) rfl rfl hlB0.1 rfl (Nat.le_of_ble_eq_true rfl) dX12_sums_4 (by decide)) X hV8 [] [0, 1, 2, 3] rfl rfl rfl (by decide) (fun u H locs hV13 => ?_)
      have hV13 : kV E A s.heap H locs [(a0, .inr (12, [w0_0, w0_1, w0_2, w0_3, w0_4, w0_5, w0_6, w0_7, w0_8, w0_9, w0_10, w0_11, w0_12, w0_13, w0_14, w0_15, .ref a2, .ref a1, w0_18, w0_19, .int s_bad, w0_21, .int codes__1, w0_23, .int stacked__2, w0_25, w0_26, .ref a3, w0_28, w0_29, w0_30, w0_31, w0_32, w0_33, w0_34, w0_35, w0_36, w0_37, w0_38, w0_39, w0_40, w0_41, w0_42, w0_43, w0_44, w0_45, w0_46, w0_47, w0_48, w0_49, w0_50, w0_51, w0_52, w0_53, w0_54, w0_55, w0_56, w0_57, w0_58, w0_59, w0_60, w0_61, w0_62, w0_63, w0_64, w0_65, w0_66])), (a1, .inl (E.2 0, 120, .inl newArg__3)), (a2, .inl (E.2 0, 120, .inl newCode__4)), (a3, .inl (E.2 0, 160, .inl s_stack))] := hV13.sub [0, 1, 2, 3] rfl rfl
      clear hV8
      have J24 : ∀  (H : Heap) (locs : List Loc) (ls : Array Slot), (f_X12_sums_J24 s_bad s_stack codes__1 stacked__2 newArg__3 newCode__4 (f_X12_sums_L0 s_bad s_stack p1  n0)) = some (o_codes, o_stacked, o_newArg, o_newCode) → kV E A s.heap H locs [(a0, .inr (12, [w0_0, w0_1, w0_2, w0_3, w0_4, w0_5, w0_6, w0_7, w0_8, w0_9, w0_10, w0_11, w0_12, w0_13, w0_14, w0_15, .ref a2, .ref a1, w0_18, w0_19, .int s_bad, w0_21, .int codes__1, w0_23, .int stacked__2, w0_25, w0_26, .ref a3, w0_28, w0_29, w0_30, w0_31, w0_32, w0_33, w0_34, w0_35, w0_36, w0_37, w0_38, w0_39, w0_40, w0_41, w0_42, w0_43, w0_44, w0_45, w0_46, w0_47, w0_48, w0_49, w0_50, w0_51, w0_52, w0_53, w0_54, w0_55, w0_56, w0_57, w0_58, w0_59, w0_60, w0_61, w0_62, w0_63, w0_64, w0_65, w0_66])), (a1, .inl (E.2 0, 120, .inl newArg__3)), (a2, .inl (E.2 0, 120, .inl newCode__4)), (a3, .inl (E.2 0, 160, .inl s_stack))] → lv_has ls 2 [(0, .ref a0), (1, .int p1)] → W p l e r_X12_sums s m args below meth c H locs 0 0 Q (F0 m 24 ls []) := by
        intro  H locs ls hB24 hVB24 hlB24
        rw [f_X12_sums_J24] at hB24
        refine lv_aload_n hx hb dX12_sums_24 rfl (lv_at hlB24 0 rfl) ?_
        refine lv_aload_n hx hb dX12_sums_25 rfl (lv_at hlB24 0 rfl) ?_
        obtain ⟨r26_15, hc16, h17⟩ := cb1_s hB24
        clear hB24
        refine kgoiE (krunV (rest := [.ref a0]) X hVB24 [0, 3] (c_X12_top l E _ a0 a3 (w0_0) (w0_1) (w0_2) (w0_3) (w0_4) (w0_5) (w0_6) (w0_7) (w0_8) (w0_9) (w0_10) (w0_11) (w0_12) (w0_13) (w0_14) (w0_15) (.ref a2) (.ref a1) (w0_18) (w0_19) (.int s_bad) (w0_21) (.int codes__1) (w0_23) (w0_25) (w0_26) (w0_28) (w0_29) (w0_30) (w0_31) (w0_32) (w0_33) (w0_34) (w0_35) (w0_36) (w0_37) (w0_38) (w0_39) (w0_40) (w0_41) (w0_42) (w0_43) (w0_44) (w0_45) (w0_46) (w0_47) (w0_48) (w0_49) (w0_50) (w0_51) (w0_52) (w0_53) (w0_54) (w0_55) (w0_56) (w0_57) (w0_58) (w0_59) (w0_60) (w0_61) (w0_62) (w0_63) (w0_64) (w0_65) (w0_66) stacked__2 s_stack r26_15 hc16) mw_548 kb_X12_top (ci := 12) rfl rfl (by decide) rfl rfl hlB24.1 rfl (Nat.le_of_ble_eq_true rfl) dX12_sums_26 (by decide)) X hVB24 [0, 3] [1, 2] rfl rfl rfl (by decide) (fun u H locs hV18 => ?_)
        have hV18 : kV E A s.heap H locs [(a0, .inr (12, [w0_0, w0_1, w0_2, w0_3, w0_4, w0_5, w0_6, w0_7, w0_8, w0_9, w0_10, w0_11, w0_12, w0_13, w0_14, w0_15, .ref a2, .ref a1, w0_18, w0_19, .int s_bad, w0_21, .int codes__1, w0_23, .int stacked__2, w0_25, w0_26, .ref a3, w0_28, w0_29, w0_30, w0_31, w0_32, w0_33, w0_34, w0_35, w0_36, w0_37, w0_38, w0_39, w0_40, w0_41, w0_42, w0_43, w0_44, w0_45, w0_46, w0_47, w0_48, w0_49, w0_50, w0_51, w0_52, w0_53, w0_54, w0_55, w0_56, w0_57, w0_58, w0_59, w0_60, w0_61, w0_62, w0_63, w0_64, w0_65, w0_66])), (a1, .inl (E.2 0, 120, .inl newArg__3)), (a2, .inl (E.2 0, 120, .inl newCode__4)), (a3, .inl (E.2 0, 160, .inl s_stack))] := hV18.sub [2, 0, 1, 3] rfl rfl
        clear hVB24
        refine lv_iconst (v := 0) hx hb dX12_sums_29 (by decide) ?_
        obtain ⟨o_codes30_20, o_newArg30_21, o_newCode30_22, hc23, h24⟩ := cb3_s h17
        clear h17
        refine kgov (krunV (rest := []) X hV18 [0, 1, 2] (c_X12_emit l E _ a0 a1 a2 (w0_0) (w0_1) (w0_2) (w0_3) (w0_4) (w0_5) (w0_6) (w0_7) (w0_8) (w0_9) (w0_10) (w0_11) (w0_12) (w0_13) (w0_14) (w0_15) (w0_18) (w0_19) (w0_21) (w0_23) (.int stacked__2) (w0_25) (w0_26) (.ref a3) (w0_28) (w0_29) (w0_30) (w0_31) (w0_32) (w0_33) (w0_34) (w0_35) (w0_36) (w0_37) (w0_38) (w0_39) (w0_40) (w0_41) (w0_42) (w0_43) (w0_44) (w0_45) (w0_46) (w0_47) (w0_48) (w0_49) (w0_50) (w0_51) (w0_52) (w0_53) (w0_54) (w0_55) (w0_56) (w0_57) (w0_58) (w0_59) (w0_60) (w0_61) (w0_62) (w0_63) (w0_64) (w0_65) (w0_66) s_bad codes__1 newArg__3 newCode__4 r26_15 0 o_codes30_20 o_newArg30_21 o_newCode30_22 hc23) mw_527 kb_X12_emit (ci := 12) rfl rfl (by decide) rfl rfl hlB24.1 rfl (Nat.le_of_ble_eq_true rfl) dX12_sums_30 (by decide)) X hV18 [0, 1, 2] [3] rfl rfl rfl (by decide) (fun u H locs hp26 hV25 => ?_)
        have hV25 : kV E A s.heap H locs [(a0, .inr (12, [w0_0, w0_1, w0_2, w0_3, w0_4, w0_5, w0_6, w0_7, w0_8, w0_9, w0_10, w0_11, w0_12, w0_13, w0_14, w0_15, .ref a2, .ref a1, w0_18, w0_19, .int s_bad, w0_21, .int o_codes30_20, w0_23, .int stacked__2, w0_25, w0_26, .ref a3, w0_28, w0_29, w0_30, w0_31, w0_32, w0_33, w0_34, w0_35, w0_36, w0_37, w0_38, w0_39, w0_40, w0_41, w0_42, w0_43, w0_44, w0_45, w0_46, w0_47, w0_48, w0_49, w0_50, w0_51, w0_52, w0_53, w0_54, w0_55, w0_56, w0_57, w0_58, w0_59, w0_60, w0_61, w0_62, w0_63, w0_64, w0_65, w0_66])), (a1, .inl (E.2 0, 120, .inl o_newArg30_21)), (a2, .inl (E.2 0, 120, .inl o_newCode30_22)), (a3, .inl (E.2 0, 160, .inl s_stack))] := hV25.sub [1, 2, 3, 0] rfl rfl
        clear hV18
        refine lv_aload_n hx hb dX12_sums_33 rfl (lv_at hlB24 0 rfl) ?_
        refine lv_dup hx hb dX12_sums_34 rfl ?_
        refine kget X hV25 (ci := 12) inlX12 rfl 0 rfl 24 (by decide) mw_482 rfl dX12_sums_35 ?_
        refine lv_iconst (v := 1) hx hb dX12_sums_38 (by decide) ?_
        refine lv_isub hx hb dX12_sums_39 ?_
        obtain ⟨v40_27, e28, h29⟩ := nmI_s h24
        clear h24
        refine ktopi e28 ?_
        clear e28
        refine kput X hV25 (ci := 12) inlX12 rfl tyX12 tyX12_ok nmX12 0 rfl 24 (by decide) mw_482 rfl rfl rfl (Nat.le_of_ble_eq_true rfl) dX12_sums_40 (fun H locs hV30 => ?_)
        have hV30 : kV E A s.heap H locs [(a0, .inr (12, [w0_0, w0_1, w0_2, w0_3, w0_4, w0_5, w0_6, w0_7, w0_8, w0_9, w0_10, w0_11, w0_12, w0_13, w0_14, w0_15, .ref a2, .ref a1, w0_18, w0_19, .int s_bad, w0_21, .int o_codes30_20, w0_23, .int v40_27, w0_25, w0_26, .ref a3, w0_28, w0_29, w0_30, w0_31, w0_32, w0_33, w0_34, w0_35, w0_36, w0_37, w0_38, w0_39, w0_40, w0_41, w0_42, w0_43, w0_44, w0_45, w0_46, w0_47, w0_48, w0_49, w0_50, w0_51, w0_52, w0_53, w0_54, w0_55, w0_56, w0_57, w0_58, w0_59, w0_60, w0_61, w0_62, w0_63, w0_64, w0_65, w0_66])), (a1, .inl (E.2 0, 120, .inl o_newArg30_21)), (a2, .inl (E.2 0, 120, .inl o_newCode30_22)), (a3, .inl (E.2 0, 160, .inl s_stack))] := hV30
        clear hV25
        refine lv_goto (tgt := 0) hx hb dX12_sums_43 (by decide) ?_
        exact ih0 o_codes30_20 v40_27 o_newArg30_21 o_newCode30_22 _ _ _ h29 hV30 (lv_sub hlB24 [0, 1] rfl)
      refine lv_if_ne (tgt := 24) hx hb dX12_sums_7 (by decide) (fun c31 => ?_) (fun c31 => ?_)
      · have h32 := ieS c31 h12
        clear h12 c31
        exact J24  _ _ _ h32 hV13 (lv_sub hlB0 [0, 1] rfl)
      · have h33 := itS c31 h12
        clear h12 c31
        refine lv_iload_n hx hb dX12_sums_10 rfl (lv_at hlB0 1 rfl) ?_
        refine lv_if_eq (tgt := 46) hx hb dX12_sums_11 (by decide) (fun c34 => ?_) (fun c34 => ?_)
        · have h35 := itS c34 h33
          clear h33 c34
          obtain ⟨q37, q38, q39, q40⟩ := tup4_s h35
          clear h35
          exact hret () _ _ _ _ trivial (by rw [← q37, ← q38, ← q39, ← q40]; exact hV13) dX12_sums_46
        · have h36 := ieS c34 h33
          clear h33 c34
          refine lv_aload_n hx hb dX12_sums_14 rfl (lv_at hlB0 0 rfl) ?_
          obtain ⟨r15_41, hc42, h43⟩ := cb1_s h36
          clear h36
          refine kgoiE (krunV (rest := []) X hV13 [0, 3] (c_X12_top l E _ a0 a3 (w0_0) (w0_1) (w0_2) (w0_3) (w0_4) (w0_5) (w0_6) (w0_7) (w0_8) (w0_9) (w0_10) (w0_11) (w0_12) (w0_13) (w0_14) (w0_15) (.ref a2) (.ref a1) (w0_18) (w0_19) (.int s_bad) (w0_21) (.int codes__1) (w0_23) (w0_25) (w0_26) (w0_28) (w0_29) (w0_30) (w0_31) (w0_32) (w0_33) (w0_34) (w0_35) (w0_36) (w0_37) (w0_38) (w0_39) (w0_40) (w0_41) (w0_42) (w0_43) (w0_44) (w0_45) (w0_46) (w0_47) (w0_48) (w0_49) (w0_50) (w0_51) (w0_52) (w0_53) (w0_54) (w0_55) (w0_56) (w0_57) (w0_58) (w0_59) (w0_60) (w0_61) (w0_62) (w0_63) (w0_64) (w0_65) (w0_66) stacked__2 s_stack r15_41 hc42) mw_548 kb_X12_top (ci := 12) rfl rfl (by decide) rfl rfl hlB0.1 rfl (Nat.le_of_ble_eq_true rfl) dX12_sums_15 (by decide)) X hV13 [0, 3] [1, 2] rfl rfl rfl (by decide) (fun u H locs hV44 => ?_)
          have hV44 : kV E A s.heap H locs [(a0, .inr (12, [w0_0, w0_1, w0_2, w0_3, w0_4, w0_5, w0_6, w0_7, w0_8, w0_9, w0_10, w0_11, w0_12, w0_13, w0_14, w0_15, .ref a2, .ref a1, w0_18, w0_19, .int s_bad, w0_21, .int codes__1, w0_23, .int stacked__2, w0_25, w0_26, .ref a3, w0_28, w0_29, w0_30, w0_31, w0_32, w0_33, w0_34, w0_35, w0_36, w0_37, w0_38, w0_39, w0_40, w0_41, w0_42, w0_43, w0_44, w0_45, w0_46, w0_47, w0_48, w0_49, w0_50, w0_51, w0_52, w0_53, w0_54, w0_55, w0_56, w0_57, w0_58, w0_59, w0_60, w0_61, w0_62, w0_63, w0_64, w0_65, w0_66])), (a1, .inl (E.2 0, 120, .inl newArg__3)), (a2, .inl (E.2 0, 120, .inl newCode__4)), (a3, .inl (E.2 0, 160, .inl s_stack))] := hV44.sub [2, 0, 1, 3] rfl rfl
          clear hV13
          obtain ⟨r18_46, hc47, h48⟩ := cb1_s h43
          clear h43
          refine kgoiE (krunS (rest := []) X hV44 [] (c_X12_isPlus l E _ r15_41 r18_46 hc47) mw_541 kb_X12_isPlus (by decide) rfl rfl hlB0.1 rfl (Nat.le_of_ble_eq_true rfl) dX12_sums_18 (by decide)) X hV44 [] [0, 1, 2, 3] rfl rfl rfl (by decide) (fun u H locs hV49 => ?_)
          have hV49 : kV E A s.heap H locs [(a0, .inr (12, [w0_0, w0_1, w0_2, w0_3, w0_4, w0_5, w0_6, w0_7, w0_8, w0_9, w0_10, w0_11, w0_12, w0_13, w0_14, w0_15, .ref a2, .ref a1, w0_18, w0_19, .int s_bad, w0_21, .int codes__1, w0_23, .int stacked__2, w0_25, w0_26, .ref a3, w0_28, w0_29, w0_30, w0_31, w0_32, w0_33, w0_34, w0_35, w0_36, w0_37, w0_38, w0_39, w0_40, w0_41, w0_42, w0_43, w0_44, w0_45, w0_46, w0_47, w0_48, w0_49, w0_50, w0_51, w0_52, w0_53, w0_54, w0_55, w0_56, w0_57, w0_58, w0_59, w0_60, w0_61, w0_62, w0_63, w0_64, w0_65, w0_66])), (a1, .inl (E.2 0, 120, .inl newArg__3)), (a2, .inl (E.2 0, 120, .inl newCode__4)), (a3, .inl (E.2 0, 160, .inl s_stack))] := hV49.sub [0, 1, 2, 3] rfl rfl
          clear hV44
          refine lv_if_eq (tgt := 46) hx hb dX12_sums_21 (by decide) (fun c51 => ?_) (fun c51 => ?_)
          · have h52 := itS c51 h48
            clear h48 c51
            obtain ⟨q54, q55, q56, q57⟩ := tup4_s h52
            clear h52
            exact hret () _ _ _ _ trivial (by rw [← q54, ← q55, ← q56, ← q57]; exact hV49) dX12_sums_46
          · have h53 := ieS c51 h48
            clear h48 c51
            exact J24  _ _ _ h53 hV49 (lv_sub hlB0 [0, 1] rfl)
  exact L0 FU s_codes s_stacked s_newArg s_newCode _ _ _ h hV (lv_sub hl [0, 1] rfl)
abbrev r_X12_joins : Room := { frames := 2, cells := 0, slots := 0, locals := 42 }
set_option maxHeartbeats 4000000 in
set_option maxRecDepth 100000 in
theorem c_X12_joins (l : Launch) (E : kE) (sz : Nat) (a0 a1 a2 a3 : Nat) (w0_0 w0_1 w0_2 w0_3 w0_4 w0_5 w0_6 w0_7 w0_8 w0_9 w0_10 w0_11 w0_12 w0_13 w0_14 w0_15 w0_18 w0_19 w0_21 w0_23 w0_25 w0_26 w0_28 w0_29 w0_30 w0_31 w0_32 w0_33 w0_34 w0_35 w0_36 w0_37 w0_38 w0_39 w0_40 w0_41 w0_42 w0_43 w0_44 w0_45 w0_46 w0_47 w0_48 w0_49 w0_50 w0_51 w0_52 w0_53 w0_54 w0_55 w0_56 w0_57 w0_58 w0_59 w0_60 w0_61 w0_62 w0_63 w0_64 w0_65 w0_66 : Value) (s_bad : Int32) (s_codes : Int32) (s_stacked : Int32) (s_newArg : Nat → Int32) (s_newCode : Nat → Int32) (s_stack : Nat → Int32) (p1 : Int32) (o_codes : Int32) (o_stacked : Int32) (o_newArg : Nat → Int32) (o_newCode : Nat → Int32) (h : f_X12_joins s_bad s_codes s_stacked s_newArg s_newCode s_stack p1 = some (o_codes, o_stacked, o_newArg, o_newCode)) : kMv l yX12_joins cX12_joins 2 r_X12_joins [.ref a0, .int p1] E [(a0, .inr (12, [w0_0, w0_1, w0_2, w0_3, w0_4, w0_5, w0_6, w0_7, w0_8, w0_9, w0_10, w0_11, w0_12, w0_13, w0_14, w0_15, .ref a2, .ref a1, w0_18, w0_19, .int s_bad, w0_21, .int s_codes, w0_23, .int s_stacked, w0_25, w0_26, .ref a3, w0_28, w0_29, w0_30, w0_31, w0_32, w0_33, w0_34, w0_35, w0_36, w0_37, w0_38, w0_39, w0_40, w0_41, w0_42, w0_43, w0_44, w0_45, w0_46, w0_47, w0_48, w0_49, w0_50, w0_51, w0_52, w0_53, w0_54, w0_55, w0_56, w0_57, w0_58, w0_59, w0_60, w0_61, w0_62, w0_63, w0_64, w0_65, w0_66])), (a1, .inl (E.2 0, 120, .inl s_newArg)), (a2, .inl (E.2 0, 120, .inl s_newCode)), (a3, .inl (E.2 0, 160, .inl s_stack))] sz 0 0 (fun (_ : Unit) => True) (fun _ => [(a0, .inr (12, [w0_0, w0_1, w0_2, w0_3, w0_4, w0_5, w0_6, w0_7, w0_8, w0_9, w0_10, w0_11, w0_12, w0_13, w0_14, w0_15, .ref a2, .ref a1, w0_18, w0_19, .int s_bad, w0_21, .int o_codes, w0_23, .int o_stacked, w0_25, w0_26, .ref a3, w0_28, w0_29, w0_30, w0_31, w0_32, w0_33, w0_34, w0_35, w0_36, w0_37, w0_38, w0_39, w0_40, w0_41, w0_42, w0_43, w0_44, w0_45, w0_46, w0_47, w0_48, w0_49, w0_50, w0_51, w0_52, w0_53, w0_54, w0_55, w0_56, w0_57, w0_58, w0_59, w0_60, w0_61, w0_62, w0_63, w0_64, w0_65, w0_66])), (a1, .inl (E.2 0, 120, .inl o_newArg)), (a2, .inl (E.2 0, 120, .inl o_newCode)), (a3, .inl (E.2 0, 160, .inl s_stack))]) := by
  refine kmetv rfl (Nat.le_of_ble_eq_true rfl) ?_
  intro p e s m args below meth c ls A Q X hnm hV hret hl
  have X : kC p s m c cX12_joins 2 RX12 args E A := X
  have hx := X.1
  have hb := X.2.1
  have hl : lv_has ls 2 [(0, .ref a0), (1, .int p1)] := hl
  rw [f_X12_joins] at h
  have L0 : ∀ (n0 : Nat) (codes__1 : Int32) (stacked__2 : Int32) (newArg__3 : Nat → Int32) (newCode__4 : Nat → Int32) (H : Heap) (locs : List Loc) (ls : Array Slot), (f_X12_joins_L0 s_bad s_stack p1  n0) codes__1 stacked__2 newArg__3 newCode__4 = some (o_codes, o_stacked, o_newArg, o_newCode) → kV E A s.heap H locs [(a0, .inr (12, [w0_0, w0_1, w0_2, w0_3, w0_4, w0_5, w0_6, w0_7, w0_8, w0_9, w0_10, w0_11, w0_12, w0_13, w0_14, w0_15, .ref a2, .ref a1, w0_18, w0_19, .int s_bad, w0_21, .int codes__1, w0_23, .int stacked__2, w0_25, w0_26, .ref a3, w0_28, w0_29, w0_30, w0_31, w0_32, w0_33, w0_34, w0_35, w0_36, w0_37, w0_38, w0_39, w0_40, w0_41, w0_42, w0_43, w0_44, w0_45, w0_46, w0_47, w0_48, w0_49, w0_50, w0_51, w0_52, w0_53, w0_54, w0_55, w0_56, w0_57, w0_58, w0_59, w0_60, w0_61, w0_62, w0_63, w0_64, w0_65, w0_66])), (a1, .inl (E.2 0, 120, .inl newArg__3)), (a2, .inl (E.2 0, 120, .inl newCode__4)), (a3, .inl (E.2 0, 160, .inl s_stack))] → lv_has ls 2 [(0, .ref a0), (1, .int p1)] → W p l e r_X12_joins s m args below meth c H locs 0 0 Q (F0 m 0 ls []) := by
    intro n0
    induction n0 with
    | zero =>
      intro codes__1 stacked__2 newArg__3 newCode__4 H locs ls hB0 hVB0 hlB0
      rw [f_X12_joins_L0] at hB0
      exact nomatch hB0
    | succ n0 ih0 =>
      intro codes__1 stacked__2 newArg__3 newCode__4 H locs ls hB0 hVB0 hlB0
      rw [f_X12_joins_L0] at hB0
      refine lv_aload_n hx hb dX12_joins_0 rfl (lv_at hlB0 0 rfl) ?_
      obtain ⟨r1_5, hc6, h7⟩ := cb1_s hB0
      clear hB0
      refine kgoiE (krunV (rest := []) X hVB0 [0, 3] (c_X12_top l E _ a0 a3 (w0_0) (w0_1) (w0_2) (w0_3) (w0_4) (w0_5) (w0_6) (w0_7) (w0_8) (w0_9) (w0_10) (w0_11) (w0_12) (w0_13) (w0_14) (w0_15) (.ref a2) (.ref a1) (w0_18) (w0_19) (.int s_bad) (w0_21) (.int codes__1) (w0_23) (w0_25) (w0_26) (w0_28) (w0_29) (w0_30) (w0_31) (w0_32) (w0_33) (w0_34) (w0_35) (w0_36) (w0_37) (w0_38) (w0_39) (w0_40) (w0_41) (w0_42) (w0_43) (w0_44) (w0_45) (w0_46) (w0_47) (w0_48) (w0_49) (w0_50) (w0_51) (w0_52) (w0_53) (w0_54) (w0_55) (w0_56) (w0_57) (w0_58) (w0_59) (w0_60) (w0_61) (w0_62) (w0_63) (w0_64) (w0_65) (w0_66) stacked__2 s_stack r1_5 hc6) mw_548 kb_X12_top (ci := 12) rfl rfl (by decide) rfl rfl hlB0.1 rfl (Nat.le_of_ble_eq_true rfl) dX12_joins_1 (by decide)) X hVB0 [0, 3] [1, 2] rfl rfl rfl (by decide) (fun u H locs hV8 => ?_)
      have hV8 : kV E A s.heap H locs [(a0, .inr (12, [w0_0, w0_1, w0_2, w0_3, w0_4, w0_5, w0_6, w0_7, w0_8, w0_9, w0_10, w0_11, w0_12, w0_13, w0_14, w0_15, .ref a2, .ref a1, w0_18, w0_19, .int s_bad, w0_21, .int codes__1, w0_23, .int stacked__2, w0_25, w0_26, .ref a3, w0_28, w0_29, w0_30, w0_31, w0_32, w0_33, w0_34, w0_35, w0_36, w0_37, w0_38, w0_39, w0_40, w0_41, w0_42, w0_43, w0_44, w0_45, w0_46, w0_47, w0_48, w0_49, w0_50, w0_51, w0_52, w0_53, w0_54, w0_55, w0_56, w0_57, w0_58, w0_59, w0_60, w0_61, w0_62, w0_63, w0_64, w0_65, w0_66])), (a1, .inl (E.2 0, 120, .inl newArg__3)), (a2, .inl (E.2 0, 120, .inl newCode__4)), (a3, .inl (E.2 0, 160, .inl s_stack))] := hV8.sub [2, 0, 1, 3] rfl rfl
      clear hVB0
      refine lv_bipush (v := 38) hx hb dX12_joins_4 (by decide) ?_
      have J22 : ∀  (H : Heap) (locs : List Loc) (ls : Array Slot), (f_X12_joins_J22 s_bad s_stack codes__1 stacked__2 newArg__3 newCode__4 (f_X12_joins_L0 s_bad s_stack p1  n0)) = some (o_codes, o_stacked, o_newArg, o_newCode) → kV E A s.heap H locs [(a0, .inr (12, [w0_0, w0_1, w0_2, w0_3, w0_4, w0_5, w0_6, w0_7, w0_8, w0_9, w0_10, w0_11, w0_12, w0_13, w0_14, w0_15, .ref a2, .ref a1, w0_18, w0_19, .int s_bad, w0_21, .int codes__1, w0_23, .int stacked__2, w0_25, w0_26, .ref a3, w0_28, w0_29, w0_30, w0_31, w0_32, w0_33, w0_34, w0_35, w0_36, w0_37, w0_38, w0_39, w0_40, w0_41, w0_42, w0_43, w0_44, w0_45, w0_46, w0_47, w0_48, w0_49, w0_50, w0_51, w0_52, w0_53, w0_54, w0_55, w0_56, w0_57, w0_58, w0_59, w0_60, w0_61, w0_62, w0_63, w0_64, w0_65, w0_66])), (a1, .inl (E.2 0, 120, .inl newArg__3)), (a2, .inl (E.2 0, 120, .inl newCode__4)), (a3, .inl (E.2 0, 160, .inl s_stack))] → lv_has ls 2 [(0, .ref a0), (1, .int p1)] → W p l e r_X12_joins s m args below meth c H locs 0 0 Q (F0 m 22 ls []) := by
        intro  H locs ls hB22 hVB22 hlB22
        rw [f_X12_joins_J22] at hB22
        refine lv_aload_n hx hb dX12_joins_22 rfl (lv_at hlB22 0 rfl) ?_
        refine lv_aload_n hx hb dX12_joins_23 rfl (lv_at hlB22 0 rfl) ?_
        obtain ⟨r24_10, hc11, h12⟩ := cb1_s hB22
        clear hB22
        refine kgoiE (krunV (rest := [.ref a0]) X hVB22 [0, 3] (c_X12_top l E _ a0 a3 (w0_0) (w0_1) (w0_2) (w0_3) (w0_4) (w0_5) (w0_6) (w0_7) (w0_8) (w0_9) (w0_10) (w0_11) (w0_12) (w0_13) (w0_14) (w0_15) (.ref a2) (.ref a1) (w0_18) (w0_19) (.int s_bad) (w0_21) (.int codes__1) (w0_23) (w0_25) (w0_26) (w0_28) (w0_29) (w0_30) (w0_31) (w0_32) (w0_33) (w0_34) (w0_35) (w0_36) (w0_37) (w0_38) (w0_39) (w0_40) (w0_41) (w0_42) (w0_43) (w0_44) (w0_45) (w0_46) (w0_47) (w0_48) (w0_49) (w0_50) (w0_51) (w0_52) (w0_53) (w0_54) (w0_55) (w0_56) (w0_57) (w0_58) (w0_59) (w0_60) (w0_61) (w0_62) (w0_63) (w0_64) (w0_65) (w0_66) stacked__2 s_stack r24_10 hc11) mw_548 kb_X12_top (ci := 12) rfl rfl (by decide) rfl rfl hlB22.1 rfl (Nat.le_of_ble_eq_true rfl) dX12_joins_24 (by decide)) X hVB22 [0, 3] [1, 2] rfl rfl rfl (by decide) (fun u H locs hV13 => ?_)
        have hV13 : kV E A s.heap H locs [(a0, .inr (12, [w0_0, w0_1, w0_2, w0_3, w0_4, w0_5, w0_6, w0_7, w0_8, w0_9, w0_10, w0_11, w0_12, w0_13, w0_14, w0_15, .ref a2, .ref a1, w0_18, w0_19, .int s_bad, w0_21, .int codes__1, w0_23, .int stacked__2, w0_25, w0_26, .ref a3, w0_28, w0_29, w0_30, w0_31, w0_32, w0_33, w0_34, w0_35, w0_36, w0_37, w0_38, w0_39, w0_40, w0_41, w0_42, w0_43, w0_44, w0_45, w0_46, w0_47, w0_48, w0_49, w0_50, w0_51, w0_52, w0_53, w0_54, w0_55, w0_56, w0_57, w0_58, w0_59, w0_60, w0_61, w0_62, w0_63, w0_64, w0_65, w0_66])), (a1, .inl (E.2 0, 120, .inl newArg__3)), (a2, .inl (E.2 0, 120, .inl newCode__4)), (a3, .inl (E.2 0, 160, .inl s_stack))] := hV13.sub [2, 0, 1, 3] rfl rfl
        clear hVB22
        refine lv_iconst (v := 0) hx hb dX12_joins_27 (by decide) ?_
        obtain ⟨o_codes28_15, o_newArg28_16, o_newCode28_17, hc18, h19⟩ := cb3_s h12
        clear h12
        refine kgov (krunV (rest := []) X hV13 [0, 1, 2] (c_X12_emit l E _ a0 a1 a2 (w0_0) (w0_1) (w0_2) (w0_3) (w0_4) (w0_5) (w0_6) (w0_7) (w0_8) (w0_9) (w0_10) (w0_11) (w0_12) (w0_13) (w0_14) (w0_15) (w0_18) (w0_19) (w0_21) (w0_23) (.int stacked__2) (w0_25) (w0_26) (.ref a3) (w0_28) (w0_29) (w0_30) (w0_31) (w0_32) (w0_33) (w0_34) (w0_35) (w0_36) (w0_37) (w0_38) (w0_39) (w0_40) (w0_41) (w0_42) (w0_43) (w0_44) (w0_45) (w0_46) (w0_47) (w0_48) (w0_49) (w0_50) (w0_51) (w0_52) (w0_53) (w0_54) (w0_55) (w0_56) (w0_57) (w0_58) (w0_59) (w0_60) (w0_61) (w0_62) (w0_63) (w0_64) (w0_65) (w0_66) s_bad codes__1 newArg__3 newCode__4 r24_10 0 o_codes28_15 o_newArg28_16 o_newCode28_17 hc18) mw_527 kb_X12_emit (ci := 12) rfl rfl (by decide) rfl rfl hlB22.1 rfl (Nat.le_of_ble_eq_true rfl) dX12_joins_28 (by decide)) X hV13 [0, 1, 2] [3] rfl rfl rfl (by decide) (fun u H locs hp21 hV20 => ?_)
        have hV20 : kV E A s.heap H locs [(a0, .inr (12, [w0_0, w0_1, w0_2, w0_3, w0_4, w0_5, w0_6, w0_7, w0_8, w0_9, w0_10, w0_11, w0_12, w0_13, w0_14, w0_15, .ref a2, .ref a1, w0_18, w0_19, .int s_bad, w0_21, .int o_codes28_15, w0_23, .int stacked__2, w0_25, w0_26, .ref a3, w0_28, w0_29, w0_30, w0_31, w0_32, w0_33, w0_34, w0_35, w0_36, w0_37, w0_38, w0_39, w0_40, w0_41, w0_42, w0_43, w0_44, w0_45, w0_46, w0_47, w0_48, w0_49, w0_50, w0_51, w0_52, w0_53, w0_54, w0_55, w0_56, w0_57, w0_58, w0_59, w0_60, w0_61, w0_62, w0_63, w0_64, w0_65, w0_66])), (a1, .inl (E.2 0, 120, .inl o_newArg28_16)), (a2, .inl (E.2 0, 120, .inl o_newCode28_17)), (a3, .inl (E.2 0, 160, .inl s_stack))] := hV20.sub [1, 2, 3, 0] rfl rfl
        clear hV13
        refine lv_aload_n hx hb dX12_joins_31 rfl (lv_at hlB22 0 rfl) ?_
        refine lv_dup hx hb dX12_joins_32 rfl ?_
        refine kget X hV20 (ci := 12) inlX12 rfl 0 rfl 24 (by decide) mw_482 rfl dX12_joins_33 ?_
        refine lv_iconst (v := 1) hx hb dX12_joins_36 (by decide) ?_
        refine lv_isub hx hb dX12_joins_37 ?_
        obtain ⟨v38_22, e23, h24⟩ := nmI_s h19
        clear h19
        refine ktopi e23 ?_
        clear e23
        refine kput X hV20 (ci := 12) inlX12 rfl tyX12 tyX12_ok nmX12 0 rfl 24 (by decide) mw_482 rfl rfl rfl (Nat.le_of_ble_eq_true rfl) dX12_joins_38 (fun H locs hV25 => ?_)
        have hV25 : kV E A s.heap H locs [(a0, .inr (12, [w0_0, w0_1, w0_2, w0_3, w0_4, w0_5, w0_6, w0_7, w0_8, w0_9, w0_10, w0_11, w0_12, w0_13, w0_14, w0_15, .ref a2, .ref a1, w0_18, w0_19, .int s_bad, w0_21, .int o_codes28_15, w0_23, .int v38_22, w0_25, w0_26, .ref a3, w0_28, w0_29, w0_30, w0_31, w0_32, w0_33, w0_34, w0_35, w0_36, w0_37, w0_38, w0_39, w0_40, w0_41, w0_42, w0_43, w0_44, w0_45, w0_46, w0_47, w0_48, w0_49, w0_50, w0_51, w0_52, w0_53, w0_54, w0_55, w0_56, w0_57, w0_58, w0_59, w0_60, w0_61, w0_62, w0_63, w0_64, w0_65, w0_66])), (a1, .inl (E.2 0, 120, .inl o_newArg28_16)), (a2, .inl (E.2 0, 120, .inl o_newCode28_17)), (a3, .inl (E.2 0, 160, .inl s_stack))] := hV25
        clear hV20
        refine lv_goto (tgt := 0) hx hb dX12_joins_41 (by decide) ?_
        exact ih0 o_codes28_15 v38_22 o_newArg28_16 o_newCode28_17 _ _ _ h24 hV25 (lv_sub hlB22 [0, 1] rfl)
      refine lv_icmp_eq (tgt := 22) hx hb dX12_joins_6 (by decide) (fun c26 => ?_) (fun c26 => ?_)
      · have h27 := itS c26 h7
        clear h7 c26
        exact J22  _ _ _ h27 hV8 (lv_sub hlB0 [0, 1] rfl)
      · have h28 := ieS c26 h7
        clear h7 c26
        refine lv_iload_n hx hb dX12_joins_9 rfl (lv_at hlB0 1 rfl) ?_
        refine lv_if_eq (tgt := 44) hx hb dX12_joins_10 (by decide) (fun c29 => ?_) (fun c29 => ?_)
        · have h30 := itS c29 h28
          clear h28 c29
          obtain ⟨q32, q33, q34, q35⟩ := tup4_s h30
          clear h30
          exact hret () _ _ _ _ trivial (by rw [← q32, ← q33, ← q34, ← q35]; exact hV8) dX12_joins_44
        · have h31 := ieS c29 h28
          clear h28 c29
          refine lv_aload_n hx hb dX12_joins_13 rfl (lv_at hlB0 0 rfl) ?_
          obtain ⟨r14_36, hc37, h38⟩ := cb1_s h31
          clear h31
          refine kgoiE (krunV (rest := []) X hV8 [0, 3] (c_X12_top l E _ a0 a3 (w0_0) (w0_1) (w0_2) (w0_3) (w0_4) (w0_5) (w0_6) (w0_7) (w0_8) (w0_9) (w0_10) (w0_11) (w0_12) (w0_13) (w0_14) (w0_15) (.ref a2) (.ref a1) (w0_18) (w0_19) (.int s_bad) (w0_21) (.int codes__1) (w0_23) (w0_25) (w0_26) (w0_28) (w0_29) (w0_30) (w0_31) (w0_32) (w0_33) (w0_34) (w0_35) (w0_36) (w0_37) (w0_38) (w0_39) (w0_40) (w0_41) (w0_42) (w0_43) (w0_44) (w0_45) (w0_46) (w0_47) (w0_48) (w0_49) (w0_50) (w0_51) (w0_52) (w0_53) (w0_54) (w0_55) (w0_56) (w0_57) (w0_58) (w0_59) (w0_60) (w0_61) (w0_62) (w0_63) (w0_64) (w0_65) (w0_66) stacked__2 s_stack r14_36 hc37) mw_548 kb_X12_top (ci := 12) rfl rfl (by decide) rfl rfl hlB0.1 rfl (Nat.le_of_ble_eq_true rfl) dX12_joins_14 (by decide)) X hV8 [0, 3] [1, 2] rfl rfl rfl (by decide) (fun u H locs hV39 => ?_)
          have hV39 : kV E A s.heap H locs [(a0, .inr (12, [w0_0, w0_1, w0_2, w0_3, w0_4, w0_5, w0_6, w0_7, w0_8, w0_9, w0_10, w0_11, w0_12, w0_13, w0_14, w0_15, .ref a2, .ref a1, w0_18, w0_19, .int s_bad, w0_21, .int codes__1, w0_23, .int stacked__2, w0_25, w0_26, .ref a3, w0_28, w0_29, w0_30, w0_31, w0_32, w0_33, w0_34, w0_35, w0_36, w0_37, w0_38, w0_39, w0_40, w0_41, w0_42, w0_43, w0_44, w0_45, w0_46, w0_47, w0_48, w0_49, w0_50, w0_51, w0_52, w0_53, w0_54, w0_55, w0_56, w0_57, w0_58, w0_59, w0_60, w0_61, w0_62, w0_63, w0_64, w0_65, w0_66])), (a1, .inl (E.2 0, 120, .inl newArg__3)), (a2, .inl (E.2 0, 120, .inl newCode__4)), (a3, .inl (E.2 0, 160, .inl s_stack))] := hV39.sub [2, 0, 1, 3] rfl rfl
          clear hV8
          refine lv_bipush (v := 124) hx hb dX12_joins_17 (by decide) ?_
          refine lv_icmp_ne (tgt := 44) hx hb dX12_joins_19 (by decide) (fun c41 => ?_) (fun c41 => ?_)
          · have h42 := ieS c41 h38
            clear h38 c41
            obtain ⟨q44, q45, q46, q47⟩ := tup4_s h42
            clear h42
            exact hret () _ _ _ _ trivial (by rw [← q44, ← q45, ← q46, ← q47]; exact hV39) dX12_joins_44
          · have h43 := itS c41 h38
            clear h38 c41
            exact J22  _ _ _ h43 hV39 (lv_sub hlB0 [0, 1] rfl)
  exact L0 FU s_codes s_stacked s_newArg s_newCode _ _ _ h hV (lv_sub hl [0, 1] rfl)
