noncomputable def f_X7_heightOf_N_J20 (s_p1_minute : Int32) (s_p1_wide : Int32) (s_p1_weekdays : Int32) (p2 : Int32)  (t0_7 : Int32) : Option (Int32) :=
    cb1 (f_X11_minutesApart t0_7 s_p1_minute) fun r24_8 =>
    if s_p1_wide < r24_8 then
    (some (0))
    else
    (cb1 (f_X8_comesOn s_p1_weekdays p2) fun r40_18 =>
      if r40_18 = 0 then
      (some (0))
      else
      (some (0)))
noncomputable def f_X7_heightOf_N (s_p1_star : Int32) (s_p1_minute : Int32) (s_p1_wide : Int32) (s_p1_weekdays : Int32) (p2 : Int32) (p3 : Int32) : Option (Int32) :=
    cb1 (f_X11_starMinute p2 p3) fun r2_1 =>
    if s_p1_star = 0 then
    ((f_X7_heightOf_N_J20 s_p1_minute s_p1_wide s_p1_weekdays p2 ) p3)
    else
    ((f_X7_heightOf_N_J20 s_p1_minute s_p1_wide s_p1_weekdays p2 ) r2_1)
abbrev r_X7_heightOf_N : Room := { frames := 2, cells := 0, slots := 0, locals := 45 }
set_option maxHeartbeats 4000000 in
set_option maxRecDepth 100000 in
theorem c_X7_heightOf_N (l : Launch) (E : kE) (sz : Nat) (a0 a1 : Nat) (w0_0 w0_1 w0_2 w0_3 w1_0 w1_4 : Value) (s_p1_star : Int32) (s_p1_minute : Int32) (s_p1_wide : Int32) (s_p1_weekdays : Int32) (p2 : Int32) (p3 : Int32) (r : Int32) (h : f_X7_heightOf_N s_p1_star s_p1_minute s_p1_wide s_p1_weekdays p2 p3 = some (r)) : kMi l yX7_heightOf cX7_heightOf 8 (some .int) r_X7_heightOf_N [.ref a0, .ref a1, .int p2, .int p3] E [(a0, .inr (7, [w0_0, w0_1, w0_2, w0_3])), (a1, .inr (8, [w1_0, .int s_p1_star, .int s_p1_minute, .int s_p1_wide, w1_4, .int s_p1_weekdays, .null]))] sz 0 0 (fun x (_ : Unit) => x = r) (fun _ => [(a0, .inr (7, [w0_0, w0_1, w0_2, w0_3])), (a1, .inr (8, [w1_0, .int s_p1_star, .int s_p1_minute, .int s_p1_wide, w1_4, .int s_p1_weekdays, .null]))]) := by
  refine kmeti rfl (Nat.le_of_ble_eq_true rfl) ?_
  intro p e s m args below meth c ls A Q X hV hret hl
  have X : kC p s m c cX7_heightOf 8 RX7 args E A := X
  have hx := X.1
  have hb := X.2.1
  have hl : lv_has ls 8 [(0, .ref a0), (1, .ref a1), (2, .int p2), (3, .int p3)] := hl
  rw [f_X7_heightOf_N] at h
  refine lv_iload_n hx hb dX7_heightOf_0 rfl (lv_at hl 2 rfl) ?_
  refine lv_iload_n hx hb dX7_heightOf_1 rfl (lv_at hl 3 rfl) ?_
  obtain ⟨r2_1, hc2, h3⟩ := cb1_s h
  clear h
  refine kgoiE (krunSN (rest := []) X hV [] (c_X11_starMinute l E _ p2 p3 r2_1 hc2) (List.mem_of_getElem? (i := 1) rfl) kb_X11_starMinute (by decide) rfl rfl hl.1 rfl (Nat.le_of_ble_eq_true rfl) dX7_heightOf_2 (by decide)) X hV [] [0, 1] rfl rfl rfl (by decide) (fun u H locs hV4 => ?_)
  have hV4 : kV E A s.heap H locs [(a0, .inr (7, [w0_0, w0_1, w0_2, w0_3])), (a1, .inr (8, [w1_0, .int s_p1_star, .int s_p1_minute, .int s_p1_wide, w1_4, .int s_p1_weekdays, .null]))] := hV4.sub [0, 1] rfl rfl
  clear hV
  refine lv_istore (lv' := [(4, .int r2_1), (0, .ref a0), (1, .ref a1), (2, .int p2), (3, .int p3)]) hx hb dX7_heightOf_5 hl (by decide) rfl (fun ls hl6 => ?_)
  clear hl
  refine lv_aload_n hx hb dX7_heightOf_7 rfl (lv_at hl6 2 rfl) ?_
  refine kget X hV4 (ci := 8) inlX8 rfl 1 rfl 1 (by decide) mw_647 rfl dX7_heightOf_8 ?_
  have J20 : ∀ (t0_7 : Int32) (H : Heap) (locs : List Loc) (ls : Array Slot), (f_X7_heightOf_N_J20 s_p1_minute s_p1_wide s_p1_weekdays p2 ) t0_7 = some (r) → kV E A s.heap H locs [(a0, .inr (7, [w0_0, w0_1, w0_2, w0_3])), (a1, .inr (8, [w1_0, .int s_p1_star, .int s_p1_minute, .int s_p1_wide, w1_4, .int s_p1_weekdays, .null]))] → lv_has ls 8 [(1, .ref a1), (2, .int p2)] → W p l e r_X7_heightOf_N s m args below meth c H locs 0 0 Q (F0 m 20 ls [.int t0_7]) := by
    intro t0_7 H locs ls hB20 hVB20 hlB20
    rw [f_X7_heightOf_N_J20] at hB20
    refine lv_aload_n hx hb dX7_heightOf_20 rfl (lv_at hlB20 0 rfl) ?_
    refine kget X hVB20 (ci := 8) inlX8 rfl 1 rfl 2 (by decide) mw_648 rfl dX7_heightOf_21 ?_
    obtain ⟨r24_8, hc9, h10⟩ := cb1_s hB20
    clear hB20
    refine kgoiE (krunSN (rest := []) X hVB20 [] (c_X11_minutesApart l E _ t0_7 s_p1_minute r24_8 hc9) (List.mem_of_getElem? (i := 0) rfl) kb_X11_minutesApart (by decide) rfl rfl hlB20.1 rfl (Nat.le_of_ble_eq_true rfl) dX7_heightOf_24 (by decide)) X hVB20 [] [0, 1] rfl rfl rfl (by decide) (fun u H locs hV11 => ?_)
    have hV11 : kV E A s.heap H locs [(a0, .inr (7, [w0_0, w0_1, w0_2, w0_3])), (a1, .inr (8, [w1_0, .int s_p1_star, .int s_p1_minute, .int s_p1_wide, w1_4, .int s_p1_weekdays, .null]))] := hV11.sub [0, 1] rfl rfl
    clear hVB20
    refine lv_istore (lv' := [(5, .int r24_8), (1, .ref a1), (2, .int p2)]) hx hb dX7_heightOf_27 hlB20 (by decide) rfl (fun ls hl13 => ?_)
    clear hlB20
    refine lv_iload hx hb dX7_heightOf_29 (lv_at hl13 0 rfl) ?_
    refine lv_aload_n hx hb dX7_heightOf_31 rfl (lv_at hl13 1 rfl) ?_
    refine kget X hV11 (ci := 8) inlX8 rfl 1 rfl 3 (by decide) mw_649 rfl dX7_heightOf_32 ?_
    refine lv_icmp_gt (tgt := 53) hx hb dX7_heightOf_35 (by decide) (fun c14 => ?_) (fun c14 => ?_)
    · have h15 := itS c14 h10
      clear h10 c14
      refine lv_iconst (v := 0) hx hb dX7_heightOf_53 (by decide) ?_
      have q17 := tup1_s h15
      clear h15
      exact hret _ () _ _ _ _ q17 rfl hV11 dX7_heightOf_54
    · have h16 := ieS c14 h10
      clear h10 c14
      refine lv_aload_n hx hb dX7_heightOf_38 rfl (lv_at hl13 1 rfl) ?_
      refine lv_iload_n hx hb dX7_heightOf_39 rfl (lv_at hl13 2 rfl) ?_
      obtain ⟨r40_18, hc19, h20⟩ := cb1_s h16
      clear h16
      refine kgoiE (krunV (rest := []) X hV11 [1] (c_X8_comesOn l E _ a1 (w1_0) (.int s_p1_star) (.int s_p1_minute) (.int s_p1_wide) (w1_4) (.null) s_p1_weekdays p2 r40_18 hc19) mw_661 kb_X8_comesOn (ci := 8) rfl rfl (by decide) rfl rfl hl13.1 rfl (Nat.le_of_ble_eq_true rfl) dX7_heightOf_40 (by decide)) X hV11 [1] [0] rfl rfl rfl (by decide) (fun u H locs hV21 => ?_)
      have hV21 : kV E A s.heap H locs [(a0, .inr (7, [w0_0, w0_1, w0_2, w0_3])), (a1, .inr (8, [w1_0, .int s_p1_star, .int s_p1_minute, .int s_p1_wide, w1_4, .int s_p1_weekdays, .null]))] := hV21.sub [0, 1] rfl rfl
      clear hV11
      refine lv_if_eq (tgt := 53) hx hb dX7_heightOf_43 (by decide) (fun c23 => ?_) (fun c23 => ?_)
      · have h24 := itS c23 h20
        clear h20 c23
        refine lv_iconst (v := 0) hx hb dX7_heightOf_53 (by decide) ?_
        have q26 := tup1_s h24
        clear h24
        exact hret _ () _ _ _ _ q26 rfl hV21 dX7_heightOf_54
      · have h25 := ieS c23 h20
        clear h20 c23
        refine lv_aload_n hx hb dX7_heightOf_46 rfl (lv_at hl13 1 rfl) ?_
        refine kget X hV21 (ci := 8) inlX8 rfl 1 rfl 6 (by decide) mw_650 rfl dX7_heightOf_47 ?_
        refine lv_ifnonnullN hx hb dX7_heightOf_50 ?_
        refine lv_iconst (v := 0) hx hb dX7_heightOf_53 (by decide) ?_
        have q27 := tup1_s h25
        clear h25
        exact hret _ () _ _ _ _ q27 rfl hV21 dX7_heightOf_54
  refine lv_if_eq (tgt := 19) hx hb dX7_heightOf_11 (by decide) (fun c28 => ?_) (fun c28 => ?_)
  · have h29 := itS c28 h3
    clear h3 c28
    refine lv_iload_n hx hb dX7_heightOf_19 rfl (lv_at hl6 4 rfl) ?_
    exact J20 p3 _ _ _ h29 hV4 (lv_sub hl6 [2, 3] rfl)
  · have h30 := ieS c28 h3
    clear h3 c28
    refine lv_iload hx hb dX7_heightOf_14 (lv_at hl6 0 rfl) ?_
    refine lv_goto (tgt := 20) hx hb dX7_heightOf_16 (by decide) ?_
    exact J20 r2_1 _ _ _ h30 hV4 (lv_sub hl6 [2, 3] rfl)
noncomputable def f_J9_floorMod_7cf53 (p1 : Int32) (p2 : Int32) : Option (Int32) :=
    dvI p2 <|
    nmI (jrem p1 p2) fun v3_3 =>
    if 0 ≤ (p1 ^^^ p2) then
    (some (v3_3))
    else
    (if v3_3 = 0 then
      (some (v3_3))
      else
      (some ((v3_3 + p2))))
abbrev r_J9_floorMod_7cf53 : Room := { frames := 0, cells := 0, slots := 0, locals := 0 }
set_option maxHeartbeats 4000000 in
set_option maxRecDepth 100000 in
theorem c_J9_floorMod_7cf53 (l : Launch) (E : kE) (sz : Nat) (p1 : Int32) (p2 : Int32) (r : Int32) (h : f_J9_floorMod_7cf53 p1 p2 = some (r)) : kMi l yJ9_floorMod_7cf53 cJ9_floorMod_7cf53 3 (some .int) r_J9_floorMod_7cf53 [.int p1, .int p2] E [] sz 0 0 (fun x (_ : Unit) => x = r) (fun _ => []) := by
  refine kmetiF (by decide +kernel) (Nat.le_of_ble_eq_true rfl) ?_
  intro p e s m args below meth c ls A Q X hV hret hl
  have X : kC p s m c cJ9_floorMod_7cf53 3 RJ9 args E A := X
  have hx := X.1
  have hb := X.2.1
  have hl : lv_has ls 3 [(0, .int p1), (1, .int p2)] := hl
  rw [f_J9_floorMod_7cf53] at h
  refine lv_iload_n hx hb dJ9_floorMod_7cf53_0 rfl (lv_at hl 0 rfl) ?_
  refine lv_iload_n hx hb dJ9_floorMod_7cf53_1 rfl (lv_at hl 1 rfl) ?_
  obtain ⟨hn1, h2⟩ := dvI_s h
  clear h
  refine lv_irem hx hb dJ9_floorMod_7cf53_2 hn1 ?_
  obtain ⟨v3_3, e4, h5⟩ := nmI_s h2
  clear h2
  refine ktopi e4 ?_
  clear e4
  refine lv_istore_n (lv' := [(2, .int v3_3), (0, .int p1), (1, .int p2)]) hx hb dJ9_floorMod_7cf53_3 rfl hl (by decide) rfl (fun ls hl6 => ?_)
  clear hl
  refine lv_iload_n hx hb dJ9_floorMod_7cf53_4 rfl (lv_at hl6 1 rfl) ?_
  refine lv_iload_n hx hb dJ9_floorMod_7cf53_5 rfl (lv_at hl6 2 rfl) ?_
  refine lv_ixor hx hb dJ9_floorMod_7cf53_6 ?_
  refine lv_if_ge (tgt := 18) hx hb dJ9_floorMod_7cf53_7 (by decide) (fun c7 => ?_) (fun c7 => ?_)
  · have h8 := itS c7 h5
    clear h5 c7
    refine lv_iload_n hx hb dJ9_floorMod_7cf53_18 rfl (lv_at hl6 0 rfl) ?_
    have q10 := tup1_s h8
    clear h8
    exact hret _ () _ _ _ _ q10 rfl hV dJ9_floorMod_7cf53_19
  · have h9 := ieS c7 h5
    clear h5 c7
    refine lv_iload_n hx hb dJ9_floorMod_7cf53_10 rfl (lv_at hl6 0 rfl) ?_
    refine lv_if_eq (tgt := 18) hx hb dJ9_floorMod_7cf53_11 (by decide) (fun c11 => ?_) (fun c11 => ?_)
    · have h12 := itS c11 h9
      clear h9 c11
      refine lv_iload_n hx hb dJ9_floorMod_7cf53_18 rfl (lv_at hl6 0 rfl) ?_
      have q14 := tup1_s h12
      clear h12
      exact hret _ () _ _ _ _ q14 rfl hV dJ9_floorMod_7cf53_19
    · have h13 := ieS c11 h9
      clear h9 c11
      refine lv_iload_n hx hb dJ9_floorMod_7cf53_14 rfl (lv_at hl6 0 rfl) ?_
      refine lv_iload_n hx hb dJ9_floorMod_7cf53_15 rfl (lv_at hl6 2 rfl) ?_
      refine lv_iadd hx hb dJ9_floorMod_7cf53_16 ?_
      have q15 := tup1_s h13
      clear h13
      exact hret _ () _ _ _ _ q15 rfl hV dJ9_floorMod_7cf53_17
noncomputable def f_X4_add (s_heights : Nat → Int32) (s_highest : Nat → Int32) (s_shapes : Nat → Int32) (p1 : Int32) (p2 : Int32) (p3 : Int32) : Option ((Nat → Int32) × (Nat → Int32) × (Nat → Int32)) :=
    rdI s_heights 1440 p1 fun v6_1 =>
    nmI (v6_1 + p2) fun v9_5 =>
    wrI s_heights 1440 p1 v9_5 fun g9_8 =>
    rdI s_highest 1440 p1 fun v16_13 =>
    if p2 ≤ v16_13 then
    (some (g9_8, s_highest, s_shapes))
    else
    (wrI s_highest 1440 p1 p2 fun g26_23 =>
      wrI s_shapes 1440 p1 p3 fun g33_28 =>
      some (g9_8, g26_23, g33_28))
abbrev r_X4_add : Room := { frames := 0, cells := 0, slots := 0, locals := 0 }
set_option maxHeartbeats 4000000 in
set_option maxRecDepth 100000 in
theorem c_X4_add (l : Launch) (E : kE) (sz : Nat) (a0 a1 a2 a3 : Nat) (w0_3 w0_4 w0_5 w0_6 : Value) (s_heights : Nat → Int32) (s_highest : Nat → Int32) (s_shapes : Nat → Int32) (p1 : Int32) (p2 : Int32) (p3 : Int32) (o_heights : Nat → Int32) (o_highest : Nat → Int32) (o_shapes : Nat → Int32) (h : f_X4_add s_heights s_highest s_shapes p1 p2 p3 = some (o_heights, o_highest, o_shapes)) : kMv l yX4_add cX4_add 4 r_X4_add [.ref a0, .int p1, .int p2, .int p3] E [(a0, .inr (4, [.ref a1, .ref a3, .ref a2, w0_3, w0_4, w0_5, w0_6])), (a1, .inl (E.2 0, 1440, .inl s_heights)), (a2, .inl (E.2 0, 1440, .inl s_highest)), (a3, .inl (E.2 0, 1440, .inl s_shapes))] sz 0 0 (fun (_ : Unit) => True) (fun _ => [(a0, .inr (4, [.ref a1, .ref a3, .ref a2, w0_3, w0_4, w0_5, w0_6])), (a1, .inl (E.2 0, 1440, .inl o_heights)), (a2, .inl (E.2 0, 1440, .inl o_highest)), (a3, .inl (E.2 0, 1440, .inl o_shapes))]) := by
  refine kmetv rfl (Nat.le_of_ble_eq_true rfl) ?_
  intro p e s m args below meth c ls A Q X hnm hV hret hl
  have X : kC p s m c cX4_add 4 RX4 args E A := X
  have hx := X.1
  have hb := X.2.1
  have hl : lv_has ls 4 [(0, .ref a0), (1, .int p1), (2, .int p2), (3, .int p3)] := hl
  rw [f_X4_add] at h
  refine lv_aload_n hx hb dX4_add_0 rfl (lv_at hl 0 rfl) ?_
  refine kget X hV (ci := 4) inlX4 rfl 0 rfl 0 (by decide) mw_87 rfl dX4_add_1 ?_
  refine lv_iload_n hx hb dX4_add_4 rfl (lv_at hl 1 rfl) ?_
  refine lv_dup2_11 hx hb dX4_add_5 rfl rfl ?_
  obtain ⟨hi2, v6_1, e3, h4⟩ := rdI_s h
  clear h
  refine kiald X hV 1 rfl hi2 e3 dX4_add_6 ?_
  clear hi2 e3
  refine lv_iload_n hx hb dX4_add_7 rfl (lv_at hl 2 rfl) ?_
  refine lv_iadd hx hb dX4_add_8 ?_
  obtain ⟨v9_5, e6, h7⟩ := nmI_s h4
  clear h4
  refine ktopi e6 ?_
  clear e6
  obtain ⟨hi9, g9_8, e10, h11⟩ := wrI_s h7
  clear h7
  refine kiast X hV 1 rfl hi9 e10 dX4_add_9 (fun H locs hV12 => ?_)
  have hV12 : kV E A s.heap H locs [(a0, .inr (4, [.ref a1, .ref a3, .ref a2, w0_3, w0_4, w0_5, w0_6])), (a1, .inl (E.2 0, 1440, .inl g9_8)), (a2, .inl (E.2 0, 1440, .inl s_highest)), (a3, .inl (E.2 0, 1440, .inl s_shapes))] := hV12
  clear hV hi9 e10
  refine lv_iload_n hx hb dX4_add_10 rfl (lv_at hl 2 rfl) ?_
  refine lv_aload_n hx hb dX4_add_11 rfl (lv_at hl 0 rfl) ?_
  refine kget X hV12 (ci := 4) inlX4 rfl 0 rfl 2 (by decide) mw_89 rfl dX4_add_12 ?_
  refine lv_iload_n hx hb dX4_add_15 rfl (lv_at hl 1 rfl) ?_
  obtain ⟨hi14, v16_13, e15, h16⟩ := rdI_s h11
  clear h11
  refine kiald X hV12 2 rfl hi14 e15 dX4_add_16 ?_
  clear hi14 e15
  refine lv_icmp_le (tgt := 34) hx hb dX4_add_17 (by decide) (fun c17 => ?_) (fun c17 => ?_)
  · have h18 := itS c17 h16
    clear h16 c17
    obtain ⟨q20, q21, q22⟩ := tup3_s h18
    clear h18
    exact hret () _ _ _ _ trivial (by rw [← q20, ← q21, ← q22]; exact hV12) dX4_add_34
  · have h19 := ieS c17 h16
    clear h16 c17
    refine lv_aload_n hx hb dX4_add_20 rfl (lv_at hl 0 rfl) ?_
    refine kget X hV12 (ci := 4) inlX4 rfl 0 rfl 2 (by decide) mw_89 rfl dX4_add_21 ?_
    refine lv_iload_n hx hb dX4_add_24 rfl (lv_at hl 1 rfl) ?_
    refine lv_iload_n hx hb dX4_add_25 rfl (lv_at hl 2 rfl) ?_
    obtain ⟨hi24, g26_23, e25, h26⟩ := wrI_s h19
    clear h19
    refine kiast X hV12 2 rfl hi24 e25 dX4_add_26 (fun H locs hV27 => ?_)
    have hV27 : kV E A s.heap H locs [(a0, .inr (4, [.ref a1, .ref a3, .ref a2, w0_3, w0_4, w0_5, w0_6])), (a1, .inl (E.2 0, 1440, .inl g9_8)), (a2, .inl (E.2 0, 1440, .inl g26_23)), (a3, .inl (E.2 0, 1440, .inl s_shapes))] := hV27
    clear hV12 hi24 e25
    refine lv_aload_n hx hb dX4_add_27 rfl (lv_at hl 0 rfl) ?_
    refine kget X hV27 (ci := 4) inlX4 rfl 0 rfl 1 (by decide) mw_88 rfl dX4_add_28 ?_
    refine lv_iload_n hx hb dX4_add_31 rfl (lv_at hl 1 rfl) ?_
    refine lv_iload_n hx hb dX4_add_32 rfl (lv_at hl 3 rfl) ?_
    obtain ⟨hi29, g33_28, e30, h31⟩ := wrI_s h26
    clear h26
    refine kiast X hV27 3 rfl hi29 e30 dX4_add_33 (fun H locs hV32 => ?_)
    have hV32 : kV E A s.heap H locs [(a0, .inr (4, [.ref a1, .ref a3, .ref a2, w0_3, w0_4, w0_5, w0_6])), (a1, .inl (E.2 0, 1440, .inl g9_8)), (a2, .inl (E.2 0, 1440, .inl g26_23)), (a3, .inl (E.2 0, 1440, .inl g33_28))] := hV32
    clear hV27 hi29 e30
    obtain ⟨q33, q34, q35⟩ := tup3_s h31
    clear h31
    exact hret () _ _ _ _ trivial (by rw [← q33, ← q34, ← q35]; exact hV32) dX4_add_34
noncomputable def f_X7_layOne_L33 (s_seed : Int32) (s_p1_day : Int32) (s_p2_number : Int32) (s_p2_star : Int32) (s_p2_minute : Int32) (s_p2_wide : Int32) (s_p2_shape : Int32) (s_p2_weekdays : Int32) (s_p2_law_clauses : Int32) (n_p2_law_code : Nat) (s_p2_law_code : Nat → Int32) (n_p2_law_middles : Nat) (s_p2_law_middles : Nat → Int32) (n_p2_law_starts : Nat) (s_p2_law_starts : Nat → Int32) (t0_1 : Int32)  : Nat → Int32 → (Nat → Int32) → (Nat → Int32) → (Nat → Int32) → (Nat → Int32) → (Nat → Int32) → Option ((Nat → Int32) × (Nat → Int32) × (Nat → Int32) × (Nat → Int32) × (Nat → Int32))
  | 0, _, _, _, _, _, _ => none
  | n33 + 1, x4_7, p1_heights__8, p1_highest__9, p1_shapes__10, reckoner_letters__11, reckoner_values__12 =>
    if s_p2_wide < x4_7 then
    (some (p1_heights__8, p1_highest__9, p1_shapes__10, reckoner_letters__11, reckoner_values__12))
    else
    (cb1 (f_J9_floorMod_7cf53 (t0_1 + x4_7) 1440) fun r49_21 =>
      cb3 (f_X7_heightOf n_p2_law_code n_p2_law_middles n_p2_law_starts s_seed s_p2_number s_p2_star s_p2_minute s_p2_wide s_p2_weekdays s_p2_law_clauses s_p2_law_code s_p2_law_middles s_p2_law_starts reckoner_letters__11 reckoner_values__12 s_p1_day r49_21) fun r65_27 o_reckoner_letters65_28 o_reckoner_values65_29 =>
      cb3 (f_X4_add p1_heights__8 p1_highest__9 p1_shapes__10 r49_21 r65_27 s_p2_shape) fun o_heights72_34 o_highest72_35 o_shapes72_36 =>
      nmI (x4_7 + 1) fun v75_41 =>
      (f_X7_layOne_L33 s_seed s_p1_day s_p2_number s_p2_star s_p2_minute s_p2_wide s_p2_shape s_p2_weekdays s_p2_law_clauses n_p2_law_code s_p2_law_code n_p2_law_middles s_p2_law_middles n_p2_law_starts s_p2_law_starts t0_1  n33) v75_41 o_heights72_34 o_highest72_35 o_shapes72_36 o_reckoner_letters65_28 o_reckoner_values65_29)
noncomputable def f_X7_layOne_J25 (s_seed : Int32) (s_p1_day : Int32) (s_p2_number : Int32) (s_p2_star : Int32) (s_p2_minute : Int32) (s_p2_wide : Int32) (s_p2_shape : Int32) (s_p2_weekdays : Int32) (s_p1_heights : Nat → Int32) (s_p1_highest : Nat → Int32) (s_p1_shapes : Nat → Int32) (s_p2_law_clauses : Int32) (n_p2_law_code : Nat) (s_p2_law_code : Nat → Int32) (n_p2_law_middles : Nat) (s_p2_law_middles : Nat → Int32) (n_p2_law_starts : Nat) (s_p2_law_starts : Nat → Int32) (s_reckoner_letters : Nat → Int32) (s_reckoner_values : Nat → Int32)  (t0_1 : Int32) : Option ((Nat → Int32) × (Nat → Int32) × (Nat → Int32) × (Nat → Int32) × (Nat → Int32)) :=
    nmI (-s_p2_wide) fun v31_3 =>
    (f_X7_layOne_L33 s_seed s_p1_day s_p2_number s_p2_star s_p2_minute s_p2_wide s_p2_shape s_p2_weekdays s_p2_law_clauses n_p2_law_code s_p2_law_code n_p2_law_middles s_p2_law_middles n_p2_law_starts s_p2_law_starts t0_1  FU) v31_3 s_p1_heights s_p1_highest s_p1_shapes s_reckoner_letters s_reckoner_values
noncomputable def f_X7_layOne (n_p2_law_code : Nat) (n_p2_law_middles : Nat) (n_p2_law_starts : Nat) (s_seed : Int32) (s_p1_day : Int32) (s_p2_number : Int32) (s_p2_star : Int32) (s_p2_minute : Int32) (s_p2_wide : Int32) (s_p2_shape : Int32) (s_p2_weekdays : Int32) (s_p1_heights : Nat → Int32) (s_p1_highest : Nat → Int32) (s_p1_shapes : Nat → Int32) (s_p2_law_clauses : Int32) (s_p2_law_code : Nat → Int32) (s_p2_law_middles : Nat → Int32) (s_p2_law_starts : Nat → Int32) (s_reckoner_letters : Nat → Int32) (s_reckoner_values : Nat → Int32) : Option ((Nat → Int32) × (Nat → Int32) × (Nat → Int32) × (Nat → Int32) × (Nat → Int32)) :=
    if s_p2_star = 0 then
    ((f_X7_layOne_J25 s_seed s_p1_day s_p2_number s_p2_star s_p2_minute s_p2_wide s_p2_shape s_p2_weekdays s_p1_heights s_p1_highest s_p1_shapes s_p2_law_clauses n_p2_law_code s_p2_law_code n_p2_law_middles s_p2_law_middles n_p2_law_starts s_p2_law_starts s_reckoner_letters s_reckoner_values ) s_p2_minute)
    else
    ((f_X7_layOne_J25 s_seed s_p1_day s_p2_number s_p2_star s_p2_minute s_p2_wide s_p2_shape s_p2_weekdays s_p1_heights s_p1_highest s_p1_shapes s_p2_law_clauses n_p2_law_code s_p2_law_code n_p2_law_middles s_p2_law_middles n_p2_law_starts s_p2_law_starts s_reckoner_letters s_reckoner_values ) (s_p2_minute - (4 * s_p1_day)))
abbrev r_X7_layOne : Room := { frames := 4, cells := 0, slots := 0, locals := 99 }
set_option maxHeartbeats 4000000 in
set_option maxRecDepth 100000 in
theorem c_X7_layOne (l : Launch) (E : kE) (sz : Nat) (a0 a1 a2 a3 a4 a5 a6 a7 a8 a9 a10 a11 a12 : Nat) (w0_0 w0_2 w1_3 w1_4 w1_5 : Value) (n_p2_law_code n_p2_law_middles n_p2_law_starts : Nat) (s_seed : Int32) (s_p1_day : Int32) (s_p2_number : Int32) (s_p2_star : Int32) (s_p2_minute : Int32) (s_p2_wide : Int32) (s_p2_shape : Int32) (s_p2_weekdays : Int32) (s_p1_heights : Nat → Int32) (s_p1_highest : Nat → Int32) (s_p1_shapes : Nat → Int32) (s_p2_law_clauses : Int32) (s_p2_law_code : Nat → Int32) (s_p2_law_middles : Nat → Int32) (s_p2_law_starts : Nat → Int32) (s_reckoner_letters : Nat → Int32) (s_reckoner_values : Nat → Int32) (o_p1_heights : Nat → Int32) (o_p1_highest : Nat → Int32) (o_p1_shapes : Nat → Int32) (o_reckoner_letters : Nat → Int32) (o_reckoner_values : Nat → Int32) (h : f_X7_layOne n_p2_law_code n_p2_law_middles n_p2_law_starts s_seed s_p1_day s_p2_number s_p2_star s_p2_minute s_p2_wide s_p2_shape s_p2_weekdays s_p1_heights s_p1_highest s_p1_shapes s_p2_law_clauses s_p2_law_code s_p2_law_middles s_p2_law_starts s_reckoner_letters s_reckoner_values = some (o_p1_heights, o_p1_highest, o_p1_shapes, o_reckoner_letters, o_reckoner_values)) : kMv l yX7_layOne cX7_layOne 6 r_X7_layOne [.ref a0, .ref a1, .ref a2] E [(a0, .inr (7, [w0_0, .ref a7, w0_2, .int s_seed])), (a1, .inr (4, [.ref a3, .ref a5, .ref a4, w1_3, w1_4, w1_5, .int s_p1_day])), (a2, .inr (8, [.int s_p2_number, .int s_p2_star, .int s_p2_minute, .int s_p2_wide, .int s_p2_shape, .int s_p2_weekdays, .ref a6])), (a3, .inl (E.2 0, 1440, .inl s_p1_heights)), (a4, .inl (E.2 0, 1440, .inl s_p1_highest)), (a5, .inl (E.2 0, 1440, .inl s_p1_shapes)), (a6, .inr (10, [.int s_p2_law_clauses, .ref a8, .ref a10, .ref a9])), (a7, .inr (5, [.ref a11, .ref a12])), (a8, .inl (E.2 0, n_p2_law_code, .inl s_p2_law_code)), (a9, .inl (E.2 0, n_p2_law_middles, .inl s_p2_law_middles)), (a10, .inl (E.2 0, n_p2_law_starts, .inl s_p2_law_starts)), (a11, .inl (E.2 0, 128, .inl s_reckoner_letters)), (a12, .inl (E.2 0, 32, .inl s_reckoner_values))] sz 0 0 (fun (_ : Unit) => True) (fun _ => [(a0, .inr (7, [w0_0, .ref a7, w0_2, .int s_seed])), (a1, .inr (4, [.ref a3, .ref a5, .ref a4, w1_3, w1_4, w1_5, .int s_p1_day])), (a2, .inr (8, [.int s_p2_number, .int s_p2_star, .int s_p2_minute, .int s_p2_wide, .int s_p2_shape, .int s_p2_weekdays, .ref a6])), (a3, .inl (E.2 0, 1440, .inl o_p1_heights)), (a4, .inl (E.2 0, 1440, .inl o_p1_highest)), (a5, .inl (E.2 0, 1440, .inl o_p1_shapes)), (a6, .inr (10, [.int s_p2_law_clauses, .ref a8, .ref a10, .ref a9])), (a7, .inr (5, [.ref a11, .ref a12])), (a8, .inl (E.2 0, n_p2_law_code, .inl s_p2_law_code)), (a9, .inl (E.2 0, n_p2_law_middles, .inl s_p2_law_middles)), (a10, .inl (E.2 0, n_p2_law_starts, .inl s_p2_law_starts)), (a11, .inl (E.2 0, 128, .inl o_reckoner_letters)), (a12, .inl (E.2 0, 32, .inl o_reckoner_values))]) := by
  refine kmetv rfl (Nat.le_of_ble_eq_true rfl) ?_
  intro p e s m args below meth c ls A Q X hnm hV hret hl
  have X : kC p s m c cX7_layOne 6 RX7 args E A := X
  have hx := X.1
  have hb := X.2.1
  have hl : lv_has ls 6 [(0, .ref a0), (1, .ref a1), (2, .ref a2)] := hl
  rw [f_X7_layOne] at h
  refine lv_aload_n hx hb dX7_layOne_0 rfl (lv_at hl 2 rfl) ?_
  refine kget X hV (ci := 8) inlX8 rfl 2 rfl 1 (by decide) mw_647 rfl dX7_layOne_1 ?_
  have J25 : ∀ (t0_1 : Int32) (H : Heap) (locs : List Loc) (ls : Array Slot), (f_X7_layOne_J25 s_seed s_p1_day s_p2_number s_p2_star s_p2_minute s_p2_wide s_p2_shape s_p2_weekdays s_p1_heights s_p1_highest s_p1_shapes s_p2_law_clauses n_p2_law_code s_p2_law_code n_p2_law_middles s_p2_law_middles n_p2_law_starts s_p2_law_starts s_reckoner_letters s_reckoner_values ) t0_1 = some (o_p1_heights, o_p1_highest, o_p1_shapes, o_reckoner_letters, o_reckoner_values) → kV E A s.heap H locs [(a0, .inr (7, [w0_0, .ref a7, w0_2, .int s_seed])), (a1, .inr (4, [.ref a3, .ref a5, .ref a4, w1_3, w1_4, w1_5, .int s_p1_day])), (a2, .inr (8, [.int s_p2_number, .int s_p2_star, .int s_p2_minute, .int s_p2_wide, .int s_p2_shape, .int s_p2_weekdays, .ref a6])), (a3, .inl (E.2 0, 1440, .inl s_p1_heights)), (a4, .inl (E.2 0, 1440, .inl s_p1_highest)), (a5, .inl (E.2 0, 1440, .inl s_p1_shapes)), (a6, .inr (10, [.int s_p2_law_clauses, .ref a8, .ref a10, .ref a9])), (a7, .inr (5, [.ref a11, .ref a12])), (a8, .inl (E.2 0, n_p2_law_code, .inl s_p2_law_code)), (a9, .inl (E.2 0, n_p2_law_middles, .inl s_p2_law_middles)), (a10, .inl (E.2 0, n_p2_law_starts, .inl s_p2_law_starts)), (a11, .inl (E.2 0, 128, .inl s_reckoner_letters)), (a12, .inl (E.2 0, 32, .inl s_reckoner_values))] → lv_has ls 6 [(0, .ref a0), (1, .ref a1), (2, .ref a2)] → W p l e r_X7_layOne s m args below meth c H locs 0 0 Q (F0 m 25 ls [.int t0_1]) := by
    intro t0_1 H locs ls hB25 hVB25 hlB25
    rw [f_X7_layOne_J25] at hB25
    refine lv_istore_n (lv' := [(3, .int t0_1), (0, .ref a0), (1, .ref a1), (2, .ref a2)]) hx hb dX7_layOne_25 rfl hlB25 (by decide) rfl (fun ls hl2 => ?_)
    clear hlB25
    refine lv_aload_n hx hb dX7_layOne_26 rfl (lv_at hl2 3 rfl) ?_
    refine kget X hVB25 (ci := 8) inlX8 rfl 2 rfl 3 (by decide) mw_649 rfl dX7_layOne_27 ?_
    refine lv_ineg hx hb dX7_layOne_30 ?_
    obtain ⟨v31_3, e4, h5⟩ := nmI_s hB25
    clear hB25
    refine ktopi e4 ?_
    clear e4
    refine lv_istore (lv' := [(4, .int v31_3), (3, .int t0_1), (0, .ref a0), (1, .ref a1), (2, .ref a2)]) hx hb dX7_layOne_31 hl2 (by decide) rfl (fun ls hl6 => ?_)
    clear hl2
    have L33 : ∀ (n33 : Nat) (x4_7 : Int32) (p1_heights__8 : Nat → Int32) (p1_highest__9 : Nat → Int32) (p1_shapes__10 : Nat → Int32) (reckoner_letters__11 : Nat → Int32) (reckoner_values__12 : Nat → Int32) (H : Heap) (locs : List Loc) (ls : Array Slot), (f_X7_layOne_L33 s_seed s_p1_day s_p2_number s_p2_star s_p2_minute s_p2_wide s_p2_shape s_p2_weekdays s_p2_law_clauses n_p2_law_code s_p2_law_code n_p2_law_middles s_p2_law_middles n_p2_law_starts s_p2_law_starts t0_1  n33) x4_7 p1_heights__8 p1_highest__9 p1_shapes__10 reckoner_letters__11 reckoner_values__12 = some (o_p1_heights, o_p1_highest, o_p1_shapes, o_reckoner_letters, o_reckoner_values) → kV E A s.heap H locs [(a0, .inr (7, [w0_0, .ref a7, w0_2, .int s_seed])), (a1, .inr (4, [.ref a3, .ref a5, .ref a4, w1_3, w1_4, w1_5, .int s_p1_day])), (a2, .inr (8, [.int s_p2_number, .int s_p2_star, .int s_p2_minute, .int s_p2_wide, .int s_p2_shape, .int s_p2_weekdays, .ref a6])), (a3, .inl (E.2 0, 1440, .inl p1_heights__8)), (a4, .inl (E.2 0, 1440, .inl p1_highest__9)), (a5, .inl (E.2 0, 1440, .inl p1_shapes__10)), (a6, .inr (10, [.int s_p2_law_clauses, .ref a8, .ref a10, .ref a9])), (a7, .inr (5, [.ref a11, .ref a12])), (a8, .inl (E.2 0, n_p2_law_code, .inl s_p2_law_code)), (a9, .inl (E.2 0, n_p2_law_middles, .inl s_p2_law_middles)), (a10, .inl (E.2 0, n_p2_law_starts, .inl s_p2_law_starts)), (a11, .inl (E.2 0, 128, .inl reckoner_letters__11)), (a12, .inl (E.2 0, 32, .inl reckoner_values__12))] → lv_has ls 6 [(0, .ref a0), (1, .ref a1), (2, .ref a2), (3, .int t0_1), (4, .int x4_7)] → W p l e r_X7_layOne s m args below meth c H locs 0 0 Q (F0 m 33 ls []) := by
      intro n33
      induction n33 with
      | zero =>
        intro x4_7 p1_heights__8 p1_highest__9 p1_shapes__10 reckoner_letters__11 reckoner_values__12 H locs ls hB33 hVB33 hlB33
        rw [f_X7_layOne_L33] at hB33
        exact nomatch hB33
      | succ n33 ih33 =>
        intro x4_7 p1_heights__8 p1_highest__9 p1_shapes__10 reckoner_letters__11 reckoner_values__12 H locs ls hB33 hVB33 hlB33
        rw [f_X7_layOne_L33] at hB33
        refine lv_iload hx hb dX7_layOne_33 (lv_at hlB33 4 rfl) ?_
        refine lv_aload_n hx hb dX7_layOne_35 rfl (lv_at hlB33 2 rfl) ?_
        refine kget X hVB33 (ci := 8) inlX8 rfl 2 rfl 3 (by decide) mw_649 rfl dX7_layOne_36 ?_
        refine lv_icmp_gt (tgt := 81) hx hb dX7_layOne_39 (by decide) (fun c13 => ?_) (fun c13 => ?_)
        · have h14 := itS c13 hB33
          clear hB33 c13
          obtain ⟨q16, q17, q18, q19, q20⟩ := tup5_s h14
          clear h14
          exact hret () _ _ _ _ trivial (by rw [← q16, ← q17, ← q18, ← q19, ← q20]; exact hVB33) dX7_layOne_81
        · have h15 := ieS c13 hB33
          clear hB33 c13
          refine lv_iload_n hx hb dX7_layOne_42 rfl (lv_at hlB33 3 rfl) ?_
          refine lv_iload hx hb dX7_layOne_43 (lv_at hlB33 4 rfl) ?_
          refine lv_iadd hx hb dX7_layOne_45 ?_
          refine lv_sipush (v := 1440) hx hb dX7_layOne_46 (by decide) ?_
          obtain ⟨r49_21, hc22, h23⟩ := cb1_s h15
          clear h15
          refine kgoiE (krunS (rest := []) X hVB33 [] (c_J9_floorMod_7cf53 l E _ (t0_1 + x4_7) 1440 r49_21 hc22) mw_784 kb_J9_floorMod_7cf53 (by decide) rfl rfl hlB33.1 rfl (Nat.le_of_ble_eq_true rfl) dX7_layOne_49 (by decide)) X hVB33 [] [0, 1, 2, 3, 4, 5, 6, 7, 8, 9, 10, 11, 12] rfl rfl rfl (by decide) (fun u H locs hV24 => ?_)
          have hV24 : kV E A s.heap H locs [(a0, .inr (7, [w0_0, .ref a7, w0_2, .int s_seed])), (a1, .inr (4, [.ref a3, .ref a5, .ref a4, w1_3, w1_4, w1_5, .int s_p1_day])), (a2, .inr (8, [.int s_p2_number, .int s_p2_star, .int s_p2_minute, .int s_p2_wide, .int s_p2_shape, .int s_p2_weekdays, .ref a6])), (a3, .inl (E.2 0, 1440, .inl p1_heights__8)), (a4, .inl (E.2 0, 1440, .inl p1_highest__9)), (a5, .inl (E.2 0, 1440, .inl p1_shapes__10)), (a6, .inr (10, [.int s_p2_law_clauses, .ref a8, .ref a10, .ref a9])), (a7, .inr (5, [.ref a11, .ref a12])), (a8, .inl (E.2 0, n_p2_law_code, .inl s_p2_law_code)), (a9, .inl (E.2 0, n_p2_law_middles, .inl s_p2_law_middles)), (a10, .inl (E.2 0, n_p2_law_starts, .inl s_p2_law_starts)), (a11, .inl (E.2 0, 128, .inl reckoner_letters__11)), (a12, .inl (E.2 0, 32, .inl reckoner_values__12))] := hV24.sub [0, 1, 2, 3, 4, 5, 6, 7, 8, 9, 10, 11, 12] rfl rfl
          clear hVB33
          refine lv_istore (lv' := [(5, .int r49_21), (0, .ref a0), (1, .ref a1), (2, .ref a2), (3, .int t0_1), (4, .int x4_7)]) hx hb dX7_layOne_52 hlB33 (by decide) rfl (fun ls hl26 => ?_)
          clear hlB33
          refine lv_aload_n hx hb dX7_layOne_54 rfl (lv_at hl26 2 rfl) ?_
          refine lv_iload hx hb dX7_layOne_55 (lv_at hl26 0 rfl) ?_
          refine lv_aload_n hx hb dX7_layOne_57 rfl (lv_at hl26 1 rfl) ?_
          refine lv_aload_n hx hb dX7_layOne_58 rfl (lv_at hl26 3 rfl) ?_
          refine lv_aload_n hx hb dX7_layOne_59 rfl (lv_at hl26 2 rfl) ?_
          refine kget X hV24 (ci := 4) inlX4 rfl 1 rfl 6 (by decide) mw_771 rfl dX7_layOne_60 ?_
          refine lv_iload hx hb dX7_layOne_63 (lv_at hl26 0 rfl) ?_
          obtain ⟨r65_27, o_reckoner_letters65_28, o_reckoner_values65_29, hc30, h31⟩ := cb3_s h23
          clear h23
          refine kgoiE (krunV (rest := [.int r49_21, .ref a1]) X hV24 [0, 2, 6, 7, 8, 9, 10, 11, 12] (c_X7_heightOf l E _ a0 a2 a6 a7 a8 a9 a10 a11 a12 (w0_0) (w0_2) (.int s_p2_shape) n_p2_law_code n_p2_law_middles n_p2_law_starts s_seed s_p2_number s_p2_star s_p2_minute s_p2_wide s_p2_weekdays s_p2_law_clauses s_p2_law_code s_p2_law_middles s_p2_law_starts reckoner_letters__11 reckoner_values__12 s_p1_day r49_21 r65_27 o_reckoner_letters65_28 o_reckoner_values65_29 hc30) mw_788 kb_X7_heightOf (ci := 7) rfl rfl (by decide) rfl rfl hl26.1 rfl (Nat.le_of_ble_eq_true rfl) dX7_layOne_65 (by decide)) X hV24 [0, 2, 6, 7, 8, 9, 10, 11, 12] [1, 3, 4, 5] rfl rfl rfl (by decide) (fun u H locs hV32 => ?_)
          have hV32 : kV E A s.heap H locs [(a0, .inr (7, [w0_0, .ref a7, w0_2, .int s_seed])), (a1, .inr (4, [.ref a3, .ref a5, .ref a4, w1_3, w1_4, w1_5, .int s_p1_day])), (a2, .inr (8, [.int s_p2_number, .int s_p2_star, .int s_p2_minute, .int s_p2_wide, .int s_p2_shape, .int s_p2_weekdays, .ref a6])), (a3, .inl (E.2 0, 1440, .inl p1_heights__8)), (a4, .inl (E.2 0, 1440, .inl p1_highest__9)), (a5, .inl (E.2 0, 1440, .inl p1_shapes__10)), (a6, .inr (10, [.int s_p2_law_clauses, .ref a8, .ref a10, .ref a9])), (a7, .inr (5, [.ref a11, .ref a12])), (a8, .inl (E.2 0, n_p2_law_code, .inl s_p2_law_code)), (a9, .inl (E.2 0, n_p2_law_middles, .inl s_p2_law_middles)), (a10, .inl (E.2 0, n_p2_law_starts, .inl s_p2_law_starts)), (a11, .inl (E.2 0, 128, .inl o_reckoner_letters65_28)), (a12, .inl (E.2 0, 32, .inl o_reckoner_values65_29))] := hV32.sub [4, 0, 5, 1, 2, 3, 6, 7, 8, 9, 10, 11, 12] rfl rfl
          clear hV24
          refine lv_aload_n hx hb dX7_layOne_68 rfl (lv_at hl26 3 rfl) ?_
          refine kget X hV32 (ci := 8) inlX8 rfl 2 rfl 4 (by decide) mw_783 rfl dX7_layOne_69 ?_
          obtain ⟨o_heights72_34, o_highest72_35, o_shapes72_36, hc37, h38⟩ := cb3_s h31
          clear h31
          refine kgov (krunV (rest := []) X hV32 [1, 3, 4, 5] (c_X4_add l E _ a1 a3 a4 a5 (w1_3) (w1_4) (w1_5) (.int s_p1_day) p1_heights__8 p1_highest__9 p1_shapes__10 r49_21 r65_27 s_p2_shape o_heights72_34 o_highest72_35 o_shapes72_36 hc37) mw_789 kb_X4_add (ci := 4) rfl rfl (by decide) rfl rfl hl26.1 rfl (Nat.le_of_ble_eq_true rfl) dX7_layOne_72 (by decide)) X hV32 [1, 3, 4, 5] [0, 2, 6, 7, 8, 9, 10, 11, 12] rfl rfl rfl (by decide) (fun u H locs hp40 hV39 => ?_)
          have hV39 : kV E A s.heap H locs [(a0, .inr (7, [w0_0, .ref a7, w0_2, .int s_seed])), (a1, .inr (4, [.ref a3, .ref a5, .ref a4, w1_3, w1_4, w1_5, .int s_p1_day])), (a2, .inr (8, [.int s_p2_number, .int s_p2_star, .int s_p2_minute, .int s_p2_wide, .int s_p2_shape, .int s_p2_weekdays, .ref a6])), (a3, .inl (E.2 0, 1440, .inl o_heights72_34)), (a4, .inl (E.2 0, 1440, .inl o_highest72_35)), (a5, .inl (E.2 0, 1440, .inl o_shapes72_36)), (a6, .inr (10, [.int s_p2_law_clauses, .ref a8, .ref a10, .ref a9])), (a7, .inr (5, [.ref a11, .ref a12])), (a8, .inl (E.2 0, n_p2_law_code, .inl s_p2_law_code)), (a9, .inl (E.2 0, n_p2_law_middles, .inl s_p2_law_middles)), (a10, .inl (E.2 0, n_p2_law_starts, .inl s_p2_law_starts)), (a11, .inl (E.2 0, 128, .inl o_reckoner_letters65_28)), (a12, .inl (E.2 0, 32, .inl o_reckoner_values65_29))] := hV39.sub [0, 9, 1, 10, 11, 12, 2, 3, 4, 5, 6, 7, 8] rfl rfl
          clear hV32
          obtain ⟨v75_41, e42, h43⟩ := nmI_s h38
          clear h38
          refine lv_iinc (v := v75_41) (lv' := [(4, .int v75_41), (5, .int r49_21), (0, .ref a0), (1, .ref a1), (2, .ref a2), (3, .int t0_1)]) hx hb dX7_layOne_75 hl26 (k := 5) rfl (by rw [e42]; rfl) (by decide) rfl (fun ls hl44 => ?_)
          clear hl26 e42
          refine lv_goto (tgt := 33) hx hb dX7_layOne_78 (by decide) ?_
          exact ih33 v75_41 o_heights72_34 o_highest72_35 o_shapes72_36 o_reckoner_letters65_28 o_reckoner_values65_29 _ _ _ h43 hV39 (lv_sub hl44 [2, 3, 4, 5, 0] rfl)
    exact L33 FU v31_3 s_p1_heights s_p1_highest s_p1_shapes s_reckoner_letters s_reckoner_values _ _ _ h5 hVB25 (lv_sub hl6 [2, 3, 4, 1, 0] rfl)
  refine lv_if_eq (tgt := 21) hx hb dX7_layOne_4 (by decide) (fun c45 => ?_) (fun c45 => ?_)
  · have h46 := itS c45 h
    clear h c45
    refine lv_aload_n hx hb dX7_layOne_21 rfl (lv_at hl 2 rfl) ?_
    refine kget X hV (ci := 8) inlX8 rfl 2 rfl 2 (by decide) mw_648 rfl dX7_layOne_22 ?_
    exact J25 s_p2_minute _ _ _ h46 hV (lv_sub hl [0, 1, 2] rfl)
  · have h47 := ieS c45 h
    clear h c45
    refine lv_aload_n hx hb dX7_layOne_7 rfl (lv_at hl 2 rfl) ?_
    refine kget X hV (ci := 8) inlX8 rfl 2 rfl 2 (by decide) mw_648 rfl dX7_layOne_8 ?_
    refine lv_iconst (v := 4) hx hb dX7_layOne_11 (by decide) ?_
    refine lv_aload_n hx hb dX7_layOne_12 rfl (lv_at hl 1 rfl) ?_
    refine kget X hV (ci := 4) inlX4 rfl 1 rfl 6 (by decide) mw_771 rfl dX7_layOne_13 ?_
    refine lv_imul hx hb dX7_layOne_16 ?_
    refine lv_isub hx hb dX7_layOne_17 ?_
    refine lv_goto (tgt := 25) hx hb dX7_layOne_18 (by decide) ?_
    exact J25 (s_p2_minute - (4 * s_p1_day)) _ _ _ h47 hV (lv_sub hl [0, 1, 2] rfl)
noncomputable def f_J7_fill_53178_L5 (n_p1 : Nat) (p2 : Int32) (v4_2 : Int32)  : Nat → Int32 → (Nat → Int32) → Option ((Nat → Int32))
  | 0, _, _ => none
  | n5 + 1, x2_6, p1__7 =>
    if v4_2 ≤ x2_6 then
    (some (p1__7))
    else
    (wrI p1__7 n_p1 x2_6 p2 fun g13_12 =>
      nmI (x2_6 + 1) fun v14_17 =>
      (f_J7_fill_53178_L5 n_p1 p2 v4_2  n5) v14_17 g13_12)
noncomputable def f_J7_fill_53178 (n_p1 : Nat) (s_p1 : Nat → Int32) (p2 : Int32) : Option ((Nat → Int32)) :=
    nmI (Int32.ofNat n_p1) fun v4_2 =>
    (f_J7_fill_53178_L5 n_p1 p2 v4_2  FU) 0 s_p1
abbrev r_J7_fill_53178 : Room := { frames := 0, cells := 0, slots := 0, locals := 0 }
set_option maxHeartbeats 4000000 in
set_option maxRecDepth 100000 in
theorem c_J7_fill_53178 (l : Launch) (E : kE) (sz : Nat) (a0 : Nat) (n_p1 : Nat) (s_p1 : Nat → Int32) (p2 : Int32) (o_p1 : Nat → Int32) (h : f_J7_fill_53178 n_p1 s_p1 p2 = some (o_p1)) : kMv l yJ7_fill_53178 cJ7_fill_53178 4 r_J7_fill_53178 [.ref a0, .int p2] E [(a0, .inl (E.2 0, n_p1, .inl s_p1))] sz 0 0 (fun (_ : Unit) => True) (fun _ => [(a0, .inl (E.2 0, n_p1, .inl o_p1))]) := by
  refine kmetv rfl (Nat.le_of_ble_eq_true rfl) ?_
  intro p e s m args below meth c ls A Q X hnm hV hret hl
  have X : kC p s m c cJ7_fill_53178 4 RJ7 args E A := X
  have hx := X.1
  have hb := X.2.1
  have hl : lv_has ls 4 [(0, .ref a0), (1, .int p2)] := hl
  rw [f_J7_fill_53178] at h
  refine lv_iconst (v := 0) hx hb dJ7_fill_53178_0 (by decide) ?_
  refine lv_istore_n (lv' := [(2, .int 0), (0, .ref a0), (1, .int p2)]) hx hb dJ7_fill_53178_1 rfl hl (by decide) rfl (fun ls hl1 => ?_)
  clear hl
  refine lv_aload_n hx hb dJ7_fill_53178_2 rfl (lv_at hl1 1 rfl) ?_
  refine kalen X hV 0 0 rfl rfl (v := (Int32.ofNat n_p1)) rfl dJ7_fill_53178_3 ?_
  obtain ⟨v4_2, e3, h4⟩ := nmI_s h
  clear h
  refine ktopi e3 ?_
  clear e3
  refine lv_istore_n (lv' := [(3, .int v4_2), (2, .int 0), (0, .ref a0), (1, .int p2)]) hx hb dJ7_fill_53178_4 rfl hl1 (by decide) rfl (fun ls hl5 => ?_)
  clear hl1
  have L5 : ∀ (n5 : Nat) (x2_6 : Int32) (p1__7 : Nat → Int32) (H : Heap) (locs : List Loc) (ls : Array Slot), (f_J7_fill_53178_L5 n_p1 p2 v4_2  n5) x2_6 p1__7 = some (o_p1) → kV E A s.heap H locs [(a0, .inl (E.2 0, n_p1, .inl p1__7))] → lv_has ls 4 [(0, .ref a0), (1, .int p2), (2, .int x2_6), (3, .int v4_2)] → W p l e r_J7_fill_53178 s m args below meth c H locs 0 0 Q (F0 m 5 ls []) := by
    intro n5
    induction n5 with
    | zero =>
      intro x2_6 p1__7 H locs ls hB5 hVB5 hlB5
      rw [f_J7_fill_53178_L5] at hB5
      exact nomatch hB5
    | succ n5 ih5 =>
      intro x2_6 p1__7 H locs ls hB5 hVB5 hlB5
      rw [f_J7_fill_53178_L5] at hB5
      refine lv_iload_n hx hb dJ7_fill_53178_5 rfl (lv_at hlB5 2 rfl) ?_
      refine lv_iload_n hx hb dJ7_fill_53178_6 rfl (lv_at hlB5 3 rfl) ?_
      refine lv_icmp_ge (tgt := 20) hx hb dJ7_fill_53178_7 (by decide) (fun c8 => ?_) (fun c8 => ?_)
      · have h9 := itS c8 hB5
        clear hB5 c8
        have q11 := tup1_s h9
        clear h9
        exact hret () _ _ _ _ trivial (by rw [← q11]; exact hVB5) dJ7_fill_53178_20
      · have h10 := ieS c8 hB5
        clear hB5 c8
        refine lv_aload_n hx hb dJ7_fill_53178_10 rfl (lv_at hlB5 0 rfl) ?_
        refine lv_iload_n hx hb dJ7_fill_53178_11 rfl (lv_at hlB5 2 rfl) ?_
        refine lv_iload_n hx hb dJ7_fill_53178_12 rfl (lv_at hlB5 1 rfl) ?_
        obtain ⟨hi13, g13_12, e14, h15⟩ := wrI_s h10
        clear h10
        refine kiast X hVB5 0 rfl hi13 e14 dJ7_fill_53178_13 (fun H locs hV16 => ?_)
        have hV16 : kV E A s.heap H locs [(a0, .inl (E.2 0, n_p1, .inl g13_12))] := hV16
        clear hVB5 hi13 e14
        obtain ⟨v14_17, e18, h19⟩ := nmI_s h15
        clear h15
        refine lv_iinc (v := v14_17) (lv' := [(2, .int v14_17), (0, .ref a0), (1, .int p2), (3, .int v4_2)]) hx hb dJ7_fill_53178_14 hlB5 (k := 2) rfl (by rw [e18]; rfl) (by decide) rfl (fun ls hl20 => ?_)
        clear hlB5 e18
        refine lv_goto (tgt := 5) hx hb dJ7_fill_53178_17 (by decide) ?_
        exact ih5 v14_17 g13_12 _ _ _ h19 hV16 (lv_sub hl20 [1, 2, 0, 3] rfl)
  exact L5 FU 0 s_p1 _ _ _ h4 hV (lv_sub hl5 [2, 3, 1, 0] rfl)
noncomputable def f_X4_forget (s_day : Int32) : Option (Int32) :=
    some ((-1))
abbrev r_X4_forget : Room := { frames := 0, cells := 0, slots := 0, locals := 0 }
set_option maxHeartbeats 4000000 in
set_option maxRecDepth 100000 in
theorem c_X4_forget (l : Launch) (E : kE) (sz : Nat) (a0 : Nat) (w0_0 w0_1 w0_2 w0_3 w0_4 w0_5 : Value) (s_day : Int32) (o_day : Int32) (h : f_X4_forget s_day = some (o_day)) : kMv l yX4_forget cX4_forget 1 r_X4_forget [.ref a0] E [(a0, .inr (4, [w0_0, w0_1, w0_2, w0_3, w0_4, w0_5, .int s_day]))] sz 0 0 (fun (_ : Unit) => True) (fun _ => [(a0, .inr (4, [w0_0, w0_1, w0_2, w0_3, w0_4, w0_5, .int o_day]))]) := by
  refine kmetv rfl (Nat.le_of_ble_eq_true rfl) ?_
  intro p e s m args below meth c ls A Q X hnm hV hret hl
  have X : kC p s m c cX4_forget 1 RX4 args E A := X
  have hx := X.1
  have hb := X.2.1
  have hl : lv_has ls 1 [(0, .ref a0)] := hl
  rw [f_X4_forget] at h
  refine lv_aload_n hx hb dX4_forget_0 rfl (lv_at hl 0 rfl) ?_
  refine lv_iconst (v := (-1)) hx hb dX4_forget_1 (by decide) ?_
  refine kput X hV (ci := 4) inlX4 rfl tyX4 tyX4_ok nmX4 0 rfl 6 (by decide) mw_94 rfl rfl rfl (Nat.le_of_ble_eq_true rfl) dX4_forget_2 (fun H locs hV1 => ?_)
  have hV1 : kV E A s.heap H locs [(a0, .inr (4, [w0_0, w0_1, w0_2, w0_3, w0_4, w0_5, .int (-1)]))] := hV1
  clear hV
  have q2 := tup1_s h
  clear h
  exact hret () _ _ _ _ trivial (by rw [← q2]; exact hV1) dX4_forget_5
noncomputable def f_X4_forgetReader (s_readers : Int32) (p1 : Int32) : Option (Int32) :=
    nmI (s_readers &&& ((jshl 1 p1) ^^^ (-1))) fun v11_1 =>
    some (v11_1)
abbrev r_X4_forgetReader : Room := { frames := 0, cells := 0, slots := 0, locals := 0 }
set_option maxHeartbeats 4000000 in
set_option maxRecDepth 100000 in
theorem c_X4_forgetReader (l : Launch) (E : kE) (sz : Nat) (a0 : Nat) (w0_0 w0_1 w0_2 w0_3 w0_4 w0_6 : Value) (s_readers : Int32) (p1 : Int32) (o_readers : Int32) (h : f_X4_forgetReader s_readers p1 = some (o_readers)) : kMv l yX4_forgetReader cX4_forgetReader 2 r_X4_forgetReader [.ref a0, .int p1] E [(a0, .inr (4, [w0_0, w0_1, w0_2, w0_3, w0_4, .int s_readers, w0_6]))] sz 0 0 (fun (_ : Unit) => True) (fun _ => [(a0, .inr (4, [w0_0, w0_1, w0_2, w0_3, w0_4, .int o_readers, w0_6]))]) := by
  refine kmetv rfl (Nat.le_of_ble_eq_true rfl) ?_
  intro p e s m args below meth c ls A Q X hnm hV hret hl
  have X : kC p s m c cX4_forgetReader 2 RX4 args E A := X
  have hx := X.1
  have hb := X.2.1
  have hl : lv_has ls 2 [(0, .ref a0), (1, .int p1)] := hl
  rw [f_X4_forgetReader] at h
  refine lv_aload_n hx hb dX4_forgetReader_0 rfl (lv_at hl 0 rfl) ?_
  refine lv_dup hx hb dX4_forgetReader_1 rfl ?_
  refine kget X hV (ci := 4) inlX4 rfl 0 rfl 5 (by decide) mw_93 rfl dX4_forgetReader_2 ?_
  refine lv_iconst (v := 1) hx hb dX4_forgetReader_5 (by decide) ?_
  refine lv_iload_n hx hb dX4_forgetReader_6 rfl (lv_at hl 1 rfl) ?_
  refine lv_ishl hx hb dX4_forgetReader_7 ?_
  refine lv_iconst (v := (-1)) hx hb dX4_forgetReader_8 (by decide) ?_
  refine lv_ixor hx hb dX4_forgetReader_9 ?_
  refine lv_iand hx hb dX4_forgetReader_10 ?_
  obtain ⟨v11_1, e2, h3⟩ := nmI_s h
  clear h
  refine ktopi e2 ?_
  clear e2
  refine kput X hV (ci := 4) inlX4 rfl tyX4 tyX4_ok nmX4 0 rfl 5 (by decide) mw_93 rfl rfl rfl (Nat.le_of_ble_eq_true rfl) dX4_forgetReader_11 (fun H locs hV4 => ?_)
  have hV4 : kV E A s.heap H locs [(a0, .inr (4, [w0_0, w0_1, w0_2, w0_3, w0_4, .int v11_1, w0_6]))] := hV4
  clear hV
  have q5 := tup1_s h3
  clear h3
  exact hret () _ _ _ _ trivial (by rw [← q5]; exact hV4) dX4_forgetReader_14
noncomputable def f_X4_clear (s_readers : Int32) (s_day : Int32) (s_heights : Nat → Int32) (s_highest : Nat → Int32) (s_shapes : Nat → Int32) (p1 : Int32) : Option (Int32 × Int32 × (Nat → Int32) × (Nat → Int32) × (Nat → Int32)) :=
    cb1 (f_J7_fill_53178 1440 s_heights 0) fun o_p115_3 =>
    cb1 (f_J7_fill_53178 1440 s_highest 0) fun o_p123_8 =>
    cb1 (f_J7_fill_53178 1440 s_shapes 4) fun o_p131_13 =>
    some (0, p1, o_p115_3, o_p123_8, o_p131_13)
abbrev r_X4_clear : Room := { frames := 1, cells := 0, slots := 0, locals := 23 }
set_option maxHeartbeats 4000000 in
set_option maxRecDepth 100000 in
theorem c_X4_clear (l : Launch) (E : kE) (sz : Nat) (a0 a1 a2 a3 : Nat) (w0_3 w0_4 : Value) (s_readers : Int32) (s_day : Int32) (s_heights : Nat → Int32) (s_highest : Nat → Int32) (s_shapes : Nat → Int32) (p1 : Int32) (o_readers : Int32) (o_day : Int32) (o_heights : Nat → Int32) (o_highest : Nat → Int32) (o_shapes : Nat → Int32) (h : f_X4_clear s_readers s_day s_heights s_highest s_shapes p1 = some (o_readers, o_day, o_heights, o_highest, o_shapes)) : kMv l yX4_clear cX4_clear 2 r_X4_clear [.ref a0, .int p1] E [(a0, .inr (4, [.ref a1, .ref a3, .ref a2, w0_3, w0_4, .int s_readers, .int s_day])), (a1, .inl (E.2 0, 1440, .inl s_heights)), (a2, .inl (E.2 0, 1440, .inl s_highest)), (a3, .inl (E.2 0, 1440, .inl s_shapes))] sz 0 0 (fun (_ : Unit) => True) (fun _ => [(a0, .inr (4, [.ref a1, .ref a3, .ref a2, w0_3, w0_4, .int o_readers, .int o_day])), (a1, .inl (E.2 0, 1440, .inl o_heights)), (a2, .inl (E.2 0, 1440, .inl o_highest)), (a3, .inl (E.2 0, 1440, .inl o_shapes))]) := by
  refine kmetv rfl (Nat.le_of_ble_eq_true rfl) ?_
  intro p e s m args below meth c ls A Q X hnm hV hret hl
  have X : kC p s m c cX4_clear 2 RX4 args E A := X
  have hx := X.1
  have hb := X.2.1
  have hl : lv_has ls 2 [(0, .ref a0), (1, .int p1)] := hl
  rw [f_X4_clear] at h
  refine lv_aload_n hx hb dX4_clear_0 rfl (lv_at hl 0 rfl) ?_
  refine lv_iload_n hx hb dX4_clear_1 rfl (lv_at hl 1 rfl) ?_
  refine kput X hV (ci := 4) inlX4 rfl tyX4 tyX4_ok nmX4 0 rfl 6 (by decide) mw_94 rfl rfl rfl (Nat.le_of_ble_eq_true rfl) dX4_clear_2 (fun H locs hV1 => ?_)
  have hV1 : kV E A s.heap H locs [(a0, .inr (4, [.ref a1, .ref a3, .ref a2, w0_3, w0_4, .int s_readers, .int p1])), (a1, .inl (E.2 0, 1440, .inl s_heights)), (a2, .inl (E.2 0, 1440, .inl s_highest)), (a3, .inl (E.2 0, 1440, .inl s_shapes))] := hV1
  clear hV
  refine lv_aload_n hx hb dX4_clear_5 rfl (lv_at hl 0 rfl) ?_
  refine lv_iconst (v := 0) hx hb dX4_clear_6 (by decide) ?_
  refine kput X hV1 (ci := 4) inlX4 rfl tyX4 tyX4_ok nmX4 0 rfl 5 (by decide) mw_93 rfl rfl rfl (Nat.le_of_ble_eq_true rfl) dX4_clear_7 (fun H locs hV2 => ?_)
  have hV2 : kV E A s.heap H locs [(a0, .inr (4, [.ref a1, .ref a3, .ref a2, w0_3, w0_4, .int 0, .int p1])), (a1, .inl (E.2 0, 1440, .inl s_heights)), (a2, .inl (E.2 0, 1440, .inl s_highest)), (a3, .inl (E.2 0, 1440, .inl s_shapes))] := hV2
  clear hV1
  refine lv_aload_n hx hb dX4_clear_10 rfl (lv_at hl 0 rfl) ?_
  refine kget X hV2 (ci := 4) inlX4 rfl 0 rfl 0 (by decide) mw_87 rfl dX4_clear_11 ?_
  refine lv_iconst (v := 0) hx hb dX4_clear_14 (by decide) ?_
  obtain ⟨o_p115_3, hc4, h5⟩ := cb1_s h
  clear h
  refine kgov (krunS (rest := []) X hV2 [1] (c_J7_fill_53178 l E _ a1 1440 s_heights 0 o_p115_3 hc4) mw_776 kb_J7_fill_53178 (by decide) rfl rfl hl.1 rfl (Nat.le_of_ble_eq_true rfl) dX4_clear_15 (by decide)) X hV2 [1] [0, 2, 3] rfl rfl rfl (by decide) (fun u H locs hp7 hV6 => ?_)
  have hV6 : kV E A s.heap H locs [(a0, .inr (4, [.ref a1, .ref a3, .ref a2, w0_3, w0_4, .int 0, .int p1])), (a1, .inl (E.2 0, 1440, .inl o_p115_3)), (a2, .inl (E.2 0, 1440, .inl s_highest)), (a3, .inl (E.2 0, 1440, .inl s_shapes))] := hV6.sub [0, 3, 1, 2] rfl rfl
  clear hV2
  refine lv_aload_n hx hb dX4_clear_18 rfl (lv_at hl 0 rfl) ?_
  refine kget X hV6 (ci := 4) inlX4 rfl 0 rfl 2 (by decide) mw_89 rfl dX4_clear_19 ?_
  refine lv_iconst (v := 0) hx hb dX4_clear_22 (by decide) ?_
  obtain ⟨o_p123_8, hc9, h10⟩ := cb1_s h5
  clear h5
  refine kgov (krunS (rest := []) X hV6 [2] (c_J7_fill_53178 l E _ a2 1440 s_highest 0 o_p123_8 hc9) mw_776 kb_J7_fill_53178 (by decide) rfl rfl hl.1 rfl (Nat.le_of_ble_eq_true rfl) dX4_clear_23 (by decide)) X hV6 [2] [0, 1, 3] rfl rfl rfl (by decide) (fun u H locs hp12 hV11 => ?_)
  have hV11 : kV E A s.heap H locs [(a0, .inr (4, [.ref a1, .ref a3, .ref a2, w0_3, w0_4, .int 0, .int p1])), (a1, .inl (E.2 0, 1440, .inl o_p115_3)), (a2, .inl (E.2 0, 1440, .inl o_p123_8)), (a3, .inl (E.2 0, 1440, .inl s_shapes))] := hV11.sub [0, 1, 3, 2] rfl rfl
  clear hV6
  refine lv_aload_n hx hb dX4_clear_26 rfl (lv_at hl 0 rfl) ?_
  refine kget X hV11 (ci := 4) inlX4 rfl 0 rfl 1 (by decide) mw_88 rfl dX4_clear_27 ?_
  refine lv_iconst (v := 4) hx hb dX4_clear_30 (by decide) ?_
  obtain ⟨o_p131_13, hc14, h15⟩ := cb1_s h10
  clear h10
  refine kgov (krunS (rest := []) X hV11 [3] (c_J7_fill_53178 l E _ a3 1440 s_shapes 4 o_p131_13 hc14) mw_776 kb_J7_fill_53178 (by decide) rfl rfl hl.1 rfl (Nat.le_of_ble_eq_true rfl) dX4_clear_31 (by decide)) X hV11 [3] [0, 1, 2] rfl rfl rfl (by decide) (fun u H locs hp17 hV16 => ?_)
  have hV16 : kV E A s.heap H locs [(a0, .inr (4, [.ref a1, .ref a3, .ref a2, w0_3, w0_4, .int 0, .int p1])), (a1, .inl (E.2 0, 1440, .inl o_p115_3)), (a2, .inl (E.2 0, 1440, .inl o_p123_8)), (a3, .inl (E.2 0, 1440, .inl o_p131_13))] := hV16.sub [0, 1, 2, 3] rfl rfl
  clear hV11
  obtain ⟨q18, q19, q20, q21, q22⟩ := tup5_s h15
  clear h15
  exact hret () _ _ _ _ trivial (by rw [← q18, ← q19, ← q20, ← q21, ← q22]; exact hV16) dX4_clear_34
noncomputable def f_X4_greatestOf_L5 (s_heights : Nat → Int32) (p2 : Int32)  : Nat → Int32 → Int32 → Option (Int32)
  | 0, _, _ => none
  | n5 + 1, x3_3, x4_4 =>
    if p2 < x4_4 then
    (some (x3_3))
    else
    (if 1440 ≤ x4_4 then
      (some (x3_3))
      else
      (rdI s_heights 1440 x4_4 fun v26_13 =>
        nmI (jmax x3_3 v26_13) fun v30_17 =>
        nmI (x4_4 + 1) fun v31_21 =>
        (f_X4_greatestOf_L5 s_heights p2  n5) v30_17 v31_21))
noncomputable def f_X4_greatestOf (s_heights : Nat → Int32) (p1 : Int32) (p2 : Int32) : Option (Int32) :=
    (f_X4_greatestOf_L5 s_heights p2  FU) 0 p1
abbrev r_X4_greatestOf : Room := { frames := 1, cells := 0, slots := 0, locals := 23 }
set_option maxHeartbeats 4000000 in
set_option maxRecDepth 100000 in
theorem c_X4_greatestOf (l : Launch) (E : kE) (sz : Nat) (a0 a1 : Nat) (w0_1 w0_2 w0_3 w0_4 w0_5 w0_6 : Value) (s_heights : Nat → Int32) (p1 : Int32) (p2 : Int32) (r : Int32) (h : f_X4_greatestOf s_heights p1 p2 = some (r)) : kMi l yX4_greatestOf cX4_greatestOf 5 (some .int) r_X4_greatestOf [.ref a0, .int p1, .int p2] E [(a0, .inr (4, [.ref a1, w0_1, w0_2, w0_3, w0_4, w0_5, w0_6])), (a1, .inl (E.2 0, 1440, .inl s_heights))] sz 0 0 (fun x (_ : Unit) => x = r) (fun _ => [(a0, .inr (4, [.ref a1, w0_1, w0_2, w0_3, w0_4, w0_5, w0_6])), (a1, .inl (E.2 0, 1440, .inl s_heights))]) := by
  refine kmeti rfl (Nat.le_of_ble_eq_true rfl) ?_
  intro p e s m args below meth c ls A Q X hV hret hl
  have X : kC p s m c cX4_greatestOf 5 RX4 args E A := X
  have hx := X.1
  have hb := X.2.1
  have hl : lv_has ls 5 [(0, .ref a0), (1, .int p1), (2, .int p2)] := hl
  rw [f_X4_greatestOf] at h
  refine lv_iconst (v := 0) hx hb dX4_greatestOf_0 (by decide) ?_
  refine lv_istore_n (lv' := [(3, .int 0), (0, .ref a0), (1, .int p1), (2, .int p2)]) hx hb dX4_greatestOf_1 rfl hl (by decide) rfl (fun ls hl1 => ?_)
  clear hl
  refine lv_iload_n hx hb dX4_greatestOf_2 rfl (lv_at hl1 2 rfl) ?_
  refine lv_istore (lv' := [(4, .int p1), (3, .int 0), (0, .ref a0), (1, .int p1), (2, .int p2)]) hx hb dX4_greatestOf_3 hl1 (by decide) rfl (fun ls hl2 => ?_)
  clear hl1
  have L5 : ∀ (n5 : Nat) (x3_3 : Int32) (x4_4 : Int32) (H : Heap) (locs : List Loc) (ls : Array Slot), (f_X4_greatestOf_L5 s_heights p2  n5) x3_3 x4_4 = some (r) → kV E A s.heap H locs [(a0, .inr (4, [.ref a1, w0_1, w0_2, w0_3, w0_4, w0_5, w0_6])), (a1, .inl (E.2 0, 1440, .inl s_heights))] → lv_has ls 5 [(0, .ref a0), (2, .int p2), (3, .int x3_3), (4, .int x4_4)] → W p l e r_X4_greatestOf s m args below meth c H locs 0 0 Q (F0 m 5 ls []) := by
    intro n5
    induction n5 with
    | zero =>
      intro x3_3 x4_4 H locs ls hB5 hVB5 hlB5
      rw [f_X4_greatestOf_L5] at hB5
      exact nomatch hB5
    | succ n5 ih5 =>
      intro x3_3 x4_4 H locs ls hB5 hVB5 hlB5
      rw [f_X4_greatestOf_L5] at hB5
      refine lv_iload hx hb dX4_greatestOf_5 (lv_at hlB5 3 rfl) ?_
      refine lv_iload_n hx hb dX4_greatestOf_7 rfl (lv_at hlB5 1 rfl) ?_
      refine lv_icmp_gt (tgt := 37) hx hb dX4_greatestOf_8 (by decide) (fun c5 => ?_) (fun c5 => ?_)
      · have h6 := itS c5 hB5
        clear hB5 c5
        refine lv_iload_n hx hb dX4_greatestOf_37 rfl (lv_at hlB5 2 rfl) ?_
        have q8 := tup1_s h6
        clear h6
        exact hret _ () _ _ _ _ q8 rfl hVB5 dX4_greatestOf_38
      · have h7 := ieS c5 hB5
        clear hB5 c5
        refine lv_iload hx hb dX4_greatestOf_11 (lv_at hlB5 3 rfl) ?_
        refine lv_sipush (v := 1440) hx hb dX4_greatestOf_13 (by decide) ?_
        refine lv_icmp_ge (tgt := 37) hx hb dX4_greatestOf_16 (by decide) (fun c9 => ?_) (fun c9 => ?_)
        · have h10 := itS c9 h7
          clear h7 c9
          refine lv_iload_n hx hb dX4_greatestOf_37 rfl (lv_at hlB5 2 rfl) ?_
          have q12 := tup1_s h10
          clear h10
          exact hret _ () _ _ _ _ q12 rfl hVB5 dX4_greatestOf_38
        · have h11 := ieS c9 h7
          clear h7 c9
          refine lv_iload_n hx hb dX4_greatestOf_19 rfl (lv_at hlB5 2 rfl) ?_
          refine lv_aload_n hx hb dX4_greatestOf_20 rfl (lv_at hlB5 0 rfl) ?_
          refine kget X hVB5 (ci := 4) inlX4 rfl 0 rfl 0 (by decide) mw_87 rfl dX4_greatestOf_21 ?_
          refine lv_iload hx hb dX4_greatestOf_24 (lv_at hlB5 3 rfl) ?_
          obtain ⟨hi14, v26_13, e15, h16⟩ := rdI_s h11
          clear h11
          refine kiald X hVB5 1 rfl hi14 e15 dX4_greatestOf_26 ?_
          clear hi14 e15
          refine va_mmax hx hb (X.2.2.1.trans hlB5.1.symm) X.2.2.2.1 (X.2.2.2.2.1 _ mw_820) (X.2.2.2.2.1 _ mw_354) (X.2.2.2.2.1 _ mw_281) (X.2.2.2.2.1 _ mw_355) (by decide) (Nat.le_of_ble_eq_true rfl) (by decide) (by decide) dX4_greatestOf_27 ?_
          obtain ⟨v30_17, e18, h19⟩ := nmI_s h16
          clear h16
          refine ktopi e18 ?_
          clear e18
          refine lv_istore_n (lv' := [(3, .int v30_17), (0, .ref a0), (2, .int p2), (4, .int x4_4)]) hx hb dX4_greatestOf_30 rfl hlB5 (by decide) rfl (fun ls hl20 => ?_)
          clear hlB5
          obtain ⟨v31_21, e22, h23⟩ := nmI_s h19
          clear h19
          refine lv_iinc (v := v31_21) (lv' := [(4, .int v31_21), (3, .int v30_17), (0, .ref a0), (2, .int p2)]) hx hb dX4_greatestOf_31 hl20 (k := 3) rfl (by rw [e22]; rfl) (by decide) rfl (fun ls hl24 => ?_)
          clear hl20 e22
          refine lv_goto (tgt := 5) hx hb dX4_greatestOf_34 (by decide) ?_
          exact ih5 v30_17 v31_21 _ _ _ h23 hVB5 (lv_sub hl24 [2, 3, 1, 0] rfl)
  exact L5 FU 0 p1 _ _ _ h hV (lv_sub hl2 [2, 4, 1, 0] rfl)
noncomputable def f_X4_greatestBefore_J51 (s_heights : Nat → Int32) (p1 : Int32) (p2 : Int32) (v31_1 : Int32)  (t0_5 : Int32) : Option (Int32) :=
    if t0_5 = 0 then
    (cb1 (f_X4_greatestOf s_heights (v31_1 + 1) (p1 - 1)) fun r69_10 =>
      some (r69_10))
    else
    (some (p2))
noncomputable def f_X4_greatestBefore_J25 (s_heights : Nat → Int32) (p1 : Int32) (p2 : Int32)   : Option (Int32) :=
    nmI ((p1 - 10) - 1) fun v31_1 =>
    if v31_1 < 0 then
    ((f_X4_greatestBefore_J51 s_heights p1 p2 v31_1 ) 1)
    else
    (rdI s_heights 1440 v31_1 fun v41_20 =>
      if p2 ≤ v41_20 then
      ((f_X4_greatestBefore_J51 s_heights p1 p2 v31_1 ) 0)
      else
      ((f_X4_greatestBefore_J51 s_heights p1 p2 v31_1 ) 1))
noncomputable def f_X4_greatestBefore (s_heights : Nat → Int32) (p1 : Int32) (p2 : Int32) : Option (Int32) :=
    if p1 ≤ 0 then
    ((f_X4_greatestBefore_J25 s_heights p1 p2 ))
    else
    (rdI s_heights 1440 (p1 - 1) fun v11_30 =>
      if v11_30 < p2 then
      ((f_X4_greatestBefore_J25 s_heights p1 p2 ))
      else
      (rdI s_heights 1440 (p1 - 1) fun v23_37 =>
        some (v23_37)))
abbrev r_X4_greatestBefore : Room := { frames := 2, cells := 0, slots := 0, locals := 47 }
set_option maxHeartbeats 4000000 in
set_option maxRecDepth 100000 in
theorem c_X4_greatestBefore (l : Launch) (E : kE) (sz : Nat) (a0 a1 : Nat) (w0_1 w0_2 w0_3 w0_4 w0_5 w0_6 : Value) (s_heights : Nat → Int32) (p1 : Int32) (p2 : Int32) (r : Int32) (h : f_X4_greatestBefore s_heights p1 p2 = some (r)) : kMi l yX4_greatestBefore cX4_greatestBefore 5 (some .int) r_X4_greatestBefore [.ref a0, .int p1, .int p2] E [(a0, .inr (4, [.ref a1, w0_1, w0_2, w0_3, w0_4, w0_5, w0_6])), (a1, .inl (E.2 0, 1440, .inl s_heights))] sz 0 0 (fun x (_ : Unit) => x = r) (fun _ => [(a0, .inr (4, [.ref a1, w0_1, w0_2, w0_3, w0_4, w0_5, w0_6])), (a1, .inl (E.2 0, 1440, .inl s_heights))]) := by
  refine kmeti rfl (Nat.le_of_ble_eq_true rfl) ?_
  intro p e s m args below meth c ls A Q X hV hret hl
  have X : kC p s m c cX4_greatestBefore 5 RX4 args E A := X
  have hx := X.1
  have hb := X.2.1
  have hl : lv_has ls 5 [(0, .ref a0), (1, .int p1), (2, .int p2)] := hl
  rw [f_X4_greatestBefore] at h
  refine lv_iload_n hx hb dX4_greatestBefore_0 rfl (lv_at hl 1 rfl) ?_
  have J25 : ∀  (H : Heap) (locs : List Loc) (ls : Array Slot), (f_X4_greatestBefore_J25 s_heights p1 p2 ) = some (r) → kV E A s.heap H locs [(a0, .inr (4, [.ref a1, w0_1, w0_2, w0_3, w0_4, w0_5, w0_6])), (a1, .inl (E.2 0, 1440, .inl s_heights))] → lv_has ls 5 [(0, .ref a0), (1, .int p1), (2, .int p2)] → W p l e r_X4_greatestBefore s m args below meth c H locs 0 0 Q (F0 m 25 ls []) := by
    intro  H locs ls hB25 hVB25 hlB25
    rw [f_X4_greatestBefore_J25] at hB25
    refine lv_iload_n hx hb dX4_greatestBefore_25 rfl (lv_at hlB25 1 rfl) ?_
    refine lv_bipush (v := 10) hx hb dX4_greatestBefore_26 (by decide) ?_
    refine lv_isub hx hb dX4_greatestBefore_28 ?_
    refine lv_iconst (v := 1) hx hb dX4_greatestBefore_29 (by decide) ?_
    refine lv_isub hx hb dX4_greatestBefore_30 ?_
    obtain ⟨v31_1, e2, h3⟩ := nmI_s hB25
    clear hB25
    refine ktopi e2 ?_
    clear e2
    refine lv_istore_n (lv' := [(3, .int v31_1), (0, .ref a0), (1, .int p1), (2, .int p2)]) hx hb dX4_greatestBefore_31 rfl hlB25 (by decide) rfl (fun ls hl4 => ?_)
    clear hlB25
    refine lv_iload_n hx hb dX4_greatestBefore_32 rfl (lv_at hl4 0 rfl) ?_
    have J51 : ∀ (t0_5 : Int32) (H : Heap) (locs : List Loc) (ls : Array Slot), (f_X4_greatestBefore_J51 s_heights p1 p2 v31_1 ) t0_5 = some (r) → kV E A s.heap H locs [(a0, .inr (4, [.ref a1, w0_1, w0_2, w0_3, w0_4, w0_5, w0_6])), (a1, .inl (E.2 0, 1440, .inl s_heights))] → lv_has ls 5 [(0, .ref a0), (1, .int p1), (2, .int p2), (3, .int v31_1)] → W p l e r_X4_greatestBefore s m args below meth c H locs 0 0 Q (F0 m 51 ls [.int t0_5]) := by
      intro t0_5 H locs ls hB51 hVB51 hlB51
      rw [f_X4_greatestBefore_J51] at hB51
      refine lv_istore (lv' := [(4, .int t0_5), (0, .ref a0), (1, .int p1), (2, .int p2), (3, .int v31_1)]) hx hb dX4_greatestBefore_51 hlB51 (by decide) rfl (fun ls hl6 => ?_)
      clear hlB51
      refine lv_iload hx hb dX4_greatestBefore_53 (lv_at hl6 0 rfl) ?_
      refine lv_if_eq (tgt := 62) hx hb dX4_greatestBefore_55 (by decide) (fun c7 => ?_) (fun c7 => ?_)
      · have h8 := itS c7 hB51
        clear hB51 c7
        refine lv_aload_n hx hb dX4_greatestBefore_62 rfl (lv_at hl6 1 rfl) ?_
        refine lv_iload_n hx hb dX4_greatestBefore_63 rfl (lv_at hl6 4 rfl) ?_
        refine lv_iconst (v := 1) hx hb dX4_greatestBefore_64 (by decide) ?_
        refine lv_iadd hx hb dX4_greatestBefore_65 ?_
        refine lv_iload_n hx hb dX4_greatestBefore_66 rfl (lv_at hl6 2 rfl) ?_
        refine lv_iconst (v := 1) hx hb dX4_greatestBefore_67 (by decide) ?_
        refine lv_isub hx hb dX4_greatestBefore_68 ?_
        obtain ⟨r69_10, hc11, h12⟩ := cb1_s h8
        clear h8
        refine kgoiE (krunV (rest := []) X hVB51 [0, 1] (c_X4_greatestOf l E _ a0 a1 (w0_1) (w0_2) (w0_3) (w0_4) (w0_5) (w0_6) s_heights (v31_1 + 1) (p1 - 1) r69_10 hc11) mw_816 kb_X4_greatestOf (ci := 4) rfl rfl (by decide) rfl rfl hl6.1 rfl (Nat.le_of_ble_eq_true rfl) dX4_greatestBefore_69 (by decide)) X hVB51 [0, 1] [] rfl rfl rfl (by decide) (fun u H locs hV13 => ?_)
        have hV13 : kV E A s.heap H locs [(a0, .inr (4, [.ref a1, w0_1, w0_2, w0_3, w0_4, w0_5, w0_6])), (a1, .inl (E.2 0, 1440, .inl s_heights))] := hV13.sub [0, 1] rfl rfl
        clear hVB51
        have q15 := tup1_s h12
        clear h12
        exact hret _ () _ _ _ _ q15 rfl hV13 dX4_greatestBefore_72
      · have h9 := ieS c7 hB51
        clear hB51 c7
        refine lv_iload_n hx hb dX4_greatestBefore_58 rfl (lv_at hl6 3 rfl) ?_
        refine lv_goto (tgt := 72) hx hb dX4_greatestBefore_59 (by decide) ?_
        have q16 := tup1_s h9
        clear h9
        exact hret _ () _ _ _ _ q16 rfl hVB51 dX4_greatestBefore_72
    refine lv_if_lt (tgt := 46) hx hb dX4_greatestBefore_33 (by decide) (fun c17 => ?_) (fun c17 => ?_)
    · have h18 := itS c17 h3
      clear h3 c17
      refine lv_iconst (v := 1) hx hb dX4_greatestBefore_46 (by decide) ?_
      refine lv_goto (tgt := 51) hx hb dX4_greatestBefore_47 (by decide) ?_
      exact J51 1 _ _ _ h18 hVB25 (lv_sub hl4 [1, 2, 3, 0] rfl)
    · have h19 := ieS c17 h3
      clear h3 c17
      refine lv_aload_n hx hb dX4_greatestBefore_36 rfl (lv_at hl4 1 rfl) ?_
      refine kget X hVB25 (ci := 4) inlX4 rfl 0 rfl 0 (by decide) mw_87 rfl dX4_greatestBefore_37 ?_
      refine lv_iload_n hx hb dX4_greatestBefore_40 rfl (lv_at hl4 0 rfl) ?_
      obtain ⟨hi21, v41_20, e22, h23⟩ := rdI_s h19
      clear h19
      refine kiald X hVB25 1 rfl hi21 e22 dX4_greatestBefore_41 ?_
      clear hi21 e22
      refine lv_iload_n hx hb dX4_greatestBefore_42 rfl (lv_at hl4 3 rfl) ?_
      refine lv_icmp_ge (tgt := 50) hx hb dX4_greatestBefore_43 (by decide) (fun c24 => ?_) (fun c24 => ?_)
      · have h25 := itS c24 h23
        clear h23 c24
        refine lv_iconst (v := 0) hx hb dX4_greatestBefore_50 (by decide) ?_
        exact J51 0 _ _ _ h25 hVB25 (lv_sub hl4 [1, 2, 3, 0] rfl)
      · have h26 := ieS c24 h23
        clear h23 c24
        refine lv_iconst (v := 1) hx hb dX4_greatestBefore_46 (by decide) ?_
        refine lv_goto (tgt := 51) hx hb dX4_greatestBefore_47 (by decide) ?_
        exact J51 1 _ _ _ h26 hVB25 (lv_sub hl4 [1, 2, 3, 0] rfl)
  refine lv_if_le (tgt := 25) hx hb dX4_greatestBefore_1 (by decide) (fun c27 => ?_) (fun c27 => ?_)
  · have h28 := itS c27 h
    clear h c27
    exact J25  _ _ _ h28 hV (lv_sub hl [0, 1, 2] rfl)
  · have h29 := ieS c27 h
    clear h c27
    refine lv_aload_n hx hb dX4_greatestBefore_4 rfl (lv_at hl 0 rfl) ?_
    refine kget X hV (ci := 4) inlX4 rfl 0 rfl 0 (by decide) mw_87 rfl dX4_greatestBefore_5 ?_
    refine lv_iload_n hx hb dX4_greatestBefore_8 rfl (lv_at hl 1 rfl) ?_
    refine lv_iconst (v := 1) hx hb dX4_greatestBefore_9 (by decide) ?_
    refine lv_isub hx hb dX4_greatestBefore_10 ?_
    obtain ⟨hi31, v11_30, e32, h33⟩ := rdI_s h29
    clear h29
    refine kiald X hV 1 rfl hi31 e32 dX4_greatestBefore_11 ?_
    clear hi31 e32
    refine lv_iload_n hx hb dX4_greatestBefore_12 rfl (lv_at hl 2 rfl) ?_
    refine lv_icmp_lt (tgt := 25) hx hb dX4_greatestBefore_13 (by decide) (fun c34 => ?_) (fun c34 => ?_)
    · have h35 := itS c34 h33
      clear h33 c34
      exact J25  _ _ _ h35 hV (lv_sub hl [0, 1, 2] rfl)
    · have h36 := ieS c34 h33
      clear h33 c34
      refine lv_aload_n hx hb dX4_greatestBefore_16 rfl (lv_at hl 0 rfl) ?_
      refine kget X hV (ci := 4) inlX4 rfl 0 rfl 0 (by decide) mw_87 rfl dX4_greatestBefore_17 ?_
      refine lv_iload_n hx hb dX4_greatestBefore_20 rfl (lv_at hl 1 rfl) ?_
      refine lv_iconst (v := 1) hx hb dX4_greatestBefore_21 (by decide) ?_
      refine lv_isub hx hb dX4_greatestBefore_22 ?_
      obtain ⟨hi38, v23_37, e39, h40⟩ := rdI_s h36
      clear h36
      refine kiald X hV 1 rfl hi38 e39 dX4_greatestBefore_23 ?_
      clear hi38 e39
      have q41 := tup1_s h40
      clear h40
      exact hret _ () _ _ _ _ q41 rfl hV dX4_greatestBefore_24
noncomputable def f_X4_isMarked (s_marked : Nat → Int32) (p1 : Int32) (p2 : Int32) : Option (Int32) :=
    cb1 (f_X11_isMinute p2) fun r1_1 =>
    if r1_1 = 0 then
    (some (0))
    else
    (rdI s_marked 1440 p2 fun v12_10 =>
      if ((jshr v12_10 p1) &&& 1) = 1 then
      (some (1))
      else
      (some (0)))
abbrev r_X4_isMarked : Room := { frames := 2, cells := 0, slots := 0, locals := 42 }
set_option maxHeartbeats 4000000 in
set_option maxRecDepth 100000 in
theorem c_X4_isMarked (l : Launch) (E : kE) (sz : Nat) (a0 a1 : Nat) (w0_0 w0_1 w0_2 w0_4 w0_5 w0_6 : Value) (s_marked : Nat → Int32) (p1 : Int32) (p2 : Int32) (r : Int32) (h : f_X4_isMarked s_marked p1 p2 = some (r)) : kMi l yX4_isMarked cX4_isMarked 3 (some .boolean) r_X4_isMarked [.ref a0, .int p1, .int p2] E [(a0, .inr (4, [w0_0, w0_1, w0_2, .ref a1, w0_4, w0_5, w0_6])), (a1, .inl (E.2 0, 1440, .inl s_marked))] sz 0 0 (fun x (_ : Unit) => x = r) (fun _ => [(a0, .inr (4, [w0_0, w0_1, w0_2, .ref a1, w0_4, w0_5, w0_6])), (a1, .inl (E.2 0, 1440, .inl s_marked))]) := by
  refine kmeti rfl (Nat.le_of_ble_eq_true rfl) ?_
  intro p e s m args below meth c ls A Q X hV hret hl
  have X : kC p s m c cX4_isMarked 3 RX4 args E A := X
  have hx := X.1
  have hb := X.2.1
  have hl : lv_has ls 3 [(0, .ref a0), (1, .int p1), (2, .int p2)] := hl
  rw [f_X4_isMarked] at h
  refine lv_iload_n hx hb dX4_isMarked_0 rfl (lv_at hl 2 rfl) ?_
  obtain ⟨r1_1, hc2, h3⟩ := cb1_s h
  clear h
  refine kgoiE (krunSN (rest := []) X hV [] (c_X11_isMinute l E _ p2 r1_1 hc2) (List.mem_of_getElem? (i := 3) rfl) kb_X11_isMinute (by decide) rfl rfl hl.1 rfl (Nat.le_of_ble_eq_true rfl) dX4_isMarked_1 (by decide)) X hV [] [0, 1] rfl rfl rfl (by decide) (fun u H locs hV4 => ?_)
  have hV4 : kV E A s.heap H locs [(a0, .inr (4, [w0_0, w0_1, w0_2, .ref a1, w0_4, w0_5, w0_6])), (a1, .inl (E.2 0, 1440, .inl s_marked))] := hV4.sub [0, 1] rfl rfl
  clear hV
  refine lv_if_eq (tgt := 25) hx hb dX4_isMarked_4 (by decide) (fun c6 => ?_) (fun c6 => ?_)
  · have h7 := itS c6 h3
    clear h3 c6
    refine lv_iconst (v := 0) hx hb dX4_isMarked_25 (by decide) ?_
    have q9 := tup1_s h7
    clear h7
    exact hret _ () _ _ _ _ q9 rfl hV4 dX4_isMarked_26
  · have h8 := ieS c6 h3
    clear h3 c6
    refine lv_aload_n hx hb dX4_isMarked_7 rfl (lv_at hl 0 rfl) ?_
    refine kget X hV4 (ci := 4) inlX4 rfl 0 rfl 3 (by decide) mw_90 rfl dX4_isMarked_8 ?_
    refine lv_iload_n hx hb dX4_isMarked_11 rfl (lv_at hl 2 rfl) ?_
    obtain ⟨hi11, v12_10, e12, h13⟩ := rdI_s h8
    clear h8
    refine kiald X hV4 1 rfl hi11 e12 dX4_isMarked_12 ?_
    clear hi11 e12
    refine lv_iload_n hx hb dX4_isMarked_13 rfl (lv_at hl 1 rfl) ?_
    refine lv_ishr hx hb dX4_isMarked_14 ?_
    refine lv_iconst (v := 1) hx hb dX4_isMarked_15 (by decide) ?_
    refine lv_iand hx hb dX4_isMarked_16 ?_
    refine lv_iconst (v := 1) hx hb dX4_isMarked_17 (by decide) ?_
    refine lv_icmp_ne (tgt := 25) hx hb dX4_isMarked_18 (by decide) (fun c14 => ?_) (fun c14 => ?_)
    · have h15 := ieS c14 h13
      clear h13 c14
      refine lv_iconst (v := 0) hx hb dX4_isMarked_25 (by decide) ?_
      have q17 := tup1_s h15
      clear h15
      exact hret _ () _ _ _ _ q17 rfl hV4 dX4_isMarked_26
    · have h16 := itS c14 h13
      clear h13 c14
      refine lv_iconst (v := 1) hx hb dX4_isMarked_21 (by decide) ?_
      refine lv_goto (tgt := 26) hx hb dX4_isMarked_22 (by decide) ?_
      have q18 := tup1_s h16
      clear h16
      exact hret _ () _ _ _ _ q18 rfl hV4 dX4_isMarked_26
noncomputable def f_X4_read_J213 (v3_1 : Int32) (x6_34 : Int32) (marked__35 : Nat → Int32) (r79_45 : Int32) (reckoner_letters__100 : Nat → Int32) (o_values201_102 : Nat → Int32) (K66 : Int32 → Int32 → (Nat → Int32) → (Nat → Int32) → (Nat → Int32) → Option (Int32 × (Nat → Int32) × (Nat → Int32) × (Nat → Int32))) (t0_107 : Int32) : Option (Int32 × (Nat → Int32) × (Nat → Int32) × (Nat → Int32)) :=
    if t0_107 = 0 then
    (rdI marked__35 1440 x6_34 fun v244_112 =>
      nmI (v244_112 &&& (v3_1 ^^^ (-1))) fun v249_116 =>
      wrI marked__35 1440 x6_34 v249_116 fun g249_119 =>
      nmI (x6_34 + 1) fun v250_124 =>
      K66 r79_45 v250_124 g249_119 reckoner_letters__100 o_values201_102)
    else
    (rdI marked__35 1440 x6_34 fun v232_128 =>
      nmI (v232_128 ||| v3_1) fun v249_132 =>
      wrI marked__35 1440 x6_34 v249_132 fun g249_135 =>
      nmI (x6_34 + 1) fun v250_140 =>
      K66 r79_45 v250_140 g249_135 reckoner_letters__100 o_values201_102)
noncomputable def f_X4_read_J192 (s_p2_clauses : Int32) (n_p2_code : Nat) (s_p2_code : Nat → Int32) (n_p2_middles : Nat) (s_p2_middles : Nat → Int32) (n_p2_starts : Nat) (s_p2_starts : Nat → Int32) (v3_1 : Int32) (x6_34 : Int32) (marked__35 : Nat → Int32) (reckoner_values__37 : Nat → Int32) (r79_45 : Int32) (K66 : Int32 → Int32 → (Nat → Int32) → (Nat → Int32) → (Nat → Int32) → Option (Int32 × (Nat → Int32) × (Nat → Int32) × (Nat → Int32))) (reckoner_letters__100 : Nat → Int32) : Option (Int32 × (Nat → Int32) × (Nat → Int32) × (Nat → Int32)) :=
    cb2 (f_X5_firstThatHolds n_p2_code n_p2_middles n_p2_starts s_p2_clauses s_p2_code s_p2_middles s_p2_starts reckoner_letters__100 reckoner_values__37) fun r201_101 o_values201_102 =>
    if r201_101 = (-1) then
    ((f_X4_read_J213 v3_1 x6_34 marked__35 r79_45 reckoner_letters__100 o_values201_102 K66) 0)
    else
    ((f_X4_read_J213 v3_1 x6_34 marked__35 r79_45 reckoner_letters__100 o_values201_102 K66) 1)
noncomputable def f_X4_read_J125 (s_day : Int32) (s_p2_clauses : Int32) (n_p2_code : Nat) (s_p2_code : Nat → Int32) (n_p2_middles : Nat) (s_p2_middles : Nat → Int32) (n_p2_starts : Nat) (s_p2_starts : Nat → Int32) (s_shapes : Nat → Int32) (p1 : Int32) (v3_1 : Int32) (x6_34 : Int32) (marked__35 : Nat → Int32) (reckoner_values__37 : Nat → Int32) (r79_45 : Int32) (g102_60 : Nat → Int32) (K66 : Int32 → Int32 → (Nat → Int32) → (Nat → Int32) → (Nat → Int32) → Option (Int32 × (Nat → Int32) × (Nat → Int32) × (Nat → Int32))) (t2_65 : Int32) : Option (Int32 × (Nat → Int32) × (Nat → Int32) × (Nat → Int32)) :=
    wrI g102_60 128 98 t2_65 fun g125_66 =>
    rdI s_shapes 1440 x6_34 fun v136_71 =>
    wrI g125_66 128 108 v136_71 fun g137_75 =>
    wrI g137_75 128 109 x6_34 fun g144_80 =>
    cb1 (f_X11_starMinute s_day x6_34) fun r155_85 =>
    wrI g144_80 128 115 r155_85 fun g158_90 =>
    cb1 (f_X4_isMarked marked__35 p1 (x6_34 - 2)) fun r165_95 =>
    if r165_95 = 0 then
    ((f_X4_read_J192 s_p2_clauses n_p2_code s_p2_code n_p2_middles s_p2_middles n_p2_starts s_p2_starts v3_1 x6_34 marked__35 reckoner_values__37 r79_45 K66) g158_90)
    else
    (cb1 (f_X4_isMarked marked__35 p1 (x6_34 - 1)) fun r177_150 =>
      if r177_150 = 0 then
      (rdI g158_90 128 116 fun v188_158 =>
        nmI (v188_158 + 1) fun v191_162 =>
        wrI g158_90 128 116 v191_162 fun g191_165 =>
        (f_X4_read_J192 s_p2_clauses n_p2_code s_p2_code n_p2_middles s_p2_middles n_p2_starts s_p2_starts v3_1 x6_34 marked__35 reckoner_values__37 r79_45 K66) g191_165)
      else
      ((f_X4_read_J192 s_p2_clauses n_p2_code s_p2_code n_p2_middles s_p2_middles n_p2_starts s_p2_starts v3_1 x6_34 marked__35 reckoner_values__37 r79_45 K66) g158_90))
noncomputable def f_X4_read_L66 (s_day : Int32) (s_p2_clauses : Int32) (n_p2_code : Nat) (s_p2_code : Nat → Int32) (n_p2_middles : Nat) (s_p2_middles : Nat → Int32) (n_p2_starts : Nat) (s_p2_starts : Nat → Int32) (s_heights : Nat → Int32) (s_shapes : Nat → Int32) (p1 : Int32) (v3_1 : Int32) (v21_8 : Int32)  : Nat → Int32 → Int32 → (Nat → Int32) → (Nat → Int32) → (Nat → Int32) → Option (Int32 × (Nat → Int32) × (Nat → Int32) × (Nat → Int32))
  | 0, _, _, _, _, _ => none
  | n66 + 1, x5_33, x6_34, marked__35, reckoner_letters__36, reckoner_values__37 =>
    if 1440 ≤ x6_34 then
    (some (v21_8, marked__35, reckoner_letters__36, reckoner_values__37))
    else
    (cb1 (f_X4_greatestBefore s_heights x6_34 x5_33) fun r79_45 =>
      wrI reckoner_letters__36 128 103 r79_45 fun g90_51 =>
      rdI s_heights 1440 x6_34 fun v101_56 =>
      wrI g90_51 128 104 v101_56 fun g102_60 =>
      if x6_34 ≤ 0 then
      ((f_X4_read_J125 s_day s_p2_clauses n_p2_code s_p2_code n_p2_middles s_p2_middles n_p2_starts s_p2_starts s_shapes p1 v3_1 x6_34 marked__35 reckoner_values__37 r79_45 g102_60 (f_X4_read_L66 s_day s_p2_clauses n_p2_code s_p2_code n_p2_middles s_p2_middles n_p2_starts s_p2_starts s_heights s_shapes p1 v3_1 v21_8  n66)) 0)
      else
      (rdI s_heights 1440 (x6_34 - 1) fun v120_173 =>
        (f_X4_read_J125 s_day s_p2_clauses n_p2_code s_p2_code n_p2_middles s_p2_middles n_p2_starts s_p2_starts s_shapes p1 v3_1 x6_34 marked__35 reckoner_values__37 r79_45 g102_60 (f_X4_read_L66 s_day s_p2_clauses n_p2_code s_p2_code n_p2_middles s_p2_middles n_p2_starts s_p2_starts s_heights s_shapes p1 v3_1 v21_8  n66)) v120_173))
noncomputable def f_X4_read (n_p2_code : Nat) (n_p2_middles : Nat) (n_p2_starts : Nat) (s_readers : Int32) (s_day : Int32) (s_p2_clauses : Int32) (s_p2_code : Nat → Int32) (s_p2_middles : Nat → Int32) (s_p2_starts : Nat → Int32) (s_heights : Nat → Int32) (s_marked : Nat → Int32) (s_shapes : Nat → Int32) (s_reckoner_letters : Nat → Int32) (s_reckoner_values : Nat → Int32) (p1 : Int32) : Option (Int32 × (Nat → Int32) × (Nat → Int32) × (Nat → Int32)) :=
    nmI (jshl 1 p1) fun v3_1 =>
    if (s_readers &&& v3_1) = 0 then
    (nmI (s_readers ||| v3_1) fun v21_8 =>
      wrI s_reckoner_letters 128 100 s_day fun g41_13 =>
      nmI (jrem s_day 7) fun v53_18 =>
      wrI g41_13 128 102 v53_18 fun g53_21 =>
      wrI g53_21 128 116 0 fun g59_26 =>
      (f_X4_read_L66 s_day s_p2_clauses n_p2_code s_p2_code n_p2_middles s_p2_middles n_p2_starts s_p2_starts s_heights s_shapes p1 v3_1 v21_8  FU) 0 0 s_marked g59_26 s_reckoner_values)
    else
    (some (s_readers, s_marked, s_reckoner_letters, s_reckoner_values))
abbrev r_X4_read : Room := { frames := 3, cells := 0, slots := 0, locals := 72 }
set_option maxHeartbeats 4000000 in
set_option maxRecDepth 100000 in
theorem c_X4_read (l : Launch) (E : kE) (sz : Nat) (a0 a1 a2 a3 a4 a5 a6 a7 a8 a9 a10 : Nat) (w0_2 : Value) (n_p2_code n_p2_middles n_p2_starts : Nat) (s_readers : Int32) (s_day : Int32) (s_p2_clauses : Int32) (s_p2_code : Nat → Int32) (s_p2_middles : Nat → Int32) (s_p2_starts : Nat → Int32) (s_heights : Nat → Int32) (s_marked : Nat → Int32) (s_shapes : Nat → Int32) (s_reckoner_letters : Nat → Int32) (s_reckoner_values : Nat → Int32) (p1 : Int32) (o_readers : Int32) (o_marked : Nat → Int32) (o_reckoner_letters : Nat → Int32) (o_reckoner_values : Nat → Int32) (h : f_X4_read n_p2_code n_p2_middles n_p2_starts s_readers s_day s_p2_clauses s_p2_code s_p2_middles s_p2_starts s_heights s_marked s_shapes s_reckoner_letters s_reckoner_values p1 = some (o_readers, o_marked, o_reckoner_letters, o_reckoner_values)) : kMv l yX4_read cX4_read 8 r_X4_read [.ref a0, .int p1, .ref a1] E [(a0, .inr (4, [.ref a5, .ref a8, w0_2, .ref a6, .ref a7, .int s_readers, .int s_day])), (a1, .inr (10, [.int s_p2_clauses, .ref a2, .ref a4, .ref a3])), (a2, .inl (E.2 0, n_p2_code, .inl s_p2_code)), (a3, .inl (E.2 0, n_p2_middles, .inl s_p2_middles)), (a4, .inl (E.2 0, n_p2_starts, .inl s_p2_starts)), (a5, .inl (E.2 0, 1440, .inl s_heights)), (a6, .inl (E.2 0, 1440, .inl s_marked)), (a7, .inr (5, [.ref a9, .ref a10])), (a8, .inl (E.2 0, 1440, .inl s_shapes)), (a9, .inl (E.2 0, 128, .inl s_reckoner_letters)), (a10, .inl (E.2 0, 32, .inl s_reckoner_values))] sz 0 0 (fun (_ : Unit) => True) (fun _ => [(a0, .inr (4, [.ref a5, .ref a8, w0_2, .ref a6, .ref a7, .int o_readers, .int s_day])), (a1, .inr (10, [.int s_p2_clauses, .ref a2, .ref a4, .ref a3])), (a2, .inl (E.2 0, n_p2_code, .inl s_p2_code)), (a3, .inl (E.2 0, n_p2_middles, .inl s_p2_middles)), (a4, .inl (E.2 0, n_p2_starts, .inl s_p2_starts)), (a5, .inl (E.2 0, 1440, .inl s_heights)), (a6, .inl (E.2 0, 1440, .inl o_marked)), (a7, .inr (5, [.ref a9, .ref a10])), (a8, .inl (E.2 0, 1440, .inl s_shapes)), (a9, .inl (E.2 0, 128, .inl o_reckoner_letters)), (a10, .inl (E.2 0, 32, .inl o_reckoner_values))]) := by
  refine kmetv rfl (Nat.le_of_ble_eq_true rfl) ?_
  intro p e s m args below meth c ls A Q X hnm hV hret hl
  have X : kC p s m c cX4_read 8 RX4 args E A := X
  have hx := X.1
  have hb := X.2.1
  have hl : lv_has ls 8 [(0, .ref a0), (1, .int p1), (2, .ref a1)] := hl
  rw [f_X4_read] at h
  refine lv_iconst (v := 1) hx hb dX4_read_0 (by decide) ?_
  refine lv_iload_n hx hb dX4_read_1 rfl (lv_at hl 1 rfl) ?_
  refine lv_ishl hx hb dX4_read_2 ?_
  obtain ⟨v3_1, e2, h3⟩ := nmI_s h
  clear h
  refine ktopi e2 ?_
  clear e2
  refine lv_istore_n (lv' := [(3, .int v3_1), (0, .ref a0), (1, .int p1), (2, .ref a1)]) hx hb dX4_read_3 rfl hl (by decide) rfl (fun ls hl4 => ?_)
  clear hl
  refine lv_aload_n hx hb dX4_read_4 rfl (lv_at hl4 1 rfl) ?_
  refine kget X hV (ci := 4) inlX4 rfl 0 rfl 5 (by decide) mw_93 rfl dX4_read_5 ?_
  refine lv_iload_n hx hb dX4_read_8 rfl (lv_at hl4 0 rfl) ?_
  refine lv_iand hx hb dX4_read_9 ?_
  refine lv_if_eq (tgt := 14) hx hb dX4_read_10 (by decide) (fun c5 => ?_) (fun c5 => ?_)
  · have h6 := itS c5 h3
    clear h3 c5
    refine lv_aload_n hx hb dX4_read_14 rfl (lv_at hl4 1 rfl) ?_
    refine lv_dup hx hb dX4_read_15 rfl ?_
    refine kget X hV (ci := 4) inlX4 rfl 0 rfl 5 (by decide) mw_93 rfl dX4_read_16 ?_
    refine lv_iload_n hx hb dX4_read_19 rfl (lv_at hl4 0 rfl) ?_
    refine lv_ior hx hb dX4_read_20 ?_
    obtain ⟨v21_8, e9, h10⟩ := nmI_s h6
    clear h6
    refine ktopi e9 ?_
    clear e9
    refine kput X hV (ci := 4) inlX4 rfl tyX4 tyX4_ok nmX4 0 rfl 5 (by decide) mw_93 rfl rfl rfl (Nat.le_of_ble_eq_true rfl) dX4_read_21 (fun H locs hV11 => ?_)
    have hV11 : kV E A s.heap H locs [(a0, .inr (4, [.ref a5, .ref a8, w0_2, .ref a6, .ref a7, .int v21_8, .int s_day])), (a1, .inr (10, [.int s_p2_clauses, .ref a2, .ref a4, .ref a3])), (a2, .inl (E.2 0, n_p2_code, .inl s_p2_code)), (a3, .inl (E.2 0, n_p2_middles, .inl s_p2_middles)), (a4, .inl (E.2 0, n_p2_starts, .inl s_p2_starts)), (a5, .inl (E.2 0, 1440, .inl s_heights)), (a6, .inl (E.2 0, 1440, .inl s_marked)), (a7, .inr (5, [.ref a9, .ref a10])), (a8, .inl (E.2 0, 1440, .inl s_shapes)), (a9, .inl (E.2 0, 128, .inl s_reckoner_letters)), (a10, .inl (E.2 0, 32, .inl s_reckoner_values))] := hV11
    clear hV
    refine lv_aload_n hx hb dX4_read_24 rfl (lv_at hl4 1 rfl) ?_
    refine kget X hV11 (ci := 4) inlX4 rfl 0 rfl 4 (by decide) mw_92 rfl dX4_read_25 ?_
    refine kget X hV11 (ci := 5) inlX5 rfl 7 rfl 0 (by decide) mw_811 rfl dX4_read_28 ?_
    refine lv_astore (lv' := [(4, .ref a9), (3, .int v3_1), (0, .ref a0), (1, .int p1), (2, .ref a1)]) hx hb dX4_read_31 hl4 (by decide) rfl (fun ls hl12 => ?_)
    clear hl4
    refine lv_aload hx hb dX4_read_33 (lv_at hl12 0 rfl) ?_
    refine lv_bipush (v := 100) hx hb dX4_read_35 (by decide) ?_
    refine lv_aload_n hx hb dX4_read_37 rfl (lv_at hl12 2 rfl) ?_
    refine kget X hV11 (ci := 4) inlX4 rfl 0 rfl 6 (by decide) mw_94 rfl dX4_read_38 ?_
    obtain ⟨hi14, g41_13, e15, h16⟩ := wrI_s h10
    clear h10
    refine kiast X hV11 9 rfl hi14 e15 dX4_read_41 (fun H locs hV17 => ?_)
    have hV17 : kV E A s.heap H locs [(a0, .inr (4, [.ref a5, .ref a8, w0_2, .ref a6, .ref a7, .int v21_8, .int s_day])), (a1, .inr (10, [.int s_p2_clauses, .ref a2, .ref a4, .ref a3])), (a2, .inl (E.2 0, n_p2_code, .inl s_p2_code)), (a3, .inl (E.2 0, n_p2_middles, .inl s_p2_middles)), (a4, .inl (E.2 0, n_p2_starts, .inl s_p2_starts)), (a5, .inl (E.2 0, 1440, .inl s_heights)), (a6, .inl (E.2 0, 1440, .inl s_marked)), (a7, .inr (5, [.ref a9, .ref a10])), (a8, .inl (E.2 0, 1440, .inl s_shapes)), (a9, .inl (E.2 0, 128, .inl g41_13)), (a10, .inl (E.2 0, 32, .inl s_reckoner_values))] := hV17
    clear hV11 hi14 e15
    refine lv_aload hx hb dX4_read_42 (lv_at hl12 0 rfl) ?_
    refine lv_bipush (v := 102) hx hb dX4_read_44 (by decide) ?_
    refine lv_aload_n hx hb dX4_read_46 rfl (lv_at hl12 2 rfl) ?_
    refine kget X hV17 (ci := 4) inlX4 rfl 0 rfl 6 (by decide) mw_94 rfl dX4_read_47 ?_
    refine lv_bipush (v := 7) hx hb dX4_read_50 (by decide) ?_
    refine lv_irem hx hb dX4_read_52 (by decide) ?_
    obtain ⟨v53_18, e19, h20⟩ := nmI_s h16
    clear h16
    refine ktopi e19 ?_
    clear e19
    obtain ⟨hi22, g53_21, e23, h24⟩ := wrI_s h20
    clear h20
    refine kiast X hV17 9 rfl hi22 e23 dX4_read_53 (fun H locs hV25 => ?_)
    have hV25 : kV E A s.heap H locs [(a0, .inr (4, [.ref a5, .ref a8, w0_2, .ref a6, .ref a7, .int v21_8, .int s_day])), (a1, .inr (10, [.int s_p2_clauses, .ref a2, .ref a4, .ref a3])), (a2, .inl (E.2 0, n_p2_code, .inl s_p2_code)), (a3, .inl (E.2 0, n_p2_middles, .inl s_p2_middles)), (a4, .inl (E.2 0, n_p2_starts, .inl s_p2_starts)), (a5, .inl (E.2 0, 1440, .inl s_heights)), (a6, .inl (E.2 0, 1440, .inl s_marked)), (a7, .inr (5, [.ref a9, .ref a10])), (a8, .inl (E.2 0, 1440, .inl s_shapes)), (a9, .inl (E.2 0, 128, .inl g53_21)), (a10, .inl (E.2 0, 32, .inl s_reckoner_values))] := hV25
    clear hV17 hi22 e23
    refine lv_aload hx hb dX4_read_54 (lv_at hl12 0 rfl) ?_
    refine lv_bipush (v := 116) hx hb dX4_read_56 (by decide) ?_
    refine lv_iconst (v := 0) hx hb dX4_read_58 (by decide) ?_
    obtain ⟨hi27, g59_26, e28, h29⟩ := wrI_s h24
    clear h24
    refine kiast X hV25 9 rfl hi27 e28 dX4_read_59 (fun H locs hV30 => ?_)
    have hV30 : kV E A s.heap H locs [(a0, .inr (4, [.ref a5, .ref a8, w0_2, .ref a6, .ref a7, .int v21_8, .int s_day])), (a1, .inr (10, [.int s_p2_clauses, .ref a2, .ref a4, .ref a3])), (a2, .inl (E.2 0, n_p2_code, .inl s_p2_code)), (a3, .inl (E.2 0, n_p2_middles, .inl s_p2_middles)), (a4, .inl (E.2 0, n_p2_starts, .inl s_p2_starts)), (a5, .inl (E.2 0, 1440, .inl s_heights)), (a6, .inl (E.2 0, 1440, .inl s_marked)), (a7, .inr (5, [.ref a9, .ref a10])), (a8, .inl (E.2 0, 1440, .inl s_shapes)), (a9, .inl (E.2 0, 128, .inl g59_26)), (a10, .inl (E.2 0, 32, .inl s_reckoner_values))] := hV30
    clear hV25 hi27 e28
    refine lv_iconst (v := 0) hx hb dX4_read_60 (by decide) ?_
    refine lv_istore (lv' := [(5, .int 0), (4, .ref a9), (3, .int v3_1), (0, .ref a0), (1, .int p1), (2, .ref a1)]) hx hb dX4_read_61 hl12 (by decide) rfl (fun ls hl31 => ?_)
    clear hl12
    refine lv_iconst (v := 0) hx hb dX4_read_63 (by decide) ?_
    refine lv_istore (lv' := [(6, .int 0), (5, .int 0), (4, .ref a9), (3, .int v3_1), (0, .ref a0), (1, .int p1), (2, .ref a1)]) hx hb dX4_read_64 hl31 (by decide) rfl (fun ls hl32 => ?_)
    clear hl31
    have L66 : ∀ (n66 : Nat) (x5_33 : Int32) (x6_34 : Int32) (marked__35 : Nat → Int32) (reckoner_letters__36 : Nat → Int32) (reckoner_values__37 : Nat → Int32) (H : Heap) (locs : List Loc) (ls : Array Slot), (f_X4_read_L66 s_day s_p2_clauses n_p2_code s_p2_code n_p2_middles s_p2_middles n_p2_starts s_p2_starts s_heights s_shapes p1 v3_1 v21_8  n66) x5_33 x6_34 marked__35 reckoner_letters__36 reckoner_values__37 = some (o_readers, o_marked, o_reckoner_letters, o_reckoner_values) → kV E A s.heap H locs [(a0, .inr (4, [.ref a5, .ref a8, w0_2, .ref a6, .ref a7, .int v21_8, .int s_day])), (a1, .inr (10, [.int s_p2_clauses, .ref a2, .ref a4, .ref a3])), (a2, .inl (E.2 0, n_p2_code, .inl s_p2_code)), (a3, .inl (E.2 0, n_p2_middles, .inl s_p2_middles)), (a4, .inl (E.2 0, n_p2_starts, .inl s_p2_starts)), (a5, .inl (E.2 0, 1440, .inl s_heights)), (a6, .inl (E.2 0, 1440, .inl marked__35)), (a7, .inr (5, [.ref a9, .ref a10])), (a8, .inl (E.2 0, 1440, .inl s_shapes)), (a9, .inl (E.2 0, 128, .inl reckoner_letters__36)), (a10, .inl (E.2 0, 32, .inl reckoner_values__37))] → lv_has ls 8 [(0, .ref a0), (1, .int p1), (2, .ref a1), (3, .int v3_1), (4, .ref a9), (5, .int x5_33), (6, .int x6_34)] → W p l e r_X4_read s m args below meth c H locs 0 0 Q (F0 m 66 ls []) := by
      intro n66
      induction n66 with
      | zero =>
        intro x5_33 x6_34 marked__35 reckoner_letters__36 reckoner_values__37 H locs ls hB66 hVB66 hlB66
        rw [f_X4_read_L66] at hB66
        exact nomatch hB66
      | succ n66 ih66 =>
        intro x5_33 x6_34 marked__35 reckoner_letters__36 reckoner_values__37 H locs ls hB66 hVB66 hlB66
        rw [f_X4_read_L66] at hB66
        refine lv_iload hx hb dX4_read_66 (lv_at hlB66 6 rfl) ?_
        refine lv_sipush (v := 1440) hx hb dX4_read_68 (by decide) ?_
        refine lv_icmp_ge (tgt := 256) hx hb dX4_read_71 (by decide) (fun c38 => ?_) (fun c38 => ?_)
        · have h39 := itS c38 hB66
          clear hB66 c38
          obtain ⟨q41, q42, q43, q44⟩ := tup4_s h39
          clear h39
          exact hret () _ _ _ _ trivial (by rw [← q41, ← q42, ← q43, ← q44]; exact hVB66) dX4_read_256
        · have h40 := ieS c38 hB66
          clear hB66 c38
          refine lv_aload_n hx hb dX4_read_74 rfl (lv_at hlB66 0 rfl) ?_
          refine lv_iload hx hb dX4_read_75 (lv_at hlB66 6 rfl) ?_
          refine lv_iload hx hb dX4_read_77 (lv_at hlB66 5 rfl) ?_
          obtain ⟨r79_45, hc46, h47⟩ := cb1_s h40
          clear h40
          refine kgoiE (krunV (rest := []) X hVB66 [0, 5] (c_X4_greatestBefore l E _ a0 a5 (.ref a8) (w0_2) (.ref a6) (.ref a7) (.int v21_8) (.int s_day) s_heights x6_34 x5_33 r79_45 hc46) mw_812 kb_X4_greatestBefore (ci := 4) rfl rfl (by decide) rfl rfl hlB66.1 rfl (Nat.le_of_ble_eq_true rfl) dX4_read_79 (by decide)) X hVB66 [0, 5] [1, 2, 3, 4, 6, 7, 8, 9, 10] rfl rfl rfl (by decide) (fun u H locs hV48 => ?_)
          have hV48 : kV E A s.heap H locs [(a0, .inr (4, [.ref a5, .ref a8, w0_2, .ref a6, .ref a7, .int v21_8, .int s_day])), (a1, .inr (10, [.int s_p2_clauses, .ref a2, .ref a4, .ref a3])), (a2, .inl (E.2 0, n_p2_code, .inl s_p2_code)), (a3, .inl (E.2 0, n_p2_middles, .inl s_p2_middles)), (a4, .inl (E.2 0, n_p2_starts, .inl s_p2_starts)), (a5, .inl (E.2 0, 1440, .inl s_heights)), (a6, .inl (E.2 0, 1440, .inl marked__35)), (a7, .inr (5, [.ref a9, .ref a10])), (a8, .inl (E.2 0, 1440, .inl s_shapes)), (a9, .inl (E.2 0, 128, .inl reckoner_letters__36)), (a10, .inl (E.2 0, 32, .inl reckoner_values__37))] := hV48.sub [9, 0, 1, 2, 3, 10, 4, 5, 6, 7, 8] rfl rfl
          clear hVB66
          refine lv_istore (lv' := [(5, .int r79_45), (0, .ref a0), (1, .int p1), (2, .ref a1), (3, .int v3_1), (4, .ref a9), (6, .int x6_34)]) hx hb dX4_read_82 hlB66 (by decide) rfl (fun ls hl50 => ?_)
          clear hlB66
          refine lv_aload hx hb dX4_read_84 (lv_at hl50 5 rfl) ?_
          refine lv_bipush (v := 103) hx hb dX4_read_86 (by decide) ?_
          refine lv_iload hx hb dX4_read_88 (lv_at hl50 0 rfl) ?_
          obtain ⟨hi52, g90_51, e53, h54⟩ := wrI_s h47
          clear h47
          refine kiast X hV48 9 rfl hi52 e53 dX4_read_90 (fun H locs hV55 => ?_)
          have hV55 : kV E A s.heap H locs [(a0, .inr (4, [.ref a5, .ref a8, w0_2, .ref a6, .ref a7, .int v21_8, .int s_day])), (a1, .inr (10, [.int s_p2_clauses, .ref a2, .ref a4, .ref a3])), (a2, .inl (E.2 0, n_p2_code, .inl s_p2_code)), (a3, .inl (E.2 0, n_p2_middles, .inl s_p2_middles)), (a4, .inl (E.2 0, n_p2_starts, .inl s_p2_starts)), (a5, .inl (E.2 0, 1440, .inl s_heights)), (a6, .inl (E.2 0, 1440, .inl marked__35)), (a7, .inr (5, [.ref a9, .ref a10])), (a8, .inl (E.2 0, 1440, .inl s_shapes)), (a9, .inl (E.2 0, 128, .inl g90_51)), (a10, .inl (E.2 0, 32, .inl reckoner_values__37))] := hV55
          clear hV48 hi52 e53
          refine lv_aload hx hb dX4_read_91 (lv_at hl50 5 rfl) ?_
          refine lv_bipush (v := 104) hx hb dX4_read_93 (by decide) ?_
          refine lv_aload_n hx hb dX4_read_95 rfl (lv_at hl50 1 rfl) ?_
          refine kget X hV55 (ci := 4) inlX4 rfl 0 rfl 0 (by decide) mw_87 rfl dX4_read_96 ?_
          refine lv_iload hx hb dX4_read_99 (lv_at hl50 6 rfl) ?_
          obtain ⟨hi57, v101_56, e58, h59⟩ := rdI_s h54
          clear h54
          refine kiald X hV55 5 rfl hi57 e58 dX4_read_101 ?_
          clear hi57 e58
          obtain ⟨hi61, g102_60, e62, h63⟩ := wrI_s h59
          clear h59
          refine kiast X hV55 9 rfl hi61 e62 dX4_read_102 (fun H locs hV64 => ?_)
          have hV64 : kV E A s.heap H locs [(a0, .inr (4, [.ref a5, .ref a8, w0_2, .ref a6, .ref a7, .int v21_8, .int s_day])), (a1, .inr (10, [.int s_p2_clauses, .ref a2, .ref a4, .ref a3])), (a2, .inl (E.2 0, n_p2_code, .inl s_p2_code)), (a3, .inl (E.2 0, n_p2_middles, .inl s_p2_middles)), (a4, .inl (E.2 0, n_p2_starts, .inl s_p2_starts)), (a5, .inl (E.2 0, 1440, .inl s_heights)), (a6, .inl (E.2 0, 1440, .inl marked__35)), (a7, .inr (5, [.ref a9, .ref a10])), (a8, .inl (E.2 0, 1440, .inl s_shapes)), (a9, .inl (E.2 0, 128, .inl g102_60)), (a10, .inl (E.2 0, 32, .inl reckoner_values__37))] := hV64
          clear hV55 hi61 e62
          refine lv_aload hx hb dX4_read_103 (lv_at hl50 5 rfl) ?_
          refine lv_bipush (v := 98) hx hb dX4_read_105 (by decide) ?_
          refine lv_iload hx hb dX4_read_107 (lv_at hl50 6 rfl) ?_
          have J125 : ∀ (t2_65 : Int32) (H : Heap) (locs : List Loc) (ls : Array Slot), (f_X4_read_J125 s_day s_p2_clauses n_p2_code s_p2_code n_p2_middles s_p2_middles n_p2_starts s_p2_starts s_shapes p1 v3_1 x6_34 marked__35 reckoner_values__37 r79_45 g102_60 (f_X4_read_L66 s_day s_p2_clauses n_p2_code s_p2_code n_p2_middles s_p2_middles n_p2_starts s_p2_starts s_heights s_shapes p1 v3_1 v21_8  n66)) t2_65 = some (o_readers, o_marked, o_reckoner_letters, o_reckoner_values) → kV E A s.heap H locs [(a0, .inr (4, [.ref a5, .ref a8, w0_2, .ref a6, .ref a7, .int v21_8, .int s_day])), (a1, .inr (10, [.int s_p2_clauses, .ref a2, .ref a4, .ref a3])), (a2, .inl (E.2 0, n_p2_code, .inl s_p2_code)), (a3, .inl (E.2 0, n_p2_middles, .inl s_p2_middles)), (a4, .inl (E.2 0, n_p2_starts, .inl s_p2_starts)), (a5, .inl (E.2 0, 1440, .inl s_heights)), (a6, .inl (E.2 0, 1440, .inl marked__35)), (a7, .inr (5, [.ref a9, .ref a10])), (a8, .inl (E.2 0, 1440, .inl s_shapes)), (a9, .inl (E.2 0, 128, .inl g102_60)), (a10, .inl (E.2 0, 32, .inl reckoner_values__37))] → lv_has ls 8 [(0, .ref a0), (1, .int p1), (2, .ref a1), (3, .int v3_1), (4, .ref a9), (5, .int r79_45), (6, .int x6_34)] → W p l e r_X4_read s m args below meth c H locs 0 0 Q (F0 m 125 ls [.int t2_65, .int 98, .ref a9]) := by
            intro t2_65 H locs ls hB125 hVB125 hlB125
            rw [f_X4_read_J125] at hB125
            obtain ⟨hi67, g125_66, e68, h69⟩ := wrI_s hB125
            clear hB125
            refine kiast X hVB125 9 rfl hi67 e68 dX4_read_125 (fun H locs hV70 => ?_)
            have hV70 : kV E A s.heap H locs [(a0, .inr (4, [.ref a5, .ref a8, w0_2, .ref a6, .ref a7, .int v21_8, .int s_day])), (a1, .inr (10, [.int s_p2_clauses, .ref a2, .ref a4, .ref a3])), (a2, .inl (E.2 0, n_p2_code, .inl s_p2_code)), (a3, .inl (E.2 0, n_p2_middles, .inl s_p2_middles)), (a4, .inl (E.2 0, n_p2_starts, .inl s_p2_starts)), (a5, .inl (E.2 0, 1440, .inl s_heights)), (a6, .inl (E.2 0, 1440, .inl marked__35)), (a7, .inr (5, [.ref a9, .ref a10])), (a8, .inl (E.2 0, 1440, .inl s_shapes)), (a9, .inl (E.2 0, 128, .inl g125_66)), (a10, .inl (E.2 0, 32, .inl reckoner_values__37))] := hV70
            clear hVB125 hi67 e68
            refine lv_aload hx hb dX4_read_126 (lv_at hlB125 4 rfl) ?_
            refine lv_bipush (v := 108) hx hb dX4_read_128 (by decide) ?_
            refine lv_aload_n hx hb dX4_read_130 rfl (lv_at hlB125 0 rfl) ?_
            refine kget X hV70 (ci := 4) inlX4 rfl 0 rfl 1 (by decide) mw_88 rfl dX4_read_131 ?_
            refine lv_iload hx hb dX4_read_134 (lv_at hlB125 6 rfl) ?_
            obtain ⟨hi72, v136_71, e73, h74⟩ := rdI_s h69
            clear h69
            refine kiald X hV70 8 rfl hi72 e73 dX4_read_136 ?_
            clear hi72 e73
            obtain ⟨hi76, g137_75, e77, h78⟩ := wrI_s h74
            clear h74
            refine kiast X hV70 9 rfl hi76 e77 dX4_read_137 (fun H locs hV79 => ?_)
            have hV79 : kV E A s.heap H locs [(a0, .inr (4, [.ref a5, .ref a8, w0_2, .ref a6, .ref a7, .int v21_8, .int s_day])), (a1, .inr (10, [.int s_p2_clauses, .ref a2, .ref a4, .ref a3])), (a2, .inl (E.2 0, n_p2_code, .inl s_p2_code)), (a3, .inl (E.2 0, n_p2_middles, .inl s_p2_middles)), (a4, .inl (E.2 0, n_p2_starts, .inl s_p2_starts)), (a5, .inl (E.2 0, 1440, .inl s_heights)), (a6, .inl (E.2 0, 1440, .inl marked__35)), (a7, .inr (5, [.ref a9, .ref a10])), (a8, .inl (E.2 0, 1440, .inl s_shapes)), (a9, .inl (E.2 0, 128, .inl g137_75)), (a10, .inl (E.2 0, 32, .inl reckoner_values__37))] := hV79
            clear hV70 hi76 e77
            refine lv_aload hx hb dX4_read_138 (lv_at hlB125 4 rfl) ?_
            refine lv_bipush (v := 109) hx hb dX4_read_140 (by decide) ?_
            refine lv_iload hx hb dX4_read_142 (lv_at hlB125 6 rfl) ?_
            obtain ⟨hi81, g144_80, e82, h83⟩ := wrI_s h78
            clear h78
            refine kiast X hV79 9 rfl hi81 e82 dX4_read_144 (fun H locs hV84 => ?_)
            have hV84 : kV E A s.heap H locs [(a0, .inr (4, [.ref a5, .ref a8, w0_2, .ref a6, .ref a7, .int v21_8, .int s_day])), (a1, .inr (10, [.int s_p2_clauses, .ref a2, .ref a4, .ref a3])), (a2, .inl (E.2 0, n_p2_code, .inl s_p2_code)), (a3, .inl (E.2 0, n_p2_middles, .inl s_p2_middles)), (a4, .inl (E.2 0, n_p2_starts, .inl s_p2_starts)), (a5, .inl (E.2 0, 1440, .inl s_heights)), (a6, .inl (E.2 0, 1440, .inl marked__35)), (a7, .inr (5, [.ref a9, .ref a10])), (a8, .inl (E.2 0, 1440, .inl s_shapes)), (a9, .inl (E.2 0, 128, .inl g144_80)), (a10, .inl (E.2 0, 32, .inl reckoner_values__37))] := hV84
            clear hV79 hi81 e82
            refine lv_aload hx hb dX4_read_145 (lv_at hlB125 4 rfl) ?_
            refine lv_bipush (v := 115) hx hb dX4_read_147 (by decide) ?_
            refine lv_aload_n hx hb dX4_read_149 rfl (lv_at hlB125 0 rfl) ?_
            refine kget X hV84 (ci := 4) inlX4 rfl 0 rfl 6 (by decide) mw_94 rfl dX4_read_150 ?_
            refine lv_iload hx hb dX4_read_153 (lv_at hlB125 6 rfl) ?_
            obtain ⟨r155_85, hc86, h87⟩ := cb1_s h83
            clear h83
            refine kgoiE (krunSN (rest := [.int 115, .ref a9]) X hV84 [] (c_X11_starMinute l E _ s_day x6_34 r155_85 hc86) (List.mem_of_getElem? (i := 4) rfl) kb_X11_starMinute (by decide) rfl rfl hlB125.1 rfl (Nat.le_of_ble_eq_true rfl) dX4_read_155 (by decide)) X hV84 [] [0, 1, 2, 3, 4, 5, 6, 7, 8, 9, 10] rfl rfl rfl (by decide) (fun u H locs hV88 => ?_)
            have hV88 : kV E A s.heap H locs [(a0, .inr (4, [.ref a5, .ref a8, w0_2, .ref a6, .ref a7, .int v21_8, .int s_day])), (a1, .inr (10, [.int s_p2_clauses, .ref a2, .ref a4, .ref a3])), (a2, .inl (E.2 0, n_p2_code, .inl s_p2_code)), (a3, .inl (E.2 0, n_p2_middles, .inl s_p2_middles)), (a4, .inl (E.2 0, n_p2_starts, .inl s_p2_starts)), (a5, .inl (E.2 0, 1440, .inl s_heights)), (a6, .inl (E.2 0, 1440, .inl marked__35)), (a7, .inr (5, [.ref a9, .ref a10])), (a8, .inl (E.2 0, 1440, .inl s_shapes)), (a9, .inl (E.2 0, 128, .inl g144_80)), (a10, .inl (E.2 0, 32, .inl reckoner_values__37))] := hV88.sub [0, 1, 2, 3, 4, 5, 6, 7, 8, 9, 10] rfl rfl
            clear hV84
            obtain ⟨hi91, g158_90, e92, h93⟩ := wrI_s h87
            clear h87
            refine kiast X hV88 9 rfl hi91 e92 dX4_read_158 (fun H locs hV94 => ?_)
            have hV94 : kV E A s.heap H locs [(a0, .inr (4, [.ref a5, .ref a8, w0_2, .ref a6, .ref a7, .int v21_8, .int s_day])), (a1, .inr (10, [.int s_p2_clauses, .ref a2, .ref a4, .ref a3])), (a2, .inl (E.2 0, n_p2_code, .inl s_p2_code)), (a3, .inl (E.2 0, n_p2_middles, .inl s_p2_middles)), (a4, .inl (E.2 0, n_p2_starts, .inl s_p2_starts)), (a5, .inl (E.2 0, 1440, .inl s_heights)), (a6, .inl (E.2 0, 1440, .inl marked__35)), (a7, .inr (5, [.ref a9, .ref a10])), (a8, .inl (E.2 0, 1440, .inl s_shapes)), (a9, .inl (E.2 0, 128, .inl g158_90)), (a10, .inl (E.2 0, 32, .inl reckoner_values__37))] := hV94
            clear hV88 hi91 e92
            refine lv_aload_n hx hb dX4_read_159 rfl (lv_at hlB125 0 rfl) ?_
            refine lv_iload_n hx hb dX4_read_160 rfl (lv_at hlB125 1 rfl) ?_
            refine lv_iload hx hb dX4_read_161 (lv_at hlB125 6 rfl) ?_
            refine lv_iconst (v := 2) hx hb dX4_read_163 (by decide) ?_
            refine lv_isub hx hb dX4_read_164 ?_
            obtain ⟨r165_95, hc96, h97⟩ := cb1_s h93
            clear h93
            refine kgoiE (krunV (rest := []) X hV94 [0, 6] (c_X4_isMarked l E _ a0 a6 (.ref a5) (.ref a8) (w0_2) (.ref a7) (.int v21_8) (.int s_day) marked__35 p1 (x6_34 - 2) r165_95 hc96) mw_821 kb_X4_isMarked (ci := 4) rfl rfl (by decide) rfl rfl hlB125.1 rfl (Nat.le_of_ble_eq_true rfl) dX4_read_165 (by decide)) X hV94 [0, 6] [1, 2, 3, 4, 5, 7, 8, 9, 10] rfl rfl rfl (by decide) (fun u H locs hV98 => ?_)
            have hV98 : kV E A s.heap H locs [(a0, .inr (4, [.ref a5, .ref a8, w0_2, .ref a6, .ref a7, .int v21_8, .int s_day])), (a1, .inr (10, [.int s_p2_clauses, .ref a2, .ref a4, .ref a3])), (a2, .inl (E.2 0, n_p2_code, .inl s_p2_code)), (a3, .inl (E.2 0, n_p2_middles, .inl s_p2_middles)), (a4, .inl (E.2 0, n_p2_starts, .inl s_p2_starts)), (a5, .inl (E.2 0, 1440, .inl s_heights)), (a6, .inl (E.2 0, 1440, .inl marked__35)), (a7, .inr (5, [.ref a9, .ref a10])), (a8, .inl (E.2 0, 1440, .inl s_shapes)), (a9, .inl (E.2 0, 128, .inl g158_90)), (a10, .inl (E.2 0, 32, .inl reckoner_values__37))] := hV98.sub [9, 0, 1, 2, 3, 4, 10, 5, 6, 7, 8] rfl rfl
            clear hV94
            have J192 : ∀ (reckoner_letters__100 : Nat → Int32) (H : Heap) (locs : List Loc) (ls : Array Slot), (f_X4_read_J192 s_p2_clauses n_p2_code s_p2_code n_p2_middles s_p2_middles n_p2_starts s_p2_starts v3_1 x6_34 marked__35 reckoner_values__37 r79_45 (f_X4_read_L66 s_day s_p2_clauses n_p2_code s_p2_code n_p2_middles s_p2_middles n_p2_starts s_p2_starts s_heights s_shapes p1 v3_1 v21_8  n66)) reckoner_letters__100 = some (o_readers, o_marked, o_reckoner_letters, o_reckoner_values) → kV E A s.heap H locs [(a0, .inr (4, [.ref a5, .ref a8, w0_2, .ref a6, .ref a7, .int v21_8, .int s_day])), (a1, .inr (10, [.int s_p2_clauses, .ref a2, .ref a4, .ref a3])), (a2, .inl (E.2 0, n_p2_code, .inl s_p2_code)), (a3, .inl (E.2 0, n_p2_middles, .inl s_p2_middles)), (a4, .inl (E.2 0, n_p2_starts, .inl s_p2_starts)), (a5, .inl (E.2 0, 1440, .inl s_heights)), (a6, .inl (E.2 0, 1440, .inl marked__35)), (a7, .inr (5, [.ref a9, .ref a10])), (a8, .inl (E.2 0, 1440, .inl s_shapes)), (a9, .inl (E.2 0, 128, .inl reckoner_letters__100)), (a10, .inl (E.2 0, 32, .inl reckoner_values__37))] → lv_has ls 8 [(0, .ref a0), (1, .int p1), (2, .ref a1), (3, .int v3_1), (4, .ref a9), (5, .int r79_45), (6, .int x6_34)] → W p l e r_X4_read s m args below meth c H locs 0 0 Q (F0 m 192 ls []) := by
              intro reckoner_letters__100 H locs ls hB192 hVB192 hlB192
              rw [f_X4_read_J192] at hB192
              refine lv_aload_n hx hb dX4_read_192 rfl (lv_at hlB192 2 rfl) ?_
              refine lv_ifnull hx hb dX4_read_193 ?_
              refine lv_aload_n hx hb dX4_read_196 rfl (lv_at hlB192 0 rfl) ?_
              refine kget X hVB192 (ci := 4) inlX4 rfl 0 rfl 4 (by decide) mw_92 rfl dX4_read_197 ?_
              refine lv_aload_n hx hb dX4_read_200 rfl (lv_at hlB192 2 rfl) ?_
              obtain ⟨r201_101, o_values201_102, hc103, h104⟩ := cb2_s hB192
              clear hB192
              refine kgoiE (krunV (rest := []) X hVB192 [7, 1, 2, 3, 4, 9, 10] (c_X5_firstThatHolds l E _ a7 a1 a2 a3 a4 a9 a10 n_p2_code n_p2_middles n_p2_starts s_p2_clauses s_p2_code s_p2_middles s_p2_starts reckoner_letters__100 reckoner_values__37 r201_101 o_values201_102 hc103) mw_825 kb_X5_firstThatHolds (ci := 5) rfl rfl (by decide) rfl rfl hlB192.1 rfl (Nat.le_of_ble_eq_true rfl) dX4_read_201 (by decide)) X hVB192 [7, 1, 2, 3, 4, 9, 10] [0, 5, 6, 8] rfl rfl rfl (by decide) (fun u H locs hV105 => ?_)
              have hV105 : kV E A s.heap H locs [(a0, .inr (4, [.ref a5, .ref a8, w0_2, .ref a6, .ref a7, .int v21_8, .int s_day])), (a1, .inr (10, [.int s_p2_clauses, .ref a2, .ref a4, .ref a3])), (a2, .inl (E.2 0, n_p2_code, .inl s_p2_code)), (a3, .inl (E.2 0, n_p2_middles, .inl s_p2_middles)), (a4, .inl (E.2 0, n_p2_starts, .inl s_p2_starts)), (a5, .inl (E.2 0, 1440, .inl s_heights)), (a6, .inl (E.2 0, 1440, .inl marked__35)), (a7, .inr (5, [.ref a9, .ref a10])), (a8, .inl (E.2 0, 1440, .inl s_shapes)), (a9, .inl (E.2 0, 128, .inl reckoner_letters__100)), (a10, .inl (E.2 0, 32, .inl o_values201_102))] := hV105.sub [0, 5, 6, 7, 8, 1, 2, 4, 3, 9, 10] rfl rfl
              clear hVB192
              refine lv_iconst (v := (-1)) hx hb dX4_read_204 (by decide) ?_
              have J213 : ∀ (t0_107 : Int32) (H : Heap) (locs : List Loc) (ls : Array Slot), (f_X4_read_J213 v3_1 x6_34 marked__35 r79_45 reckoner_letters__100 o_values201_102 (f_X4_read_L66 s_day s_p2_clauses n_p2_code s_p2_code n_p2_middles s_p2_middles n_p2_starts s_p2_starts s_heights s_shapes p1 v3_1 v21_8  n66)) t0_107 = some (o_readers, o_marked, o_reckoner_letters, o_reckoner_values) → kV E A s.heap H locs [(a0, .inr (4, [.ref a5, .ref a8, w0_2, .ref a6, .ref a7, .int v21_8, .int s_day])), (a1, .inr (10, [.int s_p2_clauses, .ref a2, .ref a4, .ref a3])), (a2, .inl (E.2 0, n_p2_code, .inl s_p2_code)), (a3, .inl (E.2 0, n_p2_middles, .inl s_p2_middles)), (a4, .inl (E.2 0, n_p2_starts, .inl s_p2_starts)), (a5, .inl (E.2 0, 1440, .inl s_heights)), (a6, .inl (E.2 0, 1440, .inl marked__35)), (a7, .inr (5, [.ref a9, .ref a10])), (a8, .inl (E.2 0, 1440, .inl s_shapes)), (a9, .inl (E.2 0, 128, .inl reckoner_letters__100)), (a10, .inl (E.2 0, 32, .inl o_values201_102))] → lv_has ls 8 [(0, .ref a0), (1, .int p1), (2, .ref a1), (3, .int v3_1), (4, .ref a9), (5, .int r79_45), (6, .int x6_34)] → W p l e r_X4_read s m args below meth c H locs 0 0 Q (F0 m 213 ls [.int t0_107]) := by
                intro t0_107 H locs ls hB213 hVB213 hlB213
                rw [f_X4_read_J213] at hB213
                refine lv_istore (lv' := [(7, .int t0_107), (0, .ref a0), (1, .int p1), (2, .ref a1), (3, .int v3_1), (4, .ref a9), (5, .int r79_45), (6, .int x6_34)]) hx hb dX4_read_213 hlB213 (by decide) rfl (fun ls hl108 => ?_)
                clear hlB213
                refine lv_aload_n hx hb dX4_read_215 rfl (lv_at hl108 1 rfl) ?_
                refine kget X hVB213 (ci := 4) inlX4 rfl 0 rfl 3 (by decide) mw_90 rfl dX4_read_216 ?_
                refine lv_iload hx hb dX4_read_219 (lv_at hl108 7 rfl) ?_
                refine lv_iload hx hb dX4_read_221 (lv_at hl108 0 rfl) ?_
                refine lv_if_eq (tgt := 238) hx hb dX4_read_223 (by decide) (fun c109 => ?_) (fun c109 => ?_)
                · have h110 := itS c109 hB213
                  clear hB213 c109
                  refine lv_aload_n hx hb dX4_read_238 rfl (lv_at hl108 1 rfl) ?_
                  refine kget X hVB213 (ci := 4) inlX4 rfl 0 rfl 3 (by decide) mw_90 rfl dX4_read_239 ?_
                  refine lv_iload hx hb dX4_read_242 (lv_at hl108 7 rfl) ?_
                  obtain ⟨hi113, v244_112, e114, h115⟩ := rdI_s h110
                  clear h110
                  refine kiald X hVB213 6 rfl hi113 e114 dX4_read_244 ?_
                  clear hi113 e114
                  refine lv_iload_n hx hb dX4_read_245 rfl (lv_at hl108 4 rfl) ?_
                  refine lv_iconst (v := (-1)) hx hb dX4_read_246 (by decide) ?_
                  refine lv_ixor hx hb dX4_read_247 ?_
                  refine lv_iand hx hb dX4_read_248 ?_
                  obtain ⟨v249_116, e117, h118⟩ := nmI_s h115
                  clear h115
                  refine ktopi e117 ?_
                  clear e117
                  obtain ⟨hi120, g249_119, e121, h122⟩ := wrI_s h118
                  clear h118
                  refine kiast X hVB213 6 rfl hi120 e121 dX4_read_249 (fun H locs hV123 => ?_)
                  have hV123 : kV E A s.heap H locs [(a0, .inr (4, [.ref a5, .ref a8, w0_2, .ref a6, .ref a7, .int v21_8, .int s_day])), (a1, .inr (10, [.int s_p2_clauses, .ref a2, .ref a4, .ref a3])), (a2, .inl (E.2 0, n_p2_code, .inl s_p2_code)), (a3, .inl (E.2 0, n_p2_middles, .inl s_p2_middles)), (a4, .inl (E.2 0, n_p2_starts, .inl s_p2_starts)), (a5, .inl (E.2 0, 1440, .inl s_heights)), (a6, .inl (E.2 0, 1440, .inl g249_119)), (a7, .inr (5, [.ref a9, .ref a10])), (a8, .inl (E.2 0, 1440, .inl s_shapes)), (a9, .inl (E.2 0, 128, .inl reckoner_letters__100)), (a10, .inl (E.2 0, 32, .inl o_values201_102))] := hV123
                  clear hVB213 hi120 e121
                  obtain ⟨v250_124, e125, h126⟩ := nmI_s h122
                  clear h122
                  refine lv_iinc (v := v250_124) (lv' := [(6, .int v250_124), (7, .int t0_107), (0, .ref a0), (1, .int p1), (2, .ref a1), (3, .int v3_1), (4, .ref a9), (5, .int r79_45)]) hx hb dX4_read_250 hl108 (k := 7) rfl (by rw [e125]; rfl) (by decide) rfl (fun ls hl127 => ?_)
                  clear hl108 e125
                  refine lv_goto (tgt := 66) hx hb dX4_read_253 (by decide) ?_
                  exact ih66 r79_45 v250_124 g249_119 reckoner_letters__100 o_values201_102 _ _ _ h126 hV123 (lv_sub hl127 [2, 3, 4, 5, 6, 7, 0] rfl)
                · have h111 := ieS c109 hB213
                  clear hB213 c109
                  refine lv_aload_n hx hb dX4_read_226 rfl (lv_at hl108 1 rfl) ?_
                  refine kget X hVB213 (ci := 4) inlX4 rfl 0 rfl 3 (by decide) mw_90 rfl dX4_read_227 ?_
                  refine lv_iload hx hb dX4_read_230 (lv_at hl108 7 rfl) ?_
                  obtain ⟨hi129, v232_128, e130, h131⟩ := rdI_s h111
                  clear h111
                  refine kiald X hVB213 6 rfl hi129 e130 dX4_read_232 ?_
                  clear hi129 e130
                  refine lv_iload_n hx hb dX4_read_233 rfl (lv_at hl108 4 rfl) ?_
                  refine lv_ior hx hb dX4_read_234 ?_
                  refine lv_goto (tgt := 249) hx hb dX4_read_235 (by decide) ?_
                  obtain ⟨v249_132, e133, h134⟩ := nmI_s h131
                  clear h131
                  refine ktopi e133 ?_
                  clear e133
                  obtain ⟨hi136, g249_135, e137, h138⟩ := wrI_s h134
                  clear h134
                  refine kiast X hVB213 6 rfl hi136 e137 dX4_read_249 (fun H locs hV139 => ?_)
                  have hV139 : kV E A s.heap H locs [(a0, .inr (4, [.ref a5, .ref a8, w0_2, .ref a6, .ref a7, .int v21_8, .int s_day])), (a1, .inr (10, [.int s_p2_clauses, .ref a2, .ref a4, .ref a3])), (a2, .inl (E.2 0, n_p2_code, .inl s_p2_code)), (a3, .inl (E.2 0, n_p2_middles, .inl s_p2_middles)), (a4, .inl (E.2 0, n_p2_starts, .inl s_p2_starts)), (a5, .inl (E.2 0, 1440, .inl s_heights)), (a6, .inl (E.2 0, 1440, .inl g249_135)), (a7, .inr (5, [.ref a9, .ref a10])), (a8, .inl (E.2 0, 1440, .inl s_shapes)), (a9, .inl (E.2 0, 128, .inl reckoner_letters__100)), (a10, .inl (E.2 0, 32, .inl o_values201_102))] := hV139
                  clear hVB213 hi136 e137
                  obtain ⟨v250_140, e141, h142⟩ := nmI_s h138
                  clear h138
                  refine lv_iinc (v := v250_140) (lv' := [(6, .int v250_140), (7, .int t0_107), (0, .ref a0), (1, .int p1), (2, .ref a1), (3, .int v3_1), (4, .ref a9), (5, .int r79_45)]) hx hb dX4_read_250 hl108 (k := 7) rfl (by rw [e141]; rfl) (by decide) rfl (fun ls hl143 => ?_)
                  clear hl108 e141
                  refine lv_goto (tgt := 66) hx hb dX4_read_253 (by decide) ?_
                  exact ih66 r79_45 v250_140 g249_135 reckoner_letters__100 o_values201_102 _ _ _ h142 hV139 (lv_sub hl143 [2, 3, 4, 5, 6, 7, 0] rfl)
              refine lv_icmp_eq (tgt := 212) hx hb dX4_read_205 (by decide) (fun c144 => ?_) (fun c144 => ?_)
              · have h145 := itS c144 h104
                clear h104 c144
                refine lv_iconst (v := 0) hx hb dX4_read_212 (by decide) ?_
                exact J213 0 _ _ _ h145 hV105 (lv_sub hlB192 [0, 1, 2, 3, 4, 5, 6] rfl)
              · have h146 := ieS c144 h104
                clear h104 c144
                refine lv_iconst (v := 1) hx hb dX4_read_208 (by decide) ?_
                refine lv_goto (tgt := 213) hx hb dX4_read_209 (by decide) ?_
                exact J213 1 _ _ _ h146 hV105 (lv_sub hlB192 [0, 1, 2, 3, 4, 5, 6] rfl)
            refine lv_if_eq (tgt := 192) hx hb dX4_read_168 (by decide) (fun c147 => ?_) (fun c147 => ?_)
            · have h148 := itS c147 h97
              clear h97 c147
              exact J192 g158_90 _ _ _ h148 hV98 (lv_sub hlB125 [0, 1, 2, 3, 4, 5, 6] rfl)
            · have h149 := ieS c147 h97
              clear h97 c147
              refine lv_aload_n hx hb dX4_read_171 rfl (lv_at hlB125 0 rfl) ?_
              refine lv_iload_n hx hb dX4_read_172 rfl (lv_at hlB125 1 rfl) ?_
              refine lv_iload hx hb dX4_read_173 (lv_at hlB125 6 rfl) ?_
              refine lv_iconst (v := 1) hx hb dX4_read_175 (by decide) ?_
              refine lv_isub hx hb dX4_read_176 ?_
              obtain ⟨r177_150, hc151, h152⟩ := cb1_s h149
              clear h149
              refine kgoiE (krunV (rest := []) X hV98 [0, 6] (c_X4_isMarked l E _ a0 a6 (.ref a5) (.ref a8) (w0_2) (.ref a7) (.int v21_8) (.int s_day) marked__35 p1 (x6_34 - 1) r177_150 hc151) mw_821 kb_X4_isMarked (ci := 4) rfl rfl (by decide) rfl rfl hlB125.1 rfl (Nat.le_of_ble_eq_true rfl) dX4_read_177 (by decide)) X hV98 [0, 6] [1, 2, 3, 4, 5, 7, 8, 9, 10] rfl rfl rfl (by decide) (fun u H locs hV153 => ?_)
              have hV153 : kV E A s.heap H locs [(a0, .inr (4, [.ref a5, .ref a8, w0_2, .ref a6, .ref a7, .int v21_8, .int s_day])), (a1, .inr (10, [.int s_p2_clauses, .ref a2, .ref a4, .ref a3])), (a2, .inl (E.2 0, n_p2_code, .inl s_p2_code)), (a3, .inl (E.2 0, n_p2_middles, .inl s_p2_middles)), (a4, .inl (E.2 0, n_p2_starts, .inl s_p2_starts)), (a5, .inl (E.2 0, 1440, .inl s_heights)), (a6, .inl (E.2 0, 1440, .inl marked__35)), (a7, .inr (5, [.ref a9, .ref a10])), (a8, .inl (E.2 0, 1440, .inl s_shapes)), (a9, .inl (E.2 0, 128, .inl g158_90)), (a10, .inl (E.2 0, 32, .inl reckoner_values__37))] := hV153.sub [9, 0, 1, 2, 3, 4, 10, 5, 6, 7, 8] rfl rfl
              clear hV98
              refine lv_if_ne (tgt := 192) hx hb dX4_read_180 (by decide) (fun c155 => ?_) (fun c155 => ?_)
              · have h156 := ieS c155 h152
                clear h152 c155
                exact J192 g158_90 _ _ _ h156 hV153 (lv_sub hlB125 [0, 1, 2, 3, 4, 5, 6] rfl)
              · have h157 := itS c155 h152
                clear h152 c155
                refine lv_aload hx hb dX4_read_183 (lv_at hlB125 4 rfl) ?_
                refine lv_bipush (v := 116) hx hb dX4_read_185 (by decide) ?_
                refine lv_dup2_11 hx hb dX4_read_187 rfl rfl ?_
                obtain ⟨hi159, v188_158, e160, h161⟩ := rdI_s h157
                clear h157
                refine kiald X hV153 9 rfl hi159 e160 dX4_read_188 ?_
                clear hi159 e160
                refine lv_iconst (v := 1) hx hb dX4_read_189 (by decide) ?_
                refine lv_iadd hx hb dX4_read_190 ?_
                obtain ⟨v191_162, e163, h164⟩ := nmI_s h161
                clear h161
                refine ktopi e163 ?_
                clear e163
                obtain ⟨hi166, g191_165, e167, h168⟩ := wrI_s h164
                clear h164
                refine kiast X hV153 9 rfl hi166 e167 dX4_read_191 (fun H locs hV169 => ?_)
                have hV169 : kV E A s.heap H locs [(a0, .inr (4, [.ref a5, .ref a8, w0_2, .ref a6, .ref a7, .int v21_8, .int s_day])), (a1, .inr (10, [.int s_p2_clauses, .ref a2, .ref a4, .ref a3])), (a2, .inl (E.2 0, n_p2_code, .inl s_p2_code)), (a3, .inl (E.2 0, n_p2_middles, .inl s_p2_middles)), (a4, .inl (E.2 0, n_p2_starts, .inl s_p2_starts)), (a5, .inl (E.2 0, 1440, .inl s_heights)), (a6, .inl (E.2 0, 1440, .inl marked__35)), (a7, .inr (5, [.ref a9, .ref a10])), (a8, .inl (E.2 0, 1440, .inl s_shapes)), (a9, .inl (E.2 0, 128, .inl g191_165)), (a10, .inl (E.2 0, 32, .inl reckoner_values__37))] := hV169
                clear hV153 hi166 e167
                exact J192 g191_165 _ _ _ h168 hV169 (lv_sub hlB125 [0, 1, 2, 3, 4, 5, 6] rfl)
          refine lv_if_le (tgt := 124) hx hb dX4_read_109 (by decide) (fun c170 => ?_) (fun c170 => ?_)
          · have h171 := itS c170 h63
            clear h63 c170
            refine lv_iconst (v := 0) hx hb dX4_read_124 (by decide) ?_
            exact J125 0 _ _ _ h171 hV64 (lv_sub hl50 [1, 2, 3, 4, 5, 0, 6] rfl)
          · have h172 := ieS c170 h63
            clear h63 c170
            refine lv_aload_n hx hb dX4_read_112 rfl (lv_at hl50 1 rfl) ?_
            refine kget X hV64 (ci := 4) inlX4 rfl 0 rfl 0 (by decide) mw_87 rfl dX4_read_113 ?_
            refine lv_iload hx hb dX4_read_116 (lv_at hl50 6 rfl) ?_
            refine lv_iconst (v := 1) hx hb dX4_read_118 (by decide) ?_
            refine lv_isub hx hb dX4_read_119 ?_
            obtain ⟨hi174, v120_173, e175, h176⟩ := rdI_s h172
            clear h172
            refine kiald X hV64 5 rfl hi174 e175 dX4_read_120 ?_
            clear hi174 e175
            refine lv_goto (tgt := 125) hx hb dX4_read_121 (by decide) ?_
            exact J125 v120_173 _ _ _ h176 hV64 (lv_sub hl50 [1, 2, 3, 4, 5, 0, 6] rfl)
    exact L66 FU 0 0 s_marked g59_26 s_reckoner_values _ _ _ h29 hV30 (lv_sub hl32 [4, 5, 6, 3, 2, 1, 0] rfl)
  · have h7 := ieS c5 h3
    clear h3 c5
    obtain ⟨q177, q178, q179, q180⟩ := tup4_s h7
    clear h7
    exact hret () _ _ _ _ trivial (by rw [← q177, ← q178, ← q179, ← q180]; exact hV) dX4_read_13
noncomputable def f_X4_read_N_J192 (v3_1 : Int32) (x6_34 : Int32) (marked__35 : Nat → Int32) (r79_43 : Int32) (K66 : Int32 → Int32 → (Nat → Int32) → (Nat → Int32) → Option (Int32 × (Nat → Int32) × (Nat → Int32))) (reckoner_letters__98 : Nat → Int32) : Option (Int32 × (Nat → Int32) × (Nat → Int32)) :=
    rdI marked__35 1440 x6_34 fun v244_101 =>
    nmI (v244_101 &&& (v3_1 ^^^ (-1))) fun v249_105 =>
    wrI marked__35 1440 x6_34 v249_105 fun g249_108 =>
    nmI (x6_34 + 1) fun v250_113 =>
    K66 r79_43 v250_113 g249_108 reckoner_letters__98
noncomputable def f_X4_read_N_J125 (s_day : Int32) (s_shapes : Nat → Int32) (p1 : Int32) (v3_1 : Int32) (x6_34 : Int32) (marked__35 : Nat → Int32) (r79_43 : Int32) (g102_58 : Nat → Int32) (K66 : Int32 → Int32 → (Nat → Int32) → (Nat → Int32) → Option (Int32 × (Nat → Int32) × (Nat → Int32))) (t2_63 : Int32) : Option (Int32 × (Nat → Int32) × (Nat → Int32)) :=
    wrI g102_58 128 98 t2_63 fun g125_64 =>
    rdI s_shapes 1440 x6_34 fun v136_69 =>
    wrI g125_64 128 108 v136_69 fun g137_73 =>
    wrI g137_73 128 109 x6_34 fun g144_78 =>
    cb1 (f_X11_starMinute s_day x6_34) fun r155_83 =>
    wrI g144_78 128 115 r155_83 fun g158_88 =>
    cb1 (f_X4_isMarked marked__35 p1 (x6_34 - 2)) fun r165_93 =>
    if r165_93 = 0 then
    ((f_X4_read_N_J192 v3_1 x6_34 marked__35 r79_43 K66) g158_88)
    else
    (cb1 (f_X4_isMarked marked__35 p1 (x6_34 - 1)) fun r177_120 =>
      if r177_120 = 0 then
      (rdI g158_88 128 116 fun v188_128 =>
        nmI (v188_128 + 1) fun v191_132 =>
        wrI g158_88 128 116 v191_132 fun g191_135 =>
        (f_X4_read_N_J192 v3_1 x6_34 marked__35 r79_43 K66) g191_135)
      else
      ((f_X4_read_N_J192 v3_1 x6_34 marked__35 r79_43 K66) g158_88))
noncomputable def f_X4_read_N_L66 (s_day : Int32) (s_heights : Nat → Int32) (s_shapes : Nat → Int32) (p1 : Int32) (v3_1 : Int32) (v21_8 : Int32)  : Nat → Int32 → Int32 → (Nat → Int32) → (Nat → Int32) → Option (Int32 × (Nat → Int32) × (Nat → Int32))
  | 0, _, _, _, _ => none
  | n66 + 1, x5_33, x6_34, marked__35, reckoner_letters__36 =>
    if 1440 ≤ x6_34 then
    (some (v21_8, marked__35, reckoner_letters__36))
    else
    (cb1 (f_X4_greatestBefore s_heights x6_34 x5_33) fun r79_43 =>
      wrI reckoner_letters__36 128 103 r79_43 fun g90_49 =>
      rdI s_heights 1440 x6_34 fun v101_54 =>
      wrI g90_49 128 104 v101_54 fun g102_58 =>
      if x6_34 ≤ 0 then
      ((f_X4_read_N_J125 s_day s_shapes p1 v3_1 x6_34 marked__35 r79_43 g102_58 (f_X4_read_N_L66 s_day s_heights s_shapes p1 v3_1 v21_8  n66)) 0)
      else
      (rdI s_heights 1440 (x6_34 - 1) fun v120_143 =>
        (f_X4_read_N_J125 s_day s_shapes p1 v3_1 x6_34 marked__35 r79_43 g102_58 (f_X4_read_N_L66 s_day s_heights s_shapes p1 v3_1 v21_8  n66)) v120_143))
noncomputable def f_X4_read_N (s_readers : Int32) (s_day : Int32) (s_heights : Nat → Int32) (s_marked : Nat → Int32) (s_shapes : Nat → Int32) (s_reckoner_letters : Nat → Int32) (p1 : Int32) : Option (Int32 × (Nat → Int32) × (Nat → Int32)) :=
    nmI (jshl 1 p1) fun v3_1 =>
    if (s_readers &&& v3_1) = 0 then
    (nmI (s_readers ||| v3_1) fun v21_8 =>
      wrI s_reckoner_letters 128 100 s_day fun g41_13 =>
      nmI (jrem s_day 7) fun v53_18 =>
      wrI g41_13 128 102 v53_18 fun g53_21 =>
      wrI g53_21 128 116 0 fun g59_26 =>
      (f_X4_read_N_L66 s_day s_heights s_shapes p1 v3_1 v21_8  FU) 0 0 s_marked g59_26)
    else
    (some (s_readers, s_marked, s_reckoner_letters))
abbrev r_X4_read_N : Room := { frames := 3, cells := 0, slots := 0, locals := 71 }
set_option maxHeartbeats 4000000 in
set_option maxRecDepth 100000 in
theorem c_X4_read_N (l : Launch) (E : kE) (sz : Nat) (a0 a1 a2 a3 a4 a5 : Nat) (w0_2 w3_1 : Value) (s_readers : Int32) (s_day : Int32) (s_heights : Nat → Int32) (s_marked : Nat → Int32) (s_shapes : Nat → Int32) (s_reckoner_letters : Nat → Int32) (p1 : Int32) (o_readers : Int32) (o_marked : Nat → Int32) (o_reckoner_letters : Nat → Int32) (h : f_X4_read_N s_readers s_day s_heights s_marked s_shapes s_reckoner_letters p1 = some (o_readers, o_marked, o_reckoner_letters)) : kMv l yX4_read cX4_read 8 r_X4_read_N [.ref a0, .int p1, .null] E [(a0, .inr (4, [.ref a1, .ref a4, w0_2, .ref a2, .ref a3, .int s_readers, .int s_day])), (a1, .inl (E.2 0, 1440, .inl s_heights)), (a2, .inl (E.2 0, 1440, .inl s_marked)), (a3, .inr (5, [.ref a5, w3_1])), (a4, .inl (E.2 0, 1440, .inl s_shapes)), (a5, .inl (E.2 0, 128, .inl s_reckoner_letters))] sz 0 0 (fun (_ : Unit) => True) (fun _ => [(a0, .inr (4, [.ref a1, .ref a4, w0_2, .ref a2, .ref a3, .int o_readers, .int s_day])), (a1, .inl (E.2 0, 1440, .inl s_heights)), (a2, .inl (E.2 0, 1440, .inl o_marked)), (a3, .inr (5, [.ref a5, w3_1])), (a4, .inl (E.2 0, 1440, .inl s_shapes)), (a5, .inl (E.2 0, 128, .inl o_reckoner_letters))]) := by
  refine kmetv rfl (Nat.le_of_ble_eq_true rfl) ?_
  intro p e s m args below meth c ls A Q X hnm hV hret hl
  have X : kC p s m c cX4_read 8 RX4 args E A := X
  have hx := X.1
  have hb := X.2.1
  have hl : lv_has ls 8 [(0, .ref a0), (1, .int p1), (2, .null)] := hl
  rw [f_X4_read_N] at h
  refine lv_iconst (v := 1) hx hb dX4_read_0 (by decide) ?_
  refine lv_iload_n hx hb dX4_read_1 rfl (lv_at hl 1 rfl) ?_
  refine lv_ishl hx hb dX4_read_2 ?_
  obtain ⟨v3_1, e2, h3⟩ := nmI_s h
  clear h
  refine ktopi e2 ?_
  clear e2
  refine lv_istore_n (lv' := [(3, .int v3_1), (0, .ref a0), (1, .int p1), (2, .null)]) hx hb dX4_read_3 rfl hl (by decide) rfl (fun ls hl4 => ?_)
  clear hl
  refine lv_aload_n hx hb dX4_read_4 rfl (lv_at hl4 1 rfl) ?_
  refine kget X hV (ci := 4) inlX4 rfl 0 rfl 5 (by decide) mw_93 rfl dX4_read_5 ?_
  refine lv_iload_n hx hb dX4_read_8 rfl (lv_at hl4 0 rfl) ?_
  refine lv_iand hx hb dX4_read_9 ?_
  refine lv_if_eq (tgt := 14) hx hb dX4_read_10 (by decide) (fun c5 => ?_) (fun c5 => ?_)
  · have h6 := itS c5 h3
    clear h3 c5
    refine lv_aload_n hx hb dX4_read_14 rfl (lv_at hl4 1 rfl) ?_
    refine lv_dup hx hb dX4_read_15 rfl ?_
    refine kget X hV (ci := 4) inlX4 rfl 0 rfl 5 (by decide) mw_93 rfl dX4_read_16 ?_
    refine lv_iload_n hx hb dX4_read_19 rfl (lv_at hl4 0 rfl) ?_
    refine lv_ior hx hb dX4_read_20 ?_
    obtain ⟨v21_8, e9, h10⟩ := nmI_s h6
    clear h6
    refine ktopi e9 ?_
    clear e9
    refine kput X hV (ci := 4) inlX4 rfl tyX4 tyX4_ok nmX4 0 rfl 5 (by decide) mw_93 rfl rfl rfl (Nat.le_of_ble_eq_true rfl) dX4_read_21 (fun H locs hV11 => ?_)
    have hV11 : kV E A s.heap H locs [(a0, .inr (4, [.ref a1, .ref a4, w0_2, .ref a2, .ref a3, .int v21_8, .int s_day])), (a1, .inl (E.2 0, 1440, .inl s_heights)), (a2, .inl (E.2 0, 1440, .inl s_marked)), (a3, .inr (5, [.ref a5, w3_1])), (a4, .inl (E.2 0, 1440, .inl s_shapes)), (a5, .inl (E.2 0, 128, .inl s_reckoner_letters))] := hV11
    clear hV
    refine lv_aload_n hx hb dX4_read_24 rfl (lv_at hl4 1 rfl) ?_
    refine kget X hV11 (ci := 4) inlX4 rfl 0 rfl 4 (by decide) mw_92 rfl dX4_read_25 ?_
    refine kget X hV11 (ci := 5) inlX5 rfl 3 rfl 0 (by decide) mw_811 rfl dX4_read_28 ?_
    refine lv_astore (lv' := [(4, .ref a5), (3, .int v3_1), (0, .ref a0), (1, .int p1), (2, .null)]) hx hb dX4_read_31 hl4 (by decide) rfl (fun ls hl12 => ?_)
    clear hl4
    refine lv_aload hx hb dX4_read_33 (lv_at hl12 0 rfl) ?_
    refine lv_bipush (v := 100) hx hb dX4_read_35 (by decide) ?_
    refine lv_aload_n hx hb dX4_read_37 rfl (lv_at hl12 2 rfl) ?_
    refine kget X hV11 (ci := 4) inlX4 rfl 0 rfl 6 (by decide) mw_94 rfl dX4_read_38 ?_
    obtain ⟨hi14, g41_13, e15, h16⟩ := wrI_s h10
    clear h10
    refine kiast X hV11 5 rfl hi14 e15 dX4_read_41 (fun H locs hV17 => ?_)
    have hV17 : kV E A s.heap H locs [(a0, .inr (4, [.ref a1, .ref a4, w0_2, .ref a2, .ref a3, .int v21_8, .int s_day])), (a1, .inl (E.2 0, 1440, .inl s_heights)), (a2, .inl (E.2 0, 1440, .inl s_marked)), (a3, .inr (5, [.ref a5, w3_1])), (a4, .inl (E.2 0, 1440, .inl s_shapes)), (a5, .inl (E.2 0, 128, .inl g41_13))] := hV17
    clear hV11 hi14 e15
    refine lv_aload hx hb dX4_read_42 (lv_at hl12 0 rfl) ?_
    refine lv_bipush (v := 102) hx hb dX4_read_44 (by decide) ?_
    refine lv_aload_n hx hb dX4_read_46 rfl (lv_at hl12 2 rfl) ?_
    refine kget X hV17 (ci := 4) inlX4 rfl 0 rfl 6 (by decide) mw_94 rfl dX4_read_47 ?_
    refine lv_bipush (v := 7) hx hb dX4_read_50 (by decide) ?_
    refine lv_irem hx hb dX4_read_52 (by decide) ?_
    obtain ⟨v53_18, e19, h20⟩ := nmI_s h16
    clear h16
    refine ktopi e19 ?_
    clear e19
    obtain ⟨hi22, g53_21, e23, h24⟩ := wrI_s h20
    clear h20
    refine kiast X hV17 5 rfl hi22 e23 dX4_read_53 (fun H locs hV25 => ?_)
    have hV25 : kV E A s.heap H locs [(a0, .inr (4, [.ref a1, .ref a4, w0_2, .ref a2, .ref a3, .int v21_8, .int s_day])), (a1, .inl (E.2 0, 1440, .inl s_heights)), (a2, .inl (E.2 0, 1440, .inl s_marked)), (a3, .inr (5, [.ref a5, w3_1])), (a4, .inl (E.2 0, 1440, .inl s_shapes)), (a5, .inl (E.2 0, 128, .inl g53_21))] := hV25
    clear hV17 hi22 e23
    refine lv_aload hx hb dX4_read_54 (lv_at hl12 0 rfl) ?_
    refine lv_bipush (v := 116) hx hb dX4_read_56 (by decide) ?_
    refine lv_iconst (v := 0) hx hb dX4_read_58 (by decide) ?_
    obtain ⟨hi27, g59_26, e28, h29⟩ := wrI_s h24
    clear h24
    refine kiast X hV25 5 rfl hi27 e28 dX4_read_59 (fun H locs hV30 => ?_)
    have hV30 : kV E A s.heap H locs [(a0, .inr (4, [.ref a1, .ref a4, w0_2, .ref a2, .ref a3, .int v21_8, .int s_day])), (a1, .inl (E.2 0, 1440, .inl s_heights)), (a2, .inl (E.2 0, 1440, .inl s_marked)), (a3, .inr (5, [.ref a5, w3_1])), (a4, .inl (E.2 0, 1440, .inl s_shapes)), (a5, .inl (E.2 0, 128, .inl g59_26))] := hV30
    clear hV25 hi27 e28
    refine lv_iconst (v := 0) hx hb dX4_read_60 (by decide) ?_
    refine lv_istore (lv' := [(5, .int 0), (4, .ref a5), (3, .int v3_1), (0, .ref a0), (1, .int p1), (2, .null)]) hx hb dX4_read_61 hl12 (by decide) rfl (fun ls hl31 => ?_)
    clear hl12
    refine lv_iconst (v := 0) hx hb dX4_read_63 (by decide) ?_
    refine lv_istore (lv' := [(6, .int 0), (5, .int 0), (4, .ref a5), (3, .int v3_1), (0, .ref a0), (1, .int p1), (2, .null)]) hx hb dX4_read_64 hl31 (by decide) rfl (fun ls hl32 => ?_)
    clear hl31
    have L66 : ∀ (n66 : Nat) (x5_33 : Int32) (x6_34 : Int32) (marked__35 : Nat → Int32) (reckoner_letters__36 : Nat → Int32) (H : Heap) (locs : List Loc) (ls : Array Slot), (f_X4_read_N_L66 s_day s_heights s_shapes p1 v3_1 v21_8  n66) x5_33 x6_34 marked__35 reckoner_letters__36 = some (o_readers, o_marked, o_reckoner_letters) → kV E A s.heap H locs [(a0, .inr (4, [.ref a1, .ref a4, w0_2, .ref a2, .ref a3, .int v21_8, .int s_day])), (a1, .inl (E.2 0, 1440, .inl s_heights)), (a2, .inl (E.2 0, 1440, .inl marked__35)), (a3, .inr (5, [.ref a5, w3_1])), (a4, .inl (E.2 0, 1440, .inl s_shapes)), (a5, .inl (E.2 0, 128, .inl reckoner_letters__36))] → lv_has ls 8 [(0, .ref a0), (1, .int p1), (2, .null), (3, .int v3_1), (4, .ref a5), (5, .int x5_33), (6, .int x6_34)] → W p l e r_X4_read_N s m args below meth c H locs 0 0 Q (F0 m 66 ls []) := by
      intro n66
      induction n66 with
      | zero =>
        intro x5_33 x6_34 marked__35 reckoner_letters__36 H locs ls hB66 hVB66 hlB66
        rw [f_X4_read_N_L66] at hB66
        exact nomatch hB66
      | succ n66 ih66 =>
        intro x5_33 x6_34 marked__35 reckoner_letters__36 H locs ls hB66 hVB66 hlB66
        rw [f_X4_read_N_L66] at hB66
        refine lv_iload hx hb dX4_read_66 (lv_at hlB66 6 rfl) ?_
        refine lv_sipush (v := 1440) hx hb dX4_read_68 (by decide) ?_
        refine lv_icmp_ge (tgt := 256) hx hb dX4_read_71 (by decide) (fun c37 => ?_) (fun c37 => ?_)
        · have h38 := itS c37 hB66
          clear hB66 c37
          obtain ⟨q40, q41, q42⟩ := tup3_s h38
          clear h38
          exact hret () _ _ _ _ trivial (by rw [← q40, ← q41, ← q42]; exact hVB66) dX4_read_256
        · have h39 := ieS c37 hB66
          clear hB66 c37
          refine lv_aload_n hx hb dX4_read_74 rfl (lv_at hlB66 0 rfl) ?_
          refine lv_iload hx hb dX4_read_75 (lv_at hlB66 6 rfl) ?_
          refine lv_iload hx hb dX4_read_77 (lv_at hlB66 5 rfl) ?_
          obtain ⟨r79_43, hc44, h45⟩ := cb1_s h39
          clear h39
          refine kgoiE (krunV (rest := []) X hVB66 [0, 1] (c_X4_greatestBefore l E _ a0 a1 (.ref a4) (w0_2) (.ref a2) (.ref a3) (.int v21_8) (.int s_day) s_heights x6_34 x5_33 r79_43 hc44) mw_812 kb_X4_greatestBefore (ci := 4) rfl rfl (by decide) rfl rfl hlB66.1 rfl (Nat.le_of_ble_eq_true rfl) dX4_read_79 (by decide)) X hVB66 [0, 1] [2, 3, 4, 5] rfl rfl rfl (by decide) (fun u H locs hV46 => ?_)
          have hV46 : kV E A s.heap H locs [(a0, .inr (4, [.ref a1, .ref a4, w0_2, .ref a2, .ref a3, .int v21_8, .int s_day])), (a1, .inl (E.2 0, 1440, .inl s_heights)), (a2, .inl (E.2 0, 1440, .inl marked__35)), (a3, .inr (5, [.ref a5, w3_1])), (a4, .inl (E.2 0, 1440, .inl s_shapes)), (a5, .inl (E.2 0, 128, .inl reckoner_letters__36))] := hV46.sub [4, 5, 0, 1, 2, 3] rfl rfl
          clear hVB66
          refine lv_istore (lv' := [(5, .int r79_43), (0, .ref a0), (1, .int p1), (2, .null), (3, .int v3_1), (4, .ref a5), (6, .int x6_34)]) hx hb dX4_read_82 hlB66 (by decide) rfl (fun ls hl48 => ?_)
          clear hlB66
          refine lv_aload hx hb dX4_read_84 (lv_at hl48 5 rfl) ?_
          refine lv_bipush (v := 103) hx hb dX4_read_86 (by decide) ?_
          refine lv_iload hx hb dX4_read_88 (lv_at hl48 0 rfl) ?_
          obtain ⟨hi50, g90_49, e51, h52⟩ := wrI_s h45
          clear h45
          refine kiast X hV46 5 rfl hi50 e51 dX4_read_90 (fun H locs hV53 => ?_)
          have hV53 : kV E A s.heap H locs [(a0, .inr (4, [.ref a1, .ref a4, w0_2, .ref a2, .ref a3, .int v21_8, .int s_day])), (a1, .inl (E.2 0, 1440, .inl s_heights)), (a2, .inl (E.2 0, 1440, .inl marked__35)), (a3, .inr (5, [.ref a5, w3_1])), (a4, .inl (E.2 0, 1440, .inl s_shapes)), (a5, .inl (E.2 0, 128, .inl g90_49))] := hV53
          clear hV46 hi50 e51
          refine lv_aload hx hb dX4_read_91 (lv_at hl48 5 rfl) ?_
          refine lv_bipush (v := 104) hx hb dX4_read_93 (by decide) ?_
          refine lv_aload_n hx hb dX4_read_95 rfl (lv_at hl48 1 rfl) ?_
          refine kget X hV53 (ci := 4) inlX4 rfl 0 rfl 0 (by decide) mw_87 rfl dX4_read_96 ?_
          refine lv_iload hx hb dX4_read_99 (lv_at hl48 6 rfl) ?_
          obtain ⟨hi55, v101_54, e56, h57⟩ := rdI_s h52
          clear h52
          refine kiald X hV53 1 rfl hi55 e56 dX4_read_101 ?_
          clear hi55 e56
          obtain ⟨hi59, g102_58, e60, h61⟩ := wrI_s h57
          clear h57
          refine kiast X hV53 5 rfl hi59 e60 dX4_read_102 (fun H locs hV62 => ?_)
          have hV62 : kV E A s.heap H locs [(a0, .inr (4, [.ref a1, .ref a4, w0_2, .ref a2, .ref a3, .int v21_8, .int s_day])), (a1, .inl (E.2 0, 1440, .inl s_heights)), (a2, .inl (E.2 0, 1440, .inl marked__35)), (a3, .inr (5, [.ref a5, w3_1])), (a4, .inl (E.2 0, 1440, .inl s_shapes)), (a5, .inl (E.2 0, 128, .inl g102_58))] := hV62
          clear hV53 hi59 e60
          refine lv_aload hx hb dX4_read_103 (lv_at hl48 5 rfl) ?_
          refine lv_bipush (v := 98) hx hb dX4_read_105 (by decide) ?_
          refine lv_iload hx hb dX4_read_107 (lv_at hl48 6 rfl) ?_
          have J125 : ∀ (t2_63 : Int32) (H : Heap) (locs : List Loc) (ls : Array Slot), (f_X4_read_N_J125 s_day s_shapes p1 v3_1 x6_34 marked__35 r79_43 g102_58 (f_X4_read_N_L66 s_day s_heights s_shapes p1 v3_1 v21_8  n66)) t2_63 = some (o_readers, o_marked, o_reckoner_letters) → kV E A s.heap H locs [(a0, .inr (4, [.ref a1, .ref a4, w0_2, .ref a2, .ref a3, .int v21_8, .int s_day])), (a1, .inl (E.2 0, 1440, .inl s_heights)), (a2, .inl (E.2 0, 1440, .inl marked__35)), (a3, .inr (5, [.ref a5, w3_1])), (a4, .inl (E.2 0, 1440, .inl s_shapes)), (a5, .inl (E.2 0, 128, .inl g102_58))] → lv_has ls 8 [(0, .ref a0), (1, .int p1), (2, .null), (3, .int v3_1), (4, .ref a5), (5, .int r79_43), (6, .int x6_34)] → W p l e r_X4_read_N s m args below meth c H locs 0 0 Q (F0 m 125 ls [.int t2_63, .int 98, .ref a5]) := by
            intro t2_63 H locs ls hB125 hVB125 hlB125
            rw [f_X4_read_N_J125] at hB125
            obtain ⟨hi65, g125_64, e66, h67⟩ := wrI_s hB125
            clear hB125
            refine kiast X hVB125 5 rfl hi65 e66 dX4_read_125 (fun H locs hV68 => ?_)
            have hV68 : kV E A s.heap H locs [(a0, .inr (4, [.ref a1, .ref a4, w0_2, .ref a2, .ref a3, .int v21_8, .int s_day])), (a1, .inl (E.2 0, 1440, .inl s_heights)), (a2, .inl (E.2 0, 1440, .inl marked__35)), (a3, .inr (5, [.ref a5, w3_1])), (a4, .inl (E.2 0, 1440, .inl s_shapes)), (a5, .inl (E.2 0, 128, .inl g125_64))] := hV68
            clear hVB125 hi65 e66
            refine lv_aload hx hb dX4_read_126 (lv_at hlB125 4 rfl) ?_
            refine lv_bipush (v := 108) hx hb dX4_read_128 (by decide) ?_
            refine lv_aload_n hx hb dX4_read_130 rfl (lv_at hlB125 0 rfl) ?_
            refine kget X hV68 (ci := 4) inlX4 rfl 0 rfl 1 (by decide) mw_88 rfl dX4_read_131 ?_
            refine lv_iload hx hb dX4_read_134 (lv_at hlB125 6 rfl) ?_
            obtain ⟨hi70, v136_69, e71, h72⟩ := rdI_s h67
            clear h67
            refine kiald X hV68 4 rfl hi70 e71 dX4_read_136 ?_
            clear hi70 e71
            obtain ⟨hi74, g137_73, e75, h76⟩ := wrI_s h72
            clear h72
            refine kiast X hV68 5 rfl hi74 e75 dX4_read_137 (fun H locs hV77 => ?_)
            have hV77 : kV E A s.heap H locs [(a0, .inr (4, [.ref a1, .ref a4, w0_2, .ref a2, .ref a3, .int v21_8, .int s_day])), (a1, .inl (E.2 0, 1440, .inl s_heights)), (a2, .inl (E.2 0, 1440, .inl marked__35)), (a3, .inr (5, [.ref a5, w3_1])), (a4, .inl (E.2 0, 1440, .inl s_shapes)), (a5, .inl (E.2 0, 128, .inl g137_73))] := hV77
            clear hV68 hi74 e75
            refine lv_aload hx hb dX4_read_138 (lv_at hlB125 4 rfl) ?_
            refine lv_bipush (v := 109) hx hb dX4_read_140 (by decide) ?_
            refine lv_iload hx hb dX4_read_142 (lv_at hlB125 6 rfl) ?_
            obtain ⟨hi79, g144_78, e80, h81⟩ := wrI_s h76
            clear h76
            refine kiast X hV77 5 rfl hi79 e80 dX4_read_144 (fun H locs hV82 => ?_)
            have hV82 : kV E A s.heap H locs [(a0, .inr (4, [.ref a1, .ref a4, w0_2, .ref a2, .ref a3, .int v21_8, .int s_day])), (a1, .inl (E.2 0, 1440, .inl s_heights)), (a2, .inl (E.2 0, 1440, .inl marked__35)), (a3, .inr (5, [.ref a5, w3_1])), (a4, .inl (E.2 0, 1440, .inl s_shapes)), (a5, .inl (E.2 0, 128, .inl g144_78))] := hV82
            clear hV77 hi79 e80
            refine lv_aload hx hb dX4_read_145 (lv_at hlB125 4 rfl) ?_
            refine lv_bipush (v := 115) hx hb dX4_read_147 (by decide) ?_
            refine lv_aload_n hx hb dX4_read_149 rfl (lv_at hlB125 0 rfl) ?_
            refine kget X hV82 (ci := 4) inlX4 rfl 0 rfl 6 (by decide) mw_94 rfl dX4_read_150 ?_
            refine lv_iload hx hb dX4_read_153 (lv_at hlB125 6 rfl) ?_
            obtain ⟨r155_83, hc84, h85⟩ := cb1_s h81
            clear h81
            refine kgoiE (krunSN (rest := [.int 115, .ref a5]) X hV82 [] (c_X11_starMinute l E _ s_day x6_34 r155_83 hc84) (List.mem_of_getElem? (i := 4) rfl) kb_X11_starMinute (by decide) rfl rfl hlB125.1 rfl (Nat.le_of_ble_eq_true rfl) dX4_read_155 (by decide)) X hV82 [] [0, 1, 2, 3, 4, 5] rfl rfl rfl (by decide) (fun u H locs hV86 => ?_)
            have hV86 : kV E A s.heap H locs [(a0, .inr (4, [.ref a1, .ref a4, w0_2, .ref a2, .ref a3, .int v21_8, .int s_day])), (a1, .inl (E.2 0, 1440, .inl s_heights)), (a2, .inl (E.2 0, 1440, .inl marked__35)), (a3, .inr (5, [.ref a5, w3_1])), (a4, .inl (E.2 0, 1440, .inl s_shapes)), (a5, .inl (E.2 0, 128, .inl g144_78))] := hV86.sub [0, 1, 2, 3, 4, 5] rfl rfl
            clear hV82
            obtain ⟨hi89, g158_88, e90, h91⟩ := wrI_s h85
            clear h85
            refine kiast X hV86 5 rfl hi89 e90 dX4_read_158 (fun H locs hV92 => ?_)
            have hV92 : kV E A s.heap H locs [(a0, .inr (4, [.ref a1, .ref a4, w0_2, .ref a2, .ref a3, .int v21_8, .int s_day])), (a1, .inl (E.2 0, 1440, .inl s_heights)), (a2, .inl (E.2 0, 1440, .inl marked__35)), (a3, .inr (5, [.ref a5, w3_1])), (a4, .inl (E.2 0, 1440, .inl s_shapes)), (a5, .inl (E.2 0, 128, .inl g158_88))] := hV92
            clear hV86 hi89 e90
            refine lv_aload_n hx hb dX4_read_159 rfl (lv_at hlB125 0 rfl) ?_
            refine lv_iload_n hx hb dX4_read_160 rfl (lv_at hlB125 1 rfl) ?_
            refine lv_iload hx hb dX4_read_161 (lv_at hlB125 6 rfl) ?_
            refine lv_iconst (v := 2) hx hb dX4_read_163 (by decide) ?_
            refine lv_isub hx hb dX4_read_164 ?_
            obtain ⟨r165_93, hc94, h95⟩ := cb1_s h91
            clear h91
            refine kgoiE (krunV (rest := []) X hV92 [0, 2] (c_X4_isMarked l E _ a0 a2 (.ref a1) (.ref a4) (w0_2) (.ref a3) (.int v21_8) (.int s_day) marked__35 p1 (x6_34 - 2) r165_93 hc94) mw_821 kb_X4_isMarked (ci := 4) rfl rfl (by decide) rfl rfl hlB125.1 rfl (Nat.le_of_ble_eq_true rfl) dX4_read_165 (by decide)) X hV92 [0, 2] [1, 3, 4, 5] rfl rfl rfl (by decide) (fun u H locs hV96 => ?_)
            have hV96 : kV E A s.heap H locs [(a0, .inr (4, [.ref a1, .ref a4, w0_2, .ref a2, .ref a3, .int v21_8, .int s_day])), (a1, .inl (E.2 0, 1440, .inl s_heights)), (a2, .inl (E.2 0, 1440, .inl marked__35)), (a3, .inr (5, [.ref a5, w3_1])), (a4, .inl (E.2 0, 1440, .inl s_shapes)), (a5, .inl (E.2 0, 128, .inl g158_88))] := hV96.sub [4, 0, 5, 1, 2, 3] rfl rfl
            clear hV92
            have J192 : ∀ (reckoner_letters__98 : Nat → Int32) (H : Heap) (locs : List Loc) (ls : Array Slot), (f_X4_read_N_J192 v3_1 x6_34 marked__35 r79_43 (f_X4_read_N_L66 s_day s_heights s_shapes p1 v3_1 v21_8  n66)) reckoner_letters__98 = some (o_readers, o_marked, o_reckoner_letters) → kV E A s.heap H locs [(a0, .inr (4, [.ref a1, .ref a4, w0_2, .ref a2, .ref a3, .int v21_8, .int s_day])), (a1, .inl (E.2 0, 1440, .inl s_heights)), (a2, .inl (E.2 0, 1440, .inl marked__35)), (a3, .inr (5, [.ref a5, w3_1])), (a4, .inl (E.2 0, 1440, .inl s_shapes)), (a5, .inl (E.2 0, 128, .inl reckoner_letters__98))] → lv_has ls 8 [(0, .ref a0), (1, .int p1), (2, .null), (3, .int v3_1), (4, .ref a5), (5, .int r79_43), (6, .int x6_34)] → W p l e r_X4_read_N s m args below meth c H locs 0 0 Q (F0 m 192 ls []) := by
              intro reckoner_letters__98 H locs ls hB192 hVB192 hlB192
              rw [f_X4_read_N_J192] at hB192
              refine lv_aload_nN hx hb dX4_read_192 rfl (lv_at hlB192 2 rfl) ?_
              refine lv_ifnullN (tgt := 212) hx hb dX4_read_193 (by decide) ?_
              refine lv_iconst (v := 0) hx hb dX4_read_212 (by decide) ?_
              refine lv_istore (lv' := [(7, .int 0), (0, .ref a0), (1, .int p1), (2, .null), (3, .int v3_1), (4, .ref a5), (5, .int r79_43), (6, .int x6_34)]) hx hb dX4_read_213 hlB192 (by decide) rfl (fun ls hl99 => ?_)
              clear hlB192
              refine lv_aload_n hx hb dX4_read_215 rfl (lv_at hl99 1 rfl) ?_
              refine kget X hVB192 (ci := 4) inlX4 rfl 0 rfl 3 (by decide) mw_90 rfl dX4_read_216 ?_
              refine lv_iload hx hb dX4_read_219 (lv_at hl99 7 rfl) ?_
              refine lv_iload hx hb dX4_read_221 (lv_at hl99 0 rfl) ?_
              refine lv_if_eq (tgt := 238) hx hb dX4_read_223 (by decide) (fun c100 => ?_) (fun c100 => by exact absurd c100 (by decide))
              clear c100
              refine lv_aload_n hx hb dX4_read_238 rfl (lv_at hl99 1 rfl) ?_
              refine kget X hVB192 (ci := 4) inlX4 rfl 0 rfl 3 (by decide) mw_90 rfl dX4_read_239 ?_
              refine lv_iload hx hb dX4_read_242 (lv_at hl99 7 rfl) ?_
              obtain ⟨hi102, v244_101, e103, h104⟩ := rdI_s hB192
              clear hB192
              refine kiald X hVB192 2 rfl hi102 e103 dX4_read_244 ?_
              clear hi102 e103
              refine lv_iload_n hx hb dX4_read_245 rfl (lv_at hl99 4 rfl) ?_
              refine lv_iconst (v := (-1)) hx hb dX4_read_246 (by decide) ?_
              refine lv_ixor hx hb dX4_read_247 ?_
              refine lv_iand hx hb dX4_read_248 ?_
              obtain ⟨v249_105, e106, h107⟩ := nmI_s h104
              clear h104
              refine ktopi e106 ?_
              clear e106
              obtain ⟨hi109, g249_108, e110, h111⟩ := wrI_s h107
              clear h107
              refine kiast X hVB192 2 rfl hi109 e110 dX4_read_249 (fun H locs hV112 => ?_)
              have hV112 : kV E A s.heap H locs [(a0, .inr (4, [.ref a1, .ref a4, w0_2, .ref a2, .ref a3, .int v21_8, .int s_day])), (a1, .inl (E.2 0, 1440, .inl s_heights)), (a2, .inl (E.2 0, 1440, .inl g249_108)), (a3, .inr (5, [.ref a5, w3_1])), (a4, .inl (E.2 0, 1440, .inl s_shapes)), (a5, .inl (E.2 0, 128, .inl reckoner_letters__98))] := hV112
              clear hVB192 hi109 e110
              obtain ⟨v250_113, e114, h115⟩ := nmI_s h111
              clear h111
              refine lv_iinc (v := v250_113) (lv' := [(6, .int v250_113), (7, .int 0), (0, .ref a0), (1, .int p1), (2, .null), (3, .int v3_1), (4, .ref a5), (5, .int r79_43)]) hx hb dX4_read_250 hl99 (k := 7) rfl (by rw [e114]; rfl) (by decide) rfl (fun ls hl116 => ?_)
              clear hl99 e114
              refine lv_goto (tgt := 66) hx hb dX4_read_253 (by decide) ?_
              exact ih66 r79_43 v250_113 g249_108 reckoner_letters__98 _ _ _ h115 hV112 (lv_sub hl116 [2, 3, 4, 5, 6, 7, 0] rfl)
            refine lv_if_eq (tgt := 192) hx hb dX4_read_168 (by decide) (fun c117 => ?_) (fun c117 => ?_)
            · have h118 := itS c117 h95
              clear h95 c117
              exact J192 g158_88 _ _ _ h118 hV96 (lv_sub hlB125 [0, 1, 2, 3, 4, 5, 6] rfl)
            · have h119 := ieS c117 h95
              clear h95 c117
              refine lv_aload_n hx hb dX4_read_171 rfl (lv_at hlB125 0 rfl) ?_
              refine lv_iload_n hx hb dX4_read_172 rfl (lv_at hlB125 1 rfl) ?_
              refine lv_iload hx hb dX4_read_173 (lv_at hlB125 6 rfl) ?_
              refine lv_iconst (v := 1) hx hb dX4_read_175 (by decide) ?_
              refine lv_isub hx hb dX4_read_176 ?_
              obtain ⟨r177_120, hc121, h122⟩ := cb1_s h119
              clear h119
              refine kgoiE (krunV (rest := []) X hV96 [0, 2] (c_X4_isMarked l E _ a0 a2 (.ref a1) (.ref a4) (w0_2) (.ref a3) (.int v21_8) (.int s_day) marked__35 p1 (x6_34 - 1) r177_120 hc121) mw_821 kb_X4_isMarked (ci := 4) rfl rfl (by decide) rfl rfl hlB125.1 rfl (Nat.le_of_ble_eq_true rfl) dX4_read_177 (by decide)) X hV96 [0, 2] [1, 3, 4, 5] rfl rfl rfl (by decide) (fun u H locs hV123 => ?_)
              have hV123 : kV E A s.heap H locs [(a0, .inr (4, [.ref a1, .ref a4, w0_2, .ref a2, .ref a3, .int v21_8, .int s_day])), (a1, .inl (E.2 0, 1440, .inl s_heights)), (a2, .inl (E.2 0, 1440, .inl marked__35)), (a3, .inr (5, [.ref a5, w3_1])), (a4, .inl (E.2 0, 1440, .inl s_shapes)), (a5, .inl (E.2 0, 128, .inl g158_88))] := hV123.sub [4, 0, 5, 1, 2, 3] rfl rfl
              clear hV96
              refine lv_if_ne (tgt := 192) hx hb dX4_read_180 (by decide) (fun c125 => ?_) (fun c125 => ?_)
              · have h126 := ieS c125 h122
                clear h122 c125
                exact J192 g158_88 _ _ _ h126 hV123 (lv_sub hlB125 [0, 1, 2, 3, 4, 5, 6] rfl)
              · have h127 := itS c125 h122
                clear h122 c125
                refine lv_aload hx hb dX4_read_183 (lv_at hlB125 4 rfl) ?_
                refine lv_bipush (v := 116) hx hb dX4_read_185 (by decide) ?_
                refine lv_dup2_11 hx hb dX4_read_187 rfl rfl ?_
                obtain ⟨hi129, v188_128, e130, h131⟩ := rdI_s h127
                clear h127
                refine kiald X hV123 5 rfl hi129 e130 dX4_read_188 ?_
                clear hi129 e130
                refine lv_iconst (v := 1) hx hb dX4_read_189 (by decide) ?_
                refine lv_iadd hx hb dX4_read_190 ?_
                obtain ⟨v191_132, e133, h134⟩ := nmI_s h131
                clear h131
                refine ktopi e133 ?_
                clear e133
                obtain ⟨hi136, g191_135, e137, h138⟩ := wrI_s h134
                clear h134
                refine kiast X hV123 5 rfl hi136 e137 dX4_read_191 (fun H locs hV139 => ?_)
                have hV139 : kV E A s.heap H locs [(a0, .inr (4, [.ref a1, .ref a4, w0_2, .ref a2, .ref a3, .int v21_8, .int s_day])), (a1, .inl (E.2 0, 1440, .inl s_heights)), (a2, .inl (E.2 0, 1440, .inl marked__35)), (a3, .inr (5, [.ref a5, w3_1])), (a4, .inl (E.2 0, 1440, .inl s_shapes)), (a5, .inl (E.2 0, 128, .inl g191_135))] := hV139
                clear hV123 hi136 e137
                exact J192 g191_135 _ _ _ h138 hV139 (lv_sub hlB125 [0, 1, 2, 3, 4, 5, 6] rfl)
          refine lv_if_le (tgt := 124) hx hb dX4_read_109 (by decide) (fun c140 => ?_) (fun c140 => ?_)
          · have h141 := itS c140 h61
            clear h61 c140
            refine lv_iconst (v := 0) hx hb dX4_read_124 (by decide) ?_
            exact J125 0 _ _ _ h141 hV62 (lv_sub hl48 [1, 2, 3, 4, 5, 0, 6] rfl)
          · have h142 := ieS c140 h61
            clear h61 c140
            refine lv_aload_n hx hb dX4_read_112 rfl (lv_at hl48 1 rfl) ?_
            refine kget X hV62 (ci := 4) inlX4 rfl 0 rfl 0 (by decide) mw_87 rfl dX4_read_113 ?_
            refine lv_iload hx hb dX4_read_116 (lv_at hl48 6 rfl) ?_
            refine lv_iconst (v := 1) hx hb dX4_read_118 (by decide) ?_
            refine lv_isub hx hb dX4_read_119 ?_
            obtain ⟨hi144, v120_143, e145, h146⟩ := rdI_s h142
            clear h142
            refine kiald X hV62 1 rfl hi144 e145 dX4_read_120 ?_
            clear hi144 e145
            refine lv_goto (tgt := 125) hx hb dX4_read_121 (by decide) ?_
            exact J125 v120_143 _ _ _ h146 hV62 (lv_sub hl48 [1, 2, 3, 4, 5, 0, 6] rfl)
    exact L66 FU 0 0 s_marked g59_26 _ _ _ h29 hV30 (lv_sub hl32 [4, 5, 6, 3, 2, 1, 0] rfl)
  · have h7 := ieS c5 h3
    clear h3 c5
    obtain ⟨q147, q148, q149⟩ := tup3_s h7
    clear h7
    exact hret () _ _ _ _ trivial (by rw [← q147, ← q148, ← q149]; exact hV) dX4_read_13
