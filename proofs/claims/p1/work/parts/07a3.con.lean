abbrev r_X11_seed : Room := { frames := 1, cells := 0, slots := 0, locals := 22 }
set_option maxHeartbeats 4000000 in
set_option maxRecDepth 100000 in
theorem c_X11_seed (l : Launch) (E : kE) (sz : Nat) (a0 a1 a2 : Nat) (w0_0 w0_1 w0_4 w0_5 w0_6 w0_7 w0_8 w1_0 w1_1 w1_2 w1_3 w1_4 w1_5 w2_0 w2_1 w2_2 : Value) (s_page_day : Int32) (s_sky_seed : Int32) (p1 : Int32) (r : Int32) (o_page_day : Int32) (o_sky_seed : Int32) (h : f_X11_seed s_page_day s_sky_seed p1 = some (r, o_page_day, o_sky_seed)) : kMi l yX11_seed cX11_seed 2 (some .boolean) r_X11_seed [.ref a0, .int p1] E [(a0, .inr (11, [w0_0, w0_1, .ref a2, .ref a1, w0_4, w0_5, w0_6, w0_7, w0_8])), (a1, .inr (4, [w1_0, w1_1, w1_2, w1_3, w1_4, w1_5, .int s_page_day])), (a2, .inr (7, [w2_0, w2_1, w2_2, .int s_sky_seed]))] sz 0 0 (fun x (_ : Unit) => x = r) (fun _ => [(a0, .inr (11, [w0_0, w0_1, .ref a2, .ref a1, w0_4, w0_5, w0_6, w0_7, w0_8])), (a1, .inr (4, [w1_0, w1_1, w1_2, w1_3, w1_4, w1_5, .int o_page_day])), (a2, .inr (7, [w2_0, w2_1, w2_2, .int o_sky_seed]))]) := by
  refine kmeti rfl (Nat.le_of_ble_eq_true rfl) ?_
  intro p e s m args below meth c ls A Q X hV hret hl
  have X : kC p s m c cX11_seed 2 RX11 args E A := X
  have hx := X.1
  have hb := X.2.1
  have hl : lv_has ls 2 [(0, .ref a0), (1, .int p1)] := hl
  rw [f_X11_seed] at h
  refine lv_iload_n hx hb dX11_seed_0 rfl (lv_at hl 1 rfl) ?_
  refine lv_iconst (v := 0) hx hb dX11_seed_1 (by decide) ?_
  refine lv_sipush (v := 999) hx hb dX11_seed_2 (by decide) ?_
  obtain ⟨r5_1, hc2, h3⟩ := cb1_s h
  clear h
  refine kgoiE (krunS (rest := []) X hV [] (c_X11_isWithin l E _ p1 0 999 r5_1 hc2) mw_187 kb_X11_isWithin (by decide) rfl rfl hl.1 rfl (Nat.le_of_ble_eq_true rfl) dX11_seed_5 (by decide)) X hV [] [0, 1, 2] rfl rfl rfl (by decide) (fun u H locs hV4 => ?_)
  have hV4 : kV E A s.heap H locs [(a0, .inr (11, [w0_0, w0_1, .ref a2, .ref a1, w0_4, w0_5, w0_6, w0_7, w0_8])), (a1, .inr (4, [w1_0, w1_1, w1_2, w1_3, w1_4, w1_5, .int s_page_day])), (a2, .inr (7, [w2_0, w2_1, w2_2, .int s_sky_seed]))] := hV4.sub [0, 1, 2] rfl rfl
  clear hV
  refine lv_if_ne (tgt := 13) hx hb dX11_seed_8 (by decide) (fun c6 => ?_) (fun c6 => ?_)
  · have h7 := ieS c6 h3
    clear h3 c6
    refine lv_aload_n hx hb dX11_seed_13 rfl (lv_at hl 0 rfl) ?_
    refine kget X hV4 (ci := 11) inlX11 rfl 0 rfl 3 (by decide) mw_27 rfl dX11_seed_14 ?_
    obtain ⟨o_day17_9, hc10, h11⟩ := cb1_s h7
    clear h7
    refine kgov (krunV (rest := []) X hV4 [1] (c_X4_forget l E _ a1 (w1_0) (w1_1) (w1_2) (w1_3) (w1_4) (w1_5) s_page_day o_day17_9 hc10) mw_193 kb_X4_forget (ci := 4) rfl rfl (by decide) rfl rfl hl.1 rfl (Nat.le_of_ble_eq_true rfl) dX11_seed_17 (by decide)) X hV4 [1] [0, 2] rfl rfl rfl (by decide) (fun u H locs hp13 hV12 => ?_)
    have hV12 : kV E A s.heap H locs [(a0, .inr (11, [w0_0, w0_1, .ref a2, .ref a1, w0_4, w0_5, w0_6, w0_7, w0_8])), (a1, .inr (4, [w1_0, w1_1, w1_2, w1_3, w1_4, w1_5, .int o_day17_9])), (a2, .inr (7, [w2_0, w2_1, w2_2, .int s_sky_seed]))] := hV12.sub [0, 2, 1] rfl rfl
    clear hV4
    refine lv_aload_n hx hb dX11_seed_20 rfl (lv_at hl 0 rfl) ?_
    refine kget X hV12 (ci := 11) inlX11 rfl 0 rfl 2 (by decide) mw_23 rfl dX11_seed_21 ?_
    refine lv_iload_n hx hb dX11_seed_24 rfl (lv_at hl 1 rfl) ?_
    refine kput X hV12 (ci := 7) inlX7 rfl tyX7 tyX7_ok nmX7 2 rfl 3 (by decide) mw_231 rfl rfl rfl (Nat.le_of_ble_eq_true rfl) dX11_seed_25 (fun H locs hV14 => ?_)
    have hV14 : kV E A s.heap H locs [(a0, .inr (11, [w0_0, w0_1, .ref a2, .ref a1, w0_4, w0_5, w0_6, w0_7, w0_8])), (a1, .inr (4, [w1_0, w1_1, w1_2, w1_3, w1_4, w1_5, .int o_day17_9])), (a2, .inr (7, [w2_0, w2_1, w2_2, .int p1]))] := hV14
    clear hV12
    refine lv_iconst (v := 1) hx hb dX11_seed_28 (by decide) ?_
    cases h11
    exact hret _ () _ _ _ _ rfl rfl hV14 dX11_seed_29
  · have h8 := itS c6 h3
    clear h3 c6
    refine lv_iconst (v := 0) hx hb dX11_seed_11 (by decide) ?_
    cases h8
    exact hret _ () _ _ _ _ rfl rfl hV4 dX11_seed_12
abbrev r_X11_feed : Room := { frames := 1, cells := 0, slots := 0, locals := 22 }
set_option maxHeartbeats 4000000 in
set_option maxRecDepth 100000 in
theorem c_X11_feed (l : Launch) (E : kE) (sz : Nat) (a0 a1 a2 : Nat) (w0_1 w0_2 w0_3 w0_4 w0_5 w0_6 w0_7 w0_8 : Value) (s_tape_length : Int32) (s_tape_bytes : Nat → Int32) (p1 : Int32) (p2 : Int32) (p3 : Int32) (p4 : Int32) (p5 : Int32) (r : Int32) (o_tape_length : Int32) (o_tape_bytes : Nat → Int32) (h : f_X11_feed s_tape_length s_tape_bytes p1 p2 p3 p4 p5 = some (r, o_tape_length, o_tape_bytes)) : kMi l yX11_feed cX11_feed 6 (some .int) r_X11_feed [.ref a0, .int p1, .int p2, .int p3, .int p4, .int p5] E [(a0, .inr (11, [.ref a1, w0_1, w0_2, w0_3, w0_4, w0_5, w0_6, w0_7, w0_8])), (a1, .inr (9, [.ref a2, .int s_tape_length])), (a2, .inl (E.2 0, 200, .inl s_tape_bytes))] sz 0 0 (fun x (_ : Unit) => x = r) (fun _ => [(a0, .inr (11, [.ref a1, w0_1, w0_2, w0_3, w0_4, w0_5, w0_6, w0_7, w0_8])), (a1, .inr (9, [.ref a2, .int o_tape_length])), (a2, .inl (E.2 0, 200, .inl o_tape_bytes))]) := by
  refine kmeti rfl (Nat.le_of_ble_eq_true rfl) ?_
  intro p e s m args below meth c ls A Q X hV hret hl
  have X : kC p s m c cX11_feed 6 RX11 args E A := X
  have hx := X.1
  have hb := X.2.1
  have hl : lv_has ls 6 [(0, .ref a0), (1, .int p1), (2, .int p2), (3, .int p3), (4, .int p4), (5, .int p5)] := hl
  rw [f_X11_feed] at h
  refine lv_aload_n hx hb dX11_feed_0 rfl (lv_at hl 0 rfl) ?_
  refine kget X hV (ci := 11) inlX11 rfl 0 rfl 0 (by decide) mw_15 rfl dX11_feed_1 ?_
  refine kget X hV (ci := 9) inlX9 rfl 1 rfl 1 (by decide) mw_242 rfl dX11_feed_4 ?_
  refine lv_sipush (v := 180) hx hb dX11_feed_7 (by decide) ?_
  refine lv_icmp_le (tgt := 15) hx hb dX11_feed_10 (by decide) (fun c1 => ?_) (fun c1 => ?_)
  · have h2 := itS c1 h
    clear h c1
    refine lv_aload_n hx hb dX11_feed_15 rfl (lv_at hl 0 rfl) ?_
    refine kget X hV (ci := 11) inlX11 rfl 0 rfl 0 (by decide) mw_15 rfl dX11_feed_16 ?_
    refine lv_iload_n hx hb dX11_feed_19 rfl (lv_at hl 1 rfl) ?_
    obtain ⟨o_length20_4, o_bytes20_5, hc6, h7⟩ := cb2_s h2
    clear h2
    refine kgov (krunV (rest := []) X hV [1, 2] (c_X9_put l E _ a1 a2 s_tape_length s_tape_bytes p1 o_length20_4 o_bytes20_5 hc6) mw_243 kb_X9_put (ci := 9) rfl rfl (by decide) rfl rfl hl.1 rfl (Nat.le_of_ble_eq_true rfl) dX11_feed_20 (by decide)) X hV [1, 2] [0] rfl rfl rfl (by decide) (fun u H locs hp9 hV8 => ?_)
    have hV8 : kV E A s.heap H locs [(a0, .inr (11, [.ref a1, w0_1, w0_2, w0_3, w0_4, w0_5, w0_6, w0_7, w0_8])), (a1, .inr (9, [.ref a2, .int o_length20_4])), (a2, .inl (E.2 0, 200, .inl o_bytes20_5))] := hV8.sub [0, 1, 2] rfl rfl
    clear hV
    refine lv_aload_n hx hb dX11_feed_23 rfl (lv_at hl 0 rfl) ?_
    refine kget X hV8 (ci := 11) inlX11 rfl 0 rfl 0 (by decide) mw_15 rfl dX11_feed_24 ?_
    refine lv_iload_n hx hb dX11_feed_27 rfl (lv_at hl 2 rfl) ?_
    obtain ⟨o_length28_10, o_bytes28_11, hc12, h13⟩ := cb2_s h7
    clear h7
    refine kgov (krunV (rest := []) X hV8 [1, 2] (c_X9_put l E _ a1 a2 o_length20_4 o_bytes20_5 p2 o_length28_10 o_bytes28_11 hc12) mw_243 kb_X9_put (ci := 9) rfl rfl (by decide) rfl rfl hl.1 rfl (Nat.le_of_ble_eq_true rfl) dX11_feed_28 (by decide)) X hV8 [1, 2] [0] rfl rfl rfl (by decide) (fun u H locs hp15 hV14 => ?_)
    have hV14 : kV E A s.heap H locs [(a0, .inr (11, [.ref a1, w0_1, w0_2, w0_3, w0_4, w0_5, w0_6, w0_7, w0_8])), (a1, .inr (9, [.ref a2, .int o_length28_10])), (a2, .inl (E.2 0, 200, .inl o_bytes28_11))] := hV14.sub [0, 1, 2] rfl rfl
    clear hV8
    refine lv_aload_n hx hb dX11_feed_31 rfl (lv_at hl 0 rfl) ?_
    refine kget X hV14 (ci := 11) inlX11 rfl 0 rfl 0 (by decide) mw_15 rfl dX11_feed_32 ?_
    refine lv_iload_n hx hb dX11_feed_35 rfl (lv_at hl 3 rfl) ?_
    obtain ⟨o_length36_16, o_bytes36_17, hc18, h19⟩ := cb2_s h13
    clear h13
    refine kgov (krunV (rest := []) X hV14 [1, 2] (c_X9_put l E _ a1 a2 o_length28_10 o_bytes28_11 p3 o_length36_16 o_bytes36_17 hc18) mw_243 kb_X9_put (ci := 9) rfl rfl (by decide) rfl rfl hl.1 rfl (Nat.le_of_ble_eq_true rfl) dX11_feed_36 (by decide)) X hV14 [1, 2] [0] rfl rfl rfl (by decide) (fun u H locs hp21 hV20 => ?_)
    have hV20 : kV E A s.heap H locs [(a0, .inr (11, [.ref a1, w0_1, w0_2, w0_3, w0_4, w0_5, w0_6, w0_7, w0_8])), (a1, .inr (9, [.ref a2, .int o_length36_16])), (a2, .inl (E.2 0, 200, .inl o_bytes36_17))] := hV20.sub [0, 1, 2] rfl rfl
    clear hV14
    refine lv_aload_n hx hb dX11_feed_39 rfl (lv_at hl 0 rfl) ?_
    refine kget X hV20 (ci := 11) inlX11 rfl 0 rfl 0 (by decide) mw_15 rfl dX11_feed_40 ?_
    refine lv_iload hx hb dX11_feed_43 (lv_at hl 4 rfl) ?_
    obtain ⟨o_length45_22, o_bytes45_23, hc24, h25⟩ := cb2_s h19
    clear h19
    refine kgov (krunV (rest := []) X hV20 [1, 2] (c_X9_put l E _ a1 a2 o_length36_16 o_bytes36_17 p4 o_length45_22 o_bytes45_23 hc24) mw_243 kb_X9_put (ci := 9) rfl rfl (by decide) rfl rfl hl.1 rfl (Nat.le_of_ble_eq_true rfl) dX11_feed_45 (by decide)) X hV20 [1, 2] [0] rfl rfl rfl (by decide) (fun u H locs hp27 hV26 => ?_)
    have hV26 : kV E A s.heap H locs [(a0, .inr (11, [.ref a1, w0_1, w0_2, w0_3, w0_4, w0_5, w0_6, w0_7, w0_8])), (a1, .inr (9, [.ref a2, .int o_length45_22])), (a2, .inl (E.2 0, 200, .inl o_bytes45_23))] := hV26.sub [0, 1, 2] rfl rfl
    clear hV20
    refine lv_aload_n hx hb dX11_feed_48 rfl (lv_at hl 0 rfl) ?_
    refine kget X hV26 (ci := 11) inlX11 rfl 0 rfl 0 (by decide) mw_15 rfl dX11_feed_49 ?_
    refine lv_iload hx hb dX11_feed_52 (lv_at hl 5 rfl) ?_
    obtain ⟨o_length54_28, o_bytes54_29, hc30, h31⟩ := cb2_s h25
    clear h25
    refine kgov (krunV (rest := []) X hV26 [1, 2] (c_X9_put l E _ a1 a2 o_length45_22 o_bytes45_23 p5 o_length54_28 o_bytes54_29 hc30) mw_243 kb_X9_put (ci := 9) rfl rfl (by decide) rfl rfl hl.1 rfl (Nat.le_of_ble_eq_true rfl) dX11_feed_54 (by decide)) X hV26 [1, 2] [0] rfl rfl rfl (by decide) (fun u H locs hp33 hV32 => ?_)
    have hV32 : kV E A s.heap H locs [(a0, .inr (11, [.ref a1, w0_1, w0_2, w0_3, w0_4, w0_5, w0_6, w0_7, w0_8])), (a1, .inr (9, [.ref a2, .int o_length54_28])), (a2, .inl (E.2 0, 200, .inl o_bytes54_29))] := hV32.sub [0, 1, 2] rfl rfl
    clear hV26
    refine lv_aload_n hx hb dX11_feed_57 rfl (lv_at hl 0 rfl) ?_
    refine kget X hV32 (ci := 11) inlX11 rfl 0 rfl 0 (by decide) mw_15 rfl dX11_feed_58 ?_
    refine kget X hV32 (ci := 9) inlX9 rfl 1 rfl 1 (by decide) mw_242 rfl dX11_feed_61 ?_
    cases h31
    exact hret _ () _ _ _ _ rfl rfl hV32 dX11_feed_64
  · have h3 := ieS c1 h
    clear h c1
    refine lv_iconst (v := (-1)) hx hb dX11_feed_13 (by decide) ?_
    cases h3
    exact hret _ () _ _ _ _ rfl rfl hV dX11_feed_14
abbrev r_X11_law : Room := { frames := 2, cells := 0, slots := 0, locals := 43 }
set_option maxHeartbeats 4000000 in
set_option maxRecDepth 100000 in
theorem c_X11_law (l : Launch) (E : kE) (sz : Nat) (a0 a1 a2 : Nat) (w0_0 w0_1 w0_3 w0_4 w0_5 w0_6 w0_7 w0_8 w1_1 w1_3 : Value) (s_sky_many : Int32) (s_sky_sources : Nat → Option Nat) (p1 : Int32) (p2 : Int32) (r : Int32) (h : f_X11_law s_sky_many s_sky_sources p1 p2 = some (r)) : kMi l yX11_law cX11_law 5 (some .int) r_X11_law [.ref a0, .int p1, .int p2] E [(a0, .inr (11, [w0_0, w0_1, .ref a1, w0_3, w0_4, w0_5, w0_6, w0_7, w0_8])), (a1, .inr (7, [.ref a2, w1_1, .int s_sky_many, w1_3])), (a2, .inl (E.2 3, 10, .inr (.inr (.inr (.inr s_sky_sources)))))] sz 0 0 (fun x (_ : Unit) => x = r) (fun _ => [(a0, .inr (11, [w0_0, w0_1, .ref a1, w0_3, w0_4, w0_5, w0_6, w0_7, w0_8])), (a1, .inr (7, [.ref a2, w1_1, .int s_sky_many, w1_3])), (a2, .inl (E.2 3, 10, .inr (.inr (.inr (.inr s_sky_sources)))))]) := by
  refine kmeti rfl (Nat.le_of_ble_eq_true rfl) ?_
  intro p e s m args below meth c ls A Q X hV hret hl
  have X : kC p s m c cX11_law 5 RX11 args E A := X
  have hx := X.1
  have hb := X.2.1
  have hl : lv_has ls 5 [(0, .ref a0), (1, .int p1), (2, .int p2)] := hl
  rw [f_X11_law] at h
  refine lv_aload_n hx hb dX11_law_0 rfl (lv_at hl 0 rfl) ?_
  refine kget X hV (ci := 11) inlX11 rfl 0 rfl 2 (by decide) mw_23 rfl dX11_law_1 ?_
  refine lv_iload_n hx hb dX11_law_4 rfl (lv_at hl 1 rfl) ?_
  obtain ⟨u5_1, hc2, h3⟩ := cb1_s h
  clear h
  refine kgonE (krunV (rest := []) X hV [1, 2] (c_X7_sourceAt l E _ a1 a2 (w1_1) (w1_3) s_sky_many s_sky_sources p1 hc2) mw_263 kb_X7_sourceAt (ci := 7) rfl rfl (by decide) rfl rfl hl.1 rfl (Nat.le_of_ble_eq_true rfl) dX11_law_5 (by decide)) X hV [1, 2] [0] rfl rfl rfl (by decide) (fun u H locs hV4 => ?_)
  have hV4 : kV E A s.heap H locs [(a0, .inr (11, [w0_0, w0_1, .ref a1, w0_3, w0_4, w0_5, w0_6, w0_7, w0_8])), (a1, .inr (7, [.ref a2, w1_1, .int s_sky_many, w1_3])), (a2, .inl (E.2 3, 10, .inr (.inr (.inr (.inr s_sky_sources)))))] := hV4.sub [0, 1, 2] rfl rfl
  clear hV
  refine lv_astore_nN (lv' := [(3, .null), (0, .ref a0), (1, .int p1), (2, .int p2)]) hx hb dX11_law_8 rfl hl (by decide) rfl (fun ls hl6 => ?_)
  clear hl
  refine lv_aload_nN hx hb dX11_law_9 rfl (lv_at hl6 0 rfl) ?_
  refine lv_ifnullN (tgt := 23) hx hb dX11_law_10 (by decide) ?_
  refine lv_iconst (v := (-1)) hx hb dX11_law_23 (by decide) ?_
  cases h3
  exact hret _ () _ _ _ _ rfl rfl hV4 dX11_law_24
abbrev r_X11_way : Room := { frames := 2, cells := 0, slots := 0, locals := 44 }
set_option maxHeartbeats 4000000 in
set_option maxRecDepth 100000 in
theorem c_X11_way (l : Launch) (E : kE) (sz : Nat) (a0 a1 : Nat) (w0_1 w0_2 w0_3 w0_4 w0_5 w0_6 w0_7 w0_8 w1_0 : Value) (s_tape_length : Int32) (p1 : Int32) (p2 : Int32) (r : Int32) (h : f_X11_way s_tape_length p1 p2 = some (r)) : kMi l yX11_way cX11_way 4 (some .int) r_X11_way [.ref a0, .int p1, .int p2] E [(a0, .inr (11, [.ref a1, w0_1, w0_2, w0_3, w0_4, w0_5, w0_6, w0_7, w0_8])), (a1, .inr (9, [w1_0, .int s_tape_length]))] sz 0 0 (fun x (_ : Unit) => x = r) (fun _ => [(a0, .inr (11, [.ref a1, w0_1, w0_2, w0_3, w0_4, w0_5, w0_6, w0_7, w0_8])), (a1, .inr (9, [w1_0, .int s_tape_length]))]) := by
  refine kmeti rfl (Nat.le_of_ble_eq_true rfl) ?_
  intro p e s m args below meth c ls A Q X hV hret hl
  have X : kC p s m c cX11_way 4 RX11 args E A := X
  have hx := X.1
  have hb := X.2.1
  have hl : lv_has ls 4 [(0, .ref a0), (1, .int p1), (2, .int p2)] := hl
  rw [f_X11_way] at h
  refine lv_iload_n hx hb dX11_way_0 rfl (lv_at hl 1 rfl) ?_
  obtain ⟨r1_1, hc2, h3⟩ := cb1_s h
  clear h
  refine kgoiE (krunS (rest := []) X hV [] (c_X11_isReader l E _ p1 r1_1 hc2) mw_584 kb_X11_isReader (by decide) rfl rfl hl.1 rfl (Nat.le_of_ble_eq_true rfl) dX11_way_1 (by decide)) X hV [] [0, 1] rfl rfl rfl (by decide) (fun u H locs hV4 => ?_)
  have hV4 : kV E A s.heap H locs [(a0, .inr (11, [.ref a1, w0_1, w0_2, w0_3, w0_4, w0_5, w0_6, w0_7, w0_8])), (a1, .inr (9, [w1_0, .int s_tape_length]))] := hV4.sub [0, 1] rfl rfl
  clear hV
  refine lv_if_eq (tgt := 17) hx hb dX11_way_4 (by decide) (fun c6 => ?_) (fun c6 => ?_)
  · have h7 := itS c6 h3
    clear h3 c6
    refine lv_iconst (v := (-1)) hx hb dX11_way_17 (by decide) ?_
    cases h7
    exact hret _ () _ _ _ _ rfl rfl hV4 dX11_way_18
  · have h8 := ieS c6 h3
    clear h3 c6
    refine lv_aload_n hx hb dX11_way_7 rfl (lv_at hl 0 rfl) ?_
    refine lv_iload_n hx hb dX11_way_8 rfl (lv_at hl 2 rfl) ?_
    refine lv_bipush (v := 120) hx hb dX11_way_9 (by decide) ?_
    obtain ⟨r11_9, hc10, h11⟩ := cb1_s h8
    clear h8
    refine kgoiE (krunV (rest := []) X hV4 [0, 1] (c_X11_tapeHas l E _ a0 a1 (w0_1) (w0_2) (w0_3) (w0_4) (w0_5) (w0_6) (w0_7) (w0_8) (w1_0) s_tape_length p2 120 r11_9 hc10) mw_267 kb_X11_tapeHas (ci := 11) rfl rfl (by decide) rfl rfl hl.1 rfl (Nat.le_of_ble_eq_true rfl) dX11_way_11 (by decide)) X hV4 [0, 1] [] rfl rfl rfl (by decide) (fun u H locs hV12 => ?_)
    have hV12 : kV E A s.heap H locs [(a0, .inr (11, [.ref a1, w0_1, w0_2, w0_3, w0_4, w0_5, w0_6, w0_7, w0_8])), (a1, .inr (9, [w1_0, .int s_tape_length]))] := hV12.sub [0, 1] rfl rfl
    clear hV4
    refine lv_if_ne (tgt := 19) hx hb dX11_way_14 (by decide) (fun c14 => ?_) (fun c14 => ?_)
    · have h15 := ieS c14 h11
      clear h11 c14
      exact nomatch h15
    · have h16 := itS c14 h11
      clear h11 c14
      refine lv_iconst (v := (-1)) hx hb dX11_way_17 (by decide) ?_
      cases h16
      exact hret _ () _ _ _ _ rfl rfl hV12 dX11_way_18
abbrev r_X11_story : Room := { frames := 2, cells := 0, slots := 0, locals := 44 }
set_option maxHeartbeats 4000000 in
set_option maxRecDepth 100000 in
theorem c_X11_story (l : Launch) (E : kE) (sz : Nat) (a0 a1 : Nat) (w0_1 w0_2 w0_3 w0_4 w0_5 w0_6 w0_7 w0_8 w1_0 : Value) (s_tape_length : Int32) (p1 : Int32) (p2 : Int32) (r : Int32) (h : f_X11_story s_tape_length p1 p2 = some (r)) : kMi l yX11_story cX11_story 4 (some .int) r_X11_story [.ref a0, .int p1, .int p2] E [(a0, .inr (11, [.ref a1, w0_1, w0_2, w0_3, w0_4, w0_5, w0_6, w0_7, w0_8])), (a1, .inr (9, [w1_0, .int s_tape_length]))] sz 0 0 (fun x (_ : Unit) => x = r) (fun _ => [(a0, .inr (11, [.ref a1, w0_1, w0_2, w0_3, w0_4, w0_5, w0_6, w0_7, w0_8])), (a1, .inr (9, [w1_0, .int s_tape_length]))]) := by
  refine kmeti rfl (Nat.le_of_ble_eq_true rfl) ?_
  intro p e s m args below meth c ls A Q X hV hret hl
  have X : kC p s m c cX11_story 4 RX11 args E A := X
  have hx := X.1
  have hb := X.2.1
  have hl : lv_has ls 4 [(0, .ref a0), (1, .int p1), (2, .int p2)] := hl
  rw [f_X11_story] at h
  refine lv_iload_n hx hb dX11_story_0 rfl (lv_at hl 1 rfl) ?_
  obtain ⟨r1_1, hc2, h3⟩ := cb1_s h
  clear h
  refine kgoiE (krunS (rest := []) X hV [] (c_X11_isStory l E _ p1 r1_1 hc2) mw_603 kb_X11_isStory (by decide) rfl rfl hl.1 rfl (Nat.le_of_ble_eq_true rfl) dX11_story_1 (by decide)) X hV [] [0, 1] rfl rfl rfl (by decide) (fun u H locs hV4 => ?_)
  have hV4 : kV E A s.heap H locs [(a0, .inr (11, [.ref a1, w0_1, w0_2, w0_3, w0_4, w0_5, w0_6, w0_7, w0_8])), (a1, .inr (9, [w1_0, .int s_tape_length]))] := hV4.sub [0, 1] rfl rfl
  clear hV
  refine lv_if_eq (tgt := 17) hx hb dX11_story_4 (by decide) (fun c6 => ?_) (fun c6 => ?_)
  · have h7 := itS c6 h3
    clear h3 c6
    refine lv_iconst (v := (-1)) hx hb dX11_story_17 (by decide) ?_
    cases h7
    exact hret _ () _ _ _ _ rfl rfl hV4 dX11_story_18
  · have h8 := ieS c6 h3
    clear h3 c6
    refine lv_aload_n hx hb dX11_story_7 rfl (lv_at hl 0 rfl) ?_
    refine lv_iload_n hx hb dX11_story_8 rfl (lv_at hl 2 rfl) ?_
    refine lv_bipush (v := 60) hx hb dX11_story_9 (by decide) ?_
    obtain ⟨r11_9, hc10, h11⟩ := cb1_s h8
    clear h8
    refine kgoiE (krunV (rest := []) X hV4 [0, 1] (c_X11_tapeHas l E _ a0 a1 (w0_1) (w0_2) (w0_3) (w0_4) (w0_5) (w0_6) (w0_7) (w0_8) (w1_0) s_tape_length p2 60 r11_9 hc10) mw_267 kb_X11_tapeHas (ci := 11) rfl rfl (by decide) rfl rfl hl.1 rfl (Nat.le_of_ble_eq_true rfl) dX11_story_11 (by decide)) X hV4 [0, 1] [] rfl rfl rfl (by decide) (fun u H locs hV12 => ?_)
    have hV12 : kV E A s.heap H locs [(a0, .inr (11, [.ref a1, w0_1, w0_2, w0_3, w0_4, w0_5, w0_6, w0_7, w0_8])), (a1, .inr (9, [w1_0, .int s_tape_length]))] := hV12.sub [0, 1] rfl rfl
    clear hV4
    refine lv_if_ne (tgt := 19) hx hb dX11_story_14 (by decide) (fun c14 => ?_) (fun c14 => ?_)
    · have h15 := ieS c14 h11
      clear h11 c14
      exact nomatch h15
    · have h16 := itS c14 h11
      clear h11 c14
      refine lv_iconst (v := (-1)) hx hb dX11_story_17 (by decide) ?_
      cases h16
      exact hret _ () _ _ _ _ rfl rfl hV12 dX11_story_18
abbrev r_X11_star : Room := { frames := 2, cells := 0, slots := 0, locals := 42 }
set_option maxHeartbeats 4000000 in
set_option maxRecDepth 100000 in
theorem c_X11_star (l : Launch) (E : kE) (sz : Nat) (a0 : Nat) (w0_0 w0_1 w0_2 w0_3 w0_4 w0_5 w0_6 w0_7 w0_8 : Value) (p1 : Int32) (p2 : Int32) (r : Int32) (h : f_X11_star p1 p2 = some (r)) : kMi l yX11_star cX11_star 3 (some .int) r_X11_star [.ref a0, .int p1, .int p2] E [(a0, .inr (11, [w0_0, w0_1, w0_2, w0_3, w0_4, w0_5, w0_6, w0_7, w0_8]))] sz 0 0 (fun x (_ : Unit) => x = r) (fun _ => [(a0, .inr (11, [w0_0, w0_1, w0_2, w0_3, w0_4, w0_5, w0_6, w0_7, w0_8]))]) := by
  refine kmeti rfl (Nat.le_of_ble_eq_true rfl) ?_
  intro p e s m args below meth c ls A Q X hV hret hl
  have X : kC p s m c cX11_star 3 RX11 args E A := X
  have hx := X.1
  have hb := X.2.1
  have hl : lv_has ls 3 [(0, .ref a0), (1, .int p1), (2, .int p2)] := hl
  rw [f_X11_star] at h
  refine lv_iload_n hx hb dX11_star_0 rfl (lv_at hl 1 rfl) ?_
  obtain ⟨r1_1, hc2, h3⟩ := cb1_s h
  clear h
  refine kgoiE (krunS (rest := []) X hV [] (c_X11_isDay l E _ p1 r1_1 hc2) mw_622 kb_X11_isDay (by decide) rfl rfl hl.1 rfl (Nat.le_of_ble_eq_true rfl) dX11_star_1 (by decide)) X hV [] [0] rfl rfl rfl (by decide) (fun u H locs hV4 => ?_)
  have hV4 : kV E A s.heap H locs [(a0, .inr (11, [w0_0, w0_1, w0_2, w0_3, w0_4, w0_5, w0_6, w0_7, w0_8]))] := hV4.sub [0] rfl rfl
  clear hV
  refine lv_if_eq (tgt := 22) hx hb dX11_star_4 (by decide) (fun c6 => ?_) (fun c6 => ?_)
  · have h7 := itS c6 h3
    clear h3 c6
    refine lv_iconst (v := (-1)) hx hb dX11_star_22 (by decide) ?_
    cases h7
    exact hret _ () _ _ _ _ rfl rfl hV4 dX11_star_23
  · have h8 := ieS c6 h3
    clear h3 c6
    refine lv_iload_n hx hb dX11_star_7 rfl (lv_at hl 2 rfl) ?_
    obtain ⟨r8_9, hc10, h11⟩ := cb1_s h8
    clear h8
    refine kgoiE (krunS (rest := []) X hV4 [] (c_X11_isMinute l E _ p2 r8_9 hc10) mw_184 kb_X11_isMinute (by decide) rfl rfl hl.1 rfl (Nat.le_of_ble_eq_true rfl) dX11_star_8 (by decide)) X hV4 [] [0] rfl rfl rfl (by decide) (fun u H locs hV12 => ?_)
    have hV12 : kV E A s.heap H locs [(a0, .inr (11, [w0_0, w0_1, w0_2, w0_3, w0_4, w0_5, w0_6, w0_7, w0_8]))] := hV12.sub [0] rfl rfl
    clear hV4
    refine lv_if_eq (tgt := 22) hx hb dX11_star_11 (by decide) (fun c14 => ?_) (fun c14 => ?_)
    · have h15 := itS c14 h11
      clear h11 c14
      refine lv_iconst (v := (-1)) hx hb dX11_star_22 (by decide) ?_
      cases h15
      exact hret _ () _ _ _ _ rfl rfl hV12 dX11_star_23
    · have h16 := ieS c14 h11
      clear h11 c14
      refine lv_iload_n hx hb dX11_star_14 rfl (lv_at hl 1 rfl) ?_
      refine lv_iload_n hx hb dX11_star_15 rfl (lv_at hl 2 rfl) ?_
      obtain ⟨r16_17, hc18, h19⟩ := cb1_s h16
      clear h16
      refine kgoiE (krunS (rest := []) X hV12 [] (c_X11_starMinute l E _ p1 p2 r16_17 hc18) mw_625 kb_X11_starMinute (by decide) rfl rfl hl.1 rfl (Nat.le_of_ble_eq_true rfl) dX11_star_16 (by decide)) X hV12 [] [0] rfl rfl rfl (by decide) (fun u H locs hV20 => ?_)
      have hV20 : kV E A s.heap H locs [(a0, .inr (11, [w0_0, w0_1, w0_2, w0_3, w0_4, w0_5, w0_6, w0_7, w0_8]))] := hV20.sub [0] rfl rfl
      clear hV12
      refine lv_goto (tgt := 23) hx hb dX11_star_19 (by decide) ?_
      cases h19
      exact hret _ () _ _ _ _ rfl rfl hV20 dX11_star_23
abbrev r_X11_height : Room := { frames := 2, cells := 0, slots := 0, locals := 43 }
set_option maxHeartbeats 4000000 in
set_option maxRecDepth 100000 in
theorem c_X11_height (l : Launch) (E : kE) (sz : Nat) (a0 a1 a2 : Nat) (w0_0 w0_1 w0_3 w0_4 w0_5 w0_6 w0_7 w0_8 w1_1 w1_3 : Value) (s_sky_many : Int32) (s_sky_sources : Nat → Option Nat) (p1 : Int32) (p2 : Int32) (p3 : Int32) (r : Int32) (h : f_X11_height s_sky_many s_sky_sources p1 p2 p3 = some (r)) : kMi l yX11_height cX11_height 5 (some .int) r_X11_height [.ref a0, .int p1, .int p2, .int p3] E [(a0, .inr (11, [w0_0, w0_1, .ref a1, w0_3, w0_4, w0_5, w0_6, w0_7, w0_8])), (a1, .inr (7, [.ref a2, w1_1, .int s_sky_many, w1_3])), (a2, .inl (E.2 3, 10, .inr (.inr (.inr (.inr s_sky_sources)))))] sz 0 0 (fun x (_ : Unit) => x = r) (fun _ => [(a0, .inr (11, [w0_0, w0_1, .ref a1, w0_3, w0_4, w0_5, w0_6, w0_7, w0_8])), (a1, .inr (7, [.ref a2, w1_1, .int s_sky_many, w1_3])), (a2, .inl (E.2 3, 10, .inr (.inr (.inr (.inr s_sky_sources)))))]) := by
  refine kmeti rfl (Nat.le_of_ble_eq_true rfl) ?_
  intro p e s m args below meth c ls A Q X hV hret hl
  have X : kC p s m c cX11_height 5 RX11 args E A := X
  have hx := X.1
  have hb := X.2.1
  have hl : lv_has ls 5 [(0, .ref a0), (1, .int p1), (2, .int p2), (3, .int p3)] := hl
  rw [f_X11_height] at h
  refine lv_aload_n hx hb dX11_height_0 rfl (lv_at hl 0 rfl) ?_
  refine kget X hV (ci := 11) inlX11 rfl 0 rfl 2 (by decide) mw_23 rfl dX11_height_1 ?_
  refine lv_iload_n hx hb dX11_height_4 rfl (lv_at hl 1 rfl) ?_
  obtain ⟨u5_1, hc2, h3⟩ := cb1_s h
  clear h
  refine kgonE (krunV (rest := []) X hV [1, 2] (c_X7_sourceAt l E _ a1 a2 (w1_1) (w1_3) s_sky_many s_sky_sources p1 hc2) mw_263 kb_X7_sourceAt (ci := 7) rfl rfl (by decide) rfl rfl hl.1 rfl (Nat.le_of_ble_eq_true rfl) dX11_height_5 (by decide)) X hV [1, 2] [0] rfl rfl rfl (by decide) (fun u H locs hV4 => ?_)
  have hV4 : kV E A s.heap H locs [(a0, .inr (11, [w0_0, w0_1, .ref a1, w0_3, w0_4, w0_5, w0_6, w0_7, w0_8])), (a1, .inr (7, [.ref a2, w1_1, .int s_sky_many, w1_3])), (a2, .inl (E.2 3, 10, .inr (.inr (.inr (.inr s_sky_sources)))))] := hV4.sub [0, 1, 2] rfl rfl
  clear hV
  refine lv_astoreN (lv' := [(4, .null), (0, .ref a0), (1, .int p1), (2, .int p2), (3, .int p3)]) hx hb dX11_height_8 hl (by decide) rfl (fun ls hl6 => ?_)
  clear hl
  refine lv_aloadN hx hb dX11_height_10 (lv_at hl6 0 rfl) ?_
  refine lv_ifnullN (tgt := 29) hx hb dX11_height_12 (by decide) ?_
  refine lv_iconst (v := (-1)) hx hb dX11_height_29 (by decide) ?_
  cases h3
  exact hret _ () _ _ _ _ rfl rfl hV4 dX11_height_30
abbrev r_X11_paper : Room := { frames := 3, cells := 0, slots := 0, locals := 68 }
set_option maxHeartbeats 4000000 in
set_option maxRecDepth 100000 in
theorem c_X11_paper (l : Launch) (E : kE) (sz : Nat) (a0 a1 a2 a3 a4 a5 a6 : Nat) (w0_0 w0_1 w0_4 w0_5 w0_6 w0_7 w0_8 w1_3 w1_4 w2_1 w2_3 : Value) (s_page_readers : Int32) (s_page_day : Int32) (s_sky_many : Int32) (s_page_heights : Nat → Int32) (s_page_highest : Nat → Int32) (s_page_shapes : Nat → Int32) (s_sky_sources : Nat → Option Nat) (p1 : Int32) (p2 : Int32) (p3 : Int32) (r : Int32) (o_page_readers : Int32) (o_page_day : Int32) (o_page_heights : Nat → Int32) (o_page_highest : Nat → Int32) (o_page_shapes : Nat → Int32) (h : f_X11_paper s_page_readers s_page_day s_sky_many s_page_heights s_page_highest s_page_shapes s_sky_sources p1 p2 p3 = some (r, o_page_readers, o_page_day, o_page_heights, o_page_highest, o_page_shapes)) : kMi l yX11_paper cX11_paper 4 (some .int) r_X11_paper [.ref a0, .int p1, .int p2, .int p3] E [(a0, .inr (11, [w0_0, w0_1, .ref a2, .ref a1, w0_4, w0_5, w0_6, w0_7, w0_8])), (a1, .inr (4, [.ref a3, .ref a5, .ref a4, w1_3, w1_4, .int s_page_readers, .int s_page_day])), (a2, .inr (7, [.ref a6, w2_1, .int s_sky_many, w2_3])), (a3, .inl (E.2 0, 1440, .inl s_page_heights)), (a4, .inl (E.2 0, 1440, .inl s_page_highest)), (a5, .inl (E.2 0, 1440, .inl s_page_shapes)), (a6, .inl (E.2 3, 10, .inr (.inr (.inr (.inr s_sky_sources)))))] sz 0 0 (fun x (_ : Unit) => x = r) (fun _ => [(a0, .inr (11, [w0_0, w0_1, .ref a2, .ref a1, w0_4, w0_5, w0_6, w0_7, w0_8])), (a1, .inr (4, [.ref a3, .ref a5, .ref a4, w1_3, w1_4, .int o_page_readers, .int o_page_day])), (a2, .inr (7, [.ref a6, w2_1, .int s_sky_many, w2_3])), (a3, .inl (E.2 0, 1440, .inl o_page_heights)), (a4, .inl (E.2 0, 1440, .inl o_page_highest)), (a5, .inl (E.2 0, 1440, .inl o_page_shapes)), (a6, .inl (E.2 3, 10, .inr (.inr (.inr (.inr s_sky_sources)))))]) := by
  refine kmeti rfl (Nat.le_of_ble_eq_true rfl) ?_
  intro p e s m args below meth c ls A Q X hV hret hl
  have X : kC p s m c cX11_paper 4 RX11 args E A := X
  have hx := X.1
  have hb := X.2.1
  have hl : lv_has ls 4 [(0, .ref a0), (1, .int p1), (2, .int p2), (3, .int p3)] := hl
  rw [f_X11_paper] at h
  refine lv_iload_n hx hb dX11_paper_0 rfl (lv_at hl 1 rfl) ?_
  obtain ⟨r1_1, hc2, h3⟩ := cb1_s h
  clear h
  refine kgoiE (krunS (rest := []) X hV [] (c_X11_isDay l E _ p1 r1_1 hc2) mw_622 kb_X11_isDay (by decide) rfl rfl hl.1 rfl (Nat.le_of_ble_eq_true rfl) dX11_paper_1 (by decide)) X hV [] [0, 1, 2, 3, 4, 5, 6] rfl rfl rfl (by decide) (fun u H locs hV4 => ?_)
  have hV4 : kV E A s.heap H locs [(a0, .inr (11, [w0_0, w0_1, .ref a2, .ref a1, w0_4, w0_5, w0_6, w0_7, w0_8])), (a1, .inr (4, [.ref a3, .ref a5, .ref a4, w1_3, w1_4, .int s_page_readers, .int s_page_day])), (a2, .inr (7, [.ref a6, w2_1, .int s_sky_many, w2_3])), (a3, .inl (E.2 0, 1440, .inl s_page_heights)), (a4, .inl (E.2 0, 1440, .inl s_page_highest)), (a5, .inl (E.2 0, 1440, .inl s_page_shapes)), (a6, .inl (E.2 3, 10, .inr (.inr (.inr (.inr s_sky_sources)))))] := hV4.sub [0, 1, 2, 3, 4, 5, 6] rfl rfl
  clear hV
  refine lv_if_eq (tgt := 23) hx hb dX11_paper_4 (by decide) (fun c6 => ?_) (fun c6 => ?_)
  · have h7 := itS c6 h3
    clear h3 c6
    refine lv_iconst (v := (-1)) hx hb dX11_paper_23 (by decide) ?_
    cases h7
    exact hret _ () _ _ _ _ rfl rfl hV4 dX11_paper_24
  · have h8 := ieS c6 h3
    clear h3 c6
    refine lv_iload_n hx hb dX11_paper_7 rfl (lv_at hl 2 rfl) ?_
    obtain ⟨r8_9, hc10, h11⟩ := cb1_s h8
    clear h8
    refine kgoiE (krunS (rest := []) X hV4 [] (c_X11_isMinute l E _ p2 r8_9 hc10) mw_184 kb_X11_isMinute (by decide) rfl rfl hl.1 rfl (Nat.le_of_ble_eq_true rfl) dX11_paper_8 (by decide)) X hV4 [] [0, 1, 2, 3, 4, 5, 6] rfl rfl rfl (by decide) (fun u H locs hV12 => ?_)
    have hV12 : kV E A s.heap H locs [(a0, .inr (11, [w0_0, w0_1, .ref a2, .ref a1, w0_4, w0_5, w0_6, w0_7, w0_8])), (a1, .inr (4, [.ref a3, .ref a5, .ref a4, w1_3, w1_4, .int s_page_readers, .int s_page_day])), (a2, .inr (7, [.ref a6, w2_1, .int s_sky_many, w2_3])), (a3, .inl (E.2 0, 1440, .inl s_page_heights)), (a4, .inl (E.2 0, 1440, .inl s_page_highest)), (a5, .inl (E.2 0, 1440, .inl s_page_shapes)), (a6, .inl (E.2 3, 10, .inr (.inr (.inr (.inr s_sky_sources)))))] := hV12.sub [0, 1, 2, 3, 4, 5, 6] rfl rfl
    clear hV4
    refine lv_if_eq (tgt := 23) hx hb dX11_paper_11 (by decide) (fun c14 => ?_) (fun c14 => ?_)
    · have h15 := itS c14 h11
      clear h11 c14
      refine lv_iconst (v := (-1)) hx hb dX11_paper_23 (by decide) ?_
      cases h15
      exact hret _ () _ _ _ _ rfl rfl hV12 dX11_paper_24
    · have h16 := ieS c14 h11
      clear h11 c14
      refine lv_iload_n hx hb dX11_paper_14 rfl (lv_at hl 3 rfl) ?_
      refine lv_iconst (v := 0) hx hb dX11_paper_15 (by decide) ?_
      refine lv_iconst (v := 1) hx hb dX11_paper_16 (by decide) ?_
      obtain ⟨r17_17, hc18, h19⟩ := cb1_s h16
      clear h16
      refine kgoiE (krunS (rest := []) X hV12 [] (c_X11_isWithin l E _ p3 0 1 r17_17 hc18) mw_187 kb_X11_isWithin (by decide) rfl rfl hl.1 rfl (Nat.le_of_ble_eq_true rfl) dX11_paper_17 (by decide)) X hV12 [] [0, 1, 2, 3, 4, 5, 6] rfl rfl rfl (by decide) (fun u H locs hV20 => ?_)
      have hV20 : kV E A s.heap H locs [(a0, .inr (11, [w0_0, w0_1, .ref a2, .ref a1, w0_4, w0_5, w0_6, w0_7, w0_8])), (a1, .inr (4, [.ref a3, .ref a5, .ref a4, w1_3, w1_4, .int s_page_readers, .int s_page_day])), (a2, .inr (7, [.ref a6, w2_1, .int s_sky_many, w2_3])), (a3, .inl (E.2 0, 1440, .inl s_page_heights)), (a4, .inl (E.2 0, 1440, .inl s_page_highest)), (a5, .inl (E.2 0, 1440, .inl s_page_shapes)), (a6, .inl (E.2 3, 10, .inr (.inr (.inr (.inr s_sky_sources)))))] := hV20.sub [0, 1, 2, 3, 4, 5, 6] rfl rfl
      clear hV12
      refine lv_if_ne (tgt := 25) hx hb dX11_paper_20 (by decide) (fun c22 => ?_) (fun c22 => ?_)
      · have h23 := ieS c22 h19
        clear h19 c22
        refine lv_aload_n hx hb dX11_paper_25 rfl (lv_at hl 0 rfl) ?_
        refine kget X hV20 (ci := 11) inlX11 rfl 0 rfl 2 (by decide) mw_23 rfl dX11_paper_26 ?_
        refine lv_aload_n hx hb dX11_paper_29 rfl (lv_at hl 0 rfl) ?_
        refine kget X hV20 (ci := 11) inlX11 rfl 0 rfl 3 (by decide) mw_27 rfl dX11_paper_30 ?_
        refine lv_iload_n hx hb dX11_paper_33 rfl (lv_at hl 1 rfl) ?_
        obtain ⟨o_p1_readers34_25, o_p1_day34_26, o_p1_heights34_27, o_p1_highest34_28, o_p1_shapes34_29, hc30, h31⟩ := cb5_s h23
        clear h23
        refine kgov (krunV (rest := []) X hV20 [2, 1, 3, 4, 5, 6] (c_X7_lay l E _ a2 a1 a3 a4 a5 a6 (w2_1) (w2_3) (w1_3) (w1_4) s_sky_many s_page_readers s_page_day s_page_heights s_page_highest s_page_shapes s_sky_sources p1 o_p1_readers34_25 o_p1_day34_26 o_p1_heights34_27 o_p1_highest34_28 o_p1_shapes34_29 hc30) mw_767 kb_X7_lay (ci := 7) rfl rfl (by decide) rfl rfl hl.1 rfl (Nat.le_of_ble_eq_true rfl) dX11_paper_34 (by decide)) X hV20 [2, 1, 3, 4, 5, 6] [0] rfl rfl rfl (by decide) (fun u H locs hp33 hV32 => ?_)
        have hV32 : kV E A s.heap H locs [(a0, .inr (11, [w0_0, w0_1, .ref a2, .ref a1, w0_4, w0_5, w0_6, w0_7, w0_8])), (a1, .inr (4, [.ref a3, .ref a5, .ref a4, w1_3, w1_4, .int o_p1_readers34_25, .int o_p1_day34_26])), (a2, .inr (7, [.ref a6, w2_1, .int s_sky_many, w2_3])), (a3, .inl (E.2 0, 1440, .inl o_p1_heights34_27)), (a4, .inl (E.2 0, 1440, .inl o_p1_highest34_28)), (a5, .inl (E.2 0, 1440, .inl o_p1_shapes34_29)), (a6, .inl (E.2 3, 10, .inr (.inr (.inr (.inr s_sky_sources)))))] := hV32.sub [0, 2, 1, 3, 4, 5, 6] rfl rfl
        clear hV20
        refine lv_iload_n hx hb dX11_paper_37 rfl (lv_at hl 3 rfl) ?_
        refine lv_if_ne (tgt := 53) hx hb dX11_paper_38 (by decide) (fun c34 => ?_) (fun c34 => ?_)
        · have h35 := ieS c34 h31
          clear h31 c34
          refine lv_aload_n hx hb dX11_paper_53 rfl (lv_at hl 0 rfl) ?_
          refine kget X hV32 (ci := 11) inlX11 rfl 0 rfl 3 (by decide) mw_27 rfl dX11_paper_54 ?_
          refine kget X hV32 (ci := 4) inlX4 rfl 1 rfl 1 (by decide) mw_766 rfl dX11_paper_57 ?_
          refine lv_iload_n hx hb dX11_paper_60 rfl (lv_at hl 2 rfl) ?_
          obtain ⟨hi38, v61_37, e39, h40⟩ := rdI_s h35
          clear h35
          refine kiald X hV32 5 rfl hi38 e39 dX11_paper_61 ?_
          clear hi38 e39
          cases h40
          exact hret _ () _ _ _ _ rfl rfl hV32 dX11_paper_62
        · have h36 := itS c34 h31
          clear h31 c34
          refine lv_aload_n hx hb dX11_paper_41 rfl (lv_at hl 0 rfl) ?_
          refine kget X hV32 (ci := 11) inlX11 rfl 0 rfl 3 (by decide) mw_27 rfl dX11_paper_42 ?_
          refine kget X hV32 (ci := 4) inlX4 rfl 1 rfl 0 (by decide) mw_765 rfl dX11_paper_45 ?_
          refine lv_iload_n hx hb dX11_paper_48 rfl (lv_at hl 2 rfl) ?_
          obtain ⟨hi42, v49_41, e43, h44⟩ := rdI_s h36
          clear h36
          refine kiald X hV32 3 rfl hi42 e43 dX11_paper_49 ?_
          clear hi42 e43
          refine lv_goto (tgt := 62) hx hb dX11_paper_50 (by decide) ?_
          cases h44
          exact hret _ () _ _ _ _ rfl rfl hV32 dX11_paper_62
      · have h24 := itS c22 h19
        clear h19 c22
        refine lv_iconst (v := (-1)) hx hb dX11_paper_23 (by decide) ?_
        cases h24
        exact hret _ () _ _ _ _ rfl rfl hV20 dX11_paper_24
abbrev r_X11_marks : Room := { frames := 5, cells := 0, slots := 0, locals := 110 }
set_option maxHeartbeats 4000000 in
set_option maxRecDepth 100000 in
theorem c_X11_marks (l : Launch) (E : kE) (sz : Nat) (a0 a1 a2 a3 a4 a5 a6 a7 a8 a9 a10 : Nat) (w0_0 w0_1 w0_5 w0_6 w0_7 w0_8 w2_1 w2_3 w7_1 : Value) (s_page_readers : Int32) (s_page_day : Int32) (s_sky_many : Int32) (s_ways : Nat → Option Nat) (s_page_heights : Nat → Int32) (s_page_highest : Nat → Int32) (s_page_marked : Nat → Int32) (s_page_shapes : Nat → Int32) (s_sky_sources : Nat → Option Nat) (s_page_reckoner_letters : Nat → Int32) (p1 : Int32) (p2 : Int32) (p3 : Int32) (r : Int32) (o_page_readers : Int32) (o_page_day : Int32) (o_page_heights : Nat → Int32) (o_page_highest : Nat → Int32) (o_page_marked : Nat → Int32) (o_page_shapes : Nat → Int32) (o_page_reckoner_letters : Nat → Int32) (h : f_X11_marks s_page_readers s_page_day s_sky_many s_ways s_page_heights s_page_highest s_page_marked s_page_shapes s_sky_sources s_page_reckoner_letters p1 p2 p3 = some (r, o_page_readers, o_page_day, o_page_heights, o_page_highest, o_page_marked, o_page_shapes, o_page_reckoner_letters)) : kMi l yX11_marks cX11_marks 4 (some .int) r_X11_marks [.ref a0, .int p1, .int p2, .int p3] E [(a0, .inr (11, [w0_0, w0_1, .ref a2, .ref a1, .ref a3, w0_5, w0_6, w0_7, w0_8])), (a1, .inr (4, [.ref a4, .ref a8, .ref a5, .ref a6, .ref a7, .int s_page_readers, .int s_page_day])), (a2, .inr (7, [.ref a9, w2_1, .int s_sky_many, w2_3])), (a3, .inl (E.2 4, 4, .inr (.inr (.inr (.inr s_ways))))), (a4, .inl (E.2 0, 1440, .inl s_page_heights)), (a5, .inl (E.2 0, 1440, .inl s_page_highest)), (a6, .inl (E.2 0, 1440, .inl s_page_marked)), (a7, .inr (5, [.ref a10, w7_1])), (a8, .inl (E.2 0, 1440, .inl s_page_shapes)), (a9, .inl (E.2 3, 10, .inr (.inr (.inr (.inr s_sky_sources))))), (a10, .inl (E.2 0, 128, .inl s_page_reckoner_letters))] sz 0 0 (fun x (_ : Unit) => x = r) (fun _ => [(a0, .inr (11, [w0_0, w0_1, .ref a2, .ref a1, .ref a3, w0_5, w0_6, w0_7, w0_8])), (a1, .inr (4, [.ref a4, .ref a8, .ref a5, .ref a6, .ref a7, .int o_page_readers, .int o_page_day])), (a2, .inr (7, [.ref a9, w2_1, .int s_sky_many, w2_3])), (a3, .inl (E.2 4, 4, .inr (.inr (.inr (.inr s_ways))))), (a4, .inl (E.2 0, 1440, .inl o_page_heights)), (a5, .inl (E.2 0, 1440, .inl o_page_highest)), (a6, .inl (E.2 0, 1440, .inl o_page_marked)), (a7, .inr (5, [.ref a10, w7_1])), (a8, .inl (E.2 0, 1440, .inl o_page_shapes)), (a9, .inl (E.2 3, 10, .inr (.inr (.inr (.inr s_sky_sources))))), (a10, .inl (E.2 0, 128, .inl o_page_reckoner_letters))]) := by
  refine kmeti rfl (Nat.le_of_ble_eq_true rfl) ?_
  intro p e s m args below meth c ls A Q X hV hret hl
  have X : kC p s m c cX11_marks 4 RX11 args E A := X
  have hx := X.1
  have hb := X.2.1
  have hl : lv_has ls 4 [(0, .ref a0), (1, .int p1), (2, .int p2), (3, .int p3)] := hl
  rw [f_X11_marks] at h
  refine lv_iload_n hx hb dX11_marks_0 rfl (lv_at hl 1 rfl) ?_
  obtain ⟨r1_1, hc2, h3⟩ := cb1_s h
  clear h
  refine kgoiE (krunS (rest := []) X hV [] (c_X11_isReader l E _ p1 r1_1 hc2) mw_584 kb_X11_isReader (by decide) rfl rfl hl.1 rfl (Nat.le_of_ble_eq_true rfl) dX11_marks_1 (by decide)) X hV [] [0, 1, 2, 3, 4, 5, 6, 7, 8, 9, 10] rfl rfl rfl (by decide) (fun u H locs hV4 => ?_)
  have hV4 : kV E A s.heap H locs [(a0, .inr (11, [w0_0, w0_1, .ref a2, .ref a1, .ref a3, w0_5, w0_6, w0_7, w0_8])), (a1, .inr (4, [.ref a4, .ref a8, .ref a5, .ref a6, .ref a7, .int s_page_readers, .int s_page_day])), (a2, .inr (7, [.ref a9, w2_1, .int s_sky_many, w2_3])), (a3, .inl (E.2 4, 4, .inr (.inr (.inr (.inr s_ways))))), (a4, .inl (E.2 0, 1440, .inl s_page_heights)), (a5, .inl (E.2 0, 1440, .inl s_page_highest)), (a6, .inl (E.2 0, 1440, .inl s_page_marked)), (a7, .inr (5, [.ref a10, w7_1])), (a8, .inl (E.2 0, 1440, .inl s_page_shapes)), (a9, .inl (E.2 3, 10, .inr (.inr (.inr (.inr s_sky_sources))))), (a10, .inl (E.2 0, 128, .inl s_page_reckoner_letters))] := hV4.sub [0, 1, 2, 3, 4, 5, 6, 7, 8, 9, 10] rfl rfl
  clear hV
  refine lv_if_eq (tgt := 19) hx hb dX11_marks_4 (by decide) (fun c6 => ?_) (fun c6 => ?_)
  · have h7 := itS c6 h3
    clear h3 c6
    refine lv_iconst (v := (-1)) hx hb dX11_marks_19 (by decide) ?_
    cases h7
    exact hret _ () _ _ _ _ rfl rfl hV4 dX11_marks_20
  · have h8 := ieS c6 h3
    clear h3 c6
    refine lv_iload_n hx hb dX11_marks_7 rfl (lv_at hl 2 rfl) ?_
    obtain ⟨r8_9, hc10, h11⟩ := cb1_s h8
    clear h8
    refine kgoiE (krunS (rest := []) X hV4 [] (c_X11_isDay l E _ p2 r8_9 hc10) mw_622 kb_X11_isDay (by decide) rfl rfl hl.1 rfl (Nat.le_of_ble_eq_true rfl) dX11_marks_8 (by decide)) X hV4 [] [0, 1, 2, 3, 4, 5, 6, 7, 8, 9, 10] rfl rfl rfl (by decide) (fun u H locs hV12 => ?_)
    have hV12 : kV E A s.heap H locs [(a0, .inr (11, [w0_0, w0_1, .ref a2, .ref a1, .ref a3, w0_5, w0_6, w0_7, w0_8])), (a1, .inr (4, [.ref a4, .ref a8, .ref a5, .ref a6, .ref a7, .int s_page_readers, .int s_page_day])), (a2, .inr (7, [.ref a9, w2_1, .int s_sky_many, w2_3])), (a3, .inl (E.2 4, 4, .inr (.inr (.inr (.inr s_ways))))), (a4, .inl (E.2 0, 1440, .inl s_page_heights)), (a5, .inl (E.2 0, 1440, .inl s_page_highest)), (a6, .inl (E.2 0, 1440, .inl s_page_marked)), (a7, .inr (5, [.ref a10, w7_1])), (a8, .inl (E.2 0, 1440, .inl s_page_shapes)), (a9, .inl (E.2 3, 10, .inr (.inr (.inr (.inr s_sky_sources))))), (a10, .inl (E.2 0, 128, .inl s_page_reckoner_letters))] := hV12.sub [0, 1, 2, 3, 4, 5, 6, 7, 8, 9, 10] rfl rfl
    clear hV4
    refine lv_if_eq (tgt := 19) hx hb dX11_marks_11 (by decide) (fun c14 => ?_) (fun c14 => ?_)
    · have h15 := itS c14 h11
      clear h11 c14
      refine lv_iconst (v := (-1)) hx hb dX11_marks_19 (by decide) ?_
      cases h15
      exact hret _ () _ _ _ _ rfl rfl hV12 dX11_marks_20
    · have h16 := ieS c14 h11
      clear h11 c14
      refine lv_iload_n hx hb dX11_marks_14 rfl (lv_at hl 3 rfl) ?_
      refine lv_iconst (v := (-1)) hx hb dX11_marks_15 (by decide) ?_
      refine lv_icmp_ge (tgt := 21) hx hb dX11_marks_16 (by decide) (fun c17 => ?_) (fun c17 => ?_)
      · have h18 := itS c17 h16
        clear h16 c17
        refine lv_aload_n hx hb dX11_marks_21 rfl (lv_at hl 0 rfl) ?_
        refine kget X hV12 (ci := 11) inlX11 rfl 0 rfl 2 (by decide) mw_23 rfl dX11_marks_22 ?_
        refine lv_aload_n hx hb dX11_marks_25 rfl (lv_at hl 0 rfl) ?_
        refine kget X hV12 (ci := 11) inlX11 rfl 0 rfl 3 (by decide) mw_27 rfl dX11_marks_26 ?_
        refine lv_iload_n hx hb dX11_marks_29 rfl (lv_at hl 2 rfl) ?_
        obtain ⟨o_p1_readers30_20, o_p1_day30_21, o_p1_heights30_22, o_p1_highest30_23, o_p1_shapes30_24, hc25, h26⟩ := cb5_s h18
        clear h18
        refine kgov (krunV (rest := []) X hV12 [2, 1, 4, 5, 8, 9] (c_X7_lay l E _ a2 a1 a4 a5 a8 a9 (w2_1) (w2_3) (.ref a6) (.ref a7) s_sky_many s_page_readers s_page_day s_page_heights s_page_highest s_page_shapes s_sky_sources p2 o_p1_readers30_20 o_p1_day30_21 o_p1_heights30_22 o_p1_highest30_23 o_p1_shapes30_24 hc25) mw_767 kb_X7_lay (ci := 7) rfl rfl (by decide) rfl rfl hl.1 rfl (Nat.le_of_ble_eq_true rfl) dX11_marks_30 (by decide)) X hV12 [2, 1, 4, 5, 8, 9] [0, 3, 6, 7, 10] rfl rfl rfl (by decide) (fun u H locs hp28 hV27 => ?_)
        have hV27 : kV E A s.heap H locs [(a0, .inr (11, [w0_0, w0_1, .ref a2, .ref a1, .ref a3, w0_5, w0_6, w0_7, w0_8])), (a1, .inr (4, [.ref a4, .ref a8, .ref a5, .ref a6, .ref a7, .int o_p1_readers30_20, .int o_p1_day30_21])), (a2, .inr (7, [.ref a9, w2_1, .int s_sky_many, w2_3])), (a3, .inl (E.2 4, 4, .inr (.inr (.inr (.inr s_ways))))), (a4, .inl (E.2 0, 1440, .inl o_p1_heights30_22)), (a5, .inl (E.2 0, 1440, .inl o_p1_highest30_23)), (a6, .inl (E.2 0, 1440, .inl s_page_marked)), (a7, .inr (5, [.ref a10, w7_1])), (a8, .inl (E.2 0, 1440, .inl o_p1_shapes30_24)), (a9, .inl (E.2 3, 10, .inr (.inr (.inr (.inr s_sky_sources))))), (a10, .inl (E.2 0, 128, .inl s_page_reckoner_letters))] := hV27.sub [0, 6, 5, 1, 7, 8, 2, 3, 9, 10, 4] rfl rfl
        clear hV12
        refine lv_aload_n hx hb dX11_marks_33 rfl (lv_at hl 0 rfl) ?_
        refine kget X hV27 (ci := 11) inlX11 rfl 0 rfl 3 (by decide) mw_27 rfl dX11_marks_34 ?_
        refine lv_iload_n hx hb dX11_marks_37 rfl (lv_at hl 1 rfl) ?_
        refine lv_aload_n hx hb dX11_marks_38 rfl (lv_at hl 0 rfl) ?_
        refine kget X hV27 (ci := 11) inlX11 rfl 0 rfl 4 (by decide) mw_29 rfl dX11_marks_39 ?_
        refine lv_iload_n hx hb dX11_marks_42 rfl (lv_at hl 1 rfl) ?_
        obtain ⟨hi29, e30, h31⟩ := rdN_s h26
        clear h26
        refine kaald X hV27 3 4 rfl rfl hi29 e30 dX11_marks_43 ?_
        clear hi29 e30
        refine W.eq (g2 := F0 m 44 ls [.null, .int p1, .ref a1]) rfl ?_
        obtain ⟨o_readers44_32, o_marked44_33, o_reckoner_letters44_34, hc35, h36⟩ := cb3_s h31
        clear h31
        refine kgov (krunV (rest := []) X hV27 [1, 4, 6, 7, 8, 10] (c_X4_read l E _ a1 a4 a6 a7 a8 a10 (.ref a5) (w7_1) o_p1_readers30_20 o_p1_day30_21 o_p1_heights30_22 s_page_marked o_p1_shapes30_24 s_page_reckoner_letters p1 o_readers44_32 o_marked44_33 o_reckoner_letters44_34 hc35) mw_807 kb_X4_read (ci := 4) rfl rfl (by decide) rfl rfl hl.1 rfl (Nat.le_of_ble_eq_true rfl) dX11_marks_44 (by decide)) X hV27 [1, 4, 6, 7, 8, 10] [0, 2, 3, 5, 9] rfl rfl rfl (by decide) (fun u H locs hp38 hV37 => ?_)
        have hV37 : kV E A s.heap H locs [(a0, .inr (11, [w0_0, w0_1, .ref a2, .ref a1, .ref a3, w0_5, w0_6, w0_7, w0_8])), (a1, .inr (4, [.ref a4, .ref a8, .ref a5, .ref a6, .ref a7, .int o_readers44_32, .int o_p1_day30_21])), (a2, .inr (7, [.ref a9, w2_1, .int s_sky_many, w2_3])), (a3, .inl (E.2 4, 4, .inr (.inr (.inr (.inr s_ways))))), (a4, .inl (E.2 0, 1440, .inl o_p1_heights30_22)), (a5, .inl (E.2 0, 1440, .inl o_p1_highest30_23)), (a6, .inl (E.2 0, 1440, .inl o_marked44_33)), (a7, .inr (5, [.ref a10, w7_1])), (a8, .inl (E.2 0, 1440, .inl o_p1_shapes30_24)), (a9, .inl (E.2 3, 10, .inr (.inr (.inr (.inr s_sky_sources))))), (a10, .inl (E.2 0, 128, .inl o_reckoner_letters44_34))] := hV37.sub [0, 5, 1, 2, 6, 3, 7, 8, 9, 4, 10] rfl rfl
        clear hV27
        refine lv_iload_n hx hb dX11_marks_47 rfl (lv_at hl 3 rfl) ?_
        refine lv_iconst (v := (-1)) hx hb dX11_marks_48 (by decide) ?_
        refine lv_icmp_ne (tgt := 63) hx hb dX11_marks_49 (by decide) (fun c39 => ?_) (fun c39 => ?_)
        · have h40 := ieS c39 h36
          clear h36 c39
          refine lv_aload_n hx hb dX11_marks_63 rfl (lv_at hl 0 rfl) ?_
          refine kget X hV37 (ci := 11) inlX11 rfl 0 rfl 3 (by decide) mw_27 rfl dX11_marks_64 ?_
          refine lv_iload_n hx hb dX11_marks_67 rfl (lv_at hl 1 rfl) ?_
          refine lv_iload_n hx hb dX11_marks_68 rfl (lv_at hl 3 rfl) ?_
          obtain ⟨r69_42, hc43, h44⟩ := cb1_s h40
          clear h40
          refine kgoiE (krunV (rest := []) X hV37 [1, 6] (c_X4_markNumber l E _ a1 a6 (.ref a4) (.ref a8) (.ref a5) (.ref a7) (.int o_readers44_32) (.int o_p1_day30_21) o_marked44_33 p1 p3 r69_42 hc43) mw_834 kb_X4_markNumber (ci := 4) rfl rfl (by decide) rfl rfl hl.1 rfl (Nat.le_of_ble_eq_true rfl) dX11_marks_69 (by decide)) X hV37 [1, 6] [0, 2, 3, 4, 5, 7, 8, 9, 10] rfl rfl rfl (by decide) (fun u H locs hV45 => ?_)
          have hV45 : kV E A s.heap H locs [(a0, .inr (11, [w0_0, w0_1, .ref a2, .ref a1, .ref a3, w0_5, w0_6, w0_7, w0_8])), (a1, .inr (4, [.ref a4, .ref a8, .ref a5, .ref a6, .ref a7, .int o_readers44_32, .int o_p1_day30_21])), (a2, .inr (7, [.ref a9, w2_1, .int s_sky_many, w2_3])), (a3, .inl (E.2 4, 4, .inr (.inr (.inr (.inr s_ways))))), (a4, .inl (E.2 0, 1440, .inl o_p1_heights30_22)), (a5, .inl (E.2 0, 1440, .inl o_p1_highest30_23)), (a6, .inl (E.2 0, 1440, .inl o_marked44_33)), (a7, .inr (5, [.ref a10, w7_1])), (a8, .inl (E.2 0, 1440, .inl o_p1_shapes30_24)), (a9, .inl (E.2 3, 10, .inr (.inr (.inr (.inr s_sky_sources))))), (a10, .inl (E.2 0, 128, .inl o_reckoner_letters44_34))] := hV45.sub [0, 9, 1, 2, 3, 4, 10, 5, 6, 7, 8] rfl rfl
          clear hV37
          cases h44
          exact hret _ () _ _ _ _ rfl rfl hV45 dX11_marks_72
        · have h41 := itS c39 h36
          clear h36 c39
          refine lv_aload_n hx hb dX11_marks_52 rfl (lv_at hl 0 rfl) ?_
          refine kget X hV37 (ci := 11) inlX11 rfl 0 rfl 3 (by decide) mw_27 rfl dX11_marks_53 ?_
          refine lv_iload_n hx hb dX11_marks_56 rfl (lv_at hl 1 rfl) ?_
          obtain ⟨r57_47, hc48, h49⟩ := cb1_s h41
          clear h41
          refine kgoiE (krunV (rest := []) X hV37 [1, 6] (c_X4_marksOf l E _ a1 a6 (.ref a4) (.ref a8) (.ref a5) (.ref a7) (.int o_readers44_32) (.int o_p1_day30_21) o_marked44_33 p1 r57_47 hc48) mw_826 kb_X4_marksOf (ci := 4) rfl rfl (by decide) rfl rfl hl.1 rfl (Nat.le_of_ble_eq_true rfl) dX11_marks_57 (by decide)) X hV37 [1, 6] [0, 2, 3, 4, 5, 7, 8, 9, 10] rfl rfl rfl (by decide) (fun u H locs hV50 => ?_)
          have hV50 : kV E A s.heap H locs [(a0, .inr (11, [w0_0, w0_1, .ref a2, .ref a1, .ref a3, w0_5, w0_6, w0_7, w0_8])), (a1, .inr (4, [.ref a4, .ref a8, .ref a5, .ref a6, .ref a7, .int o_readers44_32, .int o_p1_day30_21])), (a2, .inr (7, [.ref a9, w2_1, .int s_sky_many, w2_3])), (a3, .inl (E.2 4, 4, .inr (.inr (.inr (.inr s_ways))))), (a4, .inl (E.2 0, 1440, .inl o_p1_heights30_22)), (a5, .inl (E.2 0, 1440, .inl o_p1_highest30_23)), (a6, .inl (E.2 0, 1440, .inl o_marked44_33)), (a7, .inr (5, [.ref a10, w7_1])), (a8, .inl (E.2 0, 1440, .inl o_p1_shapes30_24)), (a9, .inl (E.2 3, 10, .inr (.inr (.inr (.inr s_sky_sources))))), (a10, .inl (E.2 0, 128, .inl o_reckoner_letters44_34))] := hV50.sub [0, 9, 1, 2, 3, 4, 10, 5, 6, 7, 8] rfl rfl
          clear hV37
          refine lv_goto (tgt := 72) hx hb dX11_marks_60 (by decide) ?_
          cases h49
          exact hret _ () _ _ _ _ rfl rfl hV50 dX11_marks_72
      · have h19 := ieS c17 h16
        clear h16 c17
        refine lv_iconst (v := (-1)) hx hb dX11_marks_19 (by decide) ?_
        cases h19
        exact hret _ () _ _ _ _ rfl rfl hV12 dX11_marks_20
abbrev r_X11_passed : Room := { frames := 6, cells := 0, slots := 0, locals := 134 }
set_option maxHeartbeats 4000000 in
set_option maxRecDepth 100000 in
theorem c_X11_passed (l : Launch) (E : kE) (sz : Nat) (a0 a1 a2 a3 a4 a5 a6 a7 a8 a9 a10 : Nat) (w0_0 w0_1 w0_5 w0_6 w0_7 w0_8 w2_1 w2_3 w7_1 : Value) (s_page_readers : Int32) (s_page_day : Int32) (s_sky_many : Int32) (s_ways : Nat → Option Nat) (s_page_heights : Nat → Int32) (s_page_highest : Nat → Int32) (s_page_marked : Nat → Int32) (s_page_shapes : Nat → Int32) (s_sky_sources : Nat → Option Nat) (s_page_reckoner_letters : Nat → Int32) (p1 : Int32) (p2 : Int32) (p3 : Int32) (p4 : Int32) (p5 : Int32) (r : Int32) (o_page_readers : Int32) (o_page_day : Int32) (o_page_heights : Nat → Int32) (o_page_highest : Nat → Int32) (o_page_marked : Nat → Int32) (o_page_shapes : Nat → Int32) (o_page_reckoner_letters : Nat → Int32) (h : f_X11_passed s_page_readers s_page_day s_sky_many s_ways s_page_heights s_page_highest s_page_marked s_page_shapes s_sky_sources s_page_reckoner_letters p1 p2 p3 p4 p5 = some (r, o_page_readers, o_page_day, o_page_heights, o_page_highest, o_page_marked, o_page_shapes, o_page_reckoner_letters)) : kMi l yX11_passed cX11_passed 10 (some .int) r_X11_passed [.ref a0, .int p1, .int p2, .int p3, .int p4, .int p5] E [(a0, .inr (11, [w0_0, w0_1, .ref a2, .ref a1, .ref a3, w0_5, w0_6, w0_7, w0_8])), (a1, .inr (4, [.ref a4, .ref a8, .ref a5, .ref a6, .ref a7, .int s_page_readers, .int s_page_day])), (a2, .inr (7, [.ref a9, w2_1, .int s_sky_many, w2_3])), (a3, .inl (E.2 4, 4, .inr (.inr (.inr (.inr s_ways))))), (a4, .inl (E.2 0, 1440, .inl s_page_heights)), (a5, .inl (E.2 0, 1440, .inl s_page_highest)), (a6, .inl (E.2 0, 1440, .inl s_page_marked)), (a7, .inr (5, [.ref a10, w7_1])), (a8, .inl (E.2 0, 1440, .inl s_page_shapes)), (a9, .inl (E.2 3, 10, .inr (.inr (.inr (.inr s_sky_sources))))), (a10, .inl (E.2 0, 128, .inl s_page_reckoner_letters))] sz 0 0 (fun x (_ : Unit) => x = r) (fun _ => [(a0, .inr (11, [w0_0, w0_1, .ref a2, .ref a1, .ref a3, w0_5, w0_6, w0_7, w0_8])), (a1, .inr (4, [.ref a4, .ref a8, .ref a5, .ref a6, .ref a7, .int o_page_readers, .int o_page_day])), (a2, .inr (7, [.ref a9, w2_1, .int s_sky_many, w2_3])), (a3, .inl (E.2 4, 4, .inr (.inr (.inr (.inr s_ways))))), (a4, .inl (E.2 0, 1440, .inl o_page_heights)), (a5, .inl (E.2 0, 1440, .inl o_page_highest)), (a6, .inl (E.2 0, 1440, .inl o_page_marked)), (a7, .inr (5, [.ref a10, w7_1])), (a8, .inl (E.2 0, 1440, .inl o_page_shapes)), (a9, .inl (E.2 3, 10, .inr (.inr (.inr (.inr s_sky_sources))))), (a10, .inl (E.2 0, 128, .inl o_page_reckoner_letters))]) := by
  refine kmeti rfl (Nat.le_of_ble_eq_true rfl) ?_
  intro p e s m args below meth c ls A Q X hV hret hl
  have X : kC p s m c cX11_passed 10 RX11 args E A := X
  have hx := X.1
  have hb := X.2.1
  have hl : lv_has ls 10 [(0, .ref a0), (1, .int p1), (2, .int p2), (3, .int p3), (4, .int p4), (5, .int p5)] := hl
  rw [f_X11_passed] at h
  refine lv_iload_n hx hb dX11_passed_0 rfl (lv_at hl 1 rfl) ?_
  obtain ⟨r1_1, hc2, h3⟩ := cb1_s h
  clear h
  refine kgoiE (krunS (rest := []) X hV [] (c_X11_isReader l E _ p1 r1_1 hc2) mw_584 kb_X11_isReader (by decide) rfl rfl hl.1 rfl (Nat.le_of_ble_eq_true rfl) dX11_passed_1 (by decide)) X hV [] [0, 1, 2, 3, 4, 5, 6, 7, 8, 9, 10] rfl rfl rfl (by decide) (fun u H locs hV4 => ?_)
  have hV4 : kV E A s.heap H locs [(a0, .inr (11, [w0_0, w0_1, .ref a2, .ref a1, .ref a3, w0_5, w0_6, w0_7, w0_8])), (a1, .inr (4, [.ref a4, .ref a8, .ref a5, .ref a6, .ref a7, .int s_page_readers, .int s_page_day])), (a2, .inr (7, [.ref a9, w2_1, .int s_sky_many, w2_3])), (a3, .inl (E.2 4, 4, .inr (.inr (.inr (.inr s_ways))))), (a4, .inl (E.2 0, 1440, .inl s_page_heights)), (a5, .inl (E.2 0, 1440, .inl s_page_highest)), (a6, .inl (E.2 0, 1440, .inl s_page_marked)), (a7, .inr (5, [.ref a10, w7_1])), (a8, .inl (E.2 0, 1440, .inl s_page_shapes)), (a9, .inl (E.2 3, 10, .inr (.inr (.inr (.inr s_sky_sources))))), (a10, .inl (E.2 0, 128, .inl s_page_reckoner_letters))] := hV4.sub [0, 1, 2, 3, 4, 5, 6, 7, 8, 9, 10] rfl rfl
  clear hV
  have J44 : ∀ (t0_6 : Int32) (H : Heap) (locs : List Loc) (ls : Array Slot), (f_X11_passed_J44 s_page_readers s_page_day s_sky_many s_ways s_page_heights s_page_highest s_page_marked s_page_shapes s_sky_sources s_page_reckoner_letters p1 p2 p3 p4 p5 ) t0_6 = some (r, o_page_readers, o_page_day, o_page_heights, o_page_highest, o_page_marked, o_page_shapes, o_page_reckoner_letters) → kV E A s.heap H locs [(a0, .inr (11, [w0_0, w0_1, .ref a2, .ref a1, .ref a3, w0_5, w0_6, w0_7, w0_8])), (a1, .inr (4, [.ref a4, .ref a8, .ref a5, .ref a6, .ref a7, .int s_page_readers, .int s_page_day])), (a2, .inr (7, [.ref a9, w2_1, .int s_sky_many, w2_3])), (a3, .inl (E.2 4, 4, .inr (.inr (.inr (.inr s_ways))))), (a4, .inl (E.2 0, 1440, .inl s_page_heights)), (a5, .inl (E.2 0, 1440, .inl s_page_highest)), (a6, .inl (E.2 0, 1440, .inl s_page_marked)), (a7, .inr (5, [.ref a10, w7_1])), (a8, .inl (E.2 0, 1440, .inl s_page_shapes)), (a9, .inl (E.2 3, 10, .inr (.inr (.inr (.inr s_sky_sources))))), (a10, .inl (E.2 0, 128, .inl s_page_reckoner_letters))] → lv_has ls 10 [(0, .ref a0), (1, .int p1), (2, .int p2), (3, .int p3), (4, .int p4), (5, .int p5)] → W p l e r_X11_passed s m args below meth c H locs 0 0 Q (F0 m 44 ls [.int t0_6]) := by
    intro t0_6 H locs ls hB44 hVB44 hlB44
    rw [f_X11_passed_J44] at hB44
    refine lv_istore (lv' := [(6, .int t0_6), (0, .ref a0), (1, .int p1), (2, .int p2), (3, .int p3), (4, .int p4), (5, .int p5)]) hx hb dX11_passed_44 hlB44 (by decide) rfl (fun ls hl7 => ?_)
    clear hlB44
    refine lv_iload hx hb dX11_passed_46 (lv_at hl7 0 rfl) ?_
    refine lv_if_eq (tgt := 66) hx hb dX11_passed_48 (by decide) (fun c8 => ?_) (fun c8 => ?_)
    · have h9 := itS c8 hB44
      clear hB44 c8
      refine lv_iconst (v := (-1)) hx hb dX11_passed_66 (by decide) ?_
      cases h9
      exact hret _ () _ _ _ _ rfl rfl hVB44 dX11_passed_67
    · have h10 := ieS c8 hB44
      clear hB44 c8
      refine lv_iload_n hx hb dX11_passed_51 rfl (lv_at hl7 4 rfl) ?_
      refine lv_iload hx hb dX11_passed_52 (lv_at hl7 5 rfl) ?_
      refine lv_icmp_gt (tgt := 66) hx hb dX11_passed_54 (by decide) (fun c11 => ?_) (fun c11 => ?_)
      · have h12 := itS c11 h10
        clear h10 c11
        refine lv_iconst (v := (-1)) hx hb dX11_passed_66 (by decide) ?_
        cases h12
        exact hret _ () _ _ _ _ rfl rfl hVB44 dX11_passed_67
      · have h13 := ieS c11 h10
        clear h10 c11
        refine lv_iload hx hb dX11_passed_57 (lv_at hl7 5 rfl) ?_
        refine lv_iload_n hx hb dX11_passed_59 rfl (lv_at hl7 4 rfl) ?_
        refine lv_isub hx hb dX11_passed_60 ?_
        refine lv_bipush (v := 30) hx hb dX11_passed_61 (by decide) ?_
        refine lv_icmp_lt (tgt := 68) hx hb dX11_passed_63 (by decide) (fun c14 => ?_) (fun c14 => ?_)
        · have h15 := itS c14 h13
          clear h13 c14
          refine lv_iconst (v := 0) hx hb dX11_passed_68 (by decide) ?_
          refine lv_istore (lv' := [(7, .int 0), (6, .int t0_6), (0, .ref a0), (1, .int p1), (2, .int p2), (3, .int p3), (4, .int p4), (5, .int p5)]) hx hb dX11_passed_69 hl7 (by decide) rfl (fun ls hl17 => ?_)
          clear hl7
          refine lv_iload_n hx hb dX11_passed_71 rfl (lv_at hl17 5 rfl) ?_
          refine lv_istore (lv' := [(8, .int p3), (7, .int 0), (6, .int t0_6), (0, .ref a0), (1, .int p1), (2, .int p2), (3, .int p3), (4, .int p4), (5, .int p5)]) hx hb dX11_passed_72 hl17 (by decide) rfl (fun ls hl18 => ?_)
          clear hl17
          have J143 : ∀ (x8_19 : Int32) (page_day__20 : Int32) (page_readers__21 : Int32) (page_heights__22 : Nat → Int32) (page_highest__23 : Nat → Int32) (page_marked__24 : Nat → Int32) (page_reckoner_letters__25 : Nat → Int32) (page_shapes__26 : Nat → Int32) (H : Heap) (locs : List Loc) (ls : Array Slot), (f_X11_passed_J143 p5 ) x8_19 page_day__20 page_readers__21 page_heights__22 page_highest__23 page_marked__24 page_reckoner_letters__25 page_shapes__26 = some (r, o_page_readers, o_page_day, o_page_heights, o_page_highest, o_page_marked, o_page_shapes, o_page_reckoner_letters) → kV E A s.heap H locs [(a0, .inr (11, [w0_0, w0_1, .ref a2, .ref a1, .ref a3, w0_5, w0_6, w0_7, w0_8])), (a1, .inr (4, [.ref a4, .ref a8, .ref a5, .ref a6, .ref a7, .int page_readers__21, .int page_day__20])), (a2, .inr (7, [.ref a9, w2_1, .int s_sky_many, w2_3])), (a3, .inl (E.2 4, 4, .inr (.inr (.inr (.inr s_ways))))), (a4, .inl (E.2 0, 1440, .inl page_heights__22)), (a5, .inl (E.2 0, 1440, .inl page_highest__23)), (a6, .inl (E.2 0, 1440, .inl page_marked__24)), (a7, .inr (5, [.ref a10, w7_1])), (a8, .inl (E.2 0, 1440, .inl page_shapes__26)), (a9, .inl (E.2 3, 10, .inr (.inr (.inr (.inr s_sky_sources))))), (a10, .inl (E.2 0, 128, .inl page_reckoner_letters__25))] → lv_has ls 10 [(0, .ref a0), (1, .int p1), (2, .int p2), (5, .int p5), (8, .int x8_19)] → W p l e r_X11_passed s m args below meth c H locs 0 0 Q (F0 m 143 ls []) := by
            intro x8_19 page_day__20 page_readers__21 page_heights__22 page_highest__23 page_marked__24 page_reckoner_letters__25 page_shapes__26 H locs ls hB143 hVB143 hlB143
            rw [f_X11_passed_J143] at hB143
            refine lv_iload hx hb dX11_passed_143 (lv_at hlB143 3 rfl) ?_
            refine lv_iconst (v := 1) hx hb dX11_passed_145 (by decide) ?_
            refine lv_icmp_ne (tgt := 154) hx hb dX11_passed_146 (by decide) (fun c27 => ?_) (fun c27 => ?_)
            · have h28 := ieS c27 hB143
              clear hB143 c27
              refine lv_aload_n hx hb dX11_passed_154 rfl (lv_at hlB143 0 rfl) ?_
              refine kget X hVB143 (ci := 11) inlX11 rfl 0 rfl 3 (by decide) mw_27 rfl dX11_passed_155 ?_
              refine lv_iload_n hx hb dX11_passed_158 rfl (lv_at hlB143 1 rfl) ?_
              refine lv_iload_n hx hb dX11_passed_159 rfl (lv_at hlB143 2 rfl) ?_
              exact nomatch h28
            · have h29 := itS c27 hB143
              clear hB143 c27
              refine lv_iload hx hb dX11_passed_149 (lv_at hlB143 4 rfl) ?_
              refine lv_goto (tgt := 163) hx hb dX11_passed_151 (by decide) ?_
              cases h29
              exact hret _ () _ _ _ _ rfl rfl hVB143 dX11_passed_163
          have J177 : ∀ (x7_30 : Int32) (page_day__31 : Int32) (page_readers__32 : Int32) (page_heights__33 : Nat → Int32) (page_highest__34 : Nat → Int32) (page_marked__35 : Nat → Int32) (page_reckoner_letters__36 : Nat → Int32) (page_shapes__37 : Nat → Int32) (H : Heap) (locs : List Loc) (ls : Array Slot), (f_X11_passed_J177 p5 ) x7_30 page_day__31 page_readers__32 page_heights__33 page_highest__34 page_marked__35 page_reckoner_letters__36 page_shapes__37 = some (r, o_page_readers, o_page_day, o_page_heights, o_page_highest, o_page_marked, o_page_shapes, o_page_reckoner_letters) → kV E A s.heap H locs [(a0, .inr (11, [w0_0, w0_1, .ref a2, .ref a1, .ref a3, w0_5, w0_6, w0_7, w0_8])), (a1, .inr (4, [.ref a4, .ref a8, .ref a5, .ref a6, .ref a7, .int page_readers__32, .int page_day__31])), (a2, .inr (7, [.ref a9, w2_1, .int s_sky_many, w2_3])), (a3, .inl (E.2 4, 4, .inr (.inr (.inr (.inr s_ways))))), (a4, .inl (E.2 0, 1440, .inl page_heights__33)), (a5, .inl (E.2 0, 1440, .inl page_highest__34)), (a6, .inl (E.2 0, 1440, .inl page_marked__35)), (a7, .inr (5, [.ref a10, w7_1])), (a8, .inl (E.2 0, 1440, .inl page_shapes__37)), (a9, .inl (E.2 3, 10, .inr (.inr (.inr (.inr s_sky_sources))))), (a10, .inl (E.2 0, 128, .inl page_reckoner_letters__36))] → lv_has ls 10 [(5, .int p5), (7, .int x7_30)] → W p l e r_X11_passed s m args below meth c H locs 0 0 Q (F0 m 177 ls []) := by
            intro x7_30 page_day__31 page_readers__32 page_heights__33 page_highest__34 page_marked__35 page_reckoner_letters__36 page_shapes__37 H locs ls hB177 hVB177 hlB177
            rw [f_X11_passed_J177] at hB177
            refine lv_iload hx hb dX11_passed_177 (lv_at hlB177 0 rfl) ?_
            refine lv_if_ne (tgt := 187) hx hb dX11_passed_179 (by decide) (fun c38 => ?_) (fun c38 => ?_)
            · have h39 := ieS c38 hB177
              clear hB177 c38
              refine lv_iconst (v := (-1)) hx hb dX11_passed_187 (by decide) ?_
              cases h39
              exact hret _ () _ _ _ _ rfl rfl hVB177 dX11_passed_188
            · have h40 := itS c38 hB177
              clear hB177 c38
              refine lv_iload hx hb dX11_passed_182 (lv_at hlB177 1 rfl) ?_
              refine lv_goto (tgt := 188) hx hb dX11_passed_184 (by decide) ?_
              cases h40
              exact hret _ () _ _ _ _ rfl rfl hVB177 dX11_passed_188
          have L74 : ∀ (n74 : Nat) (x7_41 : Int32) (x8_42 : Int32) (page_day__43 : Int32) (page_readers__44 : Int32) (page_heights__45 : Nat → Int32) (page_highest__46 : Nat → Int32) (page_marked__47 : Nat → Int32) (page_reckoner_letters__48 : Nat → Int32) (page_shapes__49 : Nat → Int32) (H : Heap) (locs : List Loc) (ls : Array Slot), (f_X11_passed_L74 s_sky_many s_ways s_sky_sources p1 p2 p4 p5 (f_X11_passed_J143 p5 ) (f_X11_passed_J177 p5 ) n74) x7_41 x8_42 page_day__43 page_readers__44 page_heights__45 page_highest__46 page_marked__47 page_reckoner_letters__48 page_shapes__49 = some (r, o_page_readers, o_page_day, o_page_heights, o_page_highest, o_page_marked, o_page_shapes, o_page_reckoner_letters) → kV E A s.heap H locs [(a0, .inr (11, [w0_0, w0_1, .ref a2, .ref a1, .ref a3, w0_5, w0_6, w0_7, w0_8])), (a1, .inr (4, [.ref a4, .ref a8, .ref a5, .ref a6, .ref a7, .int page_readers__44, .int page_day__43])), (a2, .inr (7, [.ref a9, w2_1, .int s_sky_many, w2_3])), (a3, .inl (E.2 4, 4, .inr (.inr (.inr (.inr s_ways))))), (a4, .inl (E.2 0, 1440, .inl page_heights__45)), (a5, .inl (E.2 0, 1440, .inl page_highest__46)), (a6, .inl (E.2 0, 1440, .inl page_marked__47)), (a7, .inr (5, [.ref a10, w7_1])), (a8, .inl (E.2 0, 1440, .inl page_shapes__49)), (a9, .inl (E.2 3, 10, .inr (.inr (.inr (.inr s_sky_sources))))), (a10, .inl (E.2 0, 128, .inl page_reckoner_letters__48))] → lv_has ls 10 [(0, .ref a0), (1, .int p1), (2, .int p2), (4, .int p4), (5, .int p5), (7, .int x7_41), (8, .int x8_42)] → W p l e r_X11_passed s m args below meth c H locs 0 0 Q (F0 m 74 ls []) := by
            intro n74
            induction n74 with
            | zero =>
              intro x7_41 x8_42 page_day__43 page_readers__44 page_heights__45 page_highest__46 page_marked__47 page_reckoner_letters__48 page_shapes__49 H locs ls hB74 hVB74 hlB74
              rw [f_X11_passed_L74] at hB74
              exact nomatch hB74
            | succ n74 ih74 =>
              intro x7_41 x8_42 page_day__43 page_readers__44 page_heights__45 page_highest__46 page_marked__47 page_reckoner_letters__48 page_shapes__49 H locs ls hB74 hVB74 hlB74
              rw [f_X11_passed_L74] at hB74
              refine lv_iload hx hb dX11_passed_74 (lv_at hlB74 6 rfl) ?_
              refine lv_iload hx hb dX11_passed_76 (lv_at hlB74 3 rfl) ?_
              refine lv_icmp_gt (tgt := 177) hx hb dX11_passed_78 (by decide) (fun c50 => ?_) (fun c50 => ?_)
              · have h51 := itS c50 hB74
                clear hB74 c50
                exact J177 x7_41 page_day__43 page_readers__44 page_heights__45 page_highest__46 page_marked__47 page_reckoner_letters__48 page_shapes__49 _ _ _ h51 hVB74 (lv_sub hlB74 [4, 5] rfl)
              · have h52 := ieS c50 hB74
                clear hB74 c50
                refine lv_aload_n hx hb dX11_passed_81 rfl (lv_at hlB74 0 rfl) ?_
                refine kget X hVB74 (ci := 11) inlX11 rfl 0 rfl 2 (by decide) mw_23 rfl dX11_passed_82 ?_
                refine lv_aload_n hx hb dX11_passed_85 rfl (lv_at hlB74 0 rfl) ?_
                refine kget X hVB74 (ci := 11) inlX11 rfl 0 rfl 3 (by decide) mw_27 rfl dX11_passed_86 ?_
                refine lv_iload hx hb dX11_passed_89 (lv_at hlB74 6 rfl) ?_
                obtain ⟨o_p1_readers91_53, o_p1_day91_54, o_p1_heights91_55, o_p1_highest91_56, o_p1_shapes91_57, hc58, h59⟩ := cb5_s h52
                clear h52
                refine kgov (krunV (rest := []) X hVB74 [2, 1, 4, 5, 8, 9] (c_X7_lay l E _ a2 a1 a4 a5 a8 a9 (w2_1) (w2_3) (.ref a6) (.ref a7) s_sky_many page_readers__44 page_day__43 page_heights__45 page_highest__46 page_shapes__49 s_sky_sources x8_42 o_p1_readers91_53 o_p1_day91_54 o_p1_heights91_55 o_p1_highest91_56 o_p1_shapes91_57 hc58) mw_767 kb_X7_lay (ci := 7) rfl rfl (by decide) rfl rfl hlB74.1 rfl (Nat.le_of_ble_eq_true rfl) dX11_passed_91 (by decide)) X hVB74 [2, 1, 4, 5, 8, 9] [0, 3, 6, 7, 10] rfl rfl rfl (by decide) (fun u H locs hp61 hV60 => ?_)
                have hV60 : kV E A s.heap H locs [(a0, .inr (11, [w0_0, w0_1, .ref a2, .ref a1, .ref a3, w0_5, w0_6, w0_7, w0_8])), (a1, .inr (4, [.ref a4, .ref a8, .ref a5, .ref a6, .ref a7, .int o_p1_readers91_53, .int o_p1_day91_54])), (a2, .inr (7, [.ref a9, w2_1, .int s_sky_many, w2_3])), (a3, .inl (E.2 4, 4, .inr (.inr (.inr (.inr s_ways))))), (a4, .inl (E.2 0, 1440, .inl o_p1_heights91_55)), (a5, .inl (E.2 0, 1440, .inl o_p1_highest91_56)), (a6, .inl (E.2 0, 1440, .inl page_marked__47)), (a7, .inr (5, [.ref a10, w7_1])), (a8, .inl (E.2 0, 1440, .inl o_p1_shapes91_57)), (a9, .inl (E.2 3, 10, .inr (.inr (.inr (.inr s_sky_sources))))), (a10, .inl (E.2 0, 128, .inl page_reckoner_letters__48))] := hV60.sub [0, 6, 5, 1, 7, 8, 2, 3, 9, 10, 4] rfl rfl
                clear hVB74
                refine lv_aload_n hx hb dX11_passed_94 rfl (lv_at hlB74 0 rfl) ?_
                refine kget X hV60 (ci := 11) inlX11 rfl 0 rfl 3 (by decide) mw_27 rfl dX11_passed_95 ?_
                refine lv_iload_n hx hb dX11_passed_98 rfl (lv_at hlB74 1 rfl) ?_
                refine lv_aload_n hx hb dX11_passed_99 rfl (lv_at hlB74 0 rfl) ?_
                refine kget X hV60 (ci := 11) inlX11 rfl 0 rfl 4 (by decide) mw_29 rfl dX11_passed_100 ?_
                refine lv_iload_n hx hb dX11_passed_103 rfl (lv_at hlB74 1 rfl) ?_
                obtain ⟨hi62, e63, h64⟩ := rdN_s h59
                clear h59
                refine kaald X hV60 3 4 rfl rfl hi62 e63 dX11_passed_104 ?_
                clear hi62 e63
                refine W.eq (g2 := F0 m 105 ls [.null, .int p1, .ref a1]) rfl ?_
                obtain ⟨o_readers105_65, o_marked105_66, o_reckoner_letters105_67, hc68, h69⟩ := cb3_s h64
                clear h64
                refine kgov (krunV (rest := []) X hV60 [1, 4, 6, 7, 8, 10] (c_X4_read l E _ a1 a4 a6 a7 a8 a10 (.ref a5) (w7_1) o_p1_readers91_53 o_p1_day91_54 o_p1_heights91_55 page_marked__47 o_p1_shapes91_57 page_reckoner_letters__48 p1 o_readers105_65 o_marked105_66 o_reckoner_letters105_67 hc68) mw_807 kb_X4_read (ci := 4) rfl rfl (by decide) rfl rfl hlB74.1 rfl (Nat.le_of_ble_eq_true rfl) dX11_passed_105 (by decide)) X hV60 [1, 4, 6, 7, 8, 10] [0, 2, 3, 5, 9] rfl rfl rfl (by decide) (fun u H locs hp71 hV70 => ?_)
                have hV70 : kV E A s.heap H locs [(a0, .inr (11, [w0_0, w0_1, .ref a2, .ref a1, .ref a3, w0_5, w0_6, w0_7, w0_8])), (a1, .inr (4, [.ref a4, .ref a8, .ref a5, .ref a6, .ref a7, .int o_readers105_65, .int o_p1_day91_54])), (a2, .inr (7, [.ref a9, w2_1, .int s_sky_many, w2_3])), (a3, .inl (E.2 4, 4, .inr (.inr (.inr (.inr s_ways))))), (a4, .inl (E.2 0, 1440, .inl o_p1_heights91_55)), (a5, .inl (E.2 0, 1440, .inl o_p1_highest91_56)), (a6, .inl (E.2 0, 1440, .inl o_marked105_66)), (a7, .inr (5, [.ref a10, w7_1])), (a8, .inl (E.2 0, 1440, .inl o_p1_shapes91_57)), (a9, .inl (E.2 3, 10, .inr (.inr (.inr (.inr s_sky_sources))))), (a10, .inl (E.2 0, 128, .inl o_reckoner_letters105_67))] := hV70.sub [0, 5, 1, 2, 6, 3, 7, 8, 9, 4, 10] rfl rfl
                clear hV60
                refine lv_aload_n hx hb dX11_passed_108 rfl (lv_at hlB74 0 rfl) ?_
                refine kget X hV70 (ci := 11) inlX11 rfl 0 rfl 3 (by decide) mw_27 rfl dX11_passed_109 ?_
                refine lv_iload_n hx hb dX11_passed_112 rfl (lv_at hlB74 2 rfl) ?_
                refine lv_aload_n hx hb dX11_passed_113 rfl (lv_at hlB74 0 rfl) ?_
                refine kget X hV70 (ci := 11) inlX11 rfl 0 rfl 4 (by decide) mw_29 rfl dX11_passed_114 ?_
                refine lv_iload_n hx hb dX11_passed_117 rfl (lv_at hlB74 2 rfl) ?_
                obtain ⟨hi72, e73, h74⟩ := rdN_s h69
                clear h69
                refine kaald X hV70 3 4 rfl rfl hi72 e73 dX11_passed_118 ?_
                clear hi72 e73
                refine W.eq (g2 := F0 m 119 ls [.null, .int p2, .ref a1]) rfl ?_
                obtain ⟨o_readers119_75, o_marked119_76, o_reckoner_letters119_77, hc78, h79⟩ := cb3_s h74
                clear h74
                refine kgov (krunV (rest := []) X hV70 [1, 4, 6, 7, 8, 10] (c_X4_read l E _ a1 a4 a6 a7 a8 a10 (.ref a5) (w7_1) o_readers105_65 o_p1_day91_54 o_p1_heights91_55 o_marked105_66 o_p1_shapes91_57 o_reckoner_letters105_67 p2 o_readers119_75 o_marked119_76 o_reckoner_letters119_77 hc78) mw_807 kb_X4_read (ci := 4) rfl rfl (by decide) rfl rfl hlB74.1 rfl (Nat.le_of_ble_eq_true rfl) dX11_passed_119 (by decide)) X hV70 [1, 4, 6, 7, 8, 10] [0, 2, 3, 5, 9] rfl rfl rfl (by decide) (fun u H locs hp81 hV80 => ?_)
                have hV80 : kV E A s.heap H locs [(a0, .inr (11, [w0_0, w0_1, .ref a2, .ref a1, .ref a3, w0_5, w0_6, w0_7, w0_8])), (a1, .inr (4, [.ref a4, .ref a8, .ref a5, .ref a6, .ref a7, .int o_readers119_75, .int o_p1_day91_54])), (a2, .inr (7, [.ref a9, w2_1, .int s_sky_many, w2_3])), (a3, .inl (E.2 4, 4, .inr (.inr (.inr (.inr s_ways))))), (a4, .inl (E.2 0, 1440, .inl o_p1_heights91_55)), (a5, .inl (E.2 0, 1440, .inl o_p1_highest91_56)), (a6, .inl (E.2 0, 1440, .inl o_marked119_76)), (a7, .inr (5, [.ref a10, w7_1])), (a8, .inl (E.2 0, 1440, .inl o_p1_shapes91_57)), (a9, .inl (E.2 3, 10, .inr (.inr (.inr (.inr s_sky_sources))))), (a10, .inl (E.2 0, 128, .inl o_reckoner_letters119_77))] := hV80.sub [0, 5, 1, 2, 6, 3, 7, 8, 9, 4, 10] rfl rfl
                clear hV70
                refine lv_aload_n hx hb dX11_passed_122 rfl (lv_at hlB74 0 rfl) ?_
                refine kget X hV80 (ci := 11) inlX11 rfl 0 rfl 3 (by decide) mw_27 rfl dX11_passed_123 ?_
                refine lv_iload_n hx hb dX11_passed_126 rfl (lv_at hlB74 1 rfl) ?_
                refine lv_iload_n hx hb dX11_passed_127 rfl (lv_at hlB74 2 rfl) ?_
                obtain ⟨r128_82, hc83, h84⟩ := cb1_s h79
                clear h79
                refine kgoiE (krunV (rest := []) X hV80 [1, 6] (c_X4_passedMarks l E _ a1 a6 (.ref a4) (.ref a8) (.ref a5) (.ref a7) (.int o_readers119_75) (.int o_p1_day91_54) o_marked119_76 p1 p2 r128_82 hc83) mw_866 kb_X4_passedMarks (ci := 4) rfl rfl (by decide) rfl rfl hlB74.1 rfl (Nat.le_of_ble_eq_true rfl) dX11_passed_128 (by decide)) X hV80 [1, 6] [0, 2, 3, 4, 5, 7, 8, 9, 10] rfl rfl rfl (by decide) (fun u H locs hV85 => ?_)
                have hV85 : kV E A s.heap H locs [(a0, .inr (11, [w0_0, w0_1, .ref a2, .ref a1, .ref a3, w0_5, w0_6, w0_7, w0_8])), (a1, .inr (4, [.ref a4, .ref a8, .ref a5, .ref a6, .ref a7, .int o_readers119_75, .int o_p1_day91_54])), (a2, .inr (7, [.ref a9, w2_1, .int s_sky_many, w2_3])), (a3, .inl (E.2 4, 4, .inr (.inr (.inr (.inr s_ways))))), (a4, .inl (E.2 0, 1440, .inl o_p1_heights91_55)), (a5, .inl (E.2 0, 1440, .inl o_p1_highest91_56)), (a6, .inl (E.2 0, 1440, .inl o_marked119_76)), (a7, .inr (5, [.ref a10, w7_1])), (a8, .inl (E.2 0, 1440, .inl o_p1_shapes91_57)), (a9, .inl (E.2 3, 10, .inr (.inr (.inr (.inr s_sky_sources))))), (a10, .inl (E.2 0, 128, .inl o_reckoner_letters119_77))] := hV85.sub [0, 9, 1, 2, 3, 4, 10, 5, 6, 7, 8] rfl rfl
                clear hV80
                refine lv_istore (lv' := [(9, .int r128_82), (0, .ref a0), (1, .int p1), (2, .int p2), (4, .int p4), (5, .int p5), (7, .int x7_41), (8, .int x8_42)]) hx hb dX11_passed_131 hlB74 (by decide) rfl (fun ls hl87 => ?_)
                clear hlB74
                refine lv_iload hx hb dX11_passed_133 (lv_at hl87 0 rfl) ?_
                have J164 : ∀  (H : Heap) (locs : List Loc) (ls : Array Slot), (f_X11_passed_J164 x7_41 x8_42 o_p1_day91_54 o_p1_heights91_55 o_p1_highest91_56 o_p1_shapes91_57 o_readers119_75 o_marked119_76 o_reckoner_letters119_77 r128_82 (f_X11_passed_L74 s_sky_many s_ways s_sky_sources p1 p2 p4 p5 (f_X11_passed_J143 p5 ) (f_X11_passed_J177 p5 ) n74)) = some (r, o_page_readers, o_page_day, o_page_heights, o_page_highest, o_page_marked, o_page_shapes, o_page_reckoner_letters) → kV E A s.heap H locs [(a0, .inr (11, [w0_0, w0_1, .ref a2, .ref a1, .ref a3, w0_5, w0_6, w0_7, w0_8])), (a1, .inr (4, [.ref a4, .ref a8, .ref a5, .ref a6, .ref a7, .int o_readers119_75, .int o_p1_day91_54])), (a2, .inr (7, [.ref a9, w2_1, .int s_sky_many, w2_3])), (a3, .inl (E.2 4, 4, .inr (.inr (.inr (.inr s_ways))))), (a4, .inl (E.2 0, 1440, .inl o_p1_heights91_55)), (a5, .inl (E.2 0, 1440, .inl o_p1_highest91_56)), (a6, .inl (E.2 0, 1440, .inl o_marked119_76)), (a7, .inr (5, [.ref a10, w7_1])), (a8, .inl (E.2 0, 1440, .inl o_p1_shapes91_57)), (a9, .inl (E.2 3, 10, .inr (.inr (.inr (.inr s_sky_sources))))), (a10, .inl (E.2 0, 128, .inl o_reckoner_letters119_77))] → lv_has ls 10 [(0, .ref a0), (1, .int p1), (2, .int p2), (4, .int p4), (5, .int p5), (7, .int x7_41), (8, .int x8_42), (9, .int r128_82)] → W p l e r_X11_passed s m args below meth c H locs 0 0 Q (F0 m 164 ls []) := by
                  intro  H locs ls hB164 hVB164 hlB164
                  rw [f_X11_passed_J164] at hB164
                  refine lv_iload hx hb dX11_passed_164 (lv_at hlB164 5 rfl) ?_
                  refine lv_iload hx hb dX11_passed_166 (lv_at hlB164 7 rfl) ?_
                  refine lv_iadd hx hb dX11_passed_168 ?_
                  obtain ⟨v169_88, e89, h90⟩ := nmI_s hB164
                  clear hB164
                  refine ktopi e89 ?_
                  clear e89
                  refine lv_istore (lv' := [(7, .int v169_88), (0, .ref a0), (1, .int p1), (2, .int p2), (4, .int p4), (5, .int p5), (8, .int x8_42), (9, .int r128_82)]) hx hb dX11_passed_169 hlB164 (by decide) rfl (fun ls hl91 => ?_)
                  clear hlB164
                  obtain ⟨v171_92, e93, h94⟩ := nmI_s h90
                  clear h90
                  refine lv_iinc (v := v171_92) (lv' := [(8, .int v171_92), (7, .int v169_88), (0, .ref a0), (1, .int p1), (2, .int p2), (4, .int p4), (5, .int p5), (9, .int r128_82)]) hx hb dX11_passed_171 hl91 (k := 6) rfl (by rw [e93]; rfl) (by decide) rfl (fun ls hl95 => ?_)
                  clear hl91 e93
                  refine lv_goto (tgt := 74) hx hb dX11_passed_174 (by decide) ?_
                  exact ih74 v169_88 v171_92 o_p1_day91_54 o_readers119_75 o_p1_heights91_55 o_p1_highest91_56 o_marked119_76 o_reckoner_letters119_77 o_p1_shapes91_57 _ _ _ h94 hVB164 (lv_sub hl95 [2, 3, 4, 5, 6, 1, 0] rfl)
                refine lv_if_le (tgt := 164) hx hb dX11_passed_135 (by decide) (fun c96 => ?_) (fun c96 => ?_)
                · have h97 := itS c96 h84
                  clear h84 c96
                  exact J164  _ _ _ h97 hV85 (lv_sub hl87 [1, 2, 3, 4, 5, 6, 7, 0] rfl)
                · have h98 := ieS c96 h84
                  clear h84 c96
                  refine lv_iload hx hb dX11_passed_138 (lv_at hl87 5 rfl) ?_
                  refine lv_if_le (tgt := 164) hx hb dX11_passed_140 (by decide) (fun c99 => ?_) (fun c99 => ?_)
                  · have h100 := itS c99 h98
                    clear h98 c99
                    exact J164  _ _ _ h100 hV85 (lv_sub hl87 [1, 2, 3, 4, 5, 6, 7, 0] rfl)
                  · have h101 := ieS c99 h98
                    clear h98 c99
                    exact J143 x8_42 o_p1_day91_54 o_readers119_75 o_p1_heights91_55 o_p1_highest91_56 o_marked119_76 o_reckoner_letters119_77 o_p1_shapes91_57 _ _ _ h101 hV85 (lv_sub hl87 [1, 2, 3, 5, 7] rfl)
          exact L74 FU 0 p3 s_page_day s_page_readers s_page_heights s_page_highest s_page_marked s_page_reckoner_letters s_page_shapes _ _ _ h15 hVB44 (lv_sub hl18 [3, 4, 5, 7, 8, 1, 0] rfl)
        · have h16 := ieS c14 h13
          clear h13 c14
          refine lv_iconst (v := (-1)) hx hb dX11_passed_66 (by decide) ?_
          cases h16
          exact hret _ () _ _ _ _ rfl rfl hVB44 dX11_passed_67
  refine lv_if_eq (tgt := 43) hx hb dX11_passed_4 (by decide) (fun c102 => ?_) (fun c102 => ?_)
  · have h103 := itS c102 h3
    clear h3 c102
    refine lv_iconst (v := 0) hx hb dX11_passed_43 (by decide) ?_
    exact J44 0 _ _ _ h103 hV4 (lv_sub hl [0, 1, 2, 3, 4, 5] rfl)
  · have h104 := ieS c102 h3
    clear h3 c102
    refine lv_iload_n hx hb dX11_passed_7 rfl (lv_at hl 2 rfl) ?_
    obtain ⟨r8_105, hc106, h107⟩ := cb1_s h104
    clear h104
    refine kgoiE (krunS (rest := []) X hV4 [] (c_X11_isReader l E _ p2 r8_105 hc106) mw_584 kb_X11_isReader (by decide) rfl rfl hl.1 rfl (Nat.le_of_ble_eq_true rfl) dX11_passed_8 (by decide)) X hV4 [] [0, 1, 2, 3, 4, 5, 6, 7, 8, 9, 10] rfl rfl rfl (by decide) (fun u H locs hV108 => ?_)
    have hV108 : kV E A s.heap H locs [(a0, .inr (11, [w0_0, w0_1, .ref a2, .ref a1, .ref a3, w0_5, w0_6, w0_7, w0_8])), (a1, .inr (4, [.ref a4, .ref a8, .ref a5, .ref a6, .ref a7, .int s_page_readers, .int s_page_day])), (a2, .inr (7, [.ref a9, w2_1, .int s_sky_many, w2_3])), (a3, .inl (E.2 4, 4, .inr (.inr (.inr (.inr s_ways))))), (a4, .inl (E.2 0, 1440, .inl s_page_heights)), (a5, .inl (E.2 0, 1440, .inl s_page_highest)), (a6, .inl (E.2 0, 1440, .inl s_page_marked)), (a7, .inr (5, [.ref a10, w7_1])), (a8, .inl (E.2 0, 1440, .inl s_page_shapes)), (a9, .inl (E.2 3, 10, .inr (.inr (.inr (.inr s_sky_sources))))), (a10, .inl (E.2 0, 128, .inl s_page_reckoner_letters))] := hV108.sub [0, 1, 2, 3, 4, 5, 6, 7, 8, 9, 10] rfl rfl
    clear hV4
    refine lv_if_eq (tgt := 43) hx hb dX11_passed_11 (by decide) (fun c110 => ?_) (fun c110 => ?_)
    · have h111 := itS c110 h107
      clear h107 c110
      refine lv_iconst (v := 0) hx hb dX11_passed_43 (by decide) ?_
      exact J44 0 _ _ _ h111 hV108 (lv_sub hl [0, 1, 2, 3, 4, 5] rfl)
    · have h112 := ieS c110 h107
      clear h107 c110
      refine lv_iload_n hx hb dX11_passed_14 rfl (lv_at hl 3 rfl) ?_
      obtain ⟨r15_113, hc114, h115⟩ := cb1_s h112
      clear h112
      refine kgoiE (krunS (rest := []) X hV108 [] (c_X11_isDay l E _ p3 r15_113 hc114) mw_622 kb_X11_isDay (by decide) rfl rfl hl.1 rfl (Nat.le_of_ble_eq_true rfl) dX11_passed_15 (by decide)) X hV108 [] [0, 1, 2, 3, 4, 5, 6, 7, 8, 9, 10] rfl rfl rfl (by decide) (fun u H locs hV116 => ?_)
      have hV116 : kV E A s.heap H locs [(a0, .inr (11, [w0_0, w0_1, .ref a2, .ref a1, .ref a3, w0_5, w0_6, w0_7, w0_8])), (a1, .inr (4, [.ref a4, .ref a8, .ref a5, .ref a6, .ref a7, .int s_page_readers, .int s_page_day])), (a2, .inr (7, [.ref a9, w2_1, .int s_sky_many, w2_3])), (a3, .inl (E.2 4, 4, .inr (.inr (.inr (.inr s_ways))))), (a4, .inl (E.2 0, 1440, .inl s_page_heights)), (a5, .inl (E.2 0, 1440, .inl s_page_highest)), (a6, .inl (E.2 0, 1440, .inl s_page_marked)), (a7, .inr (5, [.ref a10, w7_1])), (a8, .inl (E.2 0, 1440, .inl s_page_shapes)), (a9, .inl (E.2 3, 10, .inr (.inr (.inr (.inr s_sky_sources))))), (a10, .inl (E.2 0, 128, .inl s_page_reckoner_letters))] := hV116.sub [0, 1, 2, 3, 4, 5, 6, 7, 8, 9, 10] rfl rfl
      clear hV108
      refine lv_if_eq (tgt := 43) hx hb dX11_passed_18 (by decide) (fun c118 => ?_) (fun c118 => ?_)
      · have h119 := itS c118 h115
        clear h115 c118
        refine lv_iconst (v := 0) hx hb dX11_passed_43 (by decide) ?_
        exact J44 0 _ _ _ h119 hV116 (lv_sub hl [0, 1, 2, 3, 4, 5] rfl)
      · have h120 := ieS c118 h115
        clear h115 c118
        refine lv_iload hx hb dX11_passed_21 (lv_at hl 4 rfl) ?_
        obtain ⟨r23_121, hc122, h123⟩ := cb1_s h120
        clear h120
        refine kgoiE (krunS (rest := []) X hV116 [] (c_X11_isDay l E _ p4 r23_121 hc122) mw_622 kb_X11_isDay (by decide) rfl rfl hl.1 rfl (Nat.le_of_ble_eq_true rfl) dX11_passed_23 (by decide)) X hV116 [] [0, 1, 2, 3, 4, 5, 6, 7, 8, 9, 10] rfl rfl rfl (by decide) (fun u H locs hV124 => ?_)
        have hV124 : kV E A s.heap H locs [(a0, .inr (11, [w0_0, w0_1, .ref a2, .ref a1, .ref a3, w0_5, w0_6, w0_7, w0_8])), (a1, .inr (4, [.ref a4, .ref a8, .ref a5, .ref a6, .ref a7, .int s_page_readers, .int s_page_day])), (a2, .inr (7, [.ref a9, w2_1, .int s_sky_many, w2_3])), (a3, .inl (E.2 4, 4, .inr (.inr (.inr (.inr s_ways))))), (a4, .inl (E.2 0, 1440, .inl s_page_heights)), (a5, .inl (E.2 0, 1440, .inl s_page_highest)), (a6, .inl (E.2 0, 1440, .inl s_page_marked)), (a7, .inr (5, [.ref a10, w7_1])), (a8, .inl (E.2 0, 1440, .inl s_page_shapes)), (a9, .inl (E.2 3, 10, .inr (.inr (.inr (.inr s_sky_sources))))), (a10, .inl (E.2 0, 128, .inl s_page_reckoner_letters))] := hV124.sub [0, 1, 2, 3, 4, 5, 6, 7, 8, 9, 10] rfl rfl
        clear hV116
        refine lv_if_eq (tgt := 43) hx hb dX11_passed_26 (by decide) (fun c126 => ?_) (fun c126 => ?_)
        · have h127 := itS c126 h123
          clear h123 c126
          refine lv_iconst (v := 0) hx hb dX11_passed_43 (by decide) ?_
          exact J44 0 _ _ _ h127 hV124 (lv_sub hl [0, 1, 2, 3, 4, 5] rfl)
        · have h128 := ieS c126 h123
          clear h123 c126
          refine lv_iload hx hb dX11_passed_29 (lv_at hl 5 rfl) ?_
          refine lv_iconst (v := 0) hx hb dX11_passed_31 (by decide) ?_
          refine lv_iconst (v := 2) hx hb dX11_passed_32 (by decide) ?_
          obtain ⟨r33_129, hc130, h131⟩ := cb1_s h128
          clear h128
          refine kgoiE (krunS (rest := []) X hV124 [] (c_X11_isWithin l E _ p5 0 2 r33_129 hc130) mw_187 kb_X11_isWithin (by decide) rfl rfl hl.1 rfl (Nat.le_of_ble_eq_true rfl) dX11_passed_33 (by decide)) X hV124 [] [0, 1, 2, 3, 4, 5, 6, 7, 8, 9, 10] rfl rfl rfl (by decide) (fun u H locs hV132 => ?_)
          have hV132 : kV E A s.heap H locs [(a0, .inr (11, [w0_0, w0_1, .ref a2, .ref a1, .ref a3, w0_5, w0_6, w0_7, w0_8])), (a1, .inr (4, [.ref a4, .ref a8, .ref a5, .ref a6, .ref a7, .int s_page_readers, .int s_page_day])), (a2, .inr (7, [.ref a9, w2_1, .int s_sky_many, w2_3])), (a3, .inl (E.2 4, 4, .inr (.inr (.inr (.inr s_ways))))), (a4, .inl (E.2 0, 1440, .inl s_page_heights)), (a5, .inl (E.2 0, 1440, .inl s_page_highest)), (a6, .inl (E.2 0, 1440, .inl s_page_marked)), (a7, .inr (5, [.ref a10, w7_1])), (a8, .inl (E.2 0, 1440, .inl s_page_shapes)), (a9, .inl (E.2 3, 10, .inr (.inr (.inr (.inr s_sky_sources))))), (a10, .inl (E.2 0, 128, .inl s_page_reckoner_letters))] := hV132.sub [0, 1, 2, 3, 4, 5, 6, 7, 8, 9, 10] rfl rfl
          clear hV124
          refine lv_if_eq (tgt := 43) hx hb dX11_passed_36 (by decide) (fun c134 => ?_) (fun c134 => ?_)
          · have h135 := itS c134 h131
            clear h131 c134
            refine lv_iconst (v := 0) hx hb dX11_passed_43 (by decide) ?_
            exact J44 0 _ _ _ h135 hV132 (lv_sub hl [0, 1, 2, 3, 4, 5] rfl)
          · have h136 := ieS c134 h131
            clear h131 c134
            refine lv_iconst (v := 1) hx hb dX11_passed_39 (by decide) ?_
            refine lv_goto (tgt := 44) hx hb dX11_passed_40 (by decide) ?_
            exact J44 1 _ _ _ h136 hV132 (lv_sub hl [0, 1, 2, 3, 4, 5] rfl)
abbrev r_X11_note : Room := { frames := 2, cells := 0, slots := 0, locals := 42 }
set_option maxHeartbeats 4000000 in
set_option maxRecDepth 100000 in
theorem c_X11_note (l : Launch) (E : kE) (sz : Nat) (a0 a1 a2 a3 a4 : Nat) (w0_0 w0_1 w0_2 w0_3 w0_4 w0_6 w0_7 w0_8 w1_3 : Value) (s_notes_many : Int32) (s_notes_days : Nat → Int32) (s_notes_minutes : Nat → Int32) (s_notes_shapes : Nat → Int32) (p1 : Int32) (p2 : Int32) (p3 : Int32) (r : Int32) (o_notes_many : Int32) (o_notes_days : Nat → Int32) (o_notes_minutes : Nat → Int32) (o_notes_shapes : Nat → Int32) (h : f_X11_note s_notes_many s_notes_days s_notes_minutes s_notes_shapes p1 p2 p3 = some (r, o_notes_many, o_notes_days, o_notes_minutes, o_notes_shapes)) : kMi l yX11_note cX11_note 5 (some .int) r_X11_note [.ref a0, .int p1, .int p2, .int p3] E [(a0, .inr (11, [w0_0, w0_1, w0_2, w0_3, w0_4, .ref a1, w0_6, w0_7, w0_8])), (a1, .inr (3, [.ref a2, .ref a3, .ref a4, w1_3, .int s_notes_many])), (a2, .inl (E.2 0, 40, .inl s_notes_days)), (a3, .inl (E.2 0, 40, .inl s_notes_minutes)), (a4, .inl (E.2 0, 40, .inl s_notes_shapes))] sz 0 0 (fun x (_ : Unit) => x = r) (fun _ => [(a0, .inr (11, [w0_0, w0_1, w0_2, w0_3, w0_4, .ref a1, w0_6, w0_7, w0_8])), (a1, .inr (3, [.ref a2, .ref a3, .ref a4, w1_3, .int o_notes_many])), (a2, .inl (E.2 0, 40, .inl o_notes_days)), (a3, .inl (E.2 0, 40, .inl o_notes_minutes)), (a4, .inl (E.2 0, 40, .inl o_notes_shapes))]) := by
  refine kmeti rfl (Nat.le_of_ble_eq_true rfl) ?_
  intro p e s m args below meth c ls A Q X hV hret hl
  have X : kC p s m c cX11_note 5 RX11 args E A := X
  have hx := X.1
  have hb := X.2.1
  have hl : lv_has ls 5 [(0, .ref a0), (1, .int p1), (2, .int p2), (3, .int p3)] := hl
  rw [f_X11_note] at h
  refine lv_iload_n hx hb dX11_note_0 rfl (lv_at hl 1 rfl) ?_
  obtain ⟨r1_1, hc2, h3⟩ := cb1_s h
  clear h
  refine kgoiE (krunS (rest := []) X hV [] (c_X11_isDay l E _ p1 r1_1 hc2) mw_622 kb_X11_isDay (by decide) rfl rfl hl.1 rfl (Nat.le_of_ble_eq_true rfl) dX11_note_1 (by decide)) X hV [] [0, 1, 2, 3, 4] rfl rfl rfl (by decide) (fun u H locs hV4 => ?_)
  have hV4 : kV E A s.heap H locs [(a0, .inr (11, [w0_0, w0_1, w0_2, w0_3, w0_4, .ref a1, w0_6, w0_7, w0_8])), (a1, .inr (3, [.ref a2, .ref a3, .ref a4, w1_3, .int s_notes_many])), (a2, .inl (E.2 0, 40, .inl s_notes_days)), (a3, .inl (E.2 0, 40, .inl s_notes_minutes)), (a4, .inl (E.2 0, 40, .inl s_notes_shapes))] := hV4.sub [0, 1, 2, 3, 4] rfl rfl
  clear hV
  have J26 : ∀ (t0_6 : Int32) (H : Heap) (locs : List Loc) (ls : Array Slot), (f_X11_note_J26 s_notes_many s_notes_days s_notes_minutes s_notes_shapes p1 p2 p3 ) t0_6 = some (r, o_notes_many, o_notes_days, o_notes_minutes, o_notes_shapes) → kV E A s.heap H locs [(a0, .inr (11, [w0_0, w0_1, w0_2, w0_3, w0_4, .ref a1, w0_6, w0_7, w0_8])), (a1, .inr (3, [.ref a2, .ref a3, .ref a4, w1_3, .int s_notes_many])), (a2, .inl (E.2 0, 40, .inl s_notes_days)), (a3, .inl (E.2 0, 40, .inl s_notes_minutes)), (a4, .inl (E.2 0, 40, .inl s_notes_shapes))] → lv_has ls 5 [(0, .ref a0), (1, .int p1), (2, .int p2), (3, .int p3)] → W p l e r_X11_note s m args below meth c H locs 0 0 Q (F0 m 26 ls [.int t0_6]) := by
    intro t0_6 H locs ls hB26 hVB26 hlB26
    rw [f_X11_note_J26] at hB26
    refine lv_istore (lv' := [(4, .int t0_6), (0, .ref a0), (1, .int p1), (2, .int p2), (3, .int p3)]) hx hb dX11_note_26 hlB26 (by decide) rfl (fun ls hl7 => ?_)
    clear hlB26
    refine lv_iload hx hb dX11_note_28 (lv_at hl7 0 rfl) ?_
    refine lv_if_eq (tgt := 46) hx hb dX11_note_30 (by decide) (fun c8 => ?_) (fun c8 => ?_)
    · have h9 := itS c8 hB26
      clear hB26 c8
      refine lv_iconst (v := (-1)) hx hb dX11_note_46 (by decide) ?_
      cases h9
      exact hret _ () _ _ _ _ rfl rfl hVB26 dX11_note_47
    · have h10 := ieS c8 hB26
      clear hB26 c8
      refine lv_aload_n hx hb dX11_note_33 rfl (lv_at hl7 1 rfl) ?_
      refine kget X hVB26 (ci := 11) inlX11 rfl 0 rfl 5 (by decide) mw_33 rfl dX11_note_34 ?_
      refine lv_iload_n hx hb dX11_note_37 rfl (lv_at hl7 2 rfl) ?_
      refine lv_iload_n hx hb dX11_note_38 rfl (lv_at hl7 3 rfl) ?_
      refine lv_iload_n hx hb dX11_note_39 rfl (lv_at hl7 4 rfl) ?_
      obtain ⟨r40_11, o_many40_12, o_days40_13, o_minutes40_14, o_shapes40_15, hc16, h17⟩ := cb5_s h10
      clear h10
      refine kgoiE (krunV (rest := []) X hVB26 [1, 2, 3, 4] (c_X3_add l E _ a1 a2 a3 a4 (w1_3) s_notes_many s_notes_days s_notes_minutes s_notes_shapes p1 p2 p3 r40_11 o_many40_12 o_days40_13 o_minutes40_14 o_shapes40_15 hc16) mw_891 kb_X3_add (ci := 3) rfl rfl (by decide) rfl rfl hl7.1 rfl (Nat.le_of_ble_eq_true rfl) dX11_note_40 (by decide)) X hVB26 [1, 2, 3, 4] [0] rfl rfl rfl (by decide) (fun u H locs hV18 => ?_)
      have hV18 : kV E A s.heap H locs [(a0, .inr (11, [w0_0, w0_1, w0_2, w0_3, w0_4, .ref a1, w0_6, w0_7, w0_8])), (a1, .inr (3, [.ref a2, .ref a3, .ref a4, w1_3, .int o_many40_12])), (a2, .inl (E.2 0, 40, .inl o_days40_13)), (a3, .inl (E.2 0, 40, .inl o_minutes40_14)), (a4, .inl (E.2 0, 40, .inl o_shapes40_15))] := hV18.sub [0, 1, 2, 3, 4] rfl rfl
      clear hVB26
      refine lv_goto (tgt := 47) hx hb dX11_note_43 (by decide) ?_
      cases h17
      exact hret _ () _ _ _ _ rfl rfl hV18 dX11_note_47
  refine lv_if_eq (tgt := 25) hx hb dX11_note_4 (by decide) (fun c20 => ?_) (fun c20 => ?_)
  · have h21 := itS c20 h3
    clear h3 c20
    refine lv_iconst (v := 0) hx hb dX11_note_25 (by decide) ?_
    exact J26 0 _ _ _ h21 hV4 (lv_sub hl [0, 1, 2, 3] rfl)
  · have h22 := ieS c20 h3
    clear h3 c20
    refine lv_iload_n hx hb dX11_note_7 rfl (lv_at hl 2 rfl) ?_
    obtain ⟨r8_23, hc24, h25⟩ := cb1_s h22
    clear h22
    refine kgoiE (krunS (rest := []) X hV4 [] (c_X11_isMinute l E _ p2 r8_23 hc24) mw_184 kb_X11_isMinute (by decide) rfl rfl hl.1 rfl (Nat.le_of_ble_eq_true rfl) dX11_note_8 (by decide)) X hV4 [] [0, 1, 2, 3, 4] rfl rfl rfl (by decide) (fun u H locs hV26 => ?_)
    have hV26 : kV E A s.heap H locs [(a0, .inr (11, [w0_0, w0_1, w0_2, w0_3, w0_4, .ref a1, w0_6, w0_7, w0_8])), (a1, .inr (3, [.ref a2, .ref a3, .ref a4, w1_3, .int s_notes_many])), (a2, .inl (E.2 0, 40, .inl s_notes_days)), (a3, .inl (E.2 0, 40, .inl s_notes_minutes)), (a4, .inl (E.2 0, 40, .inl s_notes_shapes))] := hV26.sub [0, 1, 2, 3, 4] rfl rfl
    clear hV4
    refine lv_if_eq (tgt := 25) hx hb dX11_note_11 (by decide) (fun c28 => ?_) (fun c28 => ?_)
    · have h29 := itS c28 h25
      clear h25 c28
      refine lv_iconst (v := 0) hx hb dX11_note_25 (by decide) ?_
      exact J26 0 _ _ _ h29 hV26 (lv_sub hl [0, 1, 2, 3] rfl)
    · have h30 := ieS c28 h25
      clear h25 c28
      refine lv_iload_n hx hb dX11_note_14 rfl (lv_at hl 3 rfl) ?_
      obtain ⟨r15_31, hc32, h33⟩ := cb1_s h30
      clear h30
      refine kgoiE (krunS (rest := []) X hV26 [] (c_X11_isShape l E _ p3 r15_31 hc32) mw_190 kb_X11_isShape (by decide) rfl rfl hl.1 rfl (Nat.le_of_ble_eq_true rfl) dX11_note_15 (by decide)) X hV26 [] [0, 1, 2, 3, 4] rfl rfl rfl (by decide) (fun u H locs hV34 => ?_)
      have hV34 : kV E A s.heap H locs [(a0, .inr (11, [w0_0, w0_1, w0_2, w0_3, w0_4, .ref a1, w0_6, w0_7, w0_8])), (a1, .inr (3, [.ref a2, .ref a3, .ref a4, w1_3, .int s_notes_many])), (a2, .inl (E.2 0, 40, .inl s_notes_days)), (a3, .inl (E.2 0, 40, .inl s_notes_minutes)), (a4, .inl (E.2 0, 40, .inl s_notes_shapes))] := hV34.sub [0, 1, 2, 3, 4] rfl rfl
      clear hV26
      refine lv_if_eq (tgt := 25) hx hb dX11_note_18 (by decide) (fun c36 => ?_) (fun c36 => ?_)
      · have h37 := itS c36 h33
        clear h33 c36
        refine lv_iconst (v := 0) hx hb dX11_note_25 (by decide) ?_
        exact J26 0 _ _ _ h37 hV34 (lv_sub hl [0, 1, 2, 3] rfl)
      · have h38 := ieS c36 h33
        clear h33 c36
        refine lv_iconst (v := 1) hx hb dX11_note_21 (by decide) ?_
        refine lv_goto (tgt := 26) hx hb dX11_note_22 (by decide) ?_
        exact J26 1 _ _ _ h38 hV34 (lv_sub hl [0, 1, 2, 3] rfl)
abbrev r_X11_one : Room := { frames := 3, cells := 0, slots := 0, locals := 71 }
set_option maxHeartbeats 4000000 in
set_option maxRecDepth 100000 in
theorem c_X11_one (l : Launch) (E : kE) (sz : Nat) (a0 a1 a2 a3 a4 a5 : Nat) (w0_0 w0_1 w0_2 w0_3 w0_4 w0_6 w0_7 w0_8 : Value) (s_notes_many : Int32) (s_notes_days : Nat → Int32) (s_notes_gathered : Nat → Int32) (s_notes_minutes : Nat → Int32) (s_notes_shapes : Nat → Int32) (p1 : Int32) (p2 : Int32) (r : Int32) (o_notes_gathered : Nat → Int32) (h : f_X11_one s_notes_many s_notes_days s_notes_gathered s_notes_minutes s_notes_shapes p1 p2 = some (r, o_notes_gathered)) : kMi l yX11_one cX11_one 3 (some .int) r_X11_one [.ref a0, .int p1, .int p2] E [(a0, .inr (11, [w0_0, w0_1, w0_2, w0_3, w0_4, .ref a1, w0_6, w0_7, w0_8])), (a1, .inr (3, [.ref a2, .ref a4, .ref a5, .ref a3, .int s_notes_many])), (a2, .inl (E.2 0, 40, .inl s_notes_days)), (a3, .inl (E.2 0, 40, .inl s_notes_gathered)), (a4, .inl (E.2 0, 40, .inl s_notes_minutes)), (a5, .inl (E.2 0, 40, .inl s_notes_shapes))] sz 0 0 (fun x (_ : Unit) => x = r) (fun _ => [(a0, .inr (11, [w0_0, w0_1, w0_2, w0_3, w0_4, .ref a1, w0_6, w0_7, w0_8])), (a1, .inr (3, [.ref a2, .ref a4, .ref a5, .ref a3, .int s_notes_many])), (a2, .inl (E.2 0, 40, .inl s_notes_days)), (a3, .inl (E.2 0, 40, .inl o_notes_gathered)), (a4, .inl (E.2 0, 40, .inl s_notes_minutes)), (a5, .inl (E.2 0, 40, .inl s_notes_shapes))]) := by
  refine kmeti rfl (Nat.le_of_ble_eq_true rfl) ?_
  intro p e s m args below meth c ls A Q X hV hret hl
  have X : kC p s m c cX11_one 3 RX11 args E A := X
  have hx := X.1
  have hb := X.2.1
  have hl : lv_has ls 3 [(0, .ref a0), (1, .int p1), (2, .int p2)] := hl
  rw [f_X11_one] at h
  refine lv_iload_n hx hb dX11_one_0 rfl (lv_at hl 1 rfl) ?_
  obtain ⟨r1_1, hc2, h3⟩ := cb1_s h
  clear h
  refine kgoiE (krunS (rest := []) X hV [] (c_X11_isShape l E _ p1 r1_1 hc2) mw_190 kb_X11_isShape (by decide) rfl rfl hl.1 rfl (Nat.le_of_ble_eq_true rfl) dX11_one_1 (by decide)) X hV [] [0, 1, 2, 3, 4, 5] rfl rfl rfl (by decide) (fun u H locs hV4 => ?_)
  have hV4 : kV E A s.heap H locs [(a0, .inr (11, [w0_0, w0_1, w0_2, w0_3, w0_4, .ref a1, w0_6, w0_7, w0_8])), (a1, .inr (3, [.ref a2, .ref a4, .ref a5, .ref a3, .int s_notes_many])), (a2, .inl (E.2 0, 40, .inl s_notes_days)), (a3, .inl (E.2 0, 40, .inl s_notes_gathered)), (a4, .inl (E.2 0, 40, .inl s_notes_minutes)), (a5, .inl (E.2 0, 40, .inl s_notes_shapes))] := hV4.sub [0, 1, 2, 3, 4, 5] rfl rfl
  clear hV
  refine lv_if_eq (tgt := 18) hx hb dX11_one_4 (by decide) (fun c6 => ?_) (fun c6 => ?_)
  · have h7 := itS c6 h3
    clear h3 c6
    refine lv_iconst (v := (-1)) hx hb dX11_one_18 (by decide) ?_
    cases h7
    exact hret _ () _ _ _ _ rfl rfl hV4 dX11_one_19
  · have h8 := ieS c6 h3
    clear h3 c6
    refine lv_iload_n hx hb dX11_one_7 rfl (lv_at hl 2 rfl) ?_
    refine lv_iconst (v := 0) hx hb dX11_one_8 (by decide) ?_
    refine lv_sipush (v := 700) hx hb dX11_one_9 (by decide) ?_
    obtain ⟨r12_9, hc10, h11⟩ := cb1_s h8
    clear h8
    refine kgoiE (krunS (rest := []) X hV4 [] (c_X11_isWithin l E _ p2 0 700 r12_9 hc10) mw_187 kb_X11_isWithin (by decide) rfl rfl hl.1 rfl (Nat.le_of_ble_eq_true rfl) dX11_one_12 (by decide)) X hV4 [] [0, 1, 2, 3, 4, 5] rfl rfl rfl (by decide) (fun u H locs hV12 => ?_)
    have hV12 : kV E A s.heap H locs [(a0, .inr (11, [w0_0, w0_1, w0_2, w0_3, w0_4, .ref a1, w0_6, w0_7, w0_8])), (a1, .inr (3, [.ref a2, .ref a4, .ref a5, .ref a3, .int s_notes_many])), (a2, .inl (E.2 0, 40, .inl s_notes_days)), (a3, .inl (E.2 0, 40, .inl s_notes_gathered)), (a4, .inl (E.2 0, 40, .inl s_notes_minutes)), (a5, .inl (E.2 0, 40, .inl s_notes_shapes))] := hV12.sub [0, 1, 2, 3, 4, 5] rfl rfl
    clear hV4
    refine lv_if_ne (tgt := 20) hx hb dX11_one_15 (by decide) (fun c14 => ?_) (fun c14 => ?_)
    · have h15 := ieS c14 h11
      clear h11 c14
      refine lv_aload_n hx hb dX11_one_20 rfl (lv_at hl 0 rfl) ?_
      refine kget X hV12 (ci := 11) inlX11 rfl 0 rfl 5 (by decide) mw_33 rfl dX11_one_21 ?_
      refine lv_iload_n hx hb dX11_one_24 rfl (lv_at hl 1 rfl) ?_
      refine lv_iload_n hx hb dX11_one_25 rfl (lv_at hl 2 rfl) ?_
      refine lv_sipush (v := 400) hx hb dX11_one_26 (by decide) ?_
      obtain ⟨r29_17, o_gathered29_18, hc19, h20⟩ := cb2_s h15
      clear h15
      refine kgoiE (krunV (rest := []) X hV12 [1, 2, 3, 4, 5] (c_X3_oneBy l E _ a1 a2 a3 a4 a5 s_notes_many s_notes_days s_notes_gathered s_notes_minutes s_notes_shapes p1 p2 400 r29_17 o_gathered29_18 hc19) mw_904 kb_X3_oneBy (ci := 3) rfl rfl (by decide) rfl rfl hl.1 rfl (Nat.le_of_ble_eq_true rfl) dX11_one_29 (by decide)) X hV12 [1, 2, 3, 4, 5] [0] rfl rfl rfl (by decide) (fun u H locs hV21 => ?_)
      have hV21 : kV E A s.heap H locs [(a0, .inr (11, [w0_0, w0_1, w0_2, w0_3, w0_4, .ref a1, w0_6, w0_7, w0_8])), (a1, .inr (3, [.ref a2, .ref a4, .ref a5, .ref a3, .int s_notes_many])), (a2, .inl (E.2 0, 40, .inl s_notes_days)), (a3, .inl (E.2 0, 40, .inl o_gathered29_18)), (a4, .inl (E.2 0, 40, .inl s_notes_minutes)), (a5, .inl (E.2 0, 40, .inl s_notes_shapes))] := hV21.sub [0, 1, 2, 3, 4, 5] rfl rfl
      clear hV12
      cases h20
      exact hret _ () _ _ _ _ rfl rfl hV21 dX11_one_32
    · have h16 := itS c14 h11
      clear h11 c14
      refine lv_iconst (v := (-1)) hx hb dX11_one_18 (by decide) ?_
      cases h16
      exact hret _ () _ _ _ _ rfl rfl hV12 dX11_one_19
abbrev r_X11_known : Room := { frames := 4, cells := 0, slots := 0, locals := 95 }
set_option maxHeartbeats 4000000 in
set_option maxRecDepth 100000 in
theorem c_X11_known (l : Launch) (E : kE) (sz : Nat) (a0 a1 a2 a3 a4 a5 : Nat) (w0_0 w0_1 w0_2 w0_3 w0_4 w0_6 w0_7 w0_8 : Value) (s_notes_many : Int32) (s_notes_days : Nat → Int32) (s_notes_gathered : Nat → Int32) (s_notes_minutes : Nat → Int32) (s_notes_shapes : Nat → Int32) (p1 : Int32) (p2 : Int32) (r : Int32) (o_notes_gathered : Nat → Int32) (h : f_X11_known s_notes_many s_notes_days s_notes_gathered s_notes_minutes s_notes_shapes p1 p2 = some (r, o_notes_gathered)) : kMi l yX11_known cX11_known 3 (some .int) r_X11_known [.ref a0, .int p1, .int p2] E [(a0, .inr (11, [w0_0, w0_1, w0_2, w0_3, w0_4, .ref a1, w0_6, w0_7, w0_8])), (a1, .inr (3, [.ref a2, .ref a4, .ref a5, .ref a3, .int s_notes_many])), (a2, .inl (E.2 0, 40, .inl s_notes_days)), (a3, .inl (E.2 0, 40, .inl s_notes_gathered)), (a4, .inl (E.2 0, 40, .inl s_notes_minutes)), (a5, .inl (E.2 0, 40, .inl s_notes_shapes))] sz 0 0 (fun x (_ : Unit) => x = r) (fun _ => [(a0, .inr (11, [w0_0, w0_1, w0_2, w0_3, w0_4, .ref a1, w0_6, w0_7, w0_8])), (a1, .inr (3, [.ref a2, .ref a4, .ref a5, .ref a3, .int s_notes_many])), (a2, .inl (E.2 0, 40, .inl s_notes_days)), (a3, .inl (E.2 0, 40, .inl o_notes_gathered)), (a4, .inl (E.2 0, 40, .inl s_notes_minutes)), (a5, .inl (E.2 0, 40, .inl s_notes_shapes))]) := by
  refine kmeti rfl (Nat.le_of_ble_eq_true rfl) ?_
  intro p e s m args below meth c ls A Q X hV hret hl
  have X : kC p s m c cX11_known 3 RX11 args E A := X
  have hx := X.1
  have hb := X.2.1
  have hl : lv_has ls 3 [(0, .ref a0), (1, .int p1), (2, .int p2)] := hl
  rw [f_X11_known] at h
  refine lv_iload_n hx hb dX11_known_0 rfl (lv_at hl 1 rfl) ?_
  obtain ⟨r1_1, hc2, h3⟩ := cb1_s h
  clear h
  refine kgoiE (krunS (rest := []) X hV [] (c_X11_isShape l E _ p1 r1_1 hc2) mw_190 kb_X11_isShape (by decide) rfl rfl hl.1 rfl (Nat.le_of_ble_eq_true rfl) dX11_known_1 (by decide)) X hV [] [0, 1, 2, 3, 4, 5] rfl rfl rfl (by decide) (fun u H locs hV4 => ?_)
  have hV4 : kV E A s.heap H locs [(a0, .inr (11, [w0_0, w0_1, w0_2, w0_3, w0_4, .ref a1, w0_6, w0_7, w0_8])), (a1, .inr (3, [.ref a2, .ref a4, .ref a5, .ref a3, .int s_notes_many])), (a2, .inl (E.2 0, 40, .inl s_notes_days)), (a3, .inl (E.2 0, 40, .inl s_notes_gathered)), (a4, .inl (E.2 0, 40, .inl s_notes_minutes)), (a5, .inl (E.2 0, 40, .inl s_notes_shapes))] := hV4.sub [0, 1, 2, 3, 4, 5] rfl rfl
  clear hV
  refine lv_if_eq (tgt := 18) hx hb dX11_known_4 (by decide) (fun c6 => ?_) (fun c6 => ?_)
  · have h7 := itS c6 h3
    clear h3 c6
    refine lv_iconst (v := (-1)) hx hb dX11_known_18 (by decide) ?_
    cases h7
    exact hret _ () _ _ _ _ rfl rfl hV4 dX11_known_19
  · have h8 := ieS c6 h3
    clear h3 c6
    refine lv_iload_n hx hb dX11_known_7 rfl (lv_at hl 2 rfl) ?_
    refine lv_iconst (v := 0) hx hb dX11_known_8 (by decide) ?_
    refine lv_sipush (v := 700) hx hb dX11_known_9 (by decide) ?_
    obtain ⟨r12_9, hc10, h11⟩ := cb1_s h8
    clear h8
    refine kgoiE (krunS (rest := []) X hV4 [] (c_X11_isWithin l E _ p2 0 700 r12_9 hc10) mw_187 kb_X11_isWithin (by decide) rfl rfl hl.1 rfl (Nat.le_of_ble_eq_true rfl) dX11_known_12 (by decide)) X hV4 [] [0, 1, 2, 3, 4, 5] rfl rfl rfl (by decide) (fun u H locs hV12 => ?_)
    have hV12 : kV E A s.heap H locs [(a0, .inr (11, [w0_0, w0_1, w0_2, w0_3, w0_4, .ref a1, w0_6, w0_7, w0_8])), (a1, .inr (3, [.ref a2, .ref a4, .ref a5, .ref a3, .int s_notes_many])), (a2, .inl (E.2 0, 40, .inl s_notes_days)), (a3, .inl (E.2 0, 40, .inl s_notes_gathered)), (a4, .inl (E.2 0, 40, .inl s_notes_minutes)), (a5, .inl (E.2 0, 40, .inl s_notes_shapes))] := hV12.sub [0, 1, 2, 3, 4, 5] rfl rfl
    clear hV4
    refine lv_if_ne (tgt := 20) hx hb dX11_known_15 (by decide) (fun c14 => ?_) (fun c14 => ?_)
    · have h15 := ieS c14 h11
      clear h11 c14
      refine lv_aload_n hx hb dX11_known_20 rfl (lv_at hl 0 rfl) ?_
      refine kget X hV12 (ci := 11) inlX11 rfl 0 rfl 5 (by decide) mw_33 rfl dX11_known_21 ?_
      refine lv_iload_n hx hb dX11_known_24 rfl (lv_at hl 1 rfl) ?_
      refine lv_iload_n hx hb dX11_known_25 rfl (lv_at hl 2 rfl) ?_
      obtain ⟨r26_17, o_gathered26_18, hc19, h20⟩ := cb2_s h15
      clear h15
      refine kgoiE (krunV (rest := []) X hV12 [1, 2, 3, 4, 5] (c_X3_knownDay l E _ a1 a2 a3 a4 a5 s_notes_many s_notes_days s_notes_gathered s_notes_minutes s_notes_shapes p1 p2 r26_17 o_gathered26_18 hc19) mw_952 kb_X3_knownDay (ci := 3) rfl rfl (by decide) rfl rfl hl.1 rfl (Nat.le_of_ble_eq_true rfl) dX11_known_26 (by decide)) X hV12 [1, 2, 3, 4, 5] [0] rfl rfl rfl (by decide) (fun u H locs hV21 => ?_)
      have hV21 : kV E A s.heap H locs [(a0, .inr (11, [w0_0, w0_1, w0_2, w0_3, w0_4, .ref a1, w0_6, w0_7, w0_8])), (a1, .inr (3, [.ref a2, .ref a4, .ref a5, .ref a3, .int s_notes_many])), (a2, .inl (E.2 0, 40, .inl s_notes_days)), (a3, .inl (E.2 0, 40, .inl o_gathered26_18)), (a4, .inl (E.2 0, 40, .inl s_notes_minutes)), (a5, .inl (E.2 0, 40, .inl s_notes_shapes))] := hV21.sub [0, 1, 2, 3, 4, 5] rfl rfl
      clear hV12
      cases h20
      exact hret _ () _ _ _ _ rfl rfl hV21 dX11_known_29
    · have h16 := itS c14 h11
      clear h11 c14
      refine lv_iconst (v := (-1)) hx hb dX11_known_18 (by decide) ?_
      cases h16
      exact hret _ () _ _ _ _ rfl rfl hV12 dX11_known_19
abbrev r_X11_row : Room := { frames := 3, cells := 0, slots := 0, locals := 74 }
set_option maxHeartbeats 4000000 in
set_option maxRecDepth 100000 in
theorem c_X11_row (l : Launch) (E : kE) (sz : Nat) (a0 a1 a2 a3 a4 a5 : Nat) (w0_0 w0_1 w0_2 w0_3 w0_4 w0_6 w0_7 w0_8 : Value) (s_notes_many : Int32) (s_notes_days : Nat → Int32) (s_notes_gathered : Nat → Int32) (s_notes_minutes : Nat → Int32) (s_notes_shapes : Nat → Int32) (p1 : Int32) (p2 : Int32) (p3 : Int32) (r : Int32) (o_notes_gathered : Nat → Int32) (h : f_X11_row s_notes_many s_notes_days s_notes_gathered s_notes_minutes s_notes_shapes p1 p2 p3 = some (r, o_notes_gathered)) : kMi l yX11_row cX11_row 4 (some .int) r_X11_row [.ref a0, .int p1, .int p2, .int p3] E [(a0, .inr (11, [w0_0, w0_1, w0_2, w0_3, w0_4, .ref a1, w0_6, w0_7, w0_8])), (a1, .inr (3, [.ref a2, .ref a4, .ref a5, .ref a3, .int s_notes_many])), (a2, .inl (E.2 0, 40, .inl s_notes_days)), (a3, .inl (E.2 0, 40, .inl s_notes_gathered)), (a4, .inl (E.2 0, 40, .inl s_notes_minutes)), (a5, .inl (E.2 0, 40, .inl s_notes_shapes))] sz 0 0 (fun x (_ : Unit) => x = r) (fun _ => [(a0, .inr (11, [w0_0, w0_1, w0_2, w0_3, w0_4, .ref a1, w0_6, w0_7, w0_8])), (a1, .inr (3, [.ref a2, .ref a4, .ref a5, .ref a3, .int s_notes_many])), (a2, .inl (E.2 0, 40, .inl s_notes_days)), (a3, .inl (E.2 0, 40, .inl o_notes_gathered)), (a4, .inl (E.2 0, 40, .inl s_notes_minutes)), (a5, .inl (E.2 0, 40, .inl s_notes_shapes))]) := by
  refine kmeti rfl (Nat.le_of_ble_eq_true rfl) ?_
  intro p e s m args below meth c ls A Q X hV hret hl
  have X : kC p s m c cX11_row 4 RX11 args E A := X
  have hx := X.1
  have hb := X.2.1
  have hl : lv_has ls 4 [(0, .ref a0), (1, .int p1), (2, .int p2), (3, .int p3)] := hl
  rw [f_X11_row] at h
  refine lv_iload_n hx hb dX11_row_0 rfl (lv_at hl 1 rfl) ?_
  obtain ⟨r1_1, hc2, h3⟩ := cb1_s h
  clear h
  refine kgoiE (krunS (rest := []) X hV [] (c_X11_isShape l E _ p1 r1_1 hc2) mw_190 kb_X11_isShape (by decide) rfl rfl hl.1 rfl (Nat.le_of_ble_eq_true rfl) dX11_row_1 (by decide)) X hV [] [0, 1, 2, 3, 4, 5] rfl rfl rfl (by decide) (fun u H locs hV4 => ?_)
  have hV4 : kV E A s.heap H locs [(a0, .inr (11, [w0_0, w0_1, w0_2, w0_3, w0_4, .ref a1, w0_6, w0_7, w0_8])), (a1, .inr (3, [.ref a2, .ref a4, .ref a5, .ref a3, .int s_notes_many])), (a2, .inl (E.2 0, 40, .inl s_notes_days)), (a3, .inl (E.2 0, 40, .inl s_notes_gathered)), (a4, .inl (E.2 0, 40, .inl s_notes_minutes)), (a5, .inl (E.2 0, 40, .inl s_notes_shapes))] := hV4.sub [0, 1, 2, 3, 4, 5] rfl rfl
  clear hV
  refine lv_if_eq (tgt := 27) hx hb dX11_row_4 (by decide) (fun c6 => ?_) (fun c6 => ?_)
  · have h7 := itS c6 h3
    clear h3 c6
    refine lv_iconst (v := (-1)) hx hb dX11_row_27 (by decide) ?_
    cases h7
    exact hret _ () _ _ _ _ rfl rfl hV4 dX11_row_28
  · have h8 := ieS c6 h3
    clear h3 c6
    refine lv_iload_n hx hb dX11_row_7 rfl (lv_at hl 2 rfl) ?_
    refine lv_iconst (v := 0) hx hb dX11_row_8 (by decide) ?_
    refine lv_sipush (v := 700) hx hb dX11_row_9 (by decide) ?_
    obtain ⟨r12_9, hc10, h11⟩ := cb1_s h8
    clear h8
    refine kgoiE (krunS (rest := []) X hV4 [] (c_X11_isWithin l E _ p2 0 700 r12_9 hc10) mw_187 kb_X11_isWithin (by decide) rfl rfl hl.1 rfl (Nat.le_of_ble_eq_true rfl) dX11_row_12 (by decide)) X hV4 [] [0, 1, 2, 3, 4, 5] rfl rfl rfl (by decide) (fun u H locs hV12 => ?_)
    have hV12 : kV E A s.heap H locs [(a0, .inr (11, [w0_0, w0_1, w0_2, w0_3, w0_4, .ref a1, w0_6, w0_7, w0_8])), (a1, .inr (3, [.ref a2, .ref a4, .ref a5, .ref a3, .int s_notes_many])), (a2, .inl (E.2 0, 40, .inl s_notes_days)), (a3, .inl (E.2 0, 40, .inl s_notes_gathered)), (a4, .inl (E.2 0, 40, .inl s_notes_minutes)), (a5, .inl (E.2 0, 40, .inl s_notes_shapes))] := hV12.sub [0, 1, 2, 3, 4, 5] rfl rfl
    clear hV4
    refine lv_if_eq (tgt := 27) hx hb dX11_row_15 (by decide) (fun c14 => ?_) (fun c14 => ?_)
    · have h15 := itS c14 h11
      clear h11 c14
      refine lv_iconst (v := (-1)) hx hb dX11_row_27 (by decide) ?_
      cases h15
      exact hret _ () _ _ _ _ rfl rfl hV12 dX11_row_28
    · have h16 := ieS c14 h11
      clear h11 c14
      refine lv_iload_n hx hb dX11_row_18 rfl (lv_at hl 3 rfl) ?_
      refine lv_iconst (v := 0) hx hb dX11_row_19 (by decide) ?_
      refine lv_iconst (v := 1) hx hb dX11_row_20 (by decide) ?_
      obtain ⟨r21_17, hc18, h19⟩ := cb1_s h16
      clear h16
      refine kgoiE (krunS (rest := []) X hV12 [] (c_X11_isWithin l E _ p3 0 1 r21_17 hc18) mw_187 kb_X11_isWithin (by decide) rfl rfl hl.1 rfl (Nat.le_of_ble_eq_true rfl) dX11_row_21 (by decide)) X hV12 [] [0, 1, 2, 3, 4, 5] rfl rfl rfl (by decide) (fun u H locs hV20 => ?_)
      have hV20 : kV E A s.heap H locs [(a0, .inr (11, [w0_0, w0_1, w0_2, w0_3, w0_4, .ref a1, w0_6, w0_7, w0_8])), (a1, .inr (3, [.ref a2, .ref a4, .ref a5, .ref a3, .int s_notes_many])), (a2, .inl (E.2 0, 40, .inl s_notes_days)), (a3, .inl (E.2 0, 40, .inl s_notes_gathered)), (a4, .inl (E.2 0, 40, .inl s_notes_minutes)), (a5, .inl (E.2 0, 40, .inl s_notes_shapes))] := hV20.sub [0, 1, 2, 3, 4, 5] rfl rfl
      clear hV12
      refine lv_if_ne (tgt := 29) hx hb dX11_row_24 (by decide) (fun c22 => ?_) (fun c22 => ?_)
      · have h23 := ieS c22 h19
        clear h19 c22
        refine lv_aload_n hx hb dX11_row_29 rfl (lv_at hl 0 rfl) ?_
        refine kget X hV20 (ci := 11) inlX11 rfl 0 rfl 5 (by decide) mw_33 rfl dX11_row_30 ?_
        refine lv_iload_n hx hb dX11_row_33 rfl (lv_at hl 1 rfl) ?_
        refine lv_iload_n hx hb dX11_row_34 rfl (lv_at hl 2 rfl) ?_
        refine lv_iload_n hx hb dX11_row_35 rfl (lv_at hl 3 rfl) ?_
        obtain ⟨r36_25, o_gathered36_26, hc27, h28⟩ := cb2_s h23
        clear h23
        refine kgoiE (krunV (rest := []) X hV20 [1, 2, 3, 4, 5] (c_X3_longestRow l E _ a1 a2 a3 a4 a5 s_notes_many s_notes_days s_notes_gathered s_notes_minutes s_notes_shapes p1 p2 p3 r36_25 o_gathered36_26 hc27) mw_965 kb_X3_longestRow (ci := 3) rfl rfl (by decide) rfl rfl hl.1 rfl (Nat.le_of_ble_eq_true rfl) dX11_row_36 (by decide)) X hV20 [1, 2, 3, 4, 5] [0] rfl rfl rfl (by decide) (fun u H locs hV29 => ?_)
        have hV29 : kV E A s.heap H locs [(a0, .inr (11, [w0_0, w0_1, w0_2, w0_3, w0_4, .ref a1, w0_6, w0_7, w0_8])), (a1, .inr (3, [.ref a2, .ref a4, .ref a5, .ref a3, .int s_notes_many])), (a2, .inl (E.2 0, 40, .inl s_notes_days)), (a3, .inl (E.2 0, 40, .inl o_gathered36_26)), (a4, .inl (E.2 0, 40, .inl s_notes_minutes)), (a5, .inl (E.2 0, 40, .inl s_notes_shapes))] := hV29.sub [0, 1, 2, 3, 4, 5] rfl rfl
        clear hV20
        cases h28
        exact hret _ () _ _ _ _ rfl rfl hV29 dX11_row_39
      · have h24 := itS c22 h19
        clear h19 c22
        refine lv_iconst (v := (-1)) hx hb dX11_row_27 (by decide) ?_
        cases h24
        exact hret _ () _ _ _ _ rfl rfl hV20 dX11_row_28
abbrev r_X11_blip : Room := { frames := 1, cells := 0, slots := 0, locals := 22 }
set_option maxHeartbeats 4000000 in
set_option maxRecDepth 100000 in
theorem c_X11_blip (l : Launch) (E : kE) (sz : Nat) (a0 a1 a2 : Nat) (w0_0 w0_1 w0_2 w0_3 w0_4 w0_5 w0_7 w0_8 w1_1 w1_3 w1_4 w1_5 : Value) (s_blips_many : Int32) (s_blips_times : Nat → Int32) (p1 : Int32) (r : Int32) (o_blips_many : Int32) (o_blips_times : Nat → Int32) (h : f_X11_blip s_blips_many s_blips_times p1 = some (r, o_blips_many, o_blips_times)) : kMi l yX11_blip cX11_blip 2 (some .int) r_X11_blip [.ref a0, .int p1] E [(a0, .inr (11, [w0_0, w0_1, w0_2, w0_3, w0_4, w0_5, .ref a1, w0_7, w0_8])), (a1, .inr (0, [.ref a2, w1_1, .int s_blips_many, w1_3, w1_4, w1_5])), (a2, .inl (E.2 0, 40, .inl s_blips_times))] sz 0 0 (fun x (_ : Unit) => x = r) (fun _ => [(a0, .inr (11, [w0_0, w0_1, w0_2, w0_3, w0_4, w0_5, .ref a1, w0_7, w0_8])), (a1, .inr (0, [.ref a2, w1_1, .int o_blips_many, w1_3, w1_4, w1_5])), (a2, .inl (E.2 0, 40, .inl o_blips_times))]) := by
  refine kmeti rfl (Nat.le_of_ble_eq_true rfl) ?_
  intro p e s m args below meth c ls A Q X hV hret hl
  have X : kC p s m c cX11_blip 2 RX11 args E A := X
  have hx := X.1
  have hb := X.2.1
  have hl : lv_has ls 2 [(0, .ref a0), (1, .int p1)] := hl
  rw [f_X11_blip] at h
  refine lv_iload_n hx hb dX11_blip_0 rfl (lv_at hl 1 rfl) ?_
  refine lv_iconst (v := 0) hx hb dX11_blip_1 (by decide) ?_
  refine lv_ldc (v := 1000000000) hx hb X.2.2.2.1 (X.2.2.2.2.1 _ mw_982) dX11_blip_2 ?_
  obtain ⟨r4_1, hc2, h3⟩ := cb1_s h
  clear h
  refine kgoiE (krunS (rest := []) X hV [] (c_X11_isWithin l E _ p1 0 1000000000 r4_1 hc2) mw_187 kb_X11_isWithin (by decide) rfl rfl hl.1 rfl (Nat.le_of_ble_eq_true rfl) dX11_blip_4 (by decide)) X hV [] [0, 1, 2] rfl rfl rfl (by decide) (fun u H locs hV4 => ?_)
  have hV4 : kV E A s.heap H locs [(a0, .inr (11, [w0_0, w0_1, w0_2, w0_3, w0_4, w0_5, .ref a1, w0_7, w0_8])), (a1, .inr (0, [.ref a2, w1_1, .int s_blips_many, w1_3, w1_4, w1_5])), (a2, .inl (E.2 0, 40, .inl s_blips_times))] := hV4.sub [0, 1, 2] rfl rfl
  clear hV
  refine lv_if_eq (tgt := 21) hx hb dX11_blip_7 (by decide) (fun c6 => ?_) (fun c6 => ?_)
  · have h7 := itS c6 h3
    clear h3 c6
    refine lv_iconst (v := (-1)) hx hb dX11_blip_21 (by decide) ?_
    cases h7
    exact hret _ () _ _ _ _ rfl rfl hV4 dX11_blip_22
  · have h8 := ieS c6 h3
    clear h3 c6
    refine lv_aload_n hx hb dX11_blip_10 rfl (lv_at hl 0 rfl) ?_
    refine kget X hV4 (ci := 11) inlX11 rfl 0 rfl 6 (by decide) mw_37 rfl dX11_blip_11 ?_
    refine lv_iload_n hx hb dX11_blip_14 rfl (lv_at hl 1 rfl) ?_
    obtain ⟨r15_9, o_many15_10, o_times15_11, hc12, h13⟩ := cb3_s h8
    clear h8
    refine kgoiE (krunV (rest := []) X hV4 [1, 2] (c_X0_add l E _ a1 a2 (w1_1) (w1_3) (w1_4) (w1_5) s_blips_many s_blips_times p1 r15_9 o_many15_10 o_times15_11 hc12) mw_983 kb_X0_add (ci := 0) rfl rfl (by decide) rfl rfl hl.1 rfl (Nat.le_of_ble_eq_true rfl) dX11_blip_15 (by decide)) X hV4 [1, 2] [0] rfl rfl rfl (by decide) (fun u H locs hV14 => ?_)
    have hV14 : kV E A s.heap H locs [(a0, .inr (11, [w0_0, w0_1, w0_2, w0_3, w0_4, w0_5, .ref a1, w0_7, w0_8])), (a1, .inr (0, [.ref a2, w1_1, .int o_many15_10, w1_3, w1_4, w1_5])), (a2, .inl (E.2 0, 40, .inl o_times15_11))] := hV14.sub [0, 1, 2] rfl rfl
    clear hV4
    refine lv_goto (tgt := 22) hx hb dX11_blip_18 (by decide) ?_
    cases h13
    exact hret _ () _ _ _ _ rfl rfl hV14 dX11_blip_22
abbrev r_X11_fits : Room := { frames := 2, cells := 0, slots := 0, locals := 42 }
set_option maxHeartbeats 4000000 in
set_option maxRecDepth 100000 in
theorem c_X11_fits (l : Launch) (E : kE) (sz : Nat) (a0 a1 : Nat) (w0_0 w0_1 w0_2 w0_3 w0_4 w0_5 w0_7 w0_8 w1_0 w1_1 w1_3 w1_4 w1_5 : Value) (s_blips_many : Int32) (p1 : Int32) (p2 : Int32) (r : Int32) (h : f_X11_fits s_blips_many p1 p2 = some (r)) : kMi l yX11_fits cX11_fits 3 (some .int) r_X11_fits [.ref a0, .int p1, .int p2] E [(a0, .inr (11, [w0_0, w0_1, w0_2, w0_3, w0_4, w0_5, .ref a1, w0_7, w0_8])), (a1, .inr (0, [w1_0, w1_1, .int s_blips_many, w1_3, w1_4, w1_5]))] sz 0 0 (fun x (_ : Unit) => x = r) (fun _ => [(a0, .inr (11, [w0_0, w0_1, w0_2, w0_3, w0_4, w0_5, .ref a1, w0_7, w0_8])), (a1, .inr (0, [w1_0, w1_1, .int s_blips_many, w1_3, w1_4, w1_5]))]) := by
  refine kmeti rfl (Nat.le_of_ble_eq_true rfl) ?_
  intro p e s m args below meth c ls A Q X hV hret hl
  have X : kC p s m c cX11_fits 3 RX11 args E A := X
  have hx := X.1
  have hb := X.2.1
  have hl : lv_has ls 3 [(0, .ref a0), (1, .int p1), (2, .int p2)] := hl
  rw [f_X11_fits] at h
  refine lv_iload_n hx hb dX11_fits_0 rfl (lv_at hl 1 rfl) ?_
  obtain ⟨r1_1, hc2, h3⟩ := cb1_s h
  clear h
  refine kgoiE (krunS (rest := []) X hV [] (c_X11_isBeat l E _ p1 r1_1 hc2) mw_998 kb_X11_isBeat (by decide) rfl rfl hl.1 rfl (Nat.le_of_ble_eq_true rfl) dX11_fits_1 (by decide)) X hV [] [0, 1] rfl rfl rfl (by decide) (fun u H locs hV4 => ?_)
  have hV4 : kV E A s.heap H locs [(a0, .inr (11, [w0_0, w0_1, w0_2, w0_3, w0_4, w0_5, .ref a1, w0_7, w0_8])), (a1, .inr (0, [w1_0, w1_1, .int s_blips_many, w1_3, w1_4, w1_5]))] := hV4.sub [0, 1] rfl rfl
  clear hV
  refine lv_if_eq (tgt := 36) hx hb dX11_fits_4 (by decide) (fun c6 => ?_) (fun c6 => ?_)
  · have h7 := itS c6 h3
    clear h3 c6
    refine lv_iconst (v := (-1)) hx hb dX11_fits_36 (by decide) ?_
    cases h7
    exact hret _ () _ _ _ _ rfl rfl hV4 dX11_fits_37
  · have h8 := ieS c6 h3
    clear h3 c6
    refine lv_iload_n hx hb dX11_fits_7 rfl (lv_at hl 2 rfl) ?_
    refine lv_iconst (v := 0) hx hb dX11_fits_8 (by decide) ?_
    refine lv_sipush (v := 1000) hx hb dX11_fits_9 (by decide) ?_
    obtain ⟨r12_9, hc10, h11⟩ := cb1_s h8
    clear h8
    refine kgoiE (krunS (rest := []) X hV4 [] (c_X11_isWithin l E _ p2 0 1000 r12_9 hc10) mw_187 kb_X11_isWithin (by decide) rfl rfl hl.1 rfl (Nat.le_of_ble_eq_true rfl) dX11_fits_12 (by decide)) X hV4 [] [0, 1] rfl rfl rfl (by decide) (fun u H locs hV12 => ?_)
    have hV12 : kV E A s.heap H locs [(a0, .inr (11, [w0_0, w0_1, w0_2, w0_3, w0_4, w0_5, .ref a1, w0_7, w0_8])), (a1, .inr (0, [w1_0, w1_1, .int s_blips_many, w1_3, w1_4, w1_5]))] := hV12.sub [0, 1] rfl rfl
    clear hV4
    refine lv_if_eq (tgt := 36) hx hb dX11_fits_15 (by decide) (fun c14 => ?_) (fun c14 => ?_)
    · have h15 := itS c14 h11
      clear h11 c14
      refine lv_iconst (v := (-1)) hx hb dX11_fits_36 (by decide) ?_
      cases h15
      exact hret _ () _ _ _ _ rfl rfl hV12 dX11_fits_37
    · have h16 := ieS c14 h11
      clear h11 c14
      refine lv_iconst (v := 2) hx hb dX11_fits_18 (by decide) ?_
      refine lv_iload_n hx hb dX11_fits_19 rfl (lv_at hl 2 rfl) ?_
      refine lv_imul hx hb dX11_fits_20 ?_
      refine lv_iload_n hx hb dX11_fits_21 rfl (lv_at hl 1 rfl) ?_
      refine lv_icmp_ge (tgt := 36) hx hb dX11_fits_22 (by decide) (fun c17 => ?_) (fun c17 => ?_)
      · have h18 := itS c17 h16
        clear h16 c17
        refine lv_iconst (v := (-1)) hx hb dX11_fits_36 (by decide) ?_
        cases h18
        exact hret _ () _ _ _ _ rfl rfl hV12 dX11_fits_37
      · have h19 := ieS c17 h16
        clear h16 c17
        refine lv_aload_n hx hb dX11_fits_25 rfl (lv_at hl 0 rfl) ?_
        refine kget X hV12 (ci := 11) inlX11 rfl 0 rfl 6 (by decide) mw_37 rfl dX11_fits_26 ?_
        refine kget X hV12 (ci := 0) inlX0 rfl 1 rfl 2 (by decide) mw_997 rfl dX11_fits_29 ?_
        refine lv_iconst (v := 2) hx hb dX11_fits_32 (by decide) ?_
        refine lv_icmp_ge (tgt := 38) hx hb dX11_fits_33 (by decide) (fun c20 => ?_) (fun c20 => ?_)
        · have h21 := itS c20 h19
          clear h19 c20
          refine lv_aload_n hx hb dX11_fits_38 rfl (lv_at hl 0 rfl) ?_
          refine kget X hV12 (ci := 11) inlX11 rfl 0 rfl 6 (by decide) mw_37 rfl dX11_fits_39 ?_
          refine lv_iload_n hx hb dX11_fits_42 rfl (lv_at hl 1 rfl) ?_
          refine lv_iload_n hx hb dX11_fits_43 rfl (lv_at hl 2 rfl) ?_
          exact nomatch h21
        · have h22 := ieS c20 h19
          clear h19 c20
          refine lv_iconst (v := (-1)) hx hb dX11_fits_36 (by decide) ?_
          cases h22
          exact hret _ () _ _ _ _ rfl rfl hV12 dX11_fits_37
abbrev r_X11_beats : Room := { frames := 3, cells := 0, slots := 0, locals := 66 }
set_option maxHeartbeats 4000000 in
set_option maxRecDepth 100000 in
theorem c_X11_beats (l : Launch) (E : kE) (sz : Nat) (a0 a1 : Nat) (w0_0 w0_1 w0_2 w0_3 w0_4 w0_5 w0_7 w0_8 w1_0 w1_1 w1_3 w1_4 w1_5 : Value) (s_blips_many : Int32) (p1 : Int32) (p2 : Int32) (p3 : Int32) (p4 : Int32) (r : Int32) (h : f_X11_beats s_blips_many p1 p2 p3 p4 = some (r)) : kMi l yX11_beats cX11_beats 5 (some .int) r_X11_beats [.ref a0, .int p1, .int p2, .int p3, .int p4] E [(a0, .inr (11, [w0_0, w0_1, w0_2, w0_3, w0_4, w0_5, .ref a1, w0_7, w0_8])), (a1, .inr (0, [w1_0, w1_1, .int s_blips_many, w1_3, w1_4, w1_5]))] sz 0 0 (fun x (_ : Unit) => x = r) (fun _ => [(a0, .inr (11, [w0_0, w0_1, w0_2, w0_3, w0_4, w0_5, .ref a1, w0_7, w0_8])), (a1, .inr (0, [w1_0, w1_1, .int s_blips_many, w1_3, w1_4, w1_5]))]) := by
  refine kmeti rfl (Nat.le_of_ble_eq_true rfl) ?_
  intro p e s m args below meth c ls A Q X hV hret hl
  have X : kC p s m c cX11_beats 5 RX11 args E A := X
  have hx := X.1
  have hb := X.2.1
  have hl : lv_has ls 5 [(0, .ref a0), (1, .int p1), (2, .int p2), (3, .int p3), (4, .int p4)] := hl
  rw [f_X11_beats] at h
  refine lv_aload_n hx hb dX11_beats_0 rfl (lv_at hl 0 rfl) ?_
  refine lv_iload_n hx hb dX11_beats_1 rfl (lv_at hl 1 rfl) ?_
  refine lv_iload_n hx hb dX11_beats_2 rfl (lv_at hl 2 rfl) ?_
  refine lv_iload_n hx hb dX11_beats_3 rfl (lv_at hl 3 rfl) ?_
  obtain ⟨r4_1, hc2, h3⟩ := cb1_s h
  clear h
  refine kgoiE (krunV (rest := []) X hV [0, 1] (c_X11_canScan l E _ a0 a1 (w0_0) (w0_1) (w0_2) (w0_3) (w0_4) (w0_5) (w0_7) (w0_8) (w1_0) (w1_1) (w1_3) (w1_4) (w1_5) s_blips_many p1 p2 p3 r4_1 hc2) mw_1026 kb_X11_canScan (ci := 11) rfl rfl (by decide) rfl rfl hl.1 rfl (Nat.le_of_ble_eq_true rfl) dX11_beats_4 (by decide)) X hV [0, 1] [] rfl rfl rfl (by decide) (fun u H locs hV4 => ?_)
  have hV4 : kV E A s.heap H locs [(a0, .inr (11, [w0_0, w0_1, w0_2, w0_3, w0_4, w0_5, .ref a1, w0_7, w0_8])), (a1, .inr (0, [w1_0, w1_1, .int s_blips_many, w1_3, w1_4, w1_5]))] := hV4.sub [0, 1] rfl rfl
  clear hV
  refine lv_if_eq (tgt := 20) hx hb dX11_beats_7 (by decide) (fun c6 => ?_) (fun c6 => ?_)
  · have h7 := itS c6 h3
    clear h3 c6
    refine lv_iconst (v := (-1)) hx hb dX11_beats_20 (by decide) ?_
    cases h7
    exact hret _ () _ _ _ _ rfl rfl hV4 dX11_beats_21
  · have h8 := ieS c6 h3
    clear h3 c6
    refine lv_iload hx hb dX11_beats_10 (lv_at hl 4 rfl) ?_
    refine lv_iconst (v := 0) hx hb dX11_beats_12 (by decide) ?_
    refine lv_iconst (v := 2) hx hb dX11_beats_13 (by decide) ?_
    obtain ⟨r14_9, hc10, h11⟩ := cb1_s h8
    clear h8
    refine kgoiE (krunS (rest := []) X hV4 [] (c_X11_isWithin l E _ p4 0 2 r14_9 hc10) mw_187 kb_X11_isWithin (by decide) rfl rfl hl.1 rfl (Nat.le_of_ble_eq_true rfl) dX11_beats_14 (by decide)) X hV4 [] [0, 1] rfl rfl rfl (by decide) (fun u H locs hV12 => ?_)
    have hV12 : kV E A s.heap H locs [(a0, .inr (11, [w0_0, w0_1, w0_2, w0_3, w0_4, w0_5, .ref a1, w0_7, w0_8])), (a1, .inr (0, [w1_0, w1_1, .int s_blips_many, w1_3, w1_4, w1_5]))] := hV12.sub [0, 1] rfl rfl
    clear hV4
    refine lv_if_ne (tgt := 22) hx hb dX11_beats_17 (by decide) (fun c14 => ?_) (fun c14 => ?_)
    · have h15 := ieS c14 h11
      clear h11 c14
      refine lv_aload_n hx hb dX11_beats_22 rfl (lv_at hl 0 rfl) ?_
      refine kget X hV12 (ci := 11) inlX11 rfl 0 rfl 6 (by decide) mw_37 rfl dX11_beats_23 ?_
      refine lv_iload_n hx hb dX11_beats_26 rfl (lv_at hl 1 rfl) ?_
      refine lv_iload_n hx hb dX11_beats_27 rfl (lv_at hl 2 rfl) ?_
      refine lv_iload_n hx hb dX11_beats_28 rfl (lv_at hl 3 rfl) ?_
      exact nomatch h15
    · have h16 := itS c14 h11
      clear h11 c14
      refine lv_iconst (v := (-1)) hx hb dX11_beats_20 (by decide) ?_
      cases h16
      exact hret _ () _ _ _ _ rfl rfl hV12 dX11_beats_21
abbrev r_X11_counted : Room := { frames := 2, cells := 0, slots := 0, locals := 42 }
set_option maxHeartbeats 4000000 in
set_option maxRecDepth 100000 in
theorem c_X11_counted (l : Launch) (E : kE) (sz : Nat) (a0 a1 : Nat) (w0_0 w0_1 w0_2 w0_3 w0_4 w0_5 w0_7 w0_8 w1_0 w1_1 w1_3 w1_4 w1_5 : Value) (s_blips_many : Int32) (p1 : Int32) (p2 : Int32) (r : Int32) (h : f_X11_counted s_blips_many p1 p2 = some (r)) : kMi l yX11_counted cX11_counted 3 (some .int) r_X11_counted [.ref a0, .int p1, .int p2] E [(a0, .inr (11, [w0_0, w0_1, w0_2, w0_3, w0_4, w0_5, .ref a1, w0_7, w0_8])), (a1, .inr (0, [w1_0, w1_1, .int s_blips_many, w1_3, w1_4, w1_5]))] sz 0 0 (fun x (_ : Unit) => x = r) (fun _ => [(a0, .inr (11, [w0_0, w0_1, w0_2, w0_3, w0_4, w0_5, .ref a1, w0_7, w0_8])), (a1, .inr (0, [w1_0, w1_1, .int s_blips_many, w1_3, w1_4, w1_5]))]) := by
  refine kmeti rfl (Nat.le_of_ble_eq_true rfl) ?_
  intro p e s m args below meth c ls A Q X hV hret hl
  have X : kC p s m c cX11_counted 3 RX11 args E A := X
  have hx := X.1
  have hb := X.2.1
  have hl : lv_has ls 3 [(0, .ref a0), (1, .int p1), (2, .int p2)] := hl
  rw [f_X11_counted] at h
  refine lv_iload_n hx hb dX11_counted_0 rfl (lv_at hl 2 rfl) ?_
  obtain ⟨r1_1, hc2, h3⟩ := cb1_s h
  clear h
  refine kgoiE (krunS (rest := []) X hV [] (c_X11_isBeat l E _ p2 r1_1 hc2) mw_998 kb_X11_isBeat (by decide) rfl rfl hl.1 rfl (Nat.le_of_ble_eq_true rfl) dX11_counted_1 (by decide)) X hV [] [0, 1] rfl rfl rfl (by decide) (fun u H locs hV4 => ?_)
  have hV4 : kV E A s.heap H locs [(a0, .inr (11, [w0_0, w0_1, w0_2, w0_3, w0_4, w0_5, .ref a1, w0_7, w0_8])), (a1, .inr (0, [w1_0, w1_1, .int s_blips_many, w1_3, w1_4, w1_5]))] := hV4.sub [0, 1] rfl rfl
  clear hV
  refine lv_if_eq (tgt := 36) hx hb dX11_counted_4 (by decide) (fun c6 => ?_) (fun c6 => ?_)
  · have h7 := itS c6 h3
    clear h3 c6
    refine lv_iconst (v := (-1)) hx hb dX11_counted_36 (by decide) ?_
    cases h7
    exact hret _ () _ _ _ _ rfl rfl hV4 dX11_counted_37
  · have h8 := ieS c6 h3
    clear h3 c6
    refine lv_iload_n hx hb dX11_counted_7 rfl (lv_at hl 1 rfl) ?_
    refine lv_iconst (v := 0) hx hb dX11_counted_8 (by decide) ?_
    refine lv_aload_n hx hb dX11_counted_9 rfl (lv_at hl 0 rfl) ?_
    refine kget X hV4 (ci := 11) inlX11 rfl 0 rfl 6 (by decide) mw_37 rfl dX11_counted_10 ?_
    refine kget X hV4 (ci := 0) inlX0 rfl 1 rfl 2 (by decide) mw_997 rfl dX11_counted_13 ?_
    refine lv_iconst (v := 1) hx hb dX11_counted_16 (by decide) ?_
    refine lv_isub hx hb dX11_counted_17 ?_
    obtain ⟨r18_9, hc10, h11⟩ := cb1_s h8
    clear h8
    refine kgoiE (krunS (rest := []) X hV4 [] (c_X11_isWithin l E _ p1 0 (s_blips_many - 1) r18_9 hc10) mw_187 kb_X11_isWithin (by decide) rfl rfl hl.1 rfl (Nat.le_of_ble_eq_true rfl) dX11_counted_18 (by decide)) X hV4 [] [0, 1] rfl rfl rfl (by decide) (fun u H locs hV12 => ?_)
    have hV12 : kV E A s.heap H locs [(a0, .inr (11, [w0_0, w0_1, w0_2, w0_3, w0_4, w0_5, .ref a1, w0_7, w0_8])), (a1, .inr (0, [w1_0, w1_1, .int s_blips_many, w1_3, w1_4, w1_5]))] := hV12.sub [0, 1] rfl rfl
    clear hV4
    refine lv_if_eq (tgt := 36) hx hb dX11_counted_21 (by decide) (fun c14 => ?_) (fun c14 => ?_)
    · have h15 := itS c14 h11
      clear h11 c14
      refine lv_iconst (v := (-1)) hx hb dX11_counted_36 (by decide) ?_
      cases h15
      exact hret _ () _ _ _ _ rfl rfl hV12 dX11_counted_37
    · have h16 := ieS c14 h11
      clear h11 c14
      refine lv_aload_n hx hb dX11_counted_24 rfl (lv_at hl 0 rfl) ?_
      refine kget X hV12 (ci := 11) inlX11 rfl 0 rfl 6 (by decide) mw_37 rfl dX11_counted_25 ?_
      refine lv_iload_n hx hb dX11_counted_28 rfl (lv_at hl 1 rfl) ?_
      refine lv_iload_n hx hb dX11_counted_29 rfl (lv_at hl 2 rfl) ?_
      exact nomatch h16
abbrev r_X11_sure : Room := { frames := 3, cells := 0, slots := 0, locals := 66 }
set_option maxHeartbeats 4000000 in
set_option maxRecDepth 100000 in
theorem c_X11_sure (l : Launch) (E : kE) (sz : Nat) (a0 a1 : Nat) (w0_0 w0_1 w0_2 w0_3 w0_4 w0_5 w0_7 w0_8 w1_0 w1_1 w1_3 w1_4 w1_5 : Value) (s_blips_many : Int32) (p1 : Int32) (p2 : Int32) (p3 : Int32) (r : Int32) (h : f_X11_sure s_blips_many p1 p2 p3 = some (r)) : kMi l yX11_sure cX11_sure 4 (some .int) r_X11_sure [.ref a0, .int p1, .int p2, .int p3] E [(a0, .inr (11, [w0_0, w0_1, w0_2, w0_3, w0_4, w0_5, .ref a1, w0_7, w0_8])), (a1, .inr (0, [w1_0, w1_1, .int s_blips_many, w1_3, w1_4, w1_5]))] sz 0 0 (fun x (_ : Unit) => x = r) (fun _ => [(a0, .inr (11, [w0_0, w0_1, w0_2, w0_3, w0_4, w0_5, .ref a1, w0_7, w0_8])), (a1, .inr (0, [w1_0, w1_1, .int s_blips_many, w1_3, w1_4, w1_5]))]) := by
  refine kmeti rfl (Nat.le_of_ble_eq_true rfl) ?_
  intro p e s m args below meth c ls A Q X hV hret hl
  have X : kC p s m c cX11_sure 4 RX11 args E A := X
  have hx := X.1
  have hb := X.2.1
  have hl : lv_has ls 4 [(0, .ref a0), (1, .int p1), (2, .int p2), (3, .int p3)] := hl
  rw [f_X11_sure] at h
  refine lv_aload_n hx hb dX11_sure_0 rfl (lv_at hl 0 rfl) ?_
  refine lv_iload_n hx hb dX11_sure_1 rfl (lv_at hl 1 rfl) ?_
  refine lv_iload_n hx hb dX11_sure_2 rfl (lv_at hl 2 rfl) ?_
  refine lv_iload_n hx hb dX11_sure_3 rfl (lv_at hl 3 rfl) ?_
  obtain ⟨r4_1, hc2, h3⟩ := cb1_s h
  clear h
  refine kgoiE (krunV (rest := []) X hV [0, 1] (c_X11_canScan l E _ a0 a1 (w0_0) (w0_1) (w0_2) (w0_3) (w0_4) (w0_5) (w0_7) (w0_8) (w1_0) (w1_1) (w1_3) (w1_4) (w1_5) s_blips_many p1 p2 p3 r4_1 hc2) mw_1026 kb_X11_canScan (ci := 11) rfl rfl (by decide) rfl rfl hl.1 rfl (Nat.le_of_ble_eq_true rfl) dX11_sure_4 (by decide)) X hV [0, 1] [] rfl rfl rfl (by decide) (fun u H locs hV4 => ?_)
  have hV4 : kV E A s.heap H locs [(a0, .inr (11, [w0_0, w0_1, w0_2, w0_3, w0_4, w0_5, .ref a1, w0_7, w0_8])), (a1, .inr (0, [w1_0, w1_1, .int s_blips_many, w1_3, w1_4, w1_5]))] := hV4.sub [0, 1] rfl rfl
  clear hV
  refine lv_if_ne (tgt := 12) hx hb dX11_sure_7 (by decide) (fun c6 => ?_) (fun c6 => ?_)
  · have h7 := ieS c6 h3
    clear h3 c6
    refine lv_aload_n hx hb dX11_sure_12 rfl (lv_at hl 0 rfl) ?_
    refine kget X hV4 (ci := 11) inlX11 rfl 0 rfl 6 (by decide) mw_37 rfl dX11_sure_13 ?_
    refine lv_iload_n hx hb dX11_sure_16 rfl (lv_at hl 1 rfl) ?_
    refine lv_iload_n hx hb dX11_sure_17 rfl (lv_at hl 2 rfl) ?_
    refine lv_iload_n hx hb dX11_sure_18 rfl (lv_at hl 3 rfl) ?_
    exact nomatch h7
  · have h8 := itS c6 h3
    clear h3 c6
    refine lv_iconst (v := (-1)) hx hb dX11_sure_10 (by decide) ?_
    cases h8
    exact hret _ () _ _ _ _ rfl rfl hV4 dX11_sure_11
abbrev r_X11_lost : Room := { frames := 3, cells := 0, slots := 0, locals := 66 }
set_option maxHeartbeats 4000000 in
set_option maxRecDepth 100000 in
theorem c_X11_lost (l : Launch) (E : kE) (sz : Nat) (a0 a1 : Nat) (w0_0 w0_1 w0_2 w0_3 w0_4 w0_5 w0_7 w0_8 w1_0 w1_1 w1_3 w1_4 w1_5 : Value) (s_blips_many : Int32) (p1 : Int32) (p2 : Int32) (p3 : Int32) (r : Int32) (h : f_X11_lost s_blips_many p1 p2 p3 = some (r)) : kMi l yX11_lost cX11_lost 4 (some .int) r_X11_lost [.ref a0, .int p1, .int p2, .int p3] E [(a0, .inr (11, [w0_0, w0_1, w0_2, w0_3, w0_4, w0_5, .ref a1, w0_7, w0_8])), (a1, .inr (0, [w1_0, w1_1, .int s_blips_many, w1_3, w1_4, w1_5]))] sz 0 0 (fun x (_ : Unit) => x = r) (fun _ => [(a0, .inr (11, [w0_0, w0_1, w0_2, w0_3, w0_4, w0_5, .ref a1, w0_7, w0_8])), (a1, .inr (0, [w1_0, w1_1, .int s_blips_many, w1_3, w1_4, w1_5]))]) := by
  refine kmeti rfl (Nat.le_of_ble_eq_true rfl) ?_
  intro p e s m args below meth c ls A Q X hV hret hl
  have X : kC p s m c cX11_lost 4 RX11 args E A := X
  have hx := X.1
  have hb := X.2.1
  have hl : lv_has ls 4 [(0, .ref a0), (1, .int p1), (2, .int p2), (3, .int p3)] := hl
  rw [f_X11_lost] at h
  refine lv_aload_n hx hb dX11_lost_0 rfl (lv_at hl 0 rfl) ?_
  refine lv_iload_n hx hb dX11_lost_1 rfl (lv_at hl 1 rfl) ?_
  refine lv_iload_n hx hb dX11_lost_2 rfl (lv_at hl 2 rfl) ?_
  refine lv_iload_n hx hb dX11_lost_3 rfl (lv_at hl 3 rfl) ?_
  obtain ⟨r4_1, hc2, h3⟩ := cb1_s h
  clear h
  refine kgoiE (krunV (rest := []) X hV [0, 1] (c_X11_canScan l E _ a0 a1 (w0_0) (w0_1) (w0_2) (w0_3) (w0_4) (w0_5) (w0_7) (w0_8) (w1_0) (w1_1) (w1_3) (w1_4) (w1_5) s_blips_many p1 p2 p3 r4_1 hc2) mw_1026 kb_X11_canScan (ci := 11) rfl rfl (by decide) rfl rfl hl.1 rfl (Nat.le_of_ble_eq_true rfl) dX11_lost_4 (by decide)) X hV [0, 1] [] rfl rfl rfl (by decide) (fun u H locs hV4 => ?_)
  have hV4 : kV E A s.heap H locs [(a0, .inr (11, [w0_0, w0_1, w0_2, w0_3, w0_4, w0_5, .ref a1, w0_7, w0_8])), (a1, .inr (0, [w1_0, w1_1, .int s_blips_many, w1_3, w1_4, w1_5]))] := hV4.sub [0, 1] rfl rfl
  clear hV
  refine lv_if_ne (tgt := 12) hx hb dX11_lost_7 (by decide) (fun c6 => ?_) (fun c6 => ?_)
  · have h7 := ieS c6 h3
    clear h3 c6
    refine lv_aload_n hx hb dX11_lost_12 rfl (lv_at hl 0 rfl) ?_
    refine kget X hV4 (ci := 11) inlX11 rfl 0 rfl 6 (by decide) mw_37 rfl dX11_lost_13 ?_
    refine lv_iload_n hx hb dX11_lost_16 rfl (lv_at hl 1 rfl) ?_
    refine lv_iload_n hx hb dX11_lost_17 rfl (lv_at hl 2 rfl) ?_
    refine lv_iload_n hx hb dX11_lost_18 rfl (lv_at hl 3 rfl) ?_
    exact nomatch h7
  · have h8 := itS c6 h3
    clear h3 c6
    refine lv_iconst (v := (-1)) hx hb dX11_lost_10 (by decide) ?_
    cases h8
    exact hret _ () _ _ _ _ rfl rfl hV4 dX11_lost_11
abbrev r_X11_night : Room := { frames := 2, cells := 0, slots := 0, locals := 42 }
set_option maxHeartbeats 4000000 in
set_option maxRecDepth 100000 in
theorem c_X11_night (l : Launch) (E : kE) (sz : Nat) (a0 a1 a2 a3 : Nat) (w0_0 w0_1 w0_2 w0_3 w0_4 w0_5 w0_6 w0_8 w1_2 w1_3 w1_4 : Value) (s_nights_many : Int32) (s_nights_days : Nat → Int32) (s_nights_shifts : Nat → Int32) (p1 : Int32) (p2 : Int32) (r : Int32) (o_nights_many : Int32) (o_nights_days : Nat → Int32) (o_nights_shifts : Nat → Int32) (h : f_X11_night s_nights_many s_nights_days s_nights_shifts p1 p2 = some (r, o_nights_many, o_nights_days, o_nights_shifts)) : kMi l yX11_night cX11_night 3 (some .int) r_X11_night [.ref a0, .int p1, .int p2] E [(a0, .inr (11, [w0_0, w0_1, w0_2, w0_3, w0_4, w0_5, w0_6, .ref a1, w0_8])), (a1, .inr (2, [.ref a2, .ref a3, w1_2, w1_3, w1_4, .int s_nights_many])), (a2, .inl (E.2 0, 30, .inl s_nights_days)), (a3, .inl (E.2 0, 30, .inl s_nights_shifts))] sz 0 0 (fun x (_ : Unit) => x = r) (fun _ => [(a0, .inr (11, [w0_0, w0_1, w0_2, w0_3, w0_4, w0_5, w0_6, .ref a1, w0_8])), (a1, .inr (2, [.ref a2, .ref a3, w1_2, w1_3, w1_4, .int o_nights_many])), (a2, .inl (E.2 0, 30, .inl o_nights_days)), (a3, .inl (E.2 0, 30, .inl o_nights_shifts))]) := by
  refine kmeti rfl (Nat.le_of_ble_eq_true rfl) ?_
  intro p e s m args below meth c ls A Q X hV hret hl
  have X : kC p s m c cX11_night 3 RX11 args E A := X
  have hx := X.1
  have hb := X.2.1
  have hl : lv_has ls 3 [(0, .ref a0), (1, .int p1), (2, .int p2)] := hl
  rw [f_X11_night] at h
  refine lv_iload_n hx hb dX11_night_0 rfl (lv_at hl 1 rfl) ?_
  obtain ⟨r1_1, hc2, h3⟩ := cb1_s h
  clear h
  refine kgoiE (krunS (rest := []) X hV [] (c_X11_isDay l E _ p1 r1_1 hc2) mw_622 kb_X11_isDay (by decide) rfl rfl hl.1 rfl (Nat.le_of_ble_eq_true rfl) dX11_night_1 (by decide)) X hV [] [0, 1, 2, 3] rfl rfl rfl (by decide) (fun u H locs hV4 => ?_)
  have hV4 : kV E A s.heap H locs [(a0, .inr (11, [w0_0, w0_1, w0_2, w0_3, w0_4, w0_5, w0_6, .ref a1, w0_8])), (a1, .inr (2, [.ref a2, .ref a3, w1_2, w1_3, w1_4, .int s_nights_many])), (a2, .inl (E.2 0, 30, .inl s_nights_days)), (a3, .inl (E.2 0, 30, .inl s_nights_shifts))] := hV4.sub [0, 1, 2, 3] rfl rfl
  clear hV
  refine lv_if_eq (tgt := 30) hx hb dX11_night_4 (by decide) (fun c6 => ?_) (fun c6 => ?_)
  · have h7 := itS c6 h3
    clear h3 c6
    refine lv_iconst (v := (-1)) hx hb dX11_night_30 (by decide) ?_
    cases h7
    exact hret _ () _ _ _ _ rfl rfl hV4 dX11_night_31
  · have h8 := ieS c6 h3
    clear h3 c6
    refine lv_iload_n hx hb dX11_night_7 rfl (lv_at hl 2 rfl) ?_
    refine lv_ldc (v := (-100000)) hx hb X.2.2.2.1 (X.2.2.2.2.1 _ mw_1096) dX11_night_8 ?_
    refine lv_ldc (v := 100000) hx hb X.2.2.2.1 (X.2.2.2.2.1 _ mw_1097) dX11_night_10 ?_
    obtain ⟨r12_9, hc10, h11⟩ := cb1_s h8
    clear h8
    refine kgoiE (krunS (rest := []) X hV4 [] (c_X11_isWithin l E _ p2 (-100000) 100000 r12_9 hc10) mw_187 kb_X11_isWithin (by decide) rfl rfl hl.1 rfl (Nat.le_of_ble_eq_true rfl) dX11_night_12 (by decide)) X hV4 [] [0, 1, 2, 3] rfl rfl rfl (by decide) (fun u H locs hV12 => ?_)
    have hV12 : kV E A s.heap H locs [(a0, .inr (11, [w0_0, w0_1, w0_2, w0_3, w0_4, w0_5, w0_6, .ref a1, w0_8])), (a1, .inr (2, [.ref a2, .ref a3, w1_2, w1_3, w1_4, .int s_nights_many])), (a2, .inl (E.2 0, 30, .inl s_nights_days)), (a3, .inl (E.2 0, 30, .inl s_nights_shifts))] := hV12.sub [0, 1, 2, 3] rfl rfl
    clear hV4
    refine lv_if_eq (tgt := 30) hx hb dX11_night_15 (by decide) (fun c14 => ?_) (fun c14 => ?_)
    · have h15 := itS c14 h11
      clear h11 c14
      refine lv_iconst (v := (-1)) hx hb dX11_night_30 (by decide) ?_
      cases h15
      exact hret _ () _ _ _ _ rfl rfl hV12 dX11_night_31
    · have h16 := ieS c14 h11
      clear h11 c14
      refine lv_aload_n hx hb dX11_night_18 rfl (lv_at hl 0 rfl) ?_
      refine kget X hV12 (ci := 11) inlX11 rfl 0 rfl 7 (by decide) mw_41 rfl dX11_night_19 ?_
      refine lv_iload_n hx hb dX11_night_22 rfl (lv_at hl 1 rfl) ?_
      refine lv_iload_n hx hb dX11_night_23 rfl (lv_at hl 2 rfl) ?_
      obtain ⟨r24_17, o_many24_18, o_days24_19, o_shifts24_20, hc21, h22⟩ := cb4_s h16
      clear h16
      refine kgoiE (krunV (rest := []) X hV12 [1, 2, 3] (c_X2_add l E _ a1 a2 a3 (w1_2) (w1_3) (w1_4) s_nights_many s_nights_days s_nights_shifts p1 p2 r24_17 o_many24_18 o_days24_19 o_shifts24_20 hc21) mw_1098 kb_X2_add (ci := 2) rfl rfl (by decide) rfl rfl hl.1 rfl (Nat.le_of_ble_eq_true rfl) dX11_night_24 (by decide)) X hV12 [1, 2, 3] [0] rfl rfl rfl (by decide) (fun u H locs hV23 => ?_)
      have hV23 : kV E A s.heap H locs [(a0, .inr (11, [w0_0, w0_1, w0_2, w0_3, w0_4, w0_5, w0_6, .ref a1, w0_8])), (a1, .inr (2, [.ref a2, .ref a3, w1_2, w1_3, w1_4, .int o_many24_18])), (a2, .inl (E.2 0, 30, .inl o_days24_19)), (a3, .inl (E.2 0, 30, .inl o_shifts24_20))] := hV23.sub [0, 1, 2, 3] rfl rfl
      clear hV12
      refine lv_goto (tgt := 31) hx hb dX11_night_27 (by decide) ?_
      cases h22
      exact hret _ () _ _ _ _ rfl rfl hV23 dX11_night_31
