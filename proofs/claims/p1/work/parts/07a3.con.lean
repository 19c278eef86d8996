abbrev r_X11_seed : Room := { frames := 1, cells := 0, slots := 0, locals := 22 }
set_option maxHeartbeats 4000000 in
set_option maxRecDepth 100000 in
theorem c_X11_seed (l : Launch) (E : kE) (sz : Nat) (a0 a1 a2 : Nat) (w0_0 w0_1 w0_4 w0_5 w0_6 w0_7 w0_8 w1_0 w1_1 w1_2 w1_3 w1_4 w1_5 w2_0 w2_1 w2_2 : Value) (s_page_day : Int32) (s_sky_seed : Int32) (p1 : Int32) (r : Int32) (o_page_day : Int32) (o_sky_seed : Int32) (h : f_X11_seed s_page_day s_sky_seed p1 = some (r, o_page_day, o_sky_seed)) : kMi l yX11_seed cX11_seed 2 (some .boolean) r_X11_seed [.ref a0, .int p1] E [(a0, .inr (11, [w0_0, w0_1, .ref a2, .ref a1, w0_4, w0_5, w0_6, w0_7, w0_8])), (a1, .inr (4, [w1_0, w1_1, w1_2, w1_3, w1_4, w1_5, .int s_page_day])), (a2, .inr (7, [w2_0, w2_1, w2_2, .int s_sky_seed]))] sz 0 0 (fun x (_ : Unit) => x = r) (fun _ => [(a0, .inr (11, [w0_0, w0_1, .ref a2, .ref a1, w0_4, w0_5, w0_6, w0_7, w0_8])), (a1, .inr (4, [w1_0, w1_1, w1_2, w1_3, w1_4, w1_5, .int o_page_day])), (a2, .inr (7, [w2_0, w2_1, w2_2, .int o_sky_seed]))]) := by
  refine kmeti rfl (Nat.le_of_ble_eq_true rfl) ?_
  intro p e s m args below meth c ls A Q X hV hret hl
  have X : kC p s m c cX11_seed 2 RX11 args E A := X
  have hx := X.1
  have hb := X.2.1
  have hl : lv_has ls 2 [(0, .ref a0), (1, .int p1)] := hl
  rw [f_X11_seed] at h
  refine lv_iload_n hx hb dX11_seed_0 rfl (lv_at hl 1 rfl) ?_
  refine lv_iconst (v := 0) hx hb dX11_seed_1 (by decide) ?_
  refine lv_sipush (v := 999) hx hb dX11_seed_2 (by decide) ?_
  obtain ⟨r5_1, hc2, h3⟩ := cb1_s h
  clear h
  refine kgoiE (krunS (rest := []) X hV [] (c_X11_isWithin l E _ p1 0 999 r5_1 hc2) mw_187 kb_X11_isWithin (by decide) rfl rfl hl.1 rfl (Nat.le_of_ble_eq_true rfl) dX11_seed_5 (by decide)) X hV [] [0, 1, 2] rfl rfl rfl (by decide) (fun u H locs hV4 => ?_)
  have hV4 : kV E A s.heap H locs [(a0, .inr (11, [w0_0, w0_1, .ref a2, .ref a1, w0_4, w0_5, w0_6, w0_7, w0_8])), (a1, .inr (4, [w1_0, w1_1, w1_2, w1_3, w1_4, w1_5, .int s_page_day])), (a2, .inr (7, [w2_0, w2_1, w2_2, .int s_sky_seed]))] := hV4.sub [0, 1, 2] rfl rfl
  clear hV
  refine lv_if_ne (tgt := 13) hx hb dX11_seed_8 (by decide) (fun c6 => ?_) (fun c6 => ?_)
  · have h7 := ieS c6 h3
    clear h3 c6
    refine lv_aload_n hx hb dX11_seed_13 rfl (lv_at hl 0 rfl) ?_
    refine kget X hV4 (ci := 11) inlX11 rfl 0 rfl 3 (by decide) mw_27 rfl dX11_seed_14 ?_
    obtain ⟨o_day17_9, hc10, h11⟩ := cb1_s h7
    clear h7
    refine kgov (krunV (rest := []) X hV4 [1] (c_X4_forget l E _ a1 (w1_0) (w1_1) (w1_2) (w1_3) (w1_4) (w1_5) s_page_day o_day17_9 hc10) mw_193 kb_X4_forget (ci := 4) rfl rfl (by decide) rfl rfl hl.1 rfl (Nat.le_of_ble_eq_true rfl) dX11_seed_17 (by decide)) X hV4 [1] [0, 2] rfl rfl rfl (by decide) (fun u H locs hp13 hV12 => ?_)
    have hV12 : kV E A s.heap H locs [(a0, .inr (11, [w0_0, w0_1, .ref a2, .ref a1, w0_4, w0_5, w0_6, w0_7, w0_8])), (a1, .inr (4, [w1_0, w1_1, w1_2, w1_3, w1_4, w1_5, .int o_day17_9])), (a2, .inr (7, [w2_0, w2_1, w2_2, .int s_sky_seed]))] := hV12.sub [0, 2, 1] rfl rfl
    clear hV4
    refine lv_aload_n hx hb dX11_seed_20 rfl (lv_at hl 0 rfl) ?_
    refine kget X hV12 (ci := 11) inlX11 rfl 0 rfl 2 (by decide) mw_23 rfl dX11_seed_21 ?_
    refine lv_iload_n hx hb dX11_seed_24 rfl (lv_at hl 1 rfl) ?_
    refine kput X hV12 (ci := 7) inlX7 rfl tyX7 tyX7_ok nmX7 2 rfl 3 (by decide) mw_231 rfl rfl rfl (Nat.le_of_ble_eq_true rfl) dX11_seed_25 (fun H locs hV14 => ?_)
    have hV14 : kV E A s.heap H locs [(a0, .inr (11, [w0_0, w0_1, .ref a2, .ref a1, w0_4, w0_5, w0_6, w0_7, w0_8])), (a1, .inr (4, [w1_0, w1_1, w1_2, w1_3, w1_4, w1_5, .int o_day17_9])), (a2, .inr (7, [w2_0, w2_1, w2_2, .int p1]))] := hV14
    clear hV12
    refine lv_iconst (v := 1) hx hb dX11_seed_28 (by decide) ?_
    obtain ⟨q15, q16, q17⟩ := tup3_s h11
    clear h11
    exact hret _ () _ _ _ _ q15 rfl (by rw [← q16, ← q17]; exact hV14) dX11_seed_29
  · have h8 := itS c6 h3
    clear h3 c6
    refine lv_iconst (v := 0) hx hb dX11_seed_11 (by decide) ?_
    obtain ⟨q18, q19, q20⟩ := tup3_s h8
    clear h8
    exact hret _ () _ _ _ _ q18 rfl (by rw [← q19, ← q20]; exact hV4) dX11_seed_12
abbrev r_X11_feed : Room := { frames := 1, cells := 0, slots := 0, locals := 22 }
set_option maxHeartbeats 4000000 in
set_option maxRecDepth 100000 in
theorem c_X11_feed (l : Launch) (E : kE) (sz : Nat) (a0 a1 a2 : Nat) (w0_1 w0_2 w0_3 w0_4 w0_5 w0_6 w0_7 w0_8 : Value) (s_tape_length : Int32) (s_tape_bytes : Nat → Int32) (p1 : Int32) (p2 : Int32) (p3 : Int32) (p4 : Int32) (p5 : Int32) (r : Int32) (o_tape_length : Int32) (o_tape_bytes : Nat → Int32) (h : f_X11_feed s_tape_length s_tape_bytes p1 p2 p3 p4 p5 = some (r, o_tape_length, o_tape_bytes)) : kMi l yX11_feed cX11_feed 6 (some .int) r_X11_feed [.ref a0, .int p1, .int p2, .int p3, .int p4, .int p5] E [(a0, .inr (11, [.ref a1, w0_1, w0_2, w0_3, w0_4, w0_5, w0_6, w0_7, w0_8])), (a1, .inr (9, [.ref a2, .int s_tape_length])), (a2, .inl (E.2 0, 200, .inl s_tape_bytes))] sz 0 0 (fun x (_ : Unit) => x = r) (fun _ => [(a0, .inr (11, [.ref a1, w0_1, w0_2, w0_3, w0_4, w0_5, w0_6, w0_7, w0_8])), (a1, .inr (9, [.ref a2, .int o_tape_length])), (a2, .inl (E.2 0, 200, .inl o_tape_bytes))]) := by
  refine kmeti rfl (Nat.le_of_ble_eq_true rfl) ?_
  intro p e s m args below meth c ls A Q X hV hret hl
  have X : kC p s m c cX11_feed 6 RX11 args E A := X
  have hx := X.1
  have hb := X.2.1
  have hl : lv_has ls 6 [(0, .ref a0), (1, .int p1), (2, .int p2), (3, .int p3), (4, .int p4), (5, .int p5)] := hl
  rw [f_X11_feed] at h
  refine lv_aload_n hx hb dX11_feed_0 rfl (lv_at hl 0 rfl) ?_
  refine kget X hV (ci := 11) inlX11 rfl 0 rfl 0 (by decide) mw_15 rfl dX11_feed_1 ?_
  refine kget X hV (ci := 9) inlX9 rfl 1 rfl 1 (by decide) mw_242 rfl dX11_feed_4 ?_
  refine lv_sipush (v := 180) hx hb dX11_feed_7 (by decide) ?_
  refine lv_icmp_le (tgt := 15) hx hb dX11_feed_10 (by decide) (fun c1 => ?_) (fun c1 => ?_)
  · have h2 := itS c1 h
    clear h c1
    refine lv_aload_n hx hb dX11_feed_15 rfl (lv_at hl 0 rfl) ?_
    refine kget X hV (ci := 11) inlX11 rfl 0 rfl 0 (by decide) mw_15 rfl dX11_feed_16 ?_
    refine lv_iload_n hx hb dX11_feed_19 rfl (lv_at hl 1 rfl) ?_
    obtain ⟨o_length20_4, o_bytes20_5, hc6, h7⟩ := cb2_s h2
    clear h2
    refine kgov (krunV (rest := []) X hV [1, 2] (c_X9_put l E _ a1 a2 s_tape_length s_tape_bytes p1 o_length20_4 o_bytes20_5 hc6) mw_243 kb_X9_put (ci := 9) rfl rfl (by decide) rfl rfl hl.1 rfl (Nat.le_of_ble_eq_true rfl) dX11_feed_20 (by decide)) X hV [1, 2] [0] rfl rfl rfl (by decide) (fun u H locs hp9 hV8 => ?_)
    have hV8 : kV E A s.heap H locs [(a0, .inr (11, [.ref a1, w0_1, w0_2, w0_3, w0_4, w0_5, w0_6, w0_7, w0_8])), (a1, .inr (9, [.ref a2, .int o_length20_4])), (a2, .inl (E.2 0, 200, .inl o_bytes20_5))] := hV8.sub [0, 1, 2] rfl rfl
    clear hV
    refine lv_aload_n hx hb dX11_feed_23 rfl (lv_at hl 0 rfl) ?_
    refine kget X hV8 (ci := 11) inlX11 rfl 0 rfl 0 (by decide) mw_15 rfl dX11_feed_24 ?_
    refine lv_iload_n hx hb dX11_feed_27 rfl (lv_at hl 2 rfl) ?_
    obtain ⟨o_length28_10, o_bytes28_11, hc12, h13⟩ := cb2_s h7
    clear h7
    refine kgov (krunV (rest := []) X hV8 [1, 2] (c_X9_put l E _ a1 a2 o_length20_4 o_bytes20_5 p2 o_length28_10 o_bytes28_11 hc12) mw_243 kb_X9_put (ci := 9) rfl rfl (by decide) rfl rfl hl.1 rfl (Nat.le_of_ble_eq_true rfl) dX11_feed_28 (by decide)) X hV8 [1, 2] [0] rfl rfl rfl (by decide) (fun u H locs hp15 hV14 => ?_)
    have hV14 : kV E A s.heap H locs [(a0, .inr (11, [.ref a1, w0_1, w0_2, w0_3, w0_4, w0_5, w0_6, w0_7, w0_8])), (a1, .inr (9, [.ref a2, .int o_length28_10])), (a2, .inl (E.2 0, 200, .inl o_bytes28_11))] := hV14.sub [0, 1, 2] rfl rfl
    clear hV8
    refine lv_aload_n hx hb dX11_feed_31 rfl (lv_at hl 0 rfl) ?_
    refine kget X hV14 (ci := 11) inlX11 rfl 0 rfl 0 (by decide) mw_15 rfl dX11_feed_32 ?_
    refine lv_iload_n hx hb dX11_feed_35 rfl (lv_at hl 3 rfl) ?_
    obtain ⟨o_length36_16, o_bytes36_17, hc18, h19⟩ := cb2_s h13
    clear h13
    refine kgov (krunV (rest := []) X hV14 [1, 2] (c_X9_put l E _ a1 a2 o_length28_10 o_bytes28_11 p3 o_length36_16 o_bytes36_17 hc18) mw_243 kb_X9_put (ci := 9) rfl rfl (by decide) rfl rfl hl.1 rfl (Nat.le_of_ble_eq_true rfl) dX11_feed_36 (by decide)) X hV14 [1, 2] [0] rfl rfl rfl (by decide) (fun u H locs hp21 hV20 => ?_)
    have hV20 : kV E A s.heap H locs [(a0, .inr (11, [.ref a1, w0_1, w0_2, w0_3, w0_4, w0_5, w0_6, w0_7, w0_8])), (a1, .inr (9, [.ref a2, .int o_length36_16])), (a2, .inl (E.2 0, 200, .inl o_bytes36_17))] := hV20.sub [0, 1, 2] rfl rfl
    clear hV14
    refine lv_aload_n hx hb dX11_feed_39 rfl (lv_at hl 0 rfl) ?_
    refine kget X hV20 (ci := 11) inlX11 rfl 0 rfl 0 (by decide) mw_15 rfl dX11_feed_40 ?_
    refine lv_iload hx hb dX11_feed_43 (lv_at hl 4 rfl) ?_
    obtain ⟨o_length45_22, o_bytes45_23, hc24, h25⟩ := cb2_s h19
    clear h19
    refine kgov (krunV (rest := []) X hV20 [1, 2] (c_X9_put l E _ a1 a2 o_length36_16 o_bytes36_17 p4 o_length45_22 o_bytes45_23 hc24) mw_243 kb_X9_put (ci := 9) rfl rfl (by decide) rfl rfl hl.1 rfl (Nat.le_of_ble_eq_true rfl) dX11_feed_45 (by decide)) X hV20 [1, 2] [0] rfl rfl rfl (by decide) (fun u H locs hp27 hV26 => ?_)
    have hV26 : kV E A s.heap H locs [(a0, .inr (11, [.ref a1, w0_1, w0_2, w0_3, w0_4, w0_5, w0_6, w0_7, w0_8])), (a1, .inr (9, [.ref a2, .int o_length45_22])), (a2, .inl (E.2 0, 200, .inl o_bytes45_23))] := hV26.sub [0, 1, 2] rfl rfl
    clear hV20
    refine lv_aload_n hx hb dX11_feed_48 rfl (lv_at hl 0 rfl) ?_
    refine kget X hV26 (ci := 11) inlX11 rfl 0 rfl 0 (by decide) mw_15 rfl dX11_feed_49 ?_
    refine lv_iload hx hb dX11_feed_52 (lv_at hl 5 rfl) ?_
    obtain ⟨o_length54_28, o_bytes54_29, hc30, h31⟩ := cb2_s h25
    clear h25
    refine kgov (krunV (rest := []) X hV26 [1, 2] (c_X9_put l E _ a1 a2 o_length45_22 o_bytes45_23 p5 o_length54_28 o_bytes54_29 hc30) mw_243 kb_X9_put (ci := 9) rfl rfl (by decide) rfl rfl hl.1 rfl (Nat.le_of_ble_eq_true rfl) dX11_feed_54 (by decide)) X hV26 [1, 2] [0] rfl rfl rfl (by decide) (fun u H locs hp33 hV32 => ?_)
    have hV32 : kV E A s.heap H locs [(a0, .inr (11, [.ref a1, w0_1, w0_2, w0_3, w0_4, w0_5, w0_6, w0_7, w0_8])), (a1, .inr (9, [.ref a2, .int o_length54_28])), (a2, .inl (E.2 0, 200, .inl o_bytes54_29))] := hV32.sub [0, 1, 2] rfl rfl
    clear hV26
    refine lv_aload_n hx hb dX11_feed_57 rfl (lv_at hl 0 rfl) ?_
    refine kget X hV32 (ci := 11) inlX11 rfl 0 rfl 0 (by decide) mw_15 rfl dX11_feed_58 ?_
    refine kget X hV32 (ci := 9) inlX9 rfl 1 rfl 1 (by decide) mw_242 rfl dX11_feed_61 ?_
    obtain ⟨q34, q35, q36⟩ := tup3_s h31
    clear h31
    exact hret _ () _ _ _ _ q34 rfl (by rw [← q35, ← q36]; exact hV32) dX11_feed_64
  · have h3 := ieS c1 h
    clear h c1
    refine lv_iconst (v := (-1)) hx hb dX11_feed_13 (by decide) ?_
    obtain ⟨q37, q38, q39⟩ := tup3_s h3
    clear h3
    exact hret _ () _ _ _ _ q37 rfl (by rw [← q38, ← q39]; exact hV) dX11_feed_14
abbrev r_X11_law : Room := { frames := 2, cells := 0, slots := 0, locals := 43 }
set_option maxHeartbeats 4000000 in
set_option maxRecDepth 100000 in
theorem c_X11_law (l : Launch) (E : kE) (sz : Nat) (a0 a1 a2 : Nat) (w0_0 w0_1 w0_3 w0_4 w0_5 w0_6 w0_7 w0_8 w1_1 w1_3 : Value) (s_sky_many : Int32) (s_sky_sources : Nat → Option Nat) (p1 : Int32) (p2 : Int32) (r : Int32) (h : f_X11_law s_sky_many s_sky_sources p1 p2 = some (r)) : kMi l yX11_law cX11_law 5 (some .int) r_X11_law [.ref a0, .int p1, .int p2] E [(a0, .inr (11, [w0_0, w0_1, .ref a1, w0_3, w0_4, w0_5, w0_6, w0_7, w0_8])), (a1, .inr (7, [.ref a2, w1_1, .int s_sky_many, w1_3])), (a2, .inl (E.2 3, 10, .inr (.inr (.inr (.inr s_sky_sources)))))] sz 0 0 (fun x (_ : Unit) => x = r) (fun _ => [(a0, .inr (11, [w0_0, w0_1, .ref a1, w0_3, w0_4, w0_5, w0_6, w0_7, w0_8])), (a1, .inr (7, [.ref a2, w1_1, .int s_sky_many, w1_3])), (a2, .inl (E.2 3, 10, .inr (.inr (.inr (.inr s_sky_sources)))))]) := by
  refine kmeti rfl (Nat.le_of_ble_eq_true rfl) ?_
  intro p e s m args below meth c ls A Q X hV hret hl
  have X : kC p s m c cX11_law 5 RX11 args E A := X
  have hx := X.1
  have hb := X.2.1
  have hl : lv_has ls 5 [(0, .ref a0), (1, .int p1), (2, .int p2)] := hl
  rw [f_X11_law] at h
  refine lv_aload_n hx hb dX11_law_0 rfl (lv_at hl 0 rfl) ?_
  refine kget X hV (ci := 11) inlX11 rfl 0 rfl 2 (by decide) mw_23 rfl dX11_law_1 ?_
  refine lv_iload_n hx hb dX11_law_4 rfl (lv_at hl 1 rfl) ?_
  obtain ⟨u5_1, hc2, h3⟩ := cb1_s h
  clear h
  refine kgonE (krunV (rest := []) X hV [1, 2] (c_X7_sourceAt l E _ a1 a2 (w1_1) (w1_3) s_sky_many s_sky_sources p1 hc2) mw_263 kb_X7_sourceAt (ci := 7) rfl rfl (by decide) rfl rfl hl.1 rfl (Nat.le_of_ble_eq_true rfl) dX11_law_5 (by decide)) X hV [1, 2] [0] rfl rfl rfl (by decide) (fun u H locs hV4 => ?_)
  have hV4 : kV E A s.heap H locs [(a0, .inr (11, [w0_0, w0_1, .ref a1, w0_3, w0_4, w0_5, w0_6, w0_7, w0_8])), (a1, .inr (7, [.ref a2, w1_1, .int s_sky_many, w1_3])), (a2, .inl (E.2 3, 10, .inr (.inr (.inr (.inr s_sky_sources)))))] := hV4.sub [0, 1, 2] rfl rfl
  clear hV
  refine lv_astore_nN (lv' := [(3, .null), (0, .ref a0), (1, .int p1), (2, .int p2)]) hx hb dX11_law_8 rfl hl (by decide) rfl (fun ls hl6 => ?_)
  clear hl
  refine lv_aload_nN hx hb dX11_law_9 rfl (lv_at hl6 0 rfl) ?_
  refine lv_ifnullN (tgt := 23) hx hb dX11_law_10 (by decide) ?_
  refine lv_iconst (v := (-1)) hx hb dX11_law_23 (by decide) ?_
  have q7 := tup1_s h3
  clear h3
  exact hret _ () _ _ _ _ q7 rfl hV4 dX11_law_24
abbrev r_X11_way : Room := { frames := 2, cells := 0, slots := 0, locals := 44 }
set_option maxHeartbeats 4000000 in
set_option maxRecDepth 100000 in
theorem c_X11_way (l : Launch) (E : kE) (sz : Nat) (a0 a1 : Nat) (w0_1 w0_2 w0_3 w0_4 w0_5 w0_6 w0_7 w0_8 w1_0 : Value) (s_tape_length : Int32) (p1 : Int32) (p2 : Int32) (r : Int32) (h : f_X11_way s_tape_length p1 p2 = some (r)) : kMi l yX11_way cX11_way 4 (some .int) r_X11_way [.ref a0, .int p1, .int p2] E [(a0, .inr (11, [.ref a1, w0_1, w0_2, w0_3, w0_4, w0_5, w0_6, w0_7, w0_8])), (a1, .inr (9, [w1_0, .int s_tape_length]))] sz 0 0 (fun x (_ : Unit) => x = r) (fun _ => [(a0, .inr (11, [.ref a1, w0_1, w0_2, w0_3, w0_4, w0_5, w0_6, w0_7, w0_8])), (a1, .inr (9, [w1_0, .int s_tape_length]))]) := by
  refine kmeti rfl (Nat.le_of_ble_eq_true rfl) ?_
  intro p e s m args below meth c ls A Q X hV hret hl
  have X : kC p s m c cX11_way 4 RX11 args E A := X
  have hx := X.1
  have hb := X.2.1
  have hl : lv_has ls 4 [(0, .ref a0), (1, .int p1), (2, .int p2)] := hl
  rw [f_X11_way] at h
  refine lv_iload_n hx hb dX11_way_0 rfl (lv_at hl 1 rfl) ?_
  obtain ⟨r1_1, hc2, h3⟩ := cb1_s h
  clear h
  refine kgoiE (krunS (rest := []) X hV [] (c_X11_isReader l E _ p1 r1_1 hc2) mw_584 kb_X11_isReader (by decide) rfl rfl hl.1 rfl (Nat.le_of_ble_eq_true rfl) dX11_way_1 (by decide)) X hV [] [0, 1] rfl rfl rfl (by decide) (fun u H locs hV4 => ?_)
  have hV4 : kV E A s.heap H locs [(a0, .inr (11, [.ref a1, w0_1, w0_2, w0_3, w0_4, w0_5, w0_6, w0_7, w0_8])), (a1, .inr (9, [w1_0, .int s_tape_length]))] := hV4.sub [0, 1] rfl rfl
  clear hV
  refine lv_if_eq (tgt := 17) hx hb dX11_way_4 (by decide) (fun c6 => ?_) (fun c6 => ?_)
  · have h7 := itS c6 h3
    clear h3 c6
    refine lv_iconst (v := (-1)) hx hb dX11_way_17 (by decide) ?_
    have q9 := tup1_s h7
    clear h7
    exact hret _ () _ _ _ _ q9 rfl hV4 dX11_way_18
  · have h8 := ieS c6 h3
    clear h3 c6
    refine lv_aload_n hx hb dX11_way_7 rfl (lv_at hl 0 rfl) ?_
    refine lv_iload_n hx hb dX11_way_8 rfl (lv_at hl 2 rfl) ?_
    refine lv_bipush (v := 120) hx hb dX11_way_9 (by decide) ?_
    obtain ⟨r11_10, hc11, h12⟩ := cb1_s h8
    clear h8
    refine kgoiE (krunV (rest := []) X hV4 [0, 1] (c_X11_tapeHas l E _ a0 a1 (w0_1) (w0_2) (w0_3) (w0_4) (w0_5) (w0_6) (w0_7) (w0_8) (w1_0) s_tape_length p2 120 r11_10 hc11) mw_267 kb_X11_tapeHas (ci := 11) rfl rfl (by decide) rfl rfl hl.1 rfl (Nat.le_of_ble_eq_true rfl) dX11_way_11 (by decide)) X hV4 [0, 1] [] rfl rfl rfl (by decide) (fun u H locs hV13 => ?_)
    have hV13 : kV E A s.heap H locs [(a0, .inr (11, [.ref a1, w0_1, w0_2, w0_3, w0_4, w0_5, w0_6, w0_7, w0_8])), (a1, .inr (9, [w1_0, .int s_tape_length]))] := hV13.sub [0, 1] rfl rfl
    clear hV4
    refine lv_if_ne (tgt := 19) hx hb dX11_way_14 (by decide) (fun c15 => ?_) (fun c15 => ?_)
    · have h16 := ieS c15 h12
      clear h12 c15
      exact nomatch h16
    · have h17 := itS c15 h12
      clear h12 c15
      refine lv_iconst (v := (-1)) hx hb dX11_way_17 (by decide) ?_
      have q18 := tup1_s h17
      clear h17
      exact hret _ () _ _ _ _ q18 rfl hV13 dX11_way_18
abbrev r_X11_story : Room := { frames := 2, cells := 0, slots := 0, locals := 44 }
set_option maxHeartbeats 4000000 in
set_option maxRecDepth 100000 in
theorem c_X11_story (l : Launch) (E : kE) (sz : Nat) (a0 a1 : Nat) (w0_1 w0_2 w0_3 w0_4 w0_5 w0_6 w0_7 w0_8 w1_0 : Value) (s_tape_length : Int32) (p1 : Int32) (p2 : Int32) (r : Int32) (h : f_X11_story s_tape_length p1 p2 = some (r)) : kMi l yX11_story cX11_story 4 (some .int) r_X11_story [.ref a0, .int p1, .int p2] E [(a0, .inr (11, [.ref a1, w0_1, w0_2, w0_3, w0_4, w0_5, w0_6, w0_7, w0_8])), (a1, .inr (9, [w1_0, .int s_tape_length]))] sz 0 0 (fun x (_ : Unit) => x = r) (fun _ => [(a0, .inr (11, [.ref a1, w0_1, w0_2, w0_3, w0_4, w0_5, w0_6, w0_7, w0_8])), (a1, .inr (9, [w1_0, .int s_tape_length]))]) := by
  refine kmeti rfl (Nat.le_of_ble_eq_true rfl) ?_
  intro p e s m args below meth c ls A Q X hV hret hl
  have X : kC p s m c cX11_story 4 RX11 args E A := X
  have hx := X.1
  have hb := X.2.1
  have hl : lv_has ls 4 [(0, .ref a0), (1, .int p1), (2, .int p2)] := hl
  rw [f_X11_story] at h
  refine lv_iload_n hx hb dX11_story_0 rfl (lv_at hl 1 rfl) ?_
  obtain ⟨r1_1, hc2, h3⟩ := cb1_s h
  clear h
  refine kgoiE (krunS (rest := []) X hV [] (c_X11_isStory l E _ p1 r1_1 hc2) mw_603 kb_X11_isStory (by decide) rfl rfl hl.1 rfl (Nat.le_of_ble_eq_true rfl) dX11_story_1 (by decide)) X hV [] [0, 1] rfl rfl rfl (by decide) (fun u H locs hV4 => ?_)
  have hV4 : kV E A s.heap H locs [(a0, .inr (11, [.ref a1, w0_1, w0_2, w0_3, w0_4, w0_5, w0_6, w0_7, w0_8])), (a1, .inr (9, [w1_0, .int s_tape_length]))] := hV4.sub [0, 1] rfl rfl
  clear hV
  refine lv_if_eq (tgt := 17) hx hb dX11_story_4 (by decide) (fun c6 => ?_) (fun c6 => ?_)
  · have h7 := itS c6 h3
    clear h3 c6
    refine lv_iconst (v := (-1)) hx hb dX11_story_17 (by decide) ?_
    have q9 := tup1_s h7
    clear h7
    exact hret _ () _ _ _ _ q9 rfl hV4 dX11_story_18
  · have h8 := ieS c6 h3
    clear h3 c6
    refine lv_aload_n hx hb dX11_story_7 rfl (lv_at hl 0 rfl) ?_
    refine lv_iload_n hx hb dX11_story_8 rfl (lv_at hl 2 rfl) ?_
    refine lv_bipush (v := 60) hx hb dX11_story_9 (by decide) ?_
    obtain ⟨r11_10, hc11, h12⟩ := cb1_s h8
    clear h8
    refine kgoiE (krunV (rest := []) X hV4 [0, 1] (c_X11_tapeHas l E _ a0 a1 (w0_1) (w0_2) (w0_3) (w0_4) (w0_5) (w0_6) (w0_7) (w0_8) (w1_0) s_tape_length p2 60 r11_10 hc11) mw_267 kb_X11_tapeHas (ci := 11) rfl rfl (by decide) rfl rfl hl.1 rfl (Nat.le_of_ble_eq_true rfl) dX11_story_11 (by decide)) X hV4 [0, 1] [] rfl rfl rfl (by decide) (fun u H locs hV13 => ?_)
    have hV13 : kV E A s.heap H locs [(a0, .inr (11, [.ref a1, w0_1, w0_2, w0_3, w0_4, w0_5, w0_6, w0_7, w0_8])), (a1, .inr (9, [w1_0, .int s_tape_length]))] := hV13.sub [0, 1] rfl rfl
    clear hV4
    refine lv_if_ne (tgt := 19) hx hb dX11_story_14 (by decide) (fun c15 => ?_) (fun c15 => ?_)
    · have h16 := ieS c15 h12
      clear h12 c15
      exact nomatch h16
    · have h17 := itS c15 h12
      clear h12 c15
      refine lv_iconst (v := (-1)) hx hb dX11_story_17 (by decide) ?_
      have q18 := tup1_s h17
      clear h17
      exact hret _ () _ _ _ _ q18 rfl hV13 dX11_story_18
abbrev r_X11_star : Room := { frames := 2, cells := 0, slots := 0, locals := 42 }
set_option maxHeartbeats 4000000 in
set_option maxRecDepth 100000 in
theorem c_X11_star (l : Launch) (E : kE) (sz : Nat) (a0 : Nat) (w0_0 w0_1 w0_2 w0_3 w0_4 w0_5 w0_6 w0_7 w0_8 : Value) (p1 : Int32) (p2 : Int32) (r : Int32) (h : f_X11_star p1 p2 = some (r)) : kMi l yX11_star cX11_star 3 (some .int) r_X11_star [.ref a0, .int p1, .int p2] E [(a0, .inr (11, [w0_0, w0_1, w0_2, w0_3, w0_4, w0_5, w0_6, w0_7, w0_8]))] sz 0 0 (fun x (_ : Unit) => x = r) (fun _ => [(a0, .inr (11, [w0_0, w0_1, w0_2, w0_3, w0_4, w0_5, w0_6, w0_7, w0_8]))]) := by
  refine kmeti rfl (Nat.le_of_ble_eq_true rfl) ?_
  intro p e s m args below meth c ls A Q X hV hret hl
  have X : kC p s m c cX11_star 3 RX11 args E A := X
  have hx := X.1
  have hb := X.2.1
  have hl : lv_has ls 3 [(0, .ref a0), (1, .int p1), (2, .int p2)] := hl
  rw [f_X11_star] at h
  refine lv_iload_n hx hb dX11_star_0 rfl (lv_at hl 1 rfl) ?_
  obtain ⟨r1_1, hc2, h3⟩ := cb1_s h
  clear h
  refine kgoiE (krunS (rest := []) X hV [] (c_X11_isDay l E _ p1 r1_1 hc2) mw_622 kb_X11_isDay (by decide) rfl rfl hl.1 rfl (Nat.le_of_ble_eq_true rfl) dX11_star_1 (by decide)) X hV [] [0] rfl rfl rfl (by decide) (fun u H locs hV4 => ?_)
  have hV4 : kV E A s.heap H locs [(a0, .inr (11, [w0_0, w0_1, w0_2, w0_3, w0_4, w0_5, w0_6, w0_7, w0_8]))] := hV4.sub [0] rfl rfl
  clear hV
  refine lv_if_eq (tgt := 22) hx hb dX11_star_4 (by decide) (fun c6 => ?_) (fun c6 => ?_)
  · have h7 := itS c6 h3
    clear h3 c6
    refine lv_iconst (v := (-1)) hx hb dX11_star_22 (by decide) ?_
    have q9 := tup1_s h7
    clear h7
    exact hret _ () _ _ _ _ q9 rfl hV4 dX11_star_23
  · have h8 := ieS c6 h3
    clear h3 c6
    refine lv_iload_n hx hb dX11_star_7 rfl (lv_at hl 2 rfl) ?_
    obtain ⟨r8_10, hc11, h12⟩ := cb1_s h8
    clear h8
    refine kgoiE (krunS (rest := []) X hV4 [] (c_X11_isMinute l E _ p2 r8_10 hc11) mw_184 kb_X11_isMinute (by decide) rfl rfl hl.1 rfl (Nat.le_of_ble_eq_true rfl) dX11_star_8 (by decide)) X hV4 [] [0] rfl rfl rfl (by decide) (fun u H locs hV13 => ?_)
    have hV13 : kV E A s.heap H locs [(a0, .inr (11, [w0_0, w0_1, w0_2, w0_3, w0_4, w0_5, w0_6, w0_7, w0_8]))] := hV13.sub [0] rfl rfl
    clear hV4
    refine lv_if_eq (tgt := 22) hx hb dX11_star_11 (by decide) (fun c15 => ?_) (fun c15 => ?_)
    · have h16 := itS c15 h12
      clear h12 c15
      refine lv_iconst (v := (-1)) hx hb dX11_star_22 (by decide) ?_
      have q18 := tup1_s h16
      clear h16
      exact hret _ () _ _ _ _ q18 rfl hV13 dX11_star_23
    · have h17 := ieS c15 h12
      clear h12 c15
      refine lv_iload_n hx hb dX11_star_14 rfl (lv_at hl 1 rfl) ?_
      refine lv_iload_n hx hb dX11_star_15 rfl (lv_at hl 2 rfl) ?_
      obtain ⟨r16_19, hc20, h21⟩ := cb1_s h17
      clear h17
      refine kgoiE (krunS (rest := []) X hV13 [] (c_X11_starMinute l E _ p1 p2 r16_19 hc20) mw_625 kb_X11_starMinute (by decide) rfl rfl hl.1 rfl (Nat.le_of_ble_eq_true rfl) dX11_star_16 (by decide)) X hV13 [] [0] rfl rfl rfl (by decide) (fun u H locs hV22 => ?_)
      have hV22 : kV E A s.heap H locs [(a0, .inr (11, [w0_0, w0_1, w0_2, w0_3, w0_4, w0_5, w0_6, w0_7, w0_8]))] := hV22.sub [0] rfl rfl
      clear hV13
      refine lv_goto (tgt := 23) hx hb dX11_star_19 (by decide) ?_
      have q24 := tup1_s h21
      clear h21
      exact hret _ () _ _ _ _ q24 rfl hV22 dX11_star_23
abbrev r_X11_height : Room := { frames := 2, cells := 0, slots := 0, locals := 43 }
set_option maxHeartbeats 4000000 in
set_option maxRecDepth 100000 in
theorem c_X11_height (l : Launch) (E : kE) (sz : Nat) (a0 a1 a2 : Nat) (w0_0 w0_1 w0_3 w0_4 w0_5 w0_6 w0_7 w0_8 w1_1 w1_3 : Value) (s_sky_many : Int32) (s_sky_sources : Nat → Option Nat) (p1 : Int32) (p2 : Int32) (p3 : Int32) (r : Int32) (h : f_X11_height s_sky_many s_sky_sources p1 p2 p3 = some (r)) : kMi l yX11_height cX11_height 5 (some .int) r_X11_height [.ref a0, .int p1, .int p2, .int p3] E [(a0, .inr (11, [w0_0, w0_1, .ref a1, w0_3, w0_4, w0_5, w0_6, w0_7, w0_8])), (a1, .inr (7, [.ref a2, w1_1, .int s_sky_many, w1_3])), (a2, .inl (E.2 3, 10, .inr (.inr (.inr (.inr s_sky_sources)))))] sz 0 0 (fun x (_ : Unit) => x = r) (fun _ => [(a0, .inr (11, [w0_0, w0_1, .ref a1, w0_3, w0_4, w0_5, w0_6, w0_7, w0_8])), (a1, .inr (7, [.ref a2, w1_1, .int s_sky_many, w1_3])), (a2, .inl (E.2 3, 10, .inr (.inr (.inr (.inr s_sky_sources)))))]) := by
  refine kmeti rfl (Nat.le_of_ble_eq_true rfl) ?_
  intro p e s m args below meth c ls A Q X hV hret hl
  have X : kC p s m c cX11_height 5 RX11 args E A := X
  have hx := X.1
  have hb := X.2.1
  have hl : lv_has ls 5 [(0, .ref a0), (1, .int p1), (2, .int p2), (3, .int p3)] := hl
  rw [f_X11_height] at h
  refine lv_aload_n hx hb dX11_height_0 rfl (lv_at hl 0 rfl) ?_
  refine kget X hV (ci := 11) inlX11 rfl 0 rfl 2 (by decide) mw_23 rfl dX11_height_1 ?_
  refine lv_iload_n hx hb dX11_height_4 rfl (lv_at hl 1 rfl) ?_
  obtain ⟨u5_1, hc2, h3⟩ := cb1_s h
  clear h
  refine kgonE (krunV (rest := []) X hV [1, 2] (c_X7_sourceAt l E _ a1 a2 (w1_1) (w1_3) s_sky_many s_sky_sources p1 hc2) mw_263 kb_X7_sourceAt (ci := 7) rfl rfl (by decide) rfl rfl hl.1 rfl (Nat.le_of_ble_eq_true rfl) dX11_height_5 (by decide)) X hV [1, 2] [0] rfl rfl rfl (by decide) (fun u H locs hV4 => ?_)
  have hV4 : kV E A s.heap H locs [(a0, .inr (11, [w0_0, w0_1, .ref a1, w0_3, w0_4, w0_5, w0_6, w0_7, w0_8])), (a1, .inr (7, [.ref a2, w1_1, .int s_sky_many, w1_3])), (a2, .inl (E.2 3, 10, .inr (.inr (.inr (.inr s_sky_sources)))))] := hV4.sub [0, 1, 2] rfl rfl
  clear hV
  refine lv_astoreN (lv' := [(4, .null), (0, .ref a0), (1, .int p1), (2, .int p2), (3, .int p3)]) hx hb dX11_height_8 hl (by decide) rfl (fun ls hl6 => ?_)
  clear hl
  refine lv_aloadN hx hb dX11_height_10 (lv_at hl6 0 rfl) ?_
  refine lv_ifnullN (tgt := 29) hx hb dX11_height_12 (by decide) ?_
  refine lv_iconst (v := (-1)) hx hb dX11_height_29 (by decide) ?_
  have q7 := tup1_s h3
  clear h3
  exact hret _ () _ _ _ _ q7 rfl hV4 dX11_height_30
abbrev r_X11_paper : Room := { frames := 3, cells := 0, slots := 0, locals := 68 }
set_option maxHeartbeats 4000000 in
set_option maxRecDepth 100000 in
theorem c_X11_paper (l : Launch) (E : kE) (sz : Nat) (a0 a1 a2 a3 a4 a5 a6 : Nat) (w0_0 w0_1 w0_4 w0_5 w0_6 w0_7 w0_8 w1_3 w1_4 w2_1 w2_3 : Value) (s_page_readers : Int32) (s_page_day : Int32) (s_sky_many : Int32) (s_page_heights : Nat → Int32) (s_page_highest : Nat → Int32) (s_page_shapes : Nat → Int32) (s_sky_sources : Nat → Option Nat) (p1 : Int32) (p2 : Int32) (p3 : Int32) (r : Int32) (o_page_readers : Int32) (o_page_day : Int32) (o_page_heights : Nat → Int32) (o_page_highest : Nat → Int32) (o_page_shapes : Nat → Int32) (h : f_X11_paper s_page_readers s_page_day s_sky_many s_page_heights s_page_highest s_page_shapes s_sky_sources p1 p2 p3 = some (r, o_page_readers, o_page_day, o_page_heights, o_page_highest, o_page_shapes)) : kMi l yX11_paper cX11_paper 4 (some .int) r_X11_paper [.ref a0, .int p1, .int p2, .int p3] E [(a0, .inr (11, [w0_0, w0_1, .ref a2, .ref a1, w0_4, w0_5, w0_6, w0_7, w0_8])), (a1, .inr (4, [.ref a3, .ref a5, .ref a4, w1_3, w1_4, .int s_page_readers, .int s_page_day])), (a2, .inr (7, [.ref a6, w2_1, .int s_sky_many, w2_3])), (a3, .inl (E.2 0, 1440, .inl s_page_heights)), (a4, .inl (E.2 0, 1440, .inl s_page_highest)), (a5, .inl (E.2 0, 1440, .inl s_page_shapes)), (a6, .inl (E.2 3, 10, .inr (.inr (.inr (.inr s_sky_sources)))))] sz 0 0 (fun x (_ : Unit) => x = r) (fun _ => [(a0, .inr (11, [w0_0, w0_1, .ref a2, .ref a1, w0_4, w0_5, w0_6, w0_7, w0_8])), (a1, .inr (4, [.ref a3, .ref a5, .ref a4, w1_3, w1_4, .int o_page_readers, .int o_page_day])), (a2, .inr (7, [.ref a6, w2_1, .int s_sky_many, w2_3])), (a3, .inl (E.2 0, 1440, .inl o_page_heights)), (a4, .inl (E.2 0, 1440, .inl o_page_highest)), (a5, .inl (E.2 0, 1440, .inl o_page_shapes)), (a6, .inl (E.2 3, 10, .inr (.inr (.inr (.inr s_sky_sources)))))]) := by
  refine kmeti rfl (Nat.le_of_ble_eq_true rfl) ?_
  intro p e s m args below meth c ls A Q X hV hret hl
  have X : kC p s m c cX11_paper 4 RX11 args E A := X
  have hx := X.1
  have hb := X.2.1
  have hl : lv_has ls 4 [(0, .ref a0), (1, .int p1), (2, .int p2), (3, .int p3)] := hl
  rw [f_X11_paper] at h
  refine lv_iload_n hx hb dX11_paper_0 rfl (lv_at hl 1 rfl) ?_
  obtain ⟨r1_1, hc2, h3⟩ := cb1_s h
  clear h
  refine kgoiE (krunS (rest := []) X hV [] (c_X11_isDay l E _ p1 r1_1 hc2) mw_622 kb_X11_isDay (by decide) rfl rfl hl.1 rfl (Nat.le_of_ble_eq_true rfl) dX11_paper_1 (by decide)) X hV [] [0, 1, 2, 3, 4, 5, 6] rfl rfl rfl (by decide) (fun u H locs hV4 => ?_)
  have hV4 : kV E A s.heap H locs [(a0, .inr (11, [w0_0, w0_1, .ref a2, .ref a1, w0_4, w0_5, w0_6, w0_7, w0_8])), (a1, .inr (4, [.ref a3, .ref a5, .ref a4, w1_3, w1_4, .int s_page_readers, .int s_page_day])), (a2, .inr (7, [.ref a6, w2_1, .int s_sky_many, w2_3])), (a3, .inl (E.2 0, 1440, .inl s_page_heights)), (a4, .inl (E.2 0, 1440, .inl s_page_highest)), (a5, .inl (E.2 0, 1440, .inl s_page_shapes)), (a6, .inl (E.2 3, 10, .inr (.inr (.inr (.inr s_sky_sources)))))] := hV4.sub [0, 1, 2, 3, 4, 5, 6] rfl rfl
  clear hV
  refine lv_if_eq (tgt := 23) hx hb dX11_paper_4 (by decide) (fun c6 => ?_) (fun c6 => ?_)
  · have h7 := itS c6 h3
    clear h3 c6
    refine lv_iconst (v := (-1)) hx hb dX11_paper_23 (by decide) ?_
    obtain ⟨q9, q10, q11, q12, q13, q14⟩ := tup6_s h7
    clear h7
    exact hret _ () _ _ _ _ q9 rfl (by rw [← q10, ← q11, ← q12, ← q13, ← q14]; exact hV4) dX11_paper_24
  · have h8 := ieS c6 h3
    clear h3 c6
    refine lv_iload_n hx hb dX11_paper_7 rfl (lv_at hl 2 rfl) ?_
    obtain ⟨r8_15, hc16, h17⟩ := cb1_s h8
    clear h8
    refine kgoiE (krunS (rest := []) X hV4 [] (c_X11_isMinute l E _ p2 r8_15 hc16) mw_184 kb_X11_isMinute (by decide) rfl rfl hl.1 rfl (Nat.le_of_ble_eq_true rfl) dX11_paper_8 (by decide)) X hV4 [] [0, 1, 2, 3, 4, 5, 6] rfl rfl rfl (by decide) (fun u H locs hV18 => ?_)
    have hV18 : kV E A s.heap H locs [(a0, .inr (11, [w0_0, w0_1, .ref a2, .ref a1, w0_4, w0_5, w0_6, w0_7, w0_8])), (a1, .inr (4, [.ref a3, .ref a5, .ref a4, w1_3, w1_4, .int s_page_readers, .int s_page_day])), (a2, .inr (7, [.ref a6, w2_1, .int s_sky_many, w2_3])), (a3, .inl (E.2 0, 1440, .inl s_page_heights)), (a4, .inl (E.2 0, 1440, .inl s_page_highest)), (a5, .inl (E.2 0, 1440, .inl s_page_shapes)), (a6, .inl (E.2 3, 10, .inr (.inr (.inr (.inr s_sky_sources)))))] := hV18.sub [0, 1, 2, 3, 4, 5, 6] rfl rfl
    clear hV4
    refine lv_if_eq (tgt := 23) hx hb dX11_paper_11 (by decide) (fun c20 => ?_) (fun c20 => ?_)
    · have h21 := itS c20 h17
      clear h17 c20
      refine lv_iconst (v := (-1)) hx hb dX11_paper_23 (by decide) ?_
      obtain ⟨q23, q24, q25, q26, q27, q28⟩ := tup6_s h21
      clear h21
      exact hret _ () _ _ _ _ q23 rfl (by rw [← q24, ← q25, ← q26, ← q27, ← q28]; exact hV18) dX11_paper_24
    · have h22 := ieS c20 h17
      clear h17 c20
      refine lv_iload_n hx hb dX11_paper_14 rfl (lv_at hl 3 rfl) ?_
      refine lv_iconst (v := 0) hx hb dX11_paper_15 (by decide) ?_
      refine lv_iconst (v := 1) hx hb dX11_paper_16 (by decide) ?_
      obtain ⟨r17_29, hc30, h31⟩ := cb1_s h22
      clear h22
      refine kgoiE (krunS (rest := []) X hV18 [] (c_X11_isWithin l E _ p3 0 1 r17_29 hc30) mw_187 kb_X11_isWithin (by decide) rfl rfl hl.1 rfl (Nat.le_of_ble_eq_true rfl) dX11_paper_17 (by decide)) X hV18 [] [0, 1, 2, 3, 4, 5, 6] rfl rfl rfl (by decide) (fun u H locs hV32 => ?_)
      have hV32 : kV E A s.heap H locs [(a0, .inr (11, [w0_0, w0_1, .ref a2, .ref a1, w0_4, w0_5, w0_6, w0_7, w0_8])), (a1, .inr (4, [.ref a3, .ref a5, .ref a4, w1_3, w1_4, .int s_page_readers, .int s_page_day])), (a2, .inr (7, [.ref a6, w2_1, .int s_sky_many, w2_3])), (a3, .inl (E.2 0, 1440, .inl s_page_heights)), (a4, .inl (E.2 0, 1440, .inl s_page_highest)), (a5, .inl (E.2 0, 1440, .inl s_page_shapes)), (a6, .inl (E.2 3, 10, .inr (.inr (.inr (.inr s_sky_sources)))))] := hV32.sub [0, 1, 2, 3, 4, 5, 6] rfl rfl
      clear hV18
      refine lv_if_ne (tgt := 25) hx hb dX11_paper_20 (by decide) (fun c34 => ?_) (fun c34 => ?_)
      · have h35 := ieS c34 h31
        clear h31 c34
        refine lv_aload_n hx hb dX11_paper_25 rfl (lv_at hl 0 rfl) ?_
        refine kget X hV32 (ci := 11) inlX11 rfl 0 rfl 2 (by decide) mw_23 rfl dX11_paper_26 ?_
        refine lv_aload_n hx hb dX11_paper_29 rfl (lv_at hl 0 rfl) ?_
        refine kget X hV32 (ci := 11) inlX11 rfl 0 rfl 3 (by decide) mw_27 rfl dX11_paper_30 ?_
        refine lv_iload_n hx hb dX11_paper_33 rfl (lv_at hl 1 rfl) ?_
        obtain ⟨o_p1_readers34_37, o_p1_day34_38, o_p1_heights34_39, o_p1_highest34_40, o_p1_shapes34_41, hc42, h43⟩ := cb5_s h35
        clear h35
        refine kgov (krunV (rest := []) X hV32 [2, 1, 3, 4, 5, 6] (c_X7_lay l E _ a2 a1 a3 a4 a5 a6 (w2_1) (w2_3) (w1_3) (w1_4) s_sky_many s_page_readers s_page_day s_page_heights s_page_highest s_page_shapes s_sky_sources p1 o_p1_readers34_37 o_p1_day34_38 o_p1_heights34_39 o_p1_highest34_40 o_p1_shapes34_41 hc42) mw_767 kb_X7_lay (ci := 7) rfl rfl (by decide) rfl rfl hl.1 rfl (Nat.le_of_ble_eq_true rfl) dX11_paper_34 (by decide)) X hV32 [2, 1, 3, 4, 5, 6] [0] rfl rfl rfl (by decide) (fun u H locs hp45 hV44 => ?_)
        have hV44 : kV E A s.heap H locs [(a0, .inr (11, [w0_0, w0_1, .ref a2, .ref a1, w0_4, w0_5, w0_6, w0_7, w0_8])), (a1, .inr (4, [.ref a3, .ref a5, .ref a4, w1_3, w1_4, .int o_p1_readers34_37, .int o_p1_day34_38])), (a2, .inr (7, [.ref a6, w2_1, .int s_sky_many, w2_3])), (a3, .inl (E.2 0, 1440, .inl o_p1_heights34_39)), (a4, .inl (E.2 0, 1440, .inl o_p1_highest34_40)), (a5, .inl (E.2 0, 1440, .inl o_p1_shapes34_41)), (a6, .inl (E.2 3, 10, .inr (.inr (.inr (.inr s_sky_sources)))))] := hV44.sub [0, 2, 1, 3, 4, 5, 6] rfl rfl
        clear hV32
        refine lv_iload_n hx hb dX11_paper_37 rfl (lv_at hl 3 rfl) ?_
        refine lv_if_ne (tgt := 53) hx hb dX11_paper_38 (by decide) (fun c46 => ?_) (fun c46 => ?_)
        · have h47 := ieS c46 h43
          clear h43 c46
          refine lv_aload_n hx hb dX11_paper_53 rfl (lv_at hl 0 rfl) ?_
          refine kget X hV44 (ci := 11) inlX11 rfl 0 rfl 3 (by decide) mw_27 rfl dX11_paper_54 ?_
          refine kget X hV44 (ci := 4) inlX4 rfl 1 rfl 1 (by decide) mw_766 rfl dX11_paper_57 ?_
          refine lv_iload_n hx hb dX11_paper_60 rfl (lv_at hl 2 rfl) ?_
          obtain ⟨hi50, v61_49, e51, h52⟩ := rdI_s h47
          clear h47
          refine kiald X hV44 5 rfl hi50 e51 dX11_paper_61 ?_
          clear hi50 e51
          obtain ⟨q53, q54, q55, q56, q57, q58⟩ := tup6_s h52
          clear h52
          exact hret _ () _ _ _ _ q53 rfl (by rw [← q54, ← q55, ← q56, ← q57, ← q58]; exact hV44) dX11_paper_62
        · have h48 := itS c46 h43
          clear h43 c46
          refine lv_aload_n hx hb dX11_paper_41 rfl (lv_at hl 0 rfl) ?_
          refine kget X hV44 (ci := 11) inlX11 rfl 0 rfl 3 (by decide) mw_27 rfl dX11_paper_42 ?_
          refine kget X hV44 (ci := 4) inlX4 rfl 1 rfl 0 (by decide) mw_765 rfl dX11_paper_45 ?_
          refine lv_iload_n hx hb dX11_paper_48 rfl (lv_at hl 2 rfl) ?_
          obtain ⟨hi60, v49_59, e61, h62⟩ := rdI_s h48
          clear h48
          refine kiald X hV44 3 rfl hi60 e61 dX11_paper_49 ?_
          clear hi60 e61
          refine lv_goto (tgt := 62) hx hb dX11_paper_50 (by decide) ?_
          obtain ⟨q63, q64, q65, q66, q67, q68⟩ := tup6_s h62
          clear h62
          exact hret _ () _ _ _ _ q63 rfl (by rw [← q64, ← q65, ← q66, ← q67, ← q68]; exact hV44) dX11_paper_62
      · have h36 := itS c34 h31
        clear h31 c34
        refine lv_iconst (v := (-1)) hx hb dX11_paper_23 (by decide) ?_
        obtain ⟨q69, q70, q71, q72, q73, q74⟩ := tup6_s h36
        clear h36
        exact hret _ () _ _ _ _ q69 rfl (by rw [← q70, ← q71, ← q72, ← q73, ← q74]; exact hV32) dX11_paper_24
abbrev r_X11_marks : Room := { frames := 5, cells := 0, slots := 0, locals := 110 }
set_option maxHeartbeats 4000000 in
set_option maxRecDepth 100000 in
theorem c_X11_marks (l : Launch) (E : kE) (sz : Nat) (a0 a1 a2 a3 a4 a5 a6 a7 a8 a9 a10 : Nat) (w0_0 w0_1 w0_5 w0_6 w0_7 w0_8 w2_1 w2_3 w7_1 : Value) (s_page_readers : Int32) (s_page_day : Int32) (s_sky_many : Int32) (s_ways : Nat → Option Nat) (s_page_heights : Nat → Int32) (s_page_highest : Nat → Int32) (s_page_marked : Nat → Int32) (s_page_shapes : Nat → Int32) (s_sky_sources : Nat → Option Nat) (s_page_reckoner_letters : Nat → Int32) (p1 : Int32) (p2 : Int32) (p3 : Int32) (r : Int32) (o_page_readers : Int32) (o_page_day : Int32) (o_page_heights : Nat → Int32) (o_page_highest : Nat → Int32) (o_page_marked : Nat → Int32) (o_page_shapes : Nat → Int32) (o_page_reckoner_letters : Nat → Int32) (h : f_X11_marks s_page_readers s_page_day s_sky_many s_ways s_page_heights s_page_highest s_page_marked s_page_shapes s_sky_sources s_page_reckoner_letters p1 p2 p3 = some (r, o_page_readers, o_page_day, o_page_heights, o_page_highest, o_page_marked, o_page_shapes, o_page_reckoner_letters)) : kMi l yX11_marks cX11_marks 4 (some .int) r_X11_marks [.ref a0, .int p1, .int p2, .int p3] E [(a0, .inr (11, [w0_0, w0_1, .ref a2, .ref a1, .ref a3, w0_5, w0_6, w0_7, w0_8])), (a1, .inr (4, [.ref a4, .ref a8, .ref a5, .ref a6, .ref a7, .int s_page_readers, .int s_page_day])), (a2, .inr (7, [.ref a9, w2_1, .int s_sky_many, w2_3])), (a3, .inl (E.2 4, 4, .inr (.inr (.inr (.inr s_ways))))), (a4, .inl (E.2 0, 1440, .inl s_page_heights)), (a5, .inl (E.2 0, 1440, .inl s_page_highest)), (a6, .inl (E.2 0, 1440, .inl s_page_marked)), (a7, .inr (5, [.ref a10, w7_1])), (a8, .inl (E.2 0, 1440, .inl s_page_shapes)), (a9, .inl (E.2 3, 10, .inr (.inr (.inr (.inr s_sky_sources))))), (a10, .inl (E.2 0, 128, .inl s_page_reckoner_letters))] sz 0 0 (fun x (_ : Unit) => x = r) (fun _ => [(a0, .inr (11, [w0_0, w0_1, .ref a2, .ref a1, .ref a3, w0_5, w0_6, w0_7, w0_8])), (a1, .inr (4, [.ref a4, .ref a8, .ref a5, .ref a6, .ref a7, .int o_page_readers, .int o_page_day])), (a2, .inr (7, [.ref a9, w2_1, .int s_sky_many, w2_3])), (a3, .inl (E.2 4, 4, .inr (.inr (.inr (.inr s_ways))))), (a4, .inl (E.2 0, 1440, .inl o_page_heights)), (a5, .inl (E.2 0, 1440, .inl o_page_highest)), (a6, .inl (E.2 0, 1440, .inl o_page_marked)), (a7, .inr (5, [.ref a10, w7_1])), (a8, .inl (E.2 0, 1440, .inl o_page_shapes)), (a9, .inl (E.2 3, 10, .inr (.inr (.inr (.inr s_sky_sources))))), (a10, .inl (E.2 0, 128, .inl o_page_reckoner_letters))]) := by
  refine kmeti rfl (Nat.le_of_ble_eq_true rfl) ?_
  intro p e s m args below meth c ls A Q X hV hret hl
  have X : kC p s m c cX11_marks 4 RX11 args E A := X
  have hx := X.1
  have hb := X.2.1
  have hl : lv_has ls 4 [(0, .ref a0), (1, .int p1), (2, .int p2), (3, .int p3)] := hl
  rw [f_X11_marks] at h
  refine lv_iload_n hx hb dX11_marks_0 rfl (lv_at hl 1 rfl) ?_
  obtain ⟨r1_1, hc2, h3⟩ := cb1_s h
  clear h
  refine kgoiE (krunS (rest := []) X hV [] (c_X11_isReader l E _ p1 r1_1 hc2) mw_584 kb_X11_isReader (by decide) rfl rfl hl.1 rfl (Nat.le_of_ble_eq_true rfl) dX11_marks_1 (by decide)) X hV [] [0, 1, 2, 3, 4, 5, 6, 7, 8, 9, 10] rfl rfl rfl (by decide) (fun u H locs hV4 => ?_)
  have hV4 : kV E A s.heap H locs [(a0, .inr (11, [w0_0, w0_1, .ref a2, .ref a1, .ref a3, w0_5, w0_6, w0_7, w0_8])), (a1, .inr (4, [.ref a4, .ref a8, .ref a5, .ref a6, .ref a7, .int s_page_readers, .int s_page_day])), (a2, .inr (7, [.ref a9, w2_1, .int s_sky_many, w2_3])), (a3, .inl (E.2 4, 4, .inr (.inr (.inr (.inr s_ways))))), (a4, .inl (E.2 0, 1440, .inl s_page_heights)), (a5, .inl (E.2 0, 1440, .inl s_page_highest)), (a6, .inl (E.2 0, 1440, .inl s_page_marked)), (a7, .inr (5, [.ref a10, w7_1])), (a8, .inl (E.2 0, 1440, .inl s_page_shapes)), (a9, .inl (E.2 3, 10, .inr (.inr (.inr (.inr s_sky_sources))))), (a10, .inl (E.2 0, 128, .inl s_page_reckoner_letters))] := hV4.sub [0, 1, 2, 3, 4, 5, 6, 7, 8, 9, 10] rfl rfl
  clear hV
  refine lv_if_eq (tgt := 19) hx hb dX11_marks_4 (by decide) (fun c6 => ?_) (fun c6 => ?_)
  · have h7 := itS c6 h3
    clear h3 c6
    refine lv_iconst (v := (-1)) hx hb dX11_marks_19 (by decide) ?_
    obtain ⟨q9, q10, q11, q12, q13, q14, q15, q16⟩ := tup8_s h7
    clear h7
    exact hret _ () _ _ _ _ q9 rfl (by rw [← q10, ← q11, ← q12, ← q13, ← q14, ← q15, ← q16]; exact hV4) dX11_marks_20
  · have h8 := ieS c6 h3
    clear h3 c6
    refine lv_iload_n hx hb dX11_marks_7 rfl (lv_at hl 2 rfl) ?_
    obtain ⟨r8_17, hc18, h19⟩ := cb1_s h8
    clear h8
    refine kgoiE (krunS (rest := []) X hV4 [] (c_X11_isDay l E _ p2 r8_17 hc18) mw_622 kb_X11_isDay (by decide) rfl rfl hl.1 rfl (Nat.le_of_ble_eq_true rfl) dX11_marks_8 (by decide)) X hV4 [] [0, 1, 2, 3, 4, 5, 6, 7, 8, 9, 10] rfl rfl rfl (by decide) (fun u H locs hV20 => ?_)
    have hV20 : kV E A s.heap H locs [(a0, .inr (11, [w0_0, w0_1, .ref a2, .ref a1, .ref a3, w0_5, w0_6, w0_7, w0_8])), (a1, .inr (4, [.ref a4, .ref a8, .ref a5, .ref a6, .ref a7, .int s_page_readers, .int s_page_day])), (a2, .inr (7, [.ref a9, w2_1, .int s_sky_many, w2_3])), (a3, .inl (E.2 4, 4, .inr (.inr (.inr (.inr s_ways))))), (a4, .inl (E.2 0, 1440, .inl s_page_heights)), (a5, .inl (E.2 0, 1440, .inl s_page_highest)), (a6, .inl (E.2 0, 1440, .inl s_page_marked)), (a7, .inr (5, [.ref a10, w7_1])), (a8, .inl (E.2 0, 1440, .inl s_page_shapes)), (a9, .inl (E.2 3, 10, .inr (.inr (.inr (.inr s_sky_sources))))), (a10, .inl (E.2 0, 128, .inl s_page_reckoner_letters))] := hV20.sub [0, 1, 2, 3, 4, 5, 6, 7, 8, 9, 10] rfl rfl
    clear hV4
    refine lv_if_eq (tgt := 19) hx hb dX11_marks_11 (by decide) (fun c22 => ?_) (fun c22 => ?_)
    · have h23 := itS c22 h19
      clear h19 c22
      refine lv_iconst (v := (-1)) hx hb dX11_marks_19 (by decide) ?_
      obtain ⟨q25, q26, q27, q28, q29, q30, q31, q32⟩ := tup8_s h23
      clear h23
      exact hret _ () _ _ _ _ q25 rfl (by rw [← q26, ← q27, ← q28, ← q29, ← q30, ← q31, ← q32]; exact hV20) dX11_marks_20
    · have h24 := ieS c22 h19
      clear h19 c22
      refine lv_iload_n hx hb dX11_marks_14 rfl (lv_at hl 3 rfl) ?_
      refine lv_iconst (v := (-1)) hx hb dX11_marks_15 (by decide) ?_
      refine lv_icmp_ge (tgt := 21) hx hb dX11_marks_16 (by decide) (fun c33 => ?_) (fun c33 => ?_)
      · have h34 := itS c33 h24
        clear h24 c33
        refine lv_aload_n hx hb dX11_marks_21 rfl (lv_at hl 0 rfl) ?_
        refine kget X hV20 (ci := 11) inlX11 rfl 0 rfl 2 (by decide) mw_23 rfl dX11_marks_22 ?_
        refine lv_aload_n hx hb dX11_marks_25 rfl (lv_at hl 0 rfl) ?_
        refine kget X hV20 (ci := 11) inlX11 rfl 0 rfl 3 (by decide) mw_27 rfl dX11_marks_26 ?_
        refine lv_iload_n hx hb dX11_marks_29 rfl (lv_at hl 2 rfl) ?_
        obtain ⟨o_p1_readers30_36, o_p1_day30_37, o_p1_heights30_38, o_p1_highest30_39, o_p1_shapes30_40, hc41, h42⟩ := cb5_s h34
        clear h34
        refine kgov (krunV (rest := []) X hV20 [2, 1, 4, 5, 8, 9] (c_X7_lay l E _ a2 a1 a4 a5 a8 a9 (w2_1) (w2_3) (.ref a6) (.ref a7) s_sky_many s_page_readers s_page_day s_page_heights s_page_highest s_page_shapes s_sky_sources p2 o_p1_readers30_36 o_p1_day30_37 o_p1_heights30_38 o_p1_highest30_39 o_p1_shapes30_40 hc41) mw_767 kb_X7_lay (ci := 7) rfl rfl (by decide) rfl rfl hl.1 rfl (Nat.le_of_ble_eq_true rfl) dX11_marks_30 (by decide)) X hV20 [2, 1, 4, 5, 8, 9] [0, 3, 6, 7, 10] rfl rfl rfl (by decide) (fun u H locs hp44 hV43 => ?_)
        have hV43 : kV E A s.heap H locs [(a0, .inr (11, [w0_0, w0_1, .ref a2, .ref a1, .ref a3, w0_5, w0_6, w0_7, w0_8])), (a1, .inr (4, [.ref a4, .ref a8, .ref a5, .ref a6, .ref a7, .int o_p1_readers30_36, .int o_p1_day30_37])), (a2, .inr (7, [.ref a9, w2_1, .int s_sky_many, w2_3])), (a3, .inl (E.2 4, 4, .inr (.inr (.inr (.inr s_ways))))), (a4, .inl (E.2 0, 1440, .inl o_p1_heights30_38)), (a5, .inl (E.2 0, 1440, .inl o_p1_highest30_39)), (a6, .inl (E.2 0, 1440, .inl s_page_marked)), (a7, .inr (5, [.ref a10, w7_1])), (a8, .inl (E.2 0, 1440, .inl o_p1_shapes30_40)), (a9, .inl (E.2 3, 10, .inr (.inr (.inr (.inr s_sky_sources))))), (a10, .inl (E.2 0, 128, .inl s_page_reckoner_letters))] := hV43.sub [0, 6, 5, 1, 7, 8, 2, 3, 9, 10, 4] rfl rfl
        clear hV20
        refine lv_aload_n hx hb dX11_marks_33 rfl (lv_at hl 0 rfl) ?_
        refine kget X hV43 (ci := 11) inlX11 rfl 0 rfl 3 (by decide) mw_27 rfl dX11_marks_34 ?_
        refine lv_iload_n hx hb dX11_marks_37 rfl (lv_at hl 1 rfl) ?_
        refine lv_aload_n hx hb dX11_marks_38 rfl (lv_at hl 0 rfl) ?_
        refine kget X hV43 (ci := 11) inlX11 rfl 0 rfl 4 (by decide) mw_29 rfl dX11_marks_39 ?_
        refine lv_iload_n hx hb dX11_marks_42 rfl (lv_at hl 1 rfl) ?_
        obtain ⟨hi45, e46, h47⟩ := rdN_s h42
        clear h42
        refine kaald X hV43 3 4 rfl rfl hi45 e46 dX11_marks_43 ?_
        clear hi45 e46
        refine W.eq (g2 := F0 m 44 ls [.null, .int p1, .ref a1]) rfl ?_
        obtain ⟨o_readers44_48, o_marked44_49, o_reckoner_letters44_50, hc51, h52⟩ := cb3_s h47
        clear h47
        refine kgov (krunV (rest := []) X hV43 [1, 4, 6, 7, 8, 10] (c_X4_read l E _ a1 a4 a6 a7 a8 a10 (.ref a5) (w7_1) o_p1_readers30_36 o_p1_day30_37 o_p1_heights30_38 s_page_marked o_p1_shapes30_40 s_page_reckoner_letters p1 o_readers44_48 o_marked44_49 o_reckoner_letters44_50 hc51) mw_807 kb_X4_read (ci := 4) rfl rfl (by decide) rfl rfl hl.1 rfl (Nat.le_of_ble_eq_true rfl) dX11_marks_44 (by decide)) X hV43 [1, 4, 6, 7, 8, 10] [0, 2, 3, 5, 9] rfl rfl rfl (by decide) (fun u H locs hp54 hV53 => ?_)
        have hV53 : kV E A s.heap H locs [(a0, .inr (11, [w0_0, w0_1, .ref a2, .ref a1, .ref a3, w0_5, w0_6, w0_7, w0_8])), (a1, .inr (4, [.ref a4, .ref a8, .ref a5, .ref a6, .ref a7, .int o_readers44_48, .int o_p1_day30_37])), (a2, .inr (7, [.ref a9, w2_1, .int s_sky_many, w2_3])), (a3, .inl (E.2 4, 4, .inr (.inr (.inr (.inr s_ways))))), (a4, .inl (E.2 0, 1440, .inl o_p1_heights30_38)), (a5, .inl (E.2 0, 1440, .inl o_p1_highest30_39)), (a6, .inl (E.2 0, 1440, .inl o_marked44_49)), (a7, .inr (5, [.ref a10, w7_1])), (a8, .inl (E.2 0, 1440, .inl o_p1_shapes30_40)), (a9, .inl (E.2 3, 10, .inr (.inr (.inr (.inr s_sky_sources))))), (a10, .inl (E.2 0, 128, .inl o_reckoner_letters44_50))] := hV53.sub [0, 5, 1, 2, 6, 3, 7, 8, 9, 4, 10] rfl rfl
        clear hV43
        refine lv_iload_n hx hb dX11_marks_47 rfl (lv_at hl 3 rfl) ?_
        refine lv_iconst (v := (-1)) hx hb dX11_marks_48 (by decide) ?_
        refine lv_icmp_ne (tgt := 63) hx hb dX11_marks_49 (by decide) (fun c55 => ?_) (fun c55 => ?_)
        · have h56 := ieS c55 h52
          clear h52 c55
          refine lv_aload_n hx hb dX11_marks_63 rfl (lv_at hl 0 rfl) ?_
          refine kget X hV53 (ci := 11) inlX11 rfl 0 rfl 3 (by decide) mw_27 rfl dX11_marks_64 ?_
          refine lv_iload_n hx hb dX11_marks_67 rfl (lv_at hl 1 rfl) ?_
          refine lv_iload_n hx hb dX11_marks_68 rfl (lv_at hl 3 rfl) ?_
          obtain ⟨r69_58, hc59, h60⟩ := cb1_s h56
          clear h56
          refine kgoiE (krunV (rest := []) X hV53 [1, 6] (c_X4_markNumber l E _ a1 a6 (.ref a4) (.ref a8) (.ref a5) (.ref a7) (.int o_readers44_48) (.int o_p1_day30_37) o_marked44_49 p1 p3 r69_58 hc59) mw_834 kb_X4_markNumber (ci := 4) rfl rfl (by decide) rfl rfl hl.1 rfl (Nat.le_of_ble_eq_true rfl) dX11_marks_69 (by decide)) X hV53 [1, 6] [0, 2, 3, 4, 5, 7, 8, 9, 10] rfl rfl rfl (by decide) (fun u H locs hV61 => ?_)
          have hV61 : kV E A s.heap H locs [(a0, .inr (11, [w0_0, w0_1, .ref a2, .ref a1, .ref a3, w0_5, w0_6, w0_7, w0_8])), (a1, .inr (4, [.ref a4, .ref a8, .ref a5, .ref a6, .ref a7, .int o_readers44_48, .int o_p1_day30_37])), (a2, .inr (7, [.ref a9, w2_1, .int s_sky_many, w2_3])), (a3, .inl (E.2 4, 4, .inr (.inr (.inr (.inr s_ways))))), (a4, .inl (E.2 0, 1440, .inl o_p1_heights30_38)), (a5, .inl (E.2 0, 1440, .inl o_p1_highest30_39)), (a6, .inl (E.2 0, 1440, .inl o_marked44_49)), (a7, .inr (5, [.ref a10, w7_1])), (a8, .inl (E.2 0, 1440, .inl o_p1_shapes30_40)), (a9, .inl (E.2 3, 10, .inr (.inr (.inr (.inr s_sky_sources))))), (a10, .inl (E.2 0, 128, .inl o_reckoner_letters44_50))] := hV61.sub [0, 9, 1, 2, 3, 4, 10, 5, 6, 7, 8] rfl rfl
          clear hV53
          obtain ⟨q63, q64, q65, q66, q67, q68, q69, q70⟩ := tup8_s h60
          clear h60
          exact hret _ () _ _ _ _ q63 rfl (by rw [← q64, ← q65, ← q66, ← q67, ← q68, ← q69, ← q70]; exact hV61) dX11_marks_72
        · have h57 := itS c55 h52
          clear h52 c55
          refine lv_aload_n hx hb dX11_marks_52 rfl (lv_at hl 0 rfl) ?_
          refine kget X hV53 (ci := 11) inlX11 rfl 0 rfl 3 (by decide) mw_27 rfl dX11_marks_53 ?_
          refine lv_iload_n hx hb dX11_marks_56 rfl (lv_at hl 1 rfl) ?_
          obtain ⟨r57_71, hc72, h73⟩ := cb1_s h57
          clear h57
          refine kgoiE (krunV (rest := []) X hV53 [1, 6] (c_X4_marksOf l E _ a1 a6 (.ref a4) (.ref a8) (.ref a5) (.ref a7) (.int o_readers44_48) (.int o_p1_day30_37) o_marked44_49 p1 r57_71 hc72) mw_826 kb_X4_marksOf (ci := 4) rfl rfl (by decide) rfl rfl hl.1 rfl (Nat.le_of_ble_eq_true rfl) dX11_marks_57 (by decide)) X hV53 [1, 6] [0, 2, 3, 4, 5, 7, 8, 9, 10] rfl rfl rfl (by decide) (fun u H locs hV74 => ?_)
          have hV74 : kV E A s.heap H locs [(a0, .inr (11, [w0_0, w0_1, .ref a2, .ref a1, .ref a3, w0_5, w0_6, w0_7, w0_8])), (a1, .inr (4, [.ref a4, .ref a8, .ref a5, .ref a6, .ref a7, .int o_readers44_48, .int o_p1_day30_37])), (a2, .inr (7, [.ref a9, w2_1, .int s_sky_many, w2_3])), (a3, .inl (E.2 4, 4, .inr (.inr (.inr (.inr s_ways))))), (a4, .inl (E.2 0, 1440, .inl o_p1_heights30_38)), (a5, .inl (E.2 0, 1440, .inl o_p1_highest30_39)), (a6, .inl (E.2 0, 1440, .inl o_marked44_49)), (a7, .inr (5, [.ref a10, w7_1])), (a8, .inl (E.2 0, 1440, .inl o_p1_shapes30_40)), (a9, .inl (E.2 3, 10, .inr (.inr (.inr (.inr s_sky_sources))))), (a10, .inl (E.2 0, 128, .inl o_reckoner_letters44_50))] := hV74.sub [0, 9, 1, 2, 3, 4, 10, 5, 6, 7, 8] rfl rfl
          clear hV53
          refine lv_goto (tgt := 72) hx hb dX11_marks_60 (by decide) ?_
          obtain ⟨q76, q77, q78, q79, q80, q81, q82, q83⟩ := tup8_s h73
          clear h73
          exact hret _ () _ _ _ _ q76 rfl (by rw [← q77, ← q78, ← q79, ← q80, ← q81, ← q82, ← q83]; exact hV74) dX11_marks_72
      · have h35 := ieS c33 h24
        clear h24 c33
        refine lv_iconst (v := (-1)) hx hb dX11_marks_19 (by decide) ?_
        obtain ⟨q84, q85, q86, q87, q88, q89, q90, q91⟩ := tup8_s h35
        clear h35
        exact hret _ () _ _ _ _ q84 rfl (by rw [← q85, ← q86, ← q87, ← q88, ← q89, ← q90, ← q91]; exact hV20) dX11_marks_20
abbrev r_X11_passed : Room := { frames := 6, cells := 0, slots := 0, locals := 134 }
set_option maxHeartbeats 4000000 in
set_option maxRecDepth 100000 in
theorem c_X11_passed (l : Launch) (E : kE) (sz : Nat) (a0 a1 a2 a3 a4 a5 a6 a7 a8 a9 a10 : Nat) (w0_0 w0_1 w0_5 w0_6 w0_7 w0_8 w2_1 w2_3 w7_1 : Value) (s_page_readers : Int32) (s_page_day : Int32) (s_sky_many : Int32) (s_ways : Nat → Option Nat) (s_page_heights : Nat → Int32) (s_page_highest : Nat → Int32) (s_page_marked : Nat → Int32) (s_page_shapes : Nat → Int32) (s_sky_sources : Nat → Option Nat) (s_page_reckoner_letters : Nat → Int32) (p1 : Int32) (p2 : Int32) (p3 : Int32) (p4 : Int32) (p5 : Int32) (r : Int32) (o_page_readers : Int32) (o_page_day : Int32) (o_page_heights : Nat → Int32) (o_page_highest : Nat → Int32) (o_page_marked : Nat → Int32) (o_page_shapes : Nat → Int32) (o_page_reckoner_letters : Nat → Int32) (h : f_X11_passed s_page_readers s_page_day s_sky_many s_ways s_page_heights s_page_highest s_page_marked s_page_shapes s_sky_sources s_page_reckoner_letters p1 p2 p3 p4 p5 = some (r, o_page_readers, o_page_day, o_page_heights, o_page_highest, o_page_marked, o_page_shapes, o_page_reckoner_letters)) : kMi l yX11_passed cX11_passed 10 (some .int) r_X11_passed [.ref a0, .int p1, .int p2, .int p3, .int p4, .int p5] E [(a0, .inr (11, [w0_0, w0_1, .ref a2, .ref a1, .ref a3, w0_5, w0_6, w0_7, w0_8])), (a1, .inr (4, [.ref a4, .ref a8, .ref a5, .ref a6, .ref a7, .int s_page_readers, .int s_page_day])), (a2, .inr (7, [.ref a9, w2_1, .int s_sky_many, w2_3])), (a3, .inl (E.2 4, 4, .inr (.inr (.inr (.inr s_ways))))), (a4, .inl (E.2 0, 1440, .inl s_page_heights)), (a5, .inl (E.2 0, 1440, .inl s_page_highest)), (a6, .inl (E.2 0, 1440, .inl s_page_marked)), (a7, .inr (5, [.ref a10, w7_1])), (a8, .inl (E.2 0, 1440, .inl s_page_shapes)), (a9, .inl (E.2 3, 10, .inr (.inr (.inr (.inr s_sky_sources))))), (a10, .inl (E.2 0, 128, .inl s_page_reckoner_letters))] sz 0 0 (fun x (_ : Unit) => x = r) (fun _ => [(a0, .inr (11, [w0_0, w0_1, .ref a2, .ref a1, .ref a3, w0_5, w0_6, w0_7, w0_8])), (a1, .inr (4, [.ref a4, .ref a8, .ref a5, .ref a6, .ref a7, .int o_page_readers, .int o_page_day])), (a2, .inr (7, [.ref a9, w2_1, .int s_sky_many, w2_3])), (a3, .inl (E.2 4, 4, .inr (.inr (.inr (.inr s_ways))))), (a4, .inl (E.2 0, 1440, .inl o_page_heights)), (a5, .inl (E.2 0, 1440, .inl o_page_highest)), (a6, .inl (E.2 0, 1440, .inl o_page_marked)), (a7, .inr (5, [.ref a10, w7_1])), (a8, .inl (E.2 0, 1440, .inl o_page_shapes)), (a9, .inl (E.2 3, 10, .inr (.inr (.inr (.inr s_sky_sources))))), (a10, .inl (E.2 0, 128, .inl o_page_reckoner_letters))]) := by
  refine kmeti rfl (Nat.le_of_ble_eq_true rfl) ?_
  intro p e s m args below meth c ls A Q X hV hret hl
  have X : kC p s m c cX11_passed 10 RX11 args E A := X
  have hx := X.1
  have hb := X.2.1
  have hl : lv_has ls 10 [(0, .ref a0), (1, .int p1), (2, .int p2), (3, .int p3), (4, .int p4), (5, .int p5)] := hl
  rw [f_X11_passed] at h
  refine lv_iload_n hx hb dX11_passed_0 rfl (lv_at hl 1 rfl) ?_
  obtain ⟨r1_1, hc2, h3⟩ := cb1_s h
  clear h
  refine kgoiE (krunS (rest := []) X hV [] (c_X11_isReader l E _ p1 r1_1 hc2) mw_584 kb_X11_isReader (by decide) rfl rfl hl.1 rfl (Nat.le_of_ble_eq_true rfl) dX11_passed_1 (by decide)) X hV [] [0, 1, 2, 3, 4, 5, 6, 7, 8, 9, 10] rfl rfl rfl (by decide) (fun u H locs hV4 => ?_)
  have hV4 : kV E A s.heap H locs [(a0, .inr (11, [w0_0, w0_1, .ref a2, .ref a1, .ref a3, w0_5, w0_6, w0_7, w0_8])), (a1, .inr (4, [.ref a4, .ref a8, .ref a5, .ref a6, .ref a7, .int s_page_readers, .int s_page_day])), (a2, .inr (7, [.ref a9, w2_1, .int s_sky_many, w2_3])), (a3, .inl (E.2 4, 4, .inr (.inr (.inr (.inr s_ways))))), (a4, .inl (E.2 0, 1440, .inl s_page_heights)), (a5, .inl (E.2 0, 1440, .inl s_page_highest)), (a6, .inl (E.2 0, 1440, .inl s_page_marked)), (a7, .inr (5, [.ref a10, w7_1])), (a8, .inl (E.2 0, 1440, .inl s_page_shapes)), (a9, .inl (E.2 3, 10, .inr (.inr (.inr (.inr s_sky_sources))))), (a10, .inl (E.2 0, 128, .inl s_page_reckoner_letters))] := hV4.sub [0, 1, 2, 3, 4, 5, 6, 7, 8, 9, 10] rfl rfl
  clear hV
  have J44 : ∀ (t0_6 : Int32) (H : Heap) (locs : List Loc) (ls : Array Slot), (f_X11_passed_J44 s_page_readers s_page_day s_sky_many s_ways s_page_heights s_page_highest s_page_marked s_page_shapes s_sky_sources s_page_reckoner_letters p1 p2 p3 p4 p5 ) t0_6 = some (r, o_page_readers, o_page_day, o_page_heights, o_page_highest, o_page_marked, o_page_shapes, o_page_reckoner_letters) → kV E A s.heap H locs [(a0, .inr (11, [w0_0, w0_1, .ref a2, .ref a1, .ref a3, w0_5, w0_6, w0_7, w0_8])), (a1, .inr (4, [.ref a4, .ref a8, .ref a5, .ref a6, .ref a7, .int s_page_readers, .int s_page_day])), (a2, .inr (7, [.ref a9, w2_1, .int s_sky_many, w2_3])), (a3, .inl (E.2 4, 4, .inr (.inr (.inr (.inr s_ways))))), (a4, .inl (E.2 0, 1440, .inl s_page_heights)), (a5, .inl (E.2 0, 1440, .inl s_page_highest)), (a6, .inl (E.2 0, 1440, .inl s_page_marked)), (a7, .inr (5, [.ref a10, w7_1])), (a8, .inl (E.2 0, 1440, .inl s_page_shapes)), (a9, .inl (E.2 3, 10, .inr (.inr (.inr (.inr s_sky_sources))))), (a10, .inl (E.2 0, 128, .inl s_page_reckoner_letters))] → lv_has ls 10 [(0, .ref a0), (1, .int p1), (2, .int p2), (3, .int p3), (4, .int p4), (5, .int p5)] → W p l e r_X11_passed s m args below meth c H locs 0 0 Q (F0 m 44 ls [.int t0_6]) := by
    intro t0_6 H locs ls hB44 hVB44 hlB44
    rw [f_X11_passed_J44] at hB44
    refine lv_istore (lv' := [(6, .int t0_6), (0, .ref a0), (1, .int p1), (2, .int p2), (3, .int p3), (4, .int p4), (5, .int p5)]) hx hb dX11_passed_44 hlB44 (by decide) rfl (fun ls hl7 => ?_)
    clear hlB44
    refine lv_iload hx hb dX11_passed_46 (lv_at hl7 0 rfl) ?_
    refine lv_if_eq (tgt := 66) hx hb dX11_passed_48 (by decide) (fun c8 => ?_) (fun c8 => ?_)
    · have h9 := itS c8 hB44
      clear hB44 c8
      refine lv_iconst (v := (-1)) hx hb dX11_passed_66 (by decide) ?_
      obtain ⟨q11, q12, q13, q14, q15, q16, q17, q18⟩ := tup8_s h9
      clear h9
      exact hret _ () _ _ _ _ q11 rfl (by rw [← q12, ← q13, ← q14, ← q15, ← q16, ← q17, ← q18]; exact hVB44) dX11_passed_67
    · have h10 := ieS c8 hB44
      clear hB44 c8
      refine lv_iload_n hx hb dX11_passed_51 rfl (lv_at hl7 4 rfl) ?_
      refine lv_iload hx hb dX11_passed_52 (lv_at hl7 5 rfl) ?_
      refine lv_icmp_gt (tgt := 66) hx hb dX11_passed_54 (by decide) (fun c19 => ?_) (fun c19 => ?_)
      · have h20 := itS c19 h10
        clear h10 c19
        refine lv_iconst (v := (-1)) hx hb dX11_passed_66 (by decide) ?_
        obtain ⟨q22, q23, q24, q25, q26, q27, q28, q29⟩ := tup8_s h20
        clear h20
        exact hret _ () _ _ _ _ q22 rfl (by rw [← q23, ← q24, ← q25, ← q26, ← q27, ← q28, ← q29]; exact hVB44) dX11_passed_67
      · have h21 := ieS c19 h10
        clear h10 c19
        refine lv_iload hx hb dX11_passed_57 (lv_at hl7 5 rfl) ?_
        refine lv_iload_n hx hb dX11_passed_59 rfl (lv_at hl7 4 rfl) ?_
        refine lv_isub hx hb dX11_passed_60 ?_
        refine lv_bipush (v := 30) hx hb dX11_passed_61 (by decide) ?_
        refine lv_icmp_lt (tgt := 68) hx hb dX11_passed_63 (by decide) (fun c30 => ?_) (fun c30 => ?_)
        · have h31 := itS c30 h21
          clear h21 c30
          refine lv_iconst (v := 0) hx hb dX11_passed_68 (by decide) ?_
          refine lv_istore (lv' := [(7, .int 0), (6, .int t0_6), (0, .ref a0), (1, .int p1), (2, .int p2), (3, .int p3), (4, .int p4), (5, .int p5)]) hx hb dX11_passed_69 hl7 (by decide) rfl (fun ls hl33 => ?_)
          clear hl7
          refine lv_iload_n hx hb dX11_passed_71 rfl (lv_at hl33 5 rfl) ?_
          refine lv_istore (lv' := [(8, .int p3), (7, .int 0), (6, .int t0_6), (0, .ref a0), (1, .int p1), (2, .int p2), (3, .int p3), (4, .int p4), (5, .int p5)]) hx hb dX11_passed_72 hl33 (by decide) rfl (fun ls hl34 => ?_)
          clear hl33
          have J143 : ∀ (x8_35 : Int32) (page_day__36 : Int32) (page_readers__37 : Int32) (page_heights__38 : Nat → Int32) (page_highest__39 : Nat → Int32) (page_marked__40 : Nat → Int32) (page_reckoner_letters__41 : Nat → Int32) (page_shapes__42 : Nat → Int32) (H : Heap) (locs : List Loc) (ls : Array Slot), (f_X11_passed_J143 p5 ) x8_35 page_day__36 page_readers__37 page_heights__38 page_highest__39 page_marked__40 page_reckoner_letters__41 page_shapes__42 = some (r, o_page_readers, o_page_day, o_page_heights, o_page_highest, o_page_marked, o_page_shapes, o_page_reckoner_letters) → kV E A s.heap H locs [(a0, .inr (11, [w0_0, w0_1, .ref a2, .ref a1, .ref a3, w0_5, w0_6, w0_7, w0_8])), (a1, .inr (4, [.ref a4, .ref a8, .ref a5, .ref a6, .ref a7, .int page_readers__37, .int page_day__36])), (a2, .inr (7, [.ref a9, w2_1, .int s_sky_many, w2_3])), (a3, .inl (E.2 4, 4, .inr (.inr (.inr (.inr s_ways))))), (a4, .inl (E.2 0, 1440, .inl page_heights__38)), (a5, .inl (E.2 0, 1440, .inl page_highest__39)), (a6, .inl (E.2 0, 1440, .inl page_marked__40)), (a7, .inr (5, [.ref a10, w7_1])), (a8, .inl (E.2 0, 1440, .inl page_shapes__42)), (a9, .inl (E.2 3, 10, .inr (.inr (.inr (.inr s_sky_sources))))), (a10, .inl (E.2 0, 128, .inl page_reckoner_letters__41))] → lv_has ls 10 [(0, .ref a0), (1, .int p1), (2, .int p2), (5, .int p5), (8, .int x8_35)] → W p l e r_X11_passed s m args below meth c H locs 0 0 Q (F0 m 143 ls []) := by
            intro x8_35 page_day__36 page_readers__37 page_heights__38 page_highest__39 page_marked__40 page_reckoner_letters__41 page_shapes__42 H locs ls hB143 hVB143 hlB143
            rw [f_X11_passed_J143] at hB143
            refine lv_iload hx hb dX11_passed_143 (lv_at hlB143 3 rfl) ?_
            refine lv_iconst (v := 1) hx hb dX11_passed_145 (by decide) ?_
            refine lv_icmp_ne (tgt := 154) hx hb dX11_passed_146 (by decide) (fun c43 => ?_) (fun c43 => ?_)
            · have h44 := ieS c43 hB143
              clear hB143 c43
              refine lv_aload_n hx hb dX11_passed_154 rfl (lv_at hlB143 0 rfl) ?_
              refine kget X hVB143 (ci := 11) inlX11 rfl 0 rfl 3 (by decide) mw_27 rfl dX11_passed_155 ?_
              refine lv_iload_n hx hb dX11_passed_158 rfl (lv_at hlB143 1 rfl) ?_
              refine lv_iload_n hx hb dX11_passed_159 rfl (lv_at hlB143 2 rfl) ?_
              exact nomatch h44
            · have h45 := itS c43 hB143
              clear hB143 c43
              refine lv_iload hx hb dX11_passed_149 (lv_at hlB143 4 rfl) ?_
              refine lv_goto (tgt := 163) hx hb dX11_passed_151 (by decide) ?_
              obtain ⟨q46, q47, q48, q49, q50, q51, q52, q53⟩ := tup8_s h45
              clear h45
              exact hret _ () _ _ _ _ q46 rfl (by rw [← q47, ← q48, ← q49, ← q50, ← q51, ← q52, ← q53]; exact hVB143) dX11_passed_163
          have J177 : ∀ (x7_54 : Int32) (page_day__55 : Int32) (page_readers__56 : Int32) (page_heights__57 : Nat → Int32) (page_highest__58 : Nat → Int32) (page_marked__59 : Nat → Int32) (page_reckoner_letters__60 : Nat → Int32) (page_shapes__61 : Nat → Int32) (H : Heap) (locs : List Loc) (ls : Array Slot), (f_X11_passed_J177 p5 ) x7_54 page_day__55 page_readers__56 page_heights__57 page_highest__58 page_marked__59 page_reckoner_letters__60 page_shapes__61 = some (r, o_page_readers, o_page_day, o_page_heights, o_page_highest, o_page_marked, o_page_shapes, o_page_reckoner_letters) → kV E A s.heap H locs [(a0, .inr (11, [w0_0, w0_1, .ref a2, .ref a1, .ref a3, w0_5, w0_6, w0_7, w0_8])), (a1, .inr (4, [.ref a4, .ref a8, .ref a5, .ref a6, .ref a7, .int page_readers__56, .int page_day__55])), (a2, .inr (7, [.ref a9, w2_1, .int s_sky_many, w2_3])), (a3, .inl (E.2 4, 4, .inr (.inr (.inr (.inr s_ways))))), (a4, .inl (E.2 0, 1440, .inl page_heights__57)), (a5, .inl (E.2 0, 1440, .inl page_highest__58)), (a6, .inl (E.2 0, 1440, .inl page_marked__59)), (a7, .inr (5, [.ref a10, w7_1])), (a8, .inl (E.2 0, 1440, .inl page_shapes__61)), (a9, .inl (E.2 3, 10, .inr (.inr (.inr (.inr s_sky_sources))))), (a10, .inl (E.2 0, 128, .inl page_reckoner_letters__60))] → lv_has ls 10 [(5, .int p5), (7, .int x7_54)] → W p l e r_X11_passed s m args below meth c H locs 0 0 Q (F0 m 177 ls []) := by
            intro x7_54 page_day__55 page_readers__56 page_heights__57 page_highest__58 page_marked__59 page_reckoner_letters__60 page_shapes__61 H locs ls hB177 hVB177 hlB177
            rw [f_X11_passed_J177] at hB177
            refine lv_iload hx hb dX11_passed_177 (lv_at hlB177 0 rfl) ?_
            refine lv_if_ne (tgt := 187) hx hb dX11_passed_179 (by decide) (fun c62 => ?_) (fun c62 => ?_)
            · have h63 := ieS c62 hB177
              clear hB177 c62
              refine lv_iconst (v := (-1)) hx hb dX11_passed_187 (by decide) ?_
              obtain ⟨q65, q66, q67, q68, q69, q70, q71, q72⟩ := tup8_s h63
              clear h63
              exact hret _ () _ _ _ _ q65 rfl (by rw [← q66, ← q67, ← q68, ← q69, ← q70, ← q71, ← q72]; exact hVB177) dX11_passed_188
            · have h64 := itS c62 hB177
              clear hB177 c62
              refine lv_iload hx hb dX11_passed_182 (lv_at hlB177 1 rfl) ?_
              refine lv_goto (tgt := 188) hx hb dX11_passed_184 (by decide) ?_
              obtain ⟨q73, q74, q75, q76, q77, q78, q79, q80⟩ := tup8_s h64
              clear h64
              exact hret _ () _ _ _ _ q73 rfl (by rw [← q74, ← q75, ← q76, ← q77, ← q78, ← q79, ← q80]; exact hVB177) dX11_passed_188
          have L74 : ∀ (n74 : Nat) (x7_81 : Int32) (x8_82 : Int32) (page_day__83 : Int32) (page_readers__84 : Int32) (page_heights__85 : Nat → Int32) (page_highest__86 : Nat → Int32) (page_marked__87 : Nat → Int32) (page_reckoner_letters__88 : Nat → Int32) (page_shapes__89 : Nat → Int32) (H : Heap) (locs : List Loc) (ls : Array Slot), (f_X11_passed_L74 s_sky_many s_ways s_sky_sources p1 p2 p4 p5 (f_X11_passed_J143 p5 ) (f_X11_passed_J177 p5 ) n74) x7_81 x8_82 page_day__83 page_readers__84 page_heights__85 page_highest__86 page_marked__87 page_reckoner_letters__88 page_shapes__89 = some (r, o_page_readers, o_page_day, o_page_heights, o_page_highest, o_page_marked, o_page_shapes, o_page_reckoner_letters) → kV E A s.heap H locs [(a0, .inr (11, [w0_0, w0_1, .ref a2, .ref a1, .ref a3, w0_5, w0_6, w0_7, w0_8])), (a1, .inr (4, [.ref a4, .ref a8, .ref a5, .ref a6, .ref a7, .int page_readers__84, .int page_day__83])), (a2, .inr (7, [.ref a9, w2_1, .int s_sky_many, w2_3])), (a3, .inl (E.2 4, 4, .inr (.inr (.inr (.inr s_ways))))), (a4, .inl (E.2 0, 1440, .inl page_heights__85)), (a5, .inl (E.2 0, 1440, .inl page_highest__86)), (a6, .inl (E.2 0, 1440, .inl page_marked__87)), (a7, .inr (5, [.ref a10, w7_1])), (a8, .inl (E.2 0, 1440, .inl page_shapes__89)), (a9, .inl (E.2 3, 10, .inr (.inr (.inr (.inr s_sky_sources))))), (a10, .inl (E.2 0, 128, .inl page_reckoner_letters__88))] → lv_has ls 10 [(0, .ref a0), (1, .int p1), (2, .int p2), (4, .int p4), (5, .int p5), (7, .int x7_81), (8, .int x8_82)] → W p l e r_X11_passed s m args below meth c H locs 0 0 Q (F0 m 74 ls []) := by
            intro n74
            induction n74 with
            | zero =>
              intro x7_81 x8_82 page_day__83 page_readers__84 page_heights__85 page_highest__86 page_marked__87 page_reckoner_letters__88 page_shapes__89 H locs ls hB74 hVB74 hlB74
              rw [f_X11_passed_L74] at hB74
              exact nomatch hB74
            | succ n74 ih74 =>
              intro x7_81 x8_82 page_day__83 page_readers__84 page_heights__85 page_highest__86 page_marked__87 page_reckoner_letters__88 page_shapes__89 H locs ls hB74 hVB74 hlB74
              rw [f_X11_passed_L74] at hB74
              refine lv_iload hx hb dX11_passed_74 (lv_at hlB74 6 rfl) ?_
              refine lv_iload hx hb dX11_passed_76 (lv_at hlB74 3 rfl) ?_
              refine lv_icmp_gt (tgt := 177) hx hb dX11_passed_78 (by decide) (fun c90 => ?_) (fun c90 => ?_)
              · have h91 := itS c90 hB74
                clear hB74 c90
                exact J177 x7_81 page_day__83 page_readers__84 page_heights__85 page_highest__86 page_marked__87 page_reckoner_letters__88 page_shapes__89 _ _ _ h91 hVB74 (lv_sub hlB74 [4, 5] rfl)
              · have h92 := ieS c90 hB74
                clear hB74 c90
                refine lv_aload_n hx hb dX11_passed_81 rfl (lv_at hlB74 0 rfl) ?_
                refine kget X hVB74 (ci := 11) inlX11 rfl 0 rfl 2 (by decide) mw_23 rfl dX11_passed_82 ?_
                refine lv_aload_n hx hb dX11_passed_85 rfl (lv_at hlB74 0 rfl) ?_
                refine kget X hVB74 (ci := 11) inlX11 rfl 0 rfl 3 (by decide) mw_27 rfl dX11_passed_86 ?_
                refine lv_iload hx hb dX11_passed_89 (lv_at hlB74 6 rfl) ?_
                obtain ⟨o_p1_readers91_93, o_p1_day91_94, o_p1_heights91_95, o_p1_highest91_96, o_p1_shapes91_97, hc98, h99⟩ := cb5_s h92
                clear h92
                refine kgov (krunV (rest := []) X hVB74 [2, 1, 4, 5, 8, 9] (c_X7_lay l E _ a2 a1 a4 a5 a8 a9 (w2_1) (w2_3) (.ref a6) (.ref a7) s_sky_many page_readers__84 page_day__83 page_heights__85 page_highest__86 page_shapes__89 s_sky_sources x8_82 o_p1_readers91_93 o_p1_day91_94 o_p1_heights91_95 o_p1_highest91_96 o_p1_shapes91_97 hc98) mw_767 kb_X7_lay (ci := 7) rfl rfl (by decide) rfl rfl hlB74.1 rfl (Nat.le_of_ble_eq_true rfl) dX11_passed_91 (by decide)) X hVB74 [2, 1, 4, 5, 8, 9] [0, 3, 6, 7, 10] rfl rfl rfl (by decide) (fun u H locs hp101 hV100 => ?_)
                have hV100 : kV E A s.heap H locs [(a0, .inr (11, [w0_0, w0_1, .ref a2, .ref a1, .ref a3, w0_5, w0_6, w0_7, w0_8])), (a1, .inr (4, [.ref a4, .ref a8, .ref a5, .ref a6, .ref a7, .int o_p1_readers91_93, .int o_p1_day91_94])), (a2, .inr (7, [.ref a9, w2_1, .int s_sky_many, w2_3])), (a3, .inl (E.2 4, 4, .inr (.inr (.inr (.inr s_ways))))), (a4, .inl (E.2 0, 1440, .inl o_p1_heights91_95)), (a5, .inl (E.2 0, 1440, .inl o_p1_highest91_96)), (a6, .inl (E.2 0, 1440, .inl page_marked__87)), (a7, .inr (5, [.ref a10, w7_1])), (a8, .inl (E.2 0, 1440, .inl o_p1_shapes91_97)), (a9, .inl (E.2 3, 10, .inr (.inr (.inr (.inr s_sky_sources))))), (a10, .inl (E.2 0, 128, .inl page_reckoner_letters__88))] := hV100.sub [0, 6, 5, 1, 7, 8, 2, 3, 9, 10, 4] rfl rfl
                clear hVB74
                refine lv_aload_n hx hb dX11_passed_94 rfl (lv_at hlB74 0 rfl) ?_
                refine kget X hV100 (ci := 11) inlX11 rfl 0 rfl 3 (by decide) mw_27 rfl dX11_passed_95 ?_
                refine lv_iload_n hx hb dX11_passed_98 rfl (lv_at hlB74 1 rfl) ?_
                refine lv_aload_n hx hb dX11_passed_99 rfl (lv_at hlB74 0 rfl) ?_
                refine kget X hV100 (ci := 11) inlX11 rfl 0 rfl 4 (by decide) mw_29 rfl dX11_passed_100 ?_
                refine lv_iload_n hx hb dX11_passed_103 rfl (lv_at hlB74 1 rfl) ?_
                obtain ⟨hi102, e103, h104⟩ := rdN_s h99
                clear h99
                refine kaald X hV100 3 4 rfl rfl hi102 e103 dX11_passed_104 ?_
                clear hi102 e103
                refine W.eq (g2 := F0 m 105 ls [.null, .int p1, .ref a1]) rfl ?_
                obtain ⟨o_readers105_105, o_marked105_106, o_reckoner_letters105_107, hc108, h109⟩ := cb3_s h104
                clear h104
                refine kgov (krunV (rest := []) X hV100 [1, 4, 6, 7, 8, 10] (c_X4_read l E _ a1 a4 a6 a7 a8 a10 (.ref a5) (w7_1) o_p1_readers91_93 o_p1_day91_94 o_p1_heights91_95 page_marked__87 o_p1_shapes91_97 page_reckoner_letters__88 p1 o_readers105_105 o_marked105_106 o_reckoner_letters105_107 hc108) mw_807 kb_X4_read (ci := 4) rfl rfl (by decide) rfl rfl hlB74.1 rfl (Nat.le_of_ble_eq_true rfl) dX11_passed_105 (by decide)) X hV100 [1, 4, 6, 7, 8, 10] [0, 2, 3, 5, 9] rfl rfl rfl (by decide) (fun u H locs hp111 hV110 => ?_)
                have hV110 : kV E A s.heap H locs [(a0, .inr (11, [w0_0, w0_1, .ref a2, .ref a1, .ref a3, w0_5, w0_6, w0_7, w0_8])), (a1, .inr (4, [.ref a4, .ref a8, .ref a5, .ref a6, .ref a7, .int o_readers105_105, .int o_p1_day91_94])), (a2, .inr (7, [.ref a9, w2_1, .int s_sky_many, w2_3])), (a3, .inl (E.2 4, 4, .inr (.inr (.inr (.inr s_ways))))), (a4, .inl (E.2 0, 1440, .inl o_p1_heights91_95)), (a5, .inl (E.2 0, 1440, .inl o_p1_highest91_96)), (a6, .inl (E.2 0, 1440, .inl o_marked105_106)), (a7, .inr (5, [.ref a10, w7_1])), (a8, .inl (E.2 0, 1440, .inl o_p1_shapes91_97)), (a9, .inl (E.2 3, 10, .inr (.inr (.inr (.inr s_sky_sources))))), (a10, .inl (E.2 0, 128, .inl o_reckoner_letters105_107))] := hV110.sub [0, 5, 1, 2, 6, 3, 7, 8, 9, 4, 10] rfl rfl
                clear hV100
                refine lv_aload_n hx hb dX11_passed_108 rfl (lv_at hlB74 0 rfl) ?_
                refine kget X hV110 (ci := 11) inlX11 rfl 0 rfl 3 (by decide) mw_27 rfl dX11_passed_109 ?_
                refine lv_iload_n hx hb dX11_passed_112 rfl (lv_at hlB74 2 rfl) ?_
                refine lv_aload_n hx hb dX11_passed_113 rfl (lv_at hlB74 0 rfl) ?_
                refine kget X hV110 (ci := 11) inlX11 rfl 0 rfl 4 (by decide) mw_29 rfl dX11_passed_114 ?_
                refine lv_iload_n hx hb dX11_passed_117 rfl (lv_at hlB74 2 rfl) ?_
                obtain ⟨hi112, e113, h114⟩ := rdN_s h109
                clear h109
                refine kaald X hV110 3 4 rfl rfl hi112 e113 dX11_passed_118 ?_
                clear hi112 e113
                refine W.eq (g2 := F0 m 119 ls [.null, .int p2, .ref a1]) rfl ?_
                obtain ⟨o_readers119_115, o_marked119_116, o_reckoner_letters119_117, hc118, h119⟩ := cb3_s h114
                clear h114
                refine kgov (krunV (rest := []) X hV110 [1, 4, 6, 7, 8, 10] (c_X4_read l E _ a1 a4 a6 a7 a8 a10 (.ref a5) (w7_1) o_readers105_105 o_p1_day91_94 o_p1_heights91_95 o_marked105_106 o_p1_shapes91_97 o_reckoner_letters105_107 p2 o_readers119_115 o_marked119_116 o_reckoner_letters119_117 hc118) mw_807 kb_X4_read (ci := 4) rfl rfl (by decide) rfl rfl hlB74.1 rfl (Nat.le_of_ble_eq_true rfl) dX11_passed_119 (by decide)) X hV110 [1, 4, 6, 7, 8, 10] [0, 2, 3, 5, 9] rfl rfl rfl (by decide) (fun u H locs hp121 hV120 => ?_)
                have hV120 : kV E A s.heap H locs [(a0, .inr (11, [w0_0, w0_1, .ref a2, .ref a1, .ref a3, w0_5, w0_6, w0_7, w0_8])), (a1, .inr (4, [.ref a4, .ref a8, .ref a5, .ref a6, .ref a7, .int o_readers119_115, .int o_p1_day91_94])), (a2, .inr (7, [.ref a9, w2_1, .int s_sky_many, w2_3])), (a3, .inl (E.2 4, 4, .inr (.inr (.inr (.inr s_ways))))), (a4, .inl (E.2 0, 1440, .inl o_p1_heights91_95)), (a5, .inl (E.2 0, 1440, .inl o_p1_highest91_96)), (a6, .inl (E.2 0, 1440, .inl o_marked119_116)), (a7, .inr (5, [.ref a10, w7_1])), (a8, .inl (E.2 0, 1440, .inl o_p1_shapes91_97)), (a9, .inl (E.2 3, 10, .inr (.inr (.inr (.inr s_sky_sources))))), (a10, .inl (E.2 0, 128, .inl o_reckoner_letters119_117))] := hV120.sub [0, 5, 1, 2, 6, 3, 7, 8, 9, 4, 10] rfl rfl
                clear hV110
                refine lv_aload_n hx hb dX11_passed_122 rfl (lv_at hlB74 0 rfl) ?_
                refine kget X hV120 (ci := 11) inlX11 rfl 0 rfl 3 (by decide) mw_27 rfl dX11_passed_123 ?_
                refine lv_iload_n hx hb dX11_passed_126 rfl (lv_at hlB74 1 rfl) ?_
                refine lv_iload_n hx hb dX11_passed_127 rfl (lv_at hlB74 2 rfl) ?_
                obtain ⟨r128_122, hc123, h124⟩ := cb1_s h119
                clear h119
                refine kgoiE (krunV (rest := []) X hV120 [1, 6] (c_X4_passedMarks l E _ a1 a6 (.ref a4) (.ref a8) (.ref a5) (.ref a7) (.int o_readers119_115) (.int o_p1_day91_94) o_marked119_116 p1 p2 r128_122 hc123) mw_866 kb_X4_passedMarks (ci := 4) rfl rfl (by decide) rfl rfl hlB74.1 rfl (Nat.le_of_ble_eq_true rfl) dX11_passed_128 (by decide)) X hV120 [1, 6] [0, 2, 3, 4, 5, 7, 8, 9, 10] rfl rfl rfl (by decide) (fun u H locs hV125 => ?_)
                have hV125 : kV E A s.heap H locs [(a0, .inr (11, [w0_0, w0_1, .ref a2, .ref a1, .ref a3, w0_5, w0_6, w0_7, w0_8])), (a1, .inr (4, [.ref a4, .ref a8, .ref a5, .ref a6, .ref a7, .int o_readers119_115, .int o_p1_day91_94])), (a2, .inr (7, [.ref a9, w2_1, .int s_sky_many, w2_3])), (a3, .inl (E.2 4, 4, .inr (.inr (.inr (.inr s_ways))))), (a4, .inl (E.2 0, 1440, .inl o_p1_heights91_95)), (a5, .inl (E.2 0, 1440, .inl o_p1_highest91_96)), (a6, .inl (E.2 0, 1440, .inl o_marked119_116)), (a7, .inr (5, [.ref a10, w7_1])), (a8, .inl (E.2 0, 1440, .inl o_p1_shapes91_97)), (a9, .inl (E.2 3, 10, .inr (.inr (.inr (.inr s_sky_sources))))), (a10, .inl (E.2 0, 128, .inl o_reckoner_letters119_117))] := hV125.sub [0, 9, 1, 2, 3, 4, 10, 5, 6, 7, 8] rfl rfl
                clear hV120
                refine lv_istore (lv' := [(9, .int r128_122), (0, .ref a0), (1, .int p1), (2, .int p2), (4, .int p4), (5, .int p5), (7, .int x7_81), (8, .int x8_82)]) hx hb dX11_passed_131 hlB74 (by decide) rfl (fun ls hl127 => ?_)
                clear hlB74
                refine lv_iload hx hb dX11_passed_133 (lv_at hl127 0 rfl) ?_
                have J164 : ∀  (H : Heap) (locs : List Loc) (ls : Array Slot), (f_X11_passed_J164 x7_81 x8_82 o_p1_day91_94 o_p1_heights91_95 o_p1_highest91_96 o_p1_shapes91_97 o_readers119_115 o_marked119_116 o_reckoner_letters119_117 r128_122 (f_X11_passed_L74 s_sky_many s_ways s_sky_sources p1 p2 p4 p5 (f_X11_passed_J143 p5 ) (f_X11_passed_J177 p5 ) n74)) = some (r, o_page_readers, o_page_day, o_page_heights, o_page_highest, o_page_marked, o_page_shapes, o_page_reckoner_letters) → kV E A s.heap H locs [(a0, .inr (11, [w0_0, w0_1, .ref a2, .ref a1, .ref a3, w0_5, w0_6, w0_7, w0_8])), (a1, .inr (4, [.ref a4, .ref a8, .ref a5, .ref a6, .ref a7, .int o_readers119_115, .int o_p1_day91_94])), (a2, .inr (7, [.ref a9, w2_1, .int s_sky_many, w2_3])), (a3, .inl (E.2 4, 4, .inr (.inr (.inr (.inr s_ways))))), (a4, .inl (E.2 0, 1440, .inl o_p1_heights91_95)), (a5, .inl (E.2 0, 1440, .inl o_p1_highest91_96)), (a6, .inl (E.2 0, 1440, .inl o_marked119_116)), (a7, .inr (5, [.ref a10, w7_1])), (a8, .inl (E.2 0, 1440, .inl o_p1_shapes91_97)), (a9, .inl (E.2 3, 10, .inr (.inr (.inr (.inr s_sky_sources))))), (a10, .inl (E.2 0, 128, .inl o_reckoner_letters119_117))] → lv_has ls 10 [(0, .ref a0), (1, .int p1), (2, .int p2), (4, .int p4), (5, .int p5), (7, .int x7_81), (8, .int x8_82), (9, .int r128_122)] → W p l e r_X11_passed s m args below meth c H locs 0 0 Q (F0 m 164 ls []) := by
                  intro  H locs ls hB164 hVB164 hlB164
                  rw [f_X11_passed_J164] at hB164
                  refine lv_iload hx hb dX11_passed_164 (lv_at hlB164 5 rfl) ?_
                  refine lv_iload hx hb dX11_passed_166 (lv_at hlB164 7 rfl) ?_
                  refine lv_iadd hx hb dX11_passed_168 ?_
                  obtain ⟨v169_128, e129, h130⟩ := nmI_s hB164
                  clear hB164
                  refine ktopi e129 ?_
                  clear e129
                  refine lv_istore (lv' := [(7, .int v169_128), (0, .ref a0), (1, .int p1), (2, .int p2), (4, .int p4), (5, .int p5), (8, .int x8_82), (9, .int r128_122)]) hx hb dX11_passed_169 hlB164 (by decide) rfl (fun ls hl131 => ?_)
                  clear hlB164
                  obtain ⟨v171_132, e133, h134⟩ := nmI_s h130
                  clear h130
                  refine lv_iinc (v := v171_132) (lv' := [(8, .int v171_132), (7, .int v169_128), (0, .ref a0), (1, .int p1), (2, .int p2), (4, .int p4), (5, .int p5), (9, .int r128_122)]) hx hb dX11_passed_171 hl131 (k := 6) rfl (by rw [e133]; rfl) (by decide) rfl (fun ls hl135 => ?_)
                  clear hl131 e133
                  refine lv_goto (tgt := 74) hx hb dX11_passed_174 (by decide) ?_
                  exact ih74 v169_128 v171_132 o_p1_day91_94 o_readers119_115 o_p1_heights91_95 o_p1_highest91_96 o_marked119_116 o_reckoner_letters119_117 o_p1_shapes91_97 _ _ _ h134 hVB164 (lv_sub hl135 [2, 3, 4, 5, 6, 1, 0] rfl)
                refine lv_if_le (tgt := 164) hx hb dX11_passed_135 (by decide) (fun c136 => ?_) (fun c136 => ?_)
                · have h137 := itS c136 h124
                  clear h124 c136
                  exact J164  _ _ _ h137 hV125 (lv_sub hl127 [1, 2, 3, 4, 5, 6, 7, 0] rfl)
                · have h138 := ieS c136 h124
                  clear h124 c136
                  refine lv_iload hx hb dX11_passed_138 (lv_at hl127 5 rfl) ?_
                  refine lv_if_le (tgt := 164) hx hb dX11_passed_140 (by decide) (fun c139 => ?_) (fun c139 => ?_)
                  · have h140 := itS c139 h138
                    clear h138 c139
                    exact J164  _ _ _ h140 hV125 (lv_sub hl127 [1, 2, 3, 4, 5, 6, 7, 0] rfl)
                  · have h141 := ieS c139 h138
                    clear h138 c139
                    exact J143 x8_82 o_p1_day91_94 o_readers119_115 o_p1_heights91_95 o_p1_highest91_96 o_marked119_116 o_reckoner_letters119_117 o_p1_shapes91_97 _ _ _ h141 hV125 (lv_sub hl127 [1, 2, 3, 5, 7] rfl)
          exact L74 FU 0 p3 s_page_day s_page_readers s_page_heights s_page_highest s_page_marked s_page_reckoner_letters s_page_shapes _ _ _ h31 hVB44 (lv_sub hl34 [3, 4, 5, 7, 8, 1, 0] rfl)
        · have h32 := ieS c30 h21
          clear h21 c30
          refine lv_iconst (v := (-1)) hx hb dX11_passed_66 (by decide) ?_
          obtain ⟨q142, q143, q144, q145, q146, q147, q148, q149⟩ := tup8_s h32
          clear h32
          exact hret _ () _ _ _ _ q142 rfl (by rw [← q143, ← q144, ← q145, ← q146, ← q147, ← q148, ← q149]; exact hVB44) dX11_passed_67
  refine lv_if_eq (tgt := 43) hx hb dX11_passed_4 (by decide) (fun c150 => ?_) (fun c150 => ?_)
  · have h151 := itS c150 h3
    clear h3 c150
    refine lv_iconst (v := 0) hx hb dX11_passed_43 (by decide) ?_
    exact J44 0 _ _ _ h151 hV4 (lv_sub hl [0, 1, 2, 3, 4, 5] rfl)
  · have h152 := ieS c150 h3
    clear h3 c150
    refine lv_iload_n hx hb dX11_passed_7 rfl (lv_at hl 2 rfl) ?_
    obtain ⟨r8_153, hc154, h155⟩ := cb1_s h152
    clear h152
    refine kgoiE (krunS (rest := []) X hV4 [] (c_X11_isReader l E _ p2 r8_153 hc154) mw_584 kb_X11_isReader (by decide) rfl rfl hl.1 rfl (Nat.le_of_ble_eq_true rfl) dX11_passed_8 (by decide)) X hV4 [] [0, 1, 2, 3, 4, 5, 6, 7, 8, 9, 10] rfl rfl rfl (by decide) (fun u H locs hV156 => ?_)
    have hV156 : kV E A s.heap H locs [(a0, .inr (11, [w0_0, w0_1, .ref a2, .ref a1, .ref a3, w0_5, w0_6, w0_7, w0_8])), (a1, .inr (4, [.ref a4, .ref a8, .ref a5, .ref a6, .ref a7, .int s_page_readers, .int s_page_day])), (a2, .inr (7, [.ref a9, w2_1, .int s_sky_many, w2_3])), (a3, .inl (E.2 4, 4, .inr (.inr (.inr (.inr s_ways))))), (a4, .inl (E.2 0, 1440, .inl s_page_heights)), (a5, .inl (E.2 0, 1440, .inl s_page_highest)), (a6, .inl (E.2 0, 1440, .inl s_page_marked)), (a7, .inr (5, [.ref a10, w7_1])), (a8, .inl (E.2 0, 1440, .inl s_page_shapes)), (a9, .inl (E.2 3, 10, .inr (.inr (.inr (.inr s_sky_sources))))), (a10, .inl (E.2 0, 128, .inl s_page_reckoner_letters))] := hV156.sub [0, 1, 2, 3, 4, 5, 6, 7, 8, 9, 10] rfl rfl
    clear hV4
    refine lv_if_eq (tgt := 43) hx hb dX11_passed_11 (by decide) (fun c158 => ?_) (fun c158 => ?_)
    · have h159 := itS c158 h155
      clear h155 c158
      refine lv_iconst (v := 0) hx hb dX11_passed_43 (by decide) ?_
      exact J44 0 _ _ _ h159 hV156 (lv_sub hl [0, 1, 2, 3, 4, 5] rfl)
    · have h160 := ieS c158 h155
      clear h155 c158
      refine lv_iload_n hx hb dX11_passed_14 rfl (lv_at hl 3 rfl) ?_
      obtain ⟨r15_161, hc162, h163⟩ := cb1_s h160
      clear h160
      refine kgoiE (krunS (rest := []) X hV156 [] (c_X11_isDay l E _ p3 r15_161 hc162) mw_622 kb_X11_isDay (by decide) rfl rfl hl.1 rfl (Nat.le_of_ble_eq_true rfl) dX11_passed_15 (by decide)) X hV156 [] [0, 1, 2, 3, 4, 5, 6, 7, 8, 9, 10] rfl rfl rfl (by decide) (fun u H locs hV164 => ?_)
      have hV164 : kV E A s.heap H locs [(a0, .inr (11, [w0_0, w0_1, .ref a2, .ref a1, .ref a3, w0_5, w0_6, w0_7, w0_8])), (a1, .inr (4, [.ref a4, .ref a8, .ref a5, .ref a6, .ref a7, .int s_page_readers, .int s_page_day])), (a2, .inr (7, [.ref a9, w2_1, .int s_sky_many, w2_3])), (a3, .inl (E.2 4, 4, .inr (.inr (.inr (.inr s_ways))))), (a4, .inl (E.2 0, 1440, .inl s_page_heights)), (a5, .inl (E.2 0, 1440, .inl s_page_highest)), (a6, .inl (E.2 0, 1440, .inl s_page_marked)), (a7, .inr (5, [.ref a10, w7_1])), (a8, .inl (E.2 0, 1440, .inl s_page_shapes)), (a9, .inl (E.2 3, 10, .inr (.inr (.inr (.inr s_sky_sources))))), (a10, .inl (E.2 0, 128, .inl s_page_reckoner_letters))] := hV164.sub [0, 1, 2, 3, 4, 5, 6, 7, 8, 9, 10] rfl rfl
      clear hV156
      refine lv_if_eq (tgt := 43) hx hb dX11_passed_18 (by decide) (fun c166 => ?_) (fun c166 => ?_)
      · have h167 := itS c166 h163
        clear h163 c166
        refine lv_iconst (v := 0) hx hb dX11_passed_43 (by decide) ?_
        exact J44 0 _ _ _ h167 hV164 (lv_sub hl [0, 1, 2, 3, 4, 5] rfl)
      · have h168 := ieS c166 h163
        clear h163 c166
        refine lv_iload hx hb dX11_passed_21 (lv_at hl 4 rfl) ?_
        obtain ⟨r23_169, hc170, h171⟩ := cb1_s h168
        clear h168
        refine kgoiE (krunS (rest := []) X hV164 [] (c_X11_isDay l E _ p4 r23_169 hc170) mw_622 kb_X11_isDay (by decide) rfl rfl hl.1 rfl (Nat.le_of_ble_eq_true rfl) dX11_passed_23 (by decide)) X hV164 [] [0, 1, 2, 3, 4, 5, 6, 7, 8, 9, 10] rfl rfl rfl (by decide) (fun u H locs hV172 => ?_)
        have hV172 : kV E A s.heap H locs [(a0, .inr (11, [w0_0, w0_1, .ref a2, .ref a1, .ref a3, w0_5, w0_6, w0_7, w0_8])), (a1, .inr (4, [.ref a4, .ref a8, .ref a5, .ref a6, .ref a7, .int s_page_readers, .int s_page_day])), (a2, .inr (7, [.ref a9, w2_1, .int s_sky_many, w2_3])), (a3, .inl (E.2 4, 4, .inr (.inr (.inr (.inr s_ways))))), (a4, .inl (E.2 0, 1440, .inl s_page_heights)), (a5, .inl (E.2 0, 1440, .inl s_page_highest)), (a6, .inl (E.2 0, 1440, .inl s_page_marked)), (a7, .inr (5, [.ref a10, w7_1])), (a8, .inl (E.2 0, 1440, .inl s_page_shapes)), (a9, .inl (E.2 3, 10, .inr (.inr (.inr (.inr s_sky_sources))))), (a10, .inl (E.2 0, 128, .inl s_page_reckoner_letters))] := hV172.sub [0, 1, 2, 3, 4, 5, 6, 7, 8, 9, 10] rfl rfl
        clear hV164
        refine lv_if_eq (tgt := 43) hx hb dX11_passed_26 (by decide) (fun c174 => ?_) (fun c174 => ?_)
        · have h175 := itS c174 h171
          clear h171 c174
          refine lv_iconst (v := 0) hx hb dX11_passed_43 (by decide) ?_
          exact J44 0 _ _ _ h175 hV172 (lv_sub hl [0, 1, 2, 3, 4, 5] rfl)
        · have h176 := ieS c174 h171
          clear h171 c174
          refine lv_iload hx hb dX11_passed_29 (lv_at hl 5 rfl) ?_
          refine lv_iconst (v := 0) hx hb dX11_passed_31 (by decide) ?_
          refine lv_iconst (v := 2) hx hb dX11_passed_32 (by decide) ?_
          obtain ⟨r33_177, hc178, h179⟩ := cb1_s h176
          clear h176
          refine kgoiE (krunS (rest := []) X hV172 [] (c_X11_isWithin l E _ p5 0 2 r33_177 hc178) mw_187 kb_X11_isWithin (by decide) rfl rfl hl.1 rfl (Nat.le_of_ble_eq_true rfl) dX11_passed_33 (by decide)) X hV172 [] [0, 1, 2, 3, 4, 5, 6, 7, 8, 9, 10] rfl rfl rfl (by decide) (fun u H locs hV180 => ?_)
          have hV180 : kV E A s.heap H locs [(a0, .inr (11, [w0_0, w0_1, .ref a2, .ref a1, .ref a3, w0_5, w0_6, w0_7, w0_8])), (a1, .inr (4, [.ref a4, .ref a8, .ref a5, .ref a6, .ref a7, .int s_page_readers, .int s_page_day])), (a2, .inr (7, [.ref a9, w2_1, .int s_sky_many, w2_3])), (a3, .inl (E.2 4, 4, .inr (.inr (.inr (.inr s_ways))))), (a4, .inl (E.2 0, 1440, .inl s_page_heights)), (a5, .inl (E.2 0, 1440, .inl s_page_highest)), (a6, .inl (E.2 0, 1440, .inl s_page_marked)), (a7, .inr (5, [.ref a10, w7_1])), (a8, .inl (E.2 0, 1440, .inl s_page_shapes)), (a9, .inl (E.2 3, 10, .inr (.inr (.inr (.inr s_sky_sources))))), (a10, .inl (E.2 0, 128, .inl s_page_reckoner_letters))] := hV180.sub [0, 1, 2, 3, 4, 5, 6, 7, 8, 9, 10] rfl rfl
          clear hV172
          refine lv_if_eq (tgt := 43) hx hb dX11_passed_36 (by decide) (fun c182 => ?_) (fun c182 => ?_)
          · have h183 := itS c182 h179
            clear h179 c182
            refine lv_iconst (v := 0) hx hb dX11_passed_43 (by decide) ?_
            exact J44 0 _ _ _ h183 hV180 (lv_sub hl [0, 1, 2, 3, 4, 5] rfl)
          · have h184 := ieS c182 h179
            clear h179 c182
            refine lv_iconst (v := 1) hx hb dX11_passed_39 (by decide) ?_
            refine lv_goto (tgt := 44) hx hb dX11_passed_40 (by decide) ?_
            exact J44 1 _ _ _ h184 hV180 (lv_sub hl [0, 1, 2, 3, 4, 5] rfl)
abbrev r_X11_note : Room := { frames := 2, cells := 0, slots := 0, locals := 42 }
set_option maxHeartbeats 4000000 in
set_option maxRecDepth 100000 in
theorem c_X11_note (l : Launch) (E : kE) (sz : Nat) (a0 a1 a2 a3 a4 : Nat) (w0_0 w0_1 w0_2 w0_3 w0_4 w0_6 w0_7 w0_8 w1_3 : Value) (s_notes_many : Int32) (s_notes_days : Nat → Int32) (s_notes_minutes : Nat → Int32) (s_notes_shapes : Nat → Int32) (p1 : Int32) (p2 : Int32) (p3 : Int32) (r : Int32) (o_notes_many : Int32) (o_notes_days : Nat → Int32) (o_notes_minutes : Nat → Int32) (o_notes_shapes : Nat → Int32) (h : f_X11_note s_notes_many s_notes_days s_notes_minutes s_notes_shapes p1 p2 p3 = some (r, o_notes_many, o_notes_days, o_notes_minutes, o_notes_shapes)) : kMi l yX11_note cX11_note 5 (some .int) r_X11_note [.ref a0, .int p1, .int p2, .int p3] E [(a0, .inr (11, [w0_0, w0_1, w0_2, w0_3, w0_4, .ref a1, w0_6, w0_7, w0_8])), (a1, .inr (3, [.ref a2, .ref a3, .ref a4, w1_3, .int s_notes_many])), (a2, .inl (E.2 0, 40, .inl s_notes_days)), (a3, .inl (E.2 0, 40, .inl s_notes_minutes)), (a4, .inl (E.2 0, 40, .inl s_notes_shapes))] sz 0 0 (fun x (_ : Unit) => x = r) (fun _ => [(a0, .inr (11, [w0_0, w0_1, w0_2, w0_3, w0_4, .ref a1, w0_6, w0_7, w0_8])), (a1, .inr (3, [.ref a2, .ref a3, .ref a4, w1_3, .int o_notes_many])), (a2, .inl (E.2 0, 40, .inl o_notes_days)), (a3, .inl (E.2 0, 40, .inl o_notes_minutes)), (a4, .inl (E.2 0, 40, .inl o_notes_shapes))]) := by
  refine kmeti rfl (Nat.le_of_ble_eq_true rfl) ?_
  intro p e s m args below meth c ls A Q X hV hret hl
  have X : kC p s m c cX11_note 5 RX11 args E A := X
  have hx := X.1
  have hb := X.2.1
  have hl : lv_has ls 5 [(0, .ref a0), (1, .int p1), (2, .int p2), (3, .int p3)] := hl
  rw [f_X11_note] at h
  refine lv_iload_n hx hb dX11_note_0 rfl (lv_at hl 1 rfl) ?_
  obtain ⟨r1_1, hc2, h3⟩ := cb1_s h
  clear h
  refine kgoiE (krunS (rest := []) X hV [] (c_X11_isDay l E _ p1 r1_1 hc2) mw_622 kb_X11_isDay (by decide) rfl rfl hl.1 rfl (Nat.le_of_ble_eq_true rfl) dX11_note_1 (by decide)) X hV [] [0, 1, 2, 3, 4] rfl rfl rfl (by decide) (fun u H locs hV4 => ?_)
  have hV4 : kV E A s.heap H locs [(a0, .inr (11, [w0_0, w0_1, w0_2, w0_3, w0_4, .ref a1, w0_6, w0_7, w0_8])), (a1, .inr (3, [.ref a2, .ref a3, .ref a4, w1_3, .int s_notes_many])), (a2, .inl (E.2 0, 40, .inl s_notes_days)), (a3, .inl (E.2 0, 40, .inl s_notes_minutes)), (a4, .inl (E.2 0, 40, .inl s_notes_shapes))] := hV4.sub [0, 1, 2, 3, 4] rfl rfl
  clear hV
  have J26 : ∀ (t0_6 : Int32) (H : Heap) (locs : List Loc) (ls : Array Slot), (f_X11_note_J26 s_notes_many s_notes_days s_notes_minutes s_notes_shapes p1 p2 p3 ) t0_6 = some (r, o_notes_many, o_notes_days, o_notes_minutes, o_notes_shapes) → kV E A s.heap H locs [(a0, .inr (11, [w0_0, w0_1, w0_2, w0_3, w0_4, .ref a1, w0_6, w0_7, w0_8])), (a1, .inr (3, [.ref a2, .ref a3, .ref a4, w1_3, .int s_notes_many])), (a2, .inl (E.2 0, 40, .inl s_notes_days)), (a3, .inl (E.2 0, 40, .inl s_notes_minutes)), (a4, .inl (E.2 0, 40, .inl s_notes_shapes))] → lv_has ls 5 [(0, .ref a0), (1, .int p1), (2, .int p2), (3, .int p3)] → W p l e r_X11_note s m args below meth c H locs 0 0 Q (F0 m 26 ls [.int t0_6]) := by
    intro t0_6 H locs ls hB26 hVB26 hlB26
    rw [f_X11_note_J26] at hB26
    refine lv_istore (lv' := [(4, .int t0_6), (0, .ref a0), (1, .int p1), (2, .int p2), (3, .int p3)]) hx hb dX11_note_26 hlB26 (by decide) rfl (fun ls hl7 => ?_)
    clear hlB26
    refine lv_iload hx hb dX11_note_28 (lv_at hl7 0 rfl) ?_
    refine lv_if_eq (tgt := 46) hx hb dX11_note_30 (by decide) (fun c8 => ?_) (fun c8 => ?_)
    · have h9 := itS c8 hB26
      clear hB26 c8
      refine lv_iconst (v := (-1)) hx hb dX11_note_46 (by decide) ?_
      obtain ⟨q11, q12, q13, q14, q15⟩ := tup5_s h9
      clear h9
      exact hret _ () _ _ _ _ q11 rfl (by rw [← q12, ← q13, ← q14, ← q15]; exact hVB26) dX11_note_47
    · have h10 := ieS c8 hB26
      clear hB26 c8
      refine lv_aload_n hx hb dX11_note_33 rfl (lv_at hl7 1 rfl) ?_
      refine kget X hVB26 (ci := 11) inlX11 rfl 0 rfl 5 (by decide) mw_33 rfl dX11_note_34 ?_
      refine lv_iload_n hx hb dX11_note_37 rfl (lv_at hl7 2 rfl) ?_
      refine lv_iload_n hx hb dX11_note_38 rfl (lv_at hl7 3 rfl) ?_
      refine lv_iload_n hx hb dX11_note_39 rfl (lv_at hl7 4 rfl) ?_
      obtain ⟨r40_16, o_many40_17, o_days40_18, o_minutes40_19, o_shapes40_20, hc21, h22⟩ := cb5_s h10
      clear h10
      refine kgoiE (krunV (rest := []) X hVB26 [1, 2, 3, 4] (c_X3_add l E _ a1 a2 a3 a4 (w1_3) s_notes_many s_notes_days s_notes_minutes s_notes_shapes p1 p2 p3 r40_16 o_many40_17 o_days40_18 o_minutes40_19 o_shapes40_20 hc21) mw_891 kb_X3_add (ci := 3) rfl rfl (by decide) rfl rfl hl7.1 rfl (Nat.le_of_ble_eq_true rfl) dX11_note_40 (by decide)) X hVB26 [1, 2, 3, 4] [0] rfl rfl rfl (by decide) (fun u H locs hV23 => ?_)
      have hV23 : kV E A s.heap H locs [(a0, .inr (11, [w0_0, w0_1, w0_2, w0_3, w0_4, .ref a1, w0_6, w0_7, w0_8])), (a1, .inr (3, [.ref a2, .ref a3, .ref a4, w1_3, .int o_many40_17])), (a2, .inl (E.2 0, 40, .inl o_days40_18)), (a3, .inl (E.2 0, 40, .inl o_minutes40_19)), (a4, .inl (E.2 0, 40, .inl o_shapes40_20))] := hV23.sub [0, 1, 2, 3, 4] rfl rfl
      clear hVB26
      refine lv_goto (tgt := 47) hx hb dX11_note_43 (by decide) ?_
      obtain ⟨q25, q26, q27, q28, q29⟩ := tup5_s h22
      clear h22
      exact hret _ () _ _ _ _ q25 rfl (by rw [← q26, ← q27, ← q28, ← q29]; exact hV23) dX11_note_47
  refine lv_if_eq (tgt := 25) hx hb dX11_note_4 (by decide) (fun c30 => ?_) (fun c30 => ?_)
  · have h31 := itS c30 h3
    clear h3 c30
    refine lv_iconst (v := 0) hx hb dX11_note_25 (by decide) ?_
    exact J26 0 _ _ _ h31 hV4 (lv_sub hl [0, 1, 2, 3] rfl)
  · have h32 := ieS c30 h3
    clear h3 c30
    refine lv_iload_n hx hb dX11_note_7 rfl (lv_at hl 2 rfl) ?_
    obtain ⟨r8_33, hc34, h35⟩ := cb1_s h32
    clear h32
    refine kgoiE (krunS (rest := []) X hV4 [] (c_X11_isMinute l E _ p2 r8_33 hc34) mw_184 kb_X11_isMinute (by decide) rfl rfl hl.1 rfl (Nat.le_of_ble_eq_true rfl) dX11_note_8 (by decide)) X hV4 [] [0, 1, 2, 3, 4] rfl rfl rfl (by decide) (fun u H locs hV36 => ?_)
    have hV36 : kV E A s.heap H locs [(a0, .inr (11, [w0_0, w0_1, w0_2, w0_3, w0_4, .ref a1, w0_6, w0_7, w0_8])), (a1, .inr (3, [.ref a2, .ref a3, .ref a4, w1_3, .int s_notes_many])), (a2, .inl (E.2 0, 40, .inl s_notes_days)), (a3, .inl (E.2 0, 40, .inl s_notes_minutes)), (a4, .inl (E.2 0, 40, .inl s_notes_shapes))] := hV36.sub [0, 1, 2, 3, 4] rfl rfl
    clear hV4
    refine lv_if_eq (tgt := 25) hx hb dX11_note_11 (by decide) (fun c38 => ?_) (fun c38 => ?_)
    · have h39 := itS c38 h35
      clear h35 c38
      refine lv_iconst (v := 0) hx hb dX11_note_25 (by decide) ?_
      exact J26 0 _ _ _ h39 hV36 (lv_sub hl [0, 1, 2, 3] rfl)
    · have h40 := ieS c38 h35
      clear h35 c38
      refine lv_iload_n hx hb dX11_note_14 rfl (lv_at hl 3 rfl) ?_
      obtain ⟨r15_41, hc42, h43⟩ := cb1_s h40
      clear h40
      refine kgoiE (krunS (rest := []) X hV36 [] (c_X11_isShape l E _ p3 r15_41 hc42) mw_190 kb_X11_isShape (by decide) rfl rfl hl.1 rfl (Nat.le_of_ble_eq_true rfl) dX11_note_15 (by decide)) X hV36 [] [0, 1, 2, 3, 4] rfl rfl rfl (by decide) (fun u H locs hV44 => ?_)
      have hV44 : kV E A s.heap H locs [(a0, .inr (11, [w0_0, w0_1, w0_2, w0_3, w0_4, .ref a1, w0_6, w0_7, w0_8])), (a1, .inr (3, [.ref a2, .ref a3, .ref a4, w1_3, .int s_notes_many])), (a2, .inl (E.2 0, 40, .inl s_notes_days)), (a3, .inl (E.2 0, 40, .inl s_notes_minutes)), (a4, .inl (E.2 0, 40, .inl s_notes_shapes))] := hV44.sub [0, 1, 2, 3, 4] rfl rfl
      clear hV36
      refine lv_if_eq (tgt := 25) hx hb dX11_note_18 (by decide) (fun c46 => ?_) (fun c46 => ?_)
      · have h47 := itS c46 h43
        clear h43 c46
        refine lv_iconst (v := 0) hx hb dX11_note_25 (by decide) ?_
        exact J26 0 _ _ _ h47 hV44 (lv_sub hl [0, 1, 2, 3] rfl)
      · have h48 := ieS c46 h43
        clear h43 c46
        refine lv_iconst (v := 1) hx hb dX11_note_21 (by decide) ?_
        refine lv_goto (tgt := 26) hx hb dX11_note_22 (by decide) ?_
        exact J26 1 _ _ _ h48 hV44 (lv_sub hl [0, 1, 2, 3] rfl)
abbrev r_X11_one : Room := { frames := 3, cells := 0, slots := 0, locals := 71 }
set_option maxHeartbeats 4000000 in
set_option maxRecDepth 100000 in
theorem c_X11_one (l : Launch) (E : kE) (sz : Nat) (a0 a1 a2 a3 a4 a5 : Nat) (w0_0 w0_1 w0_2 w0_3 w0_4 w0_6 w0_7 w0_8 : Value) (s_notes_many : Int32) (s_notes_days : Nat → Int32) (s_notes_gathered : Nat → Int32) (s_notes_minutes : Nat → Int32) (s_notes_shapes : Nat → Int32) (p1 : Int32) (p2 : Int32) (r : Int32) (o_notes_gathered : Nat → Int32) (h : f_X11_one s_notes_many s_notes_days s_notes_gathered s_notes_minutes s_notes_shapes p1 p2 = some (r, o_notes_gathered)) : kMi l yX11_one cX11_one 3 (some .int) r_X11_one [.ref a0, .int p1, .int p2] E [(a0, .inr (11, [w0_0, w0_1, w0_2, w0_3, w0_4, .ref a1, w0_6, w0_7, w0_8])), (a1, .inr (3, [.ref a2, .ref a4, .ref a5, .ref a3, .int s_notes_many])), (a2, .inl (E.2 0, 40, .inl s_notes_days)), (a3, .inl (E.2 0, 40, .inl s_notes_gathered)), (a4, .inl (E.2 0, 40, .inl s_notes_minutes)), (a5, .inl (E.2 0, 40, .inl s_notes_shapes))] sz 0 0 (fun x (_ : Unit) => x = r) (fun _ => [(a0, .inr (11, [w0_0, w0_1, w0_2, w0_3, w0_4, .ref a1, w0_6, w0_7, w0_8])), (a1, .inr (3, [.ref a2, .ref a4, .ref a5, .ref a3, .int s_notes_many])), (a2, .inl (E.2 0, 40, .inl s_notes_days)), (a3, .inl (E.2 0, 40, .inl o_notes_gathered)), (a4, .inl (E.2 0, 40, .inl s_notes_minutes)), (a5, .inl (E.2 0, 40, .inl s_notes_shapes))]) := by
  refine kmeti rfl (Nat.le_of_ble_eq_true rfl) ?_
  intro p e s m args below meth c ls A Q X hV hret hl
  have X : kC p s m c cX11_one 3 RX11 args E A := X
  have hx := X.1
  have hb := X.2.1
  have hl : lv_has ls 3 [(0, .ref a0), (1, .int p1), (2, .int p2)] := hl
  rw [f_X11_one] at h
  refine lv_iload_n hx hb dX11_one_0 rfl (lv_at hl 1 rfl) ?_
  obtain ⟨r1_1, hc2, h3⟩ := cb1_s h
  clear h
  refine kgoiE (krunS (rest := []) X hV [] (c_X11_isShape l E _ p1 r1_1 hc2) mw_190 kb_X11_isShape (by decide) rfl rfl hl.1 rfl (Nat.le_of_ble_eq_true rfl) dX11_one_1 (by decide)) X hV [] [0, 1, 2, 3, 4, 5] rfl rfl rfl (by decide) (fun u H locs hV4 => ?_)
  have hV4 : kV E A s.heap H locs [(a0, .inr (11, [w0_0, w0_1, w0_2, w0_3, w0_4, .ref a1, w0_6, w0_7, w0_8])), (a1, .inr (3, [.ref a2, .ref a4, .ref a5, .ref a3, .int s_notes_many])), (a2, .inl (E.2 0, 40, .inl s_notes_days)), (a3, .inl (E.2 0, 40, .inl s_notes_gathered)), (a4, .inl (E.2 0, 40, .inl s_notes_minutes)), (a5, .inl (E.2 0, 40, .inl s_notes_shapes))] := hV4.sub [0, 1, 2, 3, 4, 5] rfl rfl
  clear hV
  refine lv_if_eq (tgt := 18) hx hb dX11_one_4 (by decide) (fun c6 => ?_) (fun c6 => ?_)
  · have h7 := itS c6 h3
    clear h3 c6
    refine lv_iconst (v := (-1)) hx hb dX11_one_18 (by decide) ?_
    obtain ⟨q9, q10⟩ := tup2_s h7
    clear h7
    exact hret _ () _ _ _ _ q9 rfl (by rw [← q10]; exact hV4) dX11_one_19
  · have h8 := ieS c6 h3
    clear h3 c6
    refine lv_iload_n hx hb dX11_one_7 rfl (lv_at hl 2 rfl) ?_
    refine lv_iconst (v := 0) hx hb dX11_one_8 (by decide) ?_
    refine lv_sipush (v := 700) hx hb dX11_one_9 (by decide) ?_
    obtain ⟨r12_11, hc12, h13⟩ := cb1_s h8
    clear h8
    refine kgoiE (krunS (rest := []) X hV4 [] (c_X11_isWithin l E _ p2 0 700 r12_11 hc12) mw_187 kb_X11_isWithin (by decide) rfl rfl hl.1 rfl (Nat.le_of_ble_eq_true rfl) dX11_one_12 (by decide)) X hV4 [] [0, 1, 2, 3, 4, 5] rfl rfl rfl (by decide) (fun u H locs hV14 => ?_)
    have hV14 : kV E A s.heap H locs [(a0, .inr (11, [w0_0, w0_1, w0_2, w0_3, w0_4, .ref a1, w0_6, w0_7, w0_8])), (a1, .inr (3, [.ref a2, .ref a4, .ref a5, .ref a3, .int s_notes_many])), (a2, .inl (E.2 0, 40, .inl s_notes_days)), (a3, .inl (E.2 0, 40, .inl s_notes_gathered)), (a4, .inl (E.2 0, 40, .inl s_notes_minutes)), (a5, .inl (E.2 0, 40, .inl s_notes_shapes))] := hV14.sub [0, 1, 2, 3, 4, 5] rfl rfl
    clear hV4
    refine lv_if_ne (tgt := 20) hx hb dX11_one_15 (by decide) (fun c16 => ?_) (fun c16 => ?_)
    · have h17 := ieS c16 h13
      clear h13 c16
      refine lv_aload_n hx hb dX11_one_20 rfl (lv_at hl 0 rfl) ?_
      refine kget X hV14 (ci := 11) inlX11 rfl 0 rfl 5 (by decide) mw_33 rfl dX11_one_21 ?_
      refine lv_iload_n hx hb dX11_one_24 rfl (lv_at hl 1 rfl) ?_
      refine lv_iload_n hx hb dX11_one_25 rfl (lv_at hl 2 rfl) ?_
      refine lv_sipush (v := 400) hx hb dX11_one_26 (by decide) ?_
      obtain ⟨r29_19, o_gathered29_20, hc21, h22⟩ := cb2_s h17
      clear h17
      refine kgoiE (krunV (rest := []) X hV14 [1, 2, 3, 4, 5] (c_X3_oneBy l E _ a1 a2 a3 a4 a5 s_notes_many s_notes_days s_notes_gathered s_notes_minutes s_notes_shapes p1 p2 400 r29_19 o_gathered29_20 hc21) mw_904 kb_X3_oneBy (ci := 3) rfl rfl (by decide) rfl rfl hl.1 rfl (Nat.le_of_ble_eq_true rfl) dX11_one_29 (by decide)) X hV14 [1, 2, 3, 4, 5] [0] rfl rfl rfl (by decide) (fun u H locs hV23 => ?_)
      have hV23 : kV E A s.heap H locs [(a0, .inr (11, [w0_0, w0_1, w0_2, w0_3, w0_4, .ref a1, w0_6, w0_7, w0_8])), (a1, .inr (3, [.ref a2, .ref a4, .ref a5, .ref a3, .int s_notes_many])), (a2, .inl (E.2 0, 40, .inl s_notes_days)), (a3, .inl (E.2 0, 40, .inl o_gathered29_20)), (a4, .inl (E.2 0, 40, .inl s_notes_minutes)), (a5, .inl (E.2 0, 40, .inl s_notes_shapes))] := hV23.sub [0, 1, 2, 3, 4, 5] rfl rfl
      clear hV14
      obtain ⟨q25, q26⟩ := tup2_s h22
      clear h22
      exact hret _ () _ _ _ _ q25 rfl (by rw [← q26]; exact hV23) dX11_one_32
    · have h18 := itS c16 h13
      clear h13 c16
      refine lv_iconst (v := (-1)) hx hb dX11_one_18 (by decide) ?_
      obtain ⟨q27, q28⟩ := tup2_s h18
      clear h18
      exact hret _ () _ _ _ _ q27 rfl (by rw [← q28]; exact hV14) dX11_one_19
abbrev r_X11_known : Room := { frames := 4, cells := 0, slots := 0, locals := 95 }
set_option maxHeartbeats 4000000 in
set_option maxRecDepth 100000 in
theorem c_X11_known (l : Launch) (E : kE) (sz : Nat) (a0 a1 a2 a3 a4 a5 : Nat) (w0_0 w0_1 w0_2 w0_3 w0_4 w0_6 w0_7 w0_8 : Value) (s_notes_many : Int32) (s_notes_days : Nat → Int32) (s_notes_gathered : Nat → Int32) (s_notes_minutes : Nat → Int32) (s_notes_shapes : Nat → Int32) (p1 : Int32) (p2 : Int32) (r : Int32) (o_notes_gathered : Nat → Int32) (h : f_X11_known s_notes_many s_notes_days s_notes_gathered s_notes_minutes s_notes_shapes p1 p2 = some (r, o_notes_gathered)) : kMi l yX11_known cX11_known 3 (some .int) r_X11_known [.ref a0, .int p1, .int p2] E [(a0, .inr (11, [w0_0, w0_1, w0_2, w0_3, w0_4, .ref a1, w0_6, w0_7, w0_8])), (a1, .inr (3, [.ref a2, .ref a4, .ref a5, .ref a3, .int s_notes_many])), (a2, .inl (E.2 0, 40, .inl s_notes_days)), (a3, .inl (E.2 0, 40, .inl s_notes_gathered)), (a4, .inl (E.2 0, 40, .inl s_notes_minutes)), (a5, .inl (E.2 0, 40, .inl s_notes_shapes))] sz 0 0 (fun x (_ : Unit) => x = r) (fun _ => [(a0, .inr (11, [w0_0, w0_1, w0_2, w0_3, w0_4, .ref a1, w0_6, w0_7, w0_8])), (a1, .inr (3, [.ref a2, .ref a4, .ref a5, .ref a3, .int s_notes_many])), (a2, .inl (E.2 0, 40, .inl s_notes_days)), (a3, .inl (E.2 0, 40, .inl o_notes_gathered)), (a4, .inl (E.2 0, 40, .inl s_notes_minutes)), (a5, .inl (E.2 0, 40, .inl s_notes_shapes))]) := by
  refine kmeti rfl (Nat.le_of_ble_eq_true rfl) ?_
  intro p e s m args below meth c ls A Q X hV hret hl
  have X : kC p s m c cX11_known 3 RX11 args E A := X
  have hx := X.1
  have hb := X.2.1
  have hl : lv_has ls 3 [(0, .ref a0), (1, .int p1), (2, .int p2)] := hl
  rw [f_X11_known] at h
  refine lv_iload_n hx hb dX11_known_0 rfl (lv_at hl 1 rfl) ?_
  obtain ⟨r1_1, hc2, h3⟩ := cb1_s h
  clear h
  refine kgoiE (krunS (rest := []) X hV [] (c_X11_isShape l E _ p1 r1_1 hc2) mw_190 kb_X11_isShape (by decide) rfl rfl hl.1 rfl (Nat.le_of_ble_eq_true rfl) dX11_known_1 (by decide)) X hV [] [0, 1, 2, 3, 4, 5] rfl rfl rfl (by decide) (fun u H locs hV4 => ?_)
  have hV4 : kV E A s.heap H locs [(a0, .inr (11, [w0_0, w0_1, w0_2, w0_3, w0_4, .ref a1, w0_6, w0_7, w0_8])), (a1, .inr (3, [.ref a2, .ref a4, .ref a5, .ref a3, .int s_notes_many])), (a2, .inl (E.2 0, 40, .inl s_notes_days)), (a3, .inl (E.2 0, 40, .inl s_notes_gathered)), (a4, .inl (E.2 0, 40, .inl s_notes_minutes)), (a5, .inl (E.2 0, 40, .inl s_notes_shapes))] := hV4.sub [0, 1, 2, 3, 4, 5] rfl rfl
  clear hV
  refine lv_if_eq (tgt := 18) hx hb dX11_known_4 (by decide) (fun c6 => ?_) (fun c6 => ?_)
  · have h7 := itS c6 h3
    clear h3 c6
    refine lv_iconst (v := (-1)) hx hb dX11_known_18 (by decide) ?_
    obtain ⟨q9, q10⟩ := tup2_s h7
    clear h7
    exact hret _ () _ _ _ _ q9 rfl (by rw [← q10]; exact hV4) dX11_known_19
  · have h8 := ieS c6 h3
    clear h3 c6
    refine lv_iload_n hx hb dX11_known_7 rfl (lv_at hl 2 rfl) ?_
    refine lv_iconst (v := 0) hx hb dX11_known_8 (by decide) ?_
    refine lv_sipush (v := 700) hx hb dX11_known_9 (by decide) ?_
    obtain ⟨r12_11, hc12, h13⟩ := cb1_s h8
    clear h8
    refine kgoiE (krunS (rest := []) X hV4 [] (c_X11_isWithin l E _ p2 0 700 r12_11 hc12) mw_187 kb_X11_isWithin (by decide) rfl rfl hl.1 rfl (Nat.le_of_ble_eq_true rfl) dX11_known_12 (by decide)) X hV4 [] [0, 1, 2, 3, 4, 5] rfl rfl rfl (by decide) (fun u H locs hV14 => ?_)
    have hV14 : kV E A s.heap H locs [(a0, .inr (11, [w0_0, w0_1, w0_2, w0_3, w0_4, .ref a1, w0_6, w0_7, w0_8])), (a1, .inr (3, [.ref a2, .ref a4, .ref a5, .ref a3, .int s_notes_many])), (a2, .inl (E.2 0, 40, .inl s_notes_days)), (a3, .inl (E.2 0, 40, .inl s_notes_gathered)), (a4, .inl (E.2 0, 40, .inl s_notes_minutes)), (a5, .inl (E.2 0, 40, .inl s_notes_shapes))] := hV14.sub [0, 1, 2, 3, 4, 5] rfl rfl
    clear hV4
    refine lv_if_ne (tgt := 20) hx hb dX11_known_15 (by decide) (fun c16 => ?_) (fun c16 => ?_)
    · have h17 := ieS c16 h13
      clear h13 c16
      refine lv_aload_n hx hb dX11_known_20 rfl (lv_at hl 0 rfl) ?_
      refine kget X hV14 (ci := 11) inlX11 rfl 0 rfl 5 (by decide) mw_33 rfl dX11_known_21 ?_
      refine lv_iload_n hx hb dX11_known_24 rfl (lv_at hl 1 rfl) ?_
      refine lv_iload_n hx hb dX11_known_25 rfl (lv_at hl 2 rfl) ?_
      obtain ⟨r26_19, o_gathered26_20, hc21, h22⟩ := cb2_s h17
      clear h17
      refine kgoiE (krunV (rest := []) X hV14 [1, 2, 3, 4, 5] (c_X3_knownDay l E _ a1 a2 a3 a4 a5 s_notes_many s_notes_days s_notes_gathered s_notes_minutes s_notes_shapes p1 p2 r26_19 o_gathered26_20 hc21) mw_952 kb_X3_knownDay (ci := 3) rfl rfl (by decide) rfl rfl hl.1 rfl (Nat.le_of_ble_eq_true rfl) dX11_known_26 (by decide)) X hV14 [1, 2, 3, 4, 5] [0] rfl rfl rfl (by decide) (fun u H locs hV23 => ?_)
      have hV23 : kV E A s.heap H locs [(a0, .inr (11, [w0_0, w0_1, w0_2, w0_3, w0_4, .ref a1, w0_6, w0_7, w0_8])), (a1, .inr (3, [.ref a2, .ref a4, .ref a5, .ref a3, .int s_notes_many])), (a2, .inl (E.2 0, 40, .inl s_notes_days)), (a3, .inl (E.2 0, 40, .inl o_gathered26_20)), (a4, .inl (E.2 0, 40, .inl s_notes_minutes)), (a5, .inl (E.2 0, 40, .inl s_notes_shapes))] := hV23.sub [0, 1, 2, 3, 4, 5] rfl rfl
      clear hV14
      obtain ⟨q25, q26⟩ := tup2_s h22
      clear h22
      exact hret _ () _ _ _ _ q25 rfl (by rw [← q26]; exact hV23) dX11_known_29
    · have h18 := itS c16 h13
      clear h13 c16
      refine lv_iconst (v := (-1)) hx hb dX11_known_18 (by decide) ?_
      obtain ⟨q27, q28⟩ := tup2_s h18
      clear h18
      exact hret _ () _ _ _ _ q27 rfl (by rw [← q28]; exact hV14) dX11_known_19
abbrev r_X11_row : Room := { frames := 3, cells := 0, slots := 0, locals := 74 }
set_option maxHeartbeats 4000000 in
set_option maxRecDepth 100000 in
theorem c_X11_row (l : Launch) (E : kE) (sz : Nat) (a0 a1 a2 a3 a4 a5 : Nat) (w0_0 w0_1 w0_2 w0_3 w0_4 w0_6 w0_7 w0_8 : Value) (s_notes_many : Int32) (s_notes_days : Nat → Int32) (s_notes_gathered : Nat → Int32) (s_notes_minutes : Nat → Int32) (s_notes_shapes : Nat → Int32) (p1 : Int32) (p2 : Int32) (p3 : Int32) (r : Int32) (o_notes_gathered : Nat → Int32) (h : f_X11_row s_notes_many s_notes_days s_notes_gathered s_notes_minutes s_notes_shapes p1 p2 p3 = some (r, o_notes_gathered)) : kMi l yX11_row cX11_row 4 (some .int) r_X11_row [.ref a0, .int p1, .int p2, .int p3] E [(a0, .inr (11, [w0_0, w0_1, w0_2, w0_3, w0_4, .ref a1, w0_6, w0_7, w0_8])), (a1, .inr (3, [.ref a2, .ref a4, .ref a5, .ref a3, .int s_notes_many])), (a2, .inl (E.2 0, 40, .inl s_notes_days)), (a3, .inl (E.2 0, 40, .inl s_notes_gathered)), (a4, .inl (E.2 0, 40, .inl s_notes_minutes)), (a5, .inl (E.2 0, 40, .inl s_notes_shapes))] sz 0 0 (fun x (_ : Unit) => x = r) (fun _ => [(a0, .inr (11, [w0_0, w0_1, w0_2, w0_3, w0_4, .ref a1, w0_6, w0_7, w0_8])), (a1, .inr (3, [.ref a2, .ref a4, .ref a5, .ref a3, .int s_notes_many])), (a2, .inl (E.2 0, 40, .inl s_notes_days)), (a3, .inl (E.2 0, 40, .inl o_notes_gathered)), (a4, .inl (E.2 0, 40, .inl s_notes_minutes)), (a5, .inl (E.2 0, 40, .inl s_notes_shapes))]) := by
  refine kmeti rfl (Nat.le_of_ble_eq_true rfl) ?_
  intro p e s m args below meth c ls A Q X hV hret hl
  have X : kC p s m c cX11_row 4 RX11 args E A := X
  have hx := X.1
  have hb := X.2.1
  have hl : lv_has ls 4 [(0, .ref a0), (1, .int p1), (2, .int p2), (3, .int p3)] := hl
  rw [f_X11_row] at h
  refine lv_iload_n hx hb dX11_row_0 rfl (lv_at hl 1 rfl) ?_
  obtain ⟨r1_1, hc2, h3⟩ := cb1_s h
  clear h
  refine kgoiE (krunS (rest := []) X hV [] (c_X11_isShape l E _ p1 r1_1 hc2) mw_190 kb_X11_isShape (by decide) rfl rfl hl.1 rfl (Nat.le_of_ble_eq_true rfl) dX11_row_1 (by decide)) X hV [] [0, 1, 2, 3, 4, 5] rfl rfl rfl (by decide) (fun u H locs hV4 => ?_)
  have hV4 : kV E A s.heap H locs [(a0, .inr (11, [w0_0, w0_1, w0_2, w0_3, w0_4, .ref a1, w0_6, w0_7, w0_8])), (a1, .inr (3, [.ref a2, .ref a4, .ref a5, .ref a3, .int s_notes_many])), (a2, .inl (E.2 0, 40, .inl s_notes_days)), (a3, .inl (E.2 0, 40, .inl s_notes_gathered)), (a4, .inl (E.2 0, 40, .inl s_notes_minutes)), (a5, .inl (E.2 0, 40, .inl s_notes_shapes))] := hV4.sub [0, 1, 2, 3, 4, 5] rfl rfl
  clear hV
  refine lv_if_eq (tgt := 27) hx hb dX11_row_4 (by decide) (fun c6 => ?_) (fun c6 => ?_)
  · have h7 := itS c6 h3
    clear h3 c6
    refine lv_iconst (v := (-1)) hx hb dX11_row_27 (by decide) ?_
    obtain ⟨q9, q10⟩ := tup2_s h7
    clear h7
    exact hret _ () _ _ _ _ q9 rfl (by rw [← q10]; exact hV4) dX11_row_28
  · have h8 := ieS c6 h3
    clear h3 c6
    refine lv_iload_n hx hb dX11_row_7 rfl (lv_at hl 2 rfl) ?_
    refine lv_iconst (v := 0) hx hb dX11_row_8 (by decide) ?_
    refine lv_sipush (v := 700) hx hb dX11_row_9 (by decide) ?_
    obtain ⟨r12_11, hc12, h13⟩ := cb1_s h8
    clear h8
    refine kgoiE (krunS (rest := []) X hV4 [] (c_X11_isWithin l E _ p2 0 700 r12_11 hc12) mw_187 kb_X11_isWithin (by decide) rfl rfl hl.1 rfl (Nat.le_of_ble_eq_true rfl) dX11_row_12 (by decide)) X hV4 [] [0, 1, 2, 3, 4, 5] rfl rfl rfl (by decide) (fun u H locs hV14 => ?_)
    have hV14 : kV E A s.heap H locs [(a0, .inr (11, [w0_0, w0_1, w0_2, w0_3, w0_4, .ref a1, w0_6, w0_7, w0_8])), (a1, .inr (3, [.ref a2, .ref a4, .ref a5, .ref a3, .int s_notes_many])), (a2, .inl (E.2 0, 40, .inl s_notes_days)), (a3, .inl (E.2 0, 40, .inl s_notes_gathered)), (a4, .inl (E.2 0, 40, .inl s_notes_minutes)), (a5, .inl (E.2 0, 40, .inl s_notes_shapes))] := hV14.sub [0, 1, 2, 3, 4, 5] rfl rfl
    clear hV4
    refine lv_if_eq (tgt := 27) hx hb dX11_row_15 (by decide) (fun c16 => ?_) (fun c16 => ?_)
    · have h17 := itS c16 h13
      clear h13 c16
      refine lv_iconst (v := (-1)) hx hb dX11_row_27 (by decide) ?_
      obtain ⟨q19, q20⟩ := tup2_s h17
      clear h17
      exact hret _ () _ _ _ _ q19 rfl (by rw [← q20]; exact hV14) dX11_row_28
    · have h18 := ieS c16 h13
      clear h13 c16
      refine lv_iload_n hx hb dX11_row_18 rfl (lv_at hl 3 rfl) ?_
      refine lv_iconst (v := 0) hx hb dX11_row_19 (by decide) ?_
      refine lv_iconst (v := 1) hx hb dX11_row_20 (by decide) ?_
      obtain ⟨r21_21, hc22, h23⟩ := cb1_s h18
      clear h18
      refine kgoiE (krunS (rest := []) X hV14 [] (c_X11_isWithin l E _ p3 0 1 r21_21 hc22) mw_187 kb_X11_isWithin (by decide) rfl rfl hl.1 rfl (Nat.le_of_ble_eq_true rfl) dX11_row_21 (by decide)) X hV14 [] [0, 1, 2, 3, 4, 5] rfl rfl rfl (by decide) (fun u H locs hV24 => ?_)
      have hV24 : kV E A s.heap H locs [(a0, .inr (11, [w0_0, w0_1, w0_2, w0_3, w0_4, .ref a1, w0_6, w0_7, w0_8])), (a1, .inr (3, [.ref a2, .ref a4, .ref a5, .ref a3, .int s_notes_many])), (a2, .inl (E.2 0, 40, .inl s_notes_days)), (a3, .inl (E.2 0, 40, .inl s_notes_gathered)), (a4, .inl (E.2 0, 40, .inl s_notes_minutes)), (a5, .inl (E.2 0, 40, .inl s_notes_shapes))] := hV24.sub [0, 1, 2, 3, 4, 5] rfl rfl
      clear hV14
      refine lv_if_ne (tgt := 29) hx hb dX11_row_24 (by decide) (fun c26 => ?_) (fun c26 => ?_)
      · have h27 := ieS c26 h23
        clear h23 c26
        refine lv_aload_n hx hb dX11_row_29 rfl (lv_at hl 0 rfl) ?_
        refine kget X hV24 (ci := 11) inlX11 rfl 0 rfl 5 (by decide) mw_33 rfl dX11_row_30 ?_
        refine lv_iload_n hx hb dX11_row_33 rfl (lv_at hl 1 rfl) ?_
        refine lv_iload_n hx hb dX11_row_34 rfl (lv_at hl 2 rfl) ?_
        refine lv_iload_n hx hb dX11_row_35 rfl (lv_at hl 3 rfl) ?_
        obtain ⟨r36_29, o_gathered36_30, hc31, h32⟩ := cb2_s h27
        clear h27
        refine kgoiE (krunV (rest := []) X hV24 [1, 2, 3, 4, 5] (c_X3_longestRow l E _ a1 a2 a3 a4 a5 s_notes_many s_notes_days s_notes_gathered s_notes_minutes s_notes_shapes p1 p2 p3 r36_29 o_gathered36_30 hc31) mw_965 kb_X3_longestRow (ci := 3) rfl rfl (by decide) rfl rfl hl.1 rfl (Nat.le_of_ble_eq_true rfl) dX11_row_36 (by decide)) X hV24 [1, 2, 3, 4, 5] [0] rfl rfl rfl (by decide) (fun u H locs hV33 => ?_)
        have hV33 : kV E A s.heap H locs [(a0, .inr (11, [w0_0, w0_1, w0_2, w0_3, w0_4, .ref a1, w0_6, w0_7, w0_8])), (a1, .inr (3, [.ref a2, .ref a4, .ref a5, .ref a3, .int s_notes_many])), (a2, .inl (E.2 0, 40, .inl s_notes_days)), (a3, .inl (E.2 0, 40, .inl o_gathered36_30)), (a4, .inl (E.2 0, 40, .inl s_notes_minutes)), (a5, .inl (E.2 0, 40, .inl s_notes_shapes))] := hV33.sub [0, 1, 2, 3, 4, 5] rfl rfl
        clear hV24
        obtain ⟨q35, q36⟩ := tup2_s h32
        clear h32
        exact hret _ () _ _ _ _ q35 rfl (by rw [← q36]; exact hV33) dX11_row_39
      · have h28 := itS c26 h23
        clear h23 c26
        refine lv_iconst (v := (-1)) hx hb dX11_row_27 (by decide) ?_
        obtain ⟨q37, q38⟩ := tup2_s h28
        clear h28
        exact hret _ () _ _ _ _ q37 rfl (by rw [← q38]; exact hV24) dX11_row_28
abbrev r_X11_blip : Room := { frames := 1, cells := 0, slots := 0, locals := 22 }
set_option maxHeartbeats 4000000 in
set_option maxRecDepth 100000 in
theorem c_X11_blip (l : Launch) (E : kE) (sz : Nat) (a0 a1 a2 : Nat) (w0_0 w0_1 w0_2 w0_3 w0_4 w0_5 w0_7 w0_8 w1_1 w1_3 w1_4 w1_5 : Value) (s_blips_many : Int32) (s_blips_times : Nat → Int32) (p1 : Int32) (r : Int32) (o_blips_many : Int32) (o_blips_times : Nat → Int32) (h : f_X11_blip s_blips_many s_blips_times p1 = some (r, o_blips_many, o_blips_times)) : kMi l yX11_blip cX11_blip 2 (some .int) r_X11_blip [.ref a0, .int p1] E [(a0, .inr (11, [w0_0, w0_1, w0_2, w0_3, w0_4, w0_5, .ref a1, w0_7, w0_8])), (a1, .inr (0, [.ref a2, w1_1, .int s_blips_many, w1_3, w1_4, w1_5])), (a2, .inl (E.2 0, 40, .inl s_blips_times))] sz 0 0 (fun x (_ : Unit) => x = r) (fun _ => [(a0, .inr (11, [w0_0, w0_1, w0_2, w0_3, w0_4, w0_5, .ref a1, w0_7, w0_8])), (a1, .inr (0, [.ref a2, w1_1, .int o_blips_many, w1_3, w1_4, w1_5])), (a2, .inl (E.2 0, 40, .inl o_blips_times))]) := by
  refine kmeti rfl (Nat.le_of_ble_eq_true rfl) ?_
  intro p e s m args below meth c ls A Q X hV hret hl
  have X : kC p s m c cX11_blip 2 RX11 args E A := X
  have hx := X.1
  have hb := X.2.1
  have hl : lv_has ls 2 [(0, .ref a0), (1, .int p1)] := hl
  rw [f_X11_blip] at h
  refine lv_iload_n hx hb dX11_blip_0 rfl (lv_at hl 1 rfl) ?_
  refine lv_iconst (v := 0) hx hb dX11_blip_1 (by decide) ?_
  refine lv_ldc (v := 1000000000) hx hb X.2.2.2.1 (X.2.2.2.2.1 _ mw_982) dX11_blip_2 ?_
  obtain ⟨r4_1, hc2, h3⟩ := cb1_s h
  clear h
  refine kgoiE (krunS (rest := []) X hV [] (c_X11_isWithin l E _ p1 0 1000000000 r4_1 hc2) mw_187 kb_X11_isWithin (by decide) rfl rfl hl.1 rfl (Nat.le_of_ble_eq_true rfl) dX11_blip_4 (by decide)) X hV [] [0, 1, 2] rfl rfl rfl (by decide) (fun u H locs hV4 => ?_)
  have hV4 : kV E A s.heap H locs [(a0, .inr (11, [w0_0, w0_1, w0_2, w0_3, w0_4, w0_5, .ref a1, w0_7, w0_8])), (a1, .inr (0, [.ref a2, w1_1, .int s_blips_many, w1_3, w1_4, w1_5])), (a2, .inl (E.2 0, 40, .inl s_blips_times))] := hV4.sub [0, 1, 2] rfl rfl
  clear hV
  refine lv_if_eq (tgt := 21) hx hb dX11_blip_7 (by decide) (fun c6 => ?_) (fun c6 => ?_)
  · have h7 := itS c6 h3
    clear h3 c6
    refine lv_iconst (v := (-1)) hx hb dX11_blip_21 (by decide) ?_
    obtain ⟨q9, q10, q11⟩ := tup3_s h7
    clear h7
    exact hret _ () _ _ _ _ q9 rfl (by rw [← q10, ← q11]; exact hV4) dX11_blip_22
  · have h8 := ieS c6 h3
    clear h3 c6
    refine lv_aload_n hx hb dX11_blip_10 rfl (lv_at hl 0 rfl) ?_
    refine kget X hV4 (ci := 11) inlX11 rfl 0 rfl 6 (by decide) mw_37 rfl dX11_blip_11 ?_
    refine lv_iload_n hx hb dX11_blip_14 rfl (lv_at hl 1 rfl) ?_
    obtain ⟨r15_12, o_many15_13, o_times15_14, hc15, h16⟩ := cb3_s h8
    clear h8
    refine kgoiE (krunV (rest := []) X hV4 [1, 2] (c_X0_add l E _ a1 a2 (w1_1) (w1_3) (w1_4) (w1_5) s_blips_many s_blips_times p1 r15_12 o_many15_13 o_times15_14 hc15) mw_983 kb_X0_add (ci := 0) rfl rfl (by decide) rfl rfl hl.1 rfl (Nat.le_of_ble_eq_true rfl) dX11_blip_15 (by decide)) X hV4 [1, 2] [0] rfl rfl rfl (by decide) (fun u H locs hV17 => ?_)
    have hV17 : kV E A s.heap H locs [(a0, .inr (11, [w0_0, w0_1, w0_2, w0_3, w0_4, w0_5, .ref a1, w0_7, w0_8])), (a1, .inr (0, [.ref a2, w1_1, .int o_many15_13, w1_3, w1_4, w1_5])), (a2, .inl (E.2 0, 40, .inl o_times15_14))] := hV17.sub [0, 1, 2] rfl rfl
    clear hV4
    refine lv_goto (tgt := 22) hx hb dX11_blip_18 (by decide) ?_
    obtain ⟨q19, q20, q21⟩ := tup3_s h16
    clear h16
    exact hret _ () _ _ _ _ q19 rfl (by rw [← q20, ← q21]; exact hV17) dX11_blip_22
abbrev r_X11_fits : Room := { frames := 2, cells := 0, slots := 0, locals := 42 }
set_option maxHeartbeats 4000000 in
set_option maxRecDepth 100000 in
theorem c_X11_fits (l : Launch) (E : kE) (sz : Nat) (a0 a1 : Nat) (w0_0 w0_1 w0_2 w0_3 w0_4 w0_5 w0_7 w0_8 w1_0 w1_1 w1_3 w1_4 w1_5 : Value) (s_blips_many : Int32) (p1 : Int32) (p2 : Int32) (r : Int32) (h : f_X11_fits s_blips_many p1 p2 = some (r)) : kMi l yX11_fits cX11_fits 3 (some .int) r_X11_fits [.ref a0, .int p1, .int p2] E [(a0, .inr (11, [w0_0, w0_1, w0_2, w0_3, w0_4, w0_5, .ref a1, w0_7, w0_8])), (a1, .inr (0, [w1_0, w1_1, .int s_blips_many, w1_3, w1_4, w1_5]))] sz 0 0 (fun x (_ : Unit) => x = r) (fun _ => [(a0, .inr (11, [w0_0, w0_1, w0_2, w0_3, w0_4, w0_5, .ref a1, w0_7, w0_8])), (a1, .inr (0, [w1_0, w1_1, .int s_blips_many, w1_3, w1_4, w1_5]))]) := by
  refine kmeti rfl (Nat.le_of_ble_eq_true rfl) ?_
  intro p e s m args below meth c ls A Q X hV hret hl
  have X : kC p s m c cX11_fits 3 RX11 args E A := X
  have hx := X.1
  have hb := X.2.1
  have hl : lv_has ls 3 [(0, .ref a0), (1, .int p1), (2, .int p2)] := hl
  rw [f_X11_fits] at h
  refine lv_iload_n hx hb dX11_fits_0 rfl (lv_at hl 1 rfl) ?_
  obtain ⟨r1_1, hc2, h3⟩ := cb1_s h
  clear h
  refine kgoiE (krunS (rest := []) X hV [] (c_X11_isBeat l E _ p1 r1_1 hc2) mw_998 kb_X11_isBeat (by decide) rfl rfl hl.1 rfl (Nat.le_of_ble_eq_true rfl) dX11_fits_1 (by decide)) X hV [] [0, 1] rfl rfl rfl (by decide) (fun u H locs hV4 => ?_)
  have hV4 : kV E A s.heap H locs [(a0, .inr (11, [w0_0, w0_1, w0_2, w0_3, w0_4, w0_5, .ref a1, w0_7, w0_8])), (a1, .inr (0, [w1_0, w1_1, .int s_blips_many, w1_3, w1_4, w1_5]))] := hV4.sub [0, 1] rfl rfl
  clear hV
  refine lv_if_eq (tgt := 36) hx hb dX11_fits_4 (by decide) (fun c6 => ?_) (fun c6 => ?_)
  · have h7 := itS c6 h3
    clear h3 c6
    refine lv_iconst (v := (-1)) hx hb dX11_fits_36 (by decide) ?_
    have q9 := tup1_s h7
    clear h7
    exact hret _ () _ _ _ _ q9 rfl hV4 dX11_fits_37
  · have h8 := ieS c6 h3
    clear h3 c6
    refine lv_iload_n hx hb dX11_fits_7 rfl (lv_at hl 2 rfl) ?_
    refine lv_iconst (v := 0) hx hb dX11_fits_8 (by decide) ?_
    refine lv_sipush (v := 1000) hx hb dX11_fits_9 (by decide) ?_
    obtain ⟨r12_10, hc11, h12⟩ := cb1_s h8
    clear h8
    refine kgoiE (krunS (rest := []) X hV4 [] (c_X11_isWithin l E _ p2 0 1000 r12_10 hc11) mw_187 kb_X11_isWithin (by decide) rfl rfl hl.1 rfl (Nat.le_of_ble_eq_true rfl) dX11_fits_12 (by decide)) X hV4 [] [0, 1] rfl rfl rfl (by decide) (fun u H locs hV13 => ?_)
    have hV13 : kV E A s.heap H locs [(a0, .inr (11, [w0_0, w0_1, w0_2, w0_3, w0_4, w0_5, .ref a1, w0_7, w0_8])), (a1, .inr (0, [w1_0, w1_1, .int s_blips_many, w1_3, w1_4, w1_5]))] := hV13.sub [0, 1] rfl rfl
    clear hV4
    refine lv_if_eq (tgt := 36) hx hb dX11_fits_15 (by decide) (fun c15 => ?_) (fun c15 => ?_)
    · have h16 := itS c15 h12
      clear h12 c15
      refine lv_iconst (v := (-1)) hx hb dX11_fits_36 (by decide) ?_
      have q18 := tup1_s h16
      clear h16
      exact hret _ () _ _ _ _ q18 rfl hV13 dX11_fits_37
    · have h17 := ieS c15 h12
      clear h12 c15
      refine lv_iconst (v := 2) hx hb dX11_fits_18 (by decide) ?_
      refine lv_iload_n hx hb dX11_fits_19 rfl (lv_at hl 2 rfl) ?_
      refine lv_imul hx hb dX11_fits_20 ?_
      refine lv_iload_n hx hb dX11_fits_21 rfl (lv_at hl 1 rfl) ?_
      refine lv_icmp_ge (tgt := 36) hx hb dX11_fits_22 (by decide) (fun c19 => ?_) (fun c19 => ?_)
      · have h20 := itS c19 h17
        clear h17 c19
        refine lv_iconst (v := (-1)) hx hb dX11_fits_36 (by decide) ?_
        have q22 := tup1_s h20
        clear h20
        exact hret _ () _ _ _ _ q22 rfl hV13 dX11_fits_37
      · have h21 := ieS c19 h17
        clear h17 c19
        refine lv_aload_n hx hb dX11_fits_25 rfl (lv_at hl 0 rfl) ?_
        refine kget X hV13 (ci := 11) inlX11 rfl 0 rfl 6 (by decide) mw_37 rfl dX11_fits_26 ?_
        refine kget X hV13 (ci := 0) inlX0 rfl 1 rfl 2 (by decide) mw_997 rfl dX11_fits_29 ?_
        refine lv_iconst (v := 2) hx hb dX11_fits_32 (by decide) ?_
        refine lv_icmp_ge (tgt := 38) hx hb dX11_fits_33 (by decide) (fun c23 => ?_) (fun c23 => ?_)
        · have h24 := itS c23 h21
          clear h21 c23
          refine lv_aload_n hx hb dX11_fits_38 rfl (lv_at hl 0 rfl) ?_
          refine kget X hV13 (ci := 11) inlX11 rfl 0 rfl 6 (by decide) mw_37 rfl dX11_fits_39 ?_
          refine lv_iload_n hx hb dX11_fits_42 rfl (lv_at hl 1 rfl) ?_
          refine lv_iload_n hx hb dX11_fits_43 rfl (lv_at hl 2 rfl) ?_
          exact nomatch h24
        · have h25 := ieS c23 h21
          clear h21 c23
          refine lv_iconst (v := (-1)) hx hb dX11_fits_36 (by decide) ?_
          have q26 := tup1_s h25
          clear h25
          exact hret _ () _ _ _ _ q26 rfl hV13 dX11_fits_37
abbrev r_X11_beats : Room := { frames := 3, cells := 0, slots := 0, locals := 66 }
set_option maxHeartbeats 4000000 in
set_option maxRecDepth 100000 in
theorem c_X11_beats (l : Launch) (E : kE) (sz : Nat) (a0 a1 : Nat) (w0_0 w0_1 w0_2 w0_3 w0_4 w0_5 w0_7 w0_8 w1_0 w1_1 w1_3 w1_4 w1_5 : Value) (s_blips_many : Int32) (p1 : Int32) (p2 : Int32) (p3 : Int32) (p4 : Int32) (r : Int32) (h : f_X11_beats s_blips_many p1 p2 p3 p4 = some (r)) : kMi l yX11_beats cX11_beats 5 (some .int) r_X11_beats [.ref a0, .int p1, .int p2, .int p3, .int p4] E [(a0, .inr (11, [w0_0, w0_1, w0_2, w0_3, w0_4, w0_5, .ref a1, w0_7, w0_8])), (a1, .inr (0, [w1_0, w1_1, .int s_blips_many, w1_3, w1_4, w1_5]))] sz 0 0 (fun x (_ : Unit) => x = r) (fun _ => [(a0, .inr (11, [w0_0, w0_1, w0_2, w0_3, w0_4, w0_5, .ref a1, w0_7, w0_8])), (a1, .inr (0, [w1_0, w1_1, .int s_blips_many, w1_3, w1_4, w1_5]))]) := by
  refine kmeti rfl (Nat.le_of_ble_eq_true rfl) ?_
  intro p e s m args below meth c ls A Q X hV hret hl
  have X : kC p s m c cX11_beats 5 RX11 args E A := X
  have hx := X.1
  have hb := X.2.1
  have hl : lv_has ls 5 [(0, .ref a0), (1, .int p1), (2, .int p2), (3, .int p3), (4, .int p4)] := hl
  rw [f_X11_beats] at h
  refine lv_aload_n hx hb dX11_beats_0 rfl (lv_at hl 0 rfl) ?_
  refine lv_iload_n hx hb dX11_beats_1 rfl (lv_at hl 1 rfl) ?_
  refine lv_iload_n hx hb dX11_beats_2 rfl (lv_at hl 2 rfl) ?_
  refine lv_iload_n hx hb dX11_beats_3 rfl (lv_at hl 3 rfl) ?_
  obtain ⟨r4_1, hc2, h3⟩ := cb1_s h
  clear h
  refine kgoiE (krunV (rest := []) X hV [0, 1] (c_X11_canScan l E _ a0 a1 (w0_0) (w0_1) (w0_2) (w0_3) (w0_4) (w0_5) (w0_7) (w0_8) (w1_0) (w1_1) (w1_3) (w1_4) (w1_5) s_blips_many p1 p2 p3 r4_1 hc2) mw_1026 kb_X11_canScan (ci := 11) rfl rfl (by decide) rfl rfl hl.1 rfl (Nat.le_of_ble_eq_true rfl) dX11_beats_4 (by decide)) X hV [0, 1] [] rfl rfl rfl (by decide) (fun u H locs hV4 => ?_)
  have hV4 : kV E A s.heap H locs [(a0, .inr (11, [w0_0, w0_1, w0_2, w0_3, w0_4, w0_5, .ref a1, w0_7, w0_8])), (a1, .inr (0, [w1_0, w1_1, .int s_blips_many, w1_3, w1_4, w1_5]))] := hV4.sub [0, 1] rfl rfl
  clear hV
  refine lv_if_eq (tgt := 20) hx hb dX11_beats_7 (by decide) (fun c6 => ?_) (fun c6 => ?_)
  · have h7 := itS c6 h3
    clear h3 c6
    refine lv_iconst (v := (-1)) hx hb dX11_beats_20 (by decide) ?_
    have q9 := tup1_s h7
    clear h7
    exact hret _ () _ _ _ _ q9 rfl hV4 dX11_beats_21
  · have h8 := ieS c6 h3
    clear h3 c6
    refine lv_iload hx hb dX11_beats_10 (lv_at hl 4 rfl) ?_
    refine lv_iconst (v := 0) hx hb dX11_beats_12 (by decide) ?_
    refine lv_iconst (v := 2) hx hb dX11_beats_13 (by decide) ?_
    obtain ⟨r14_10, hc11, h12⟩ := cb1_s h8
    clear h8
    refine kgoiE (krunS (rest := []) X hV4 [] (c_X11_isWithin l E _ p4 0 2 r14_10 hc11) mw_187 kb_X11_isWithin (by decide) rfl rfl hl.1 rfl (Nat.le_of_ble_eq_true rfl) dX11_beats_14 (by decide)) X hV4 [] [0, 1] rfl rfl rfl (by decide) (fun u H locs hV13 => ?_)
    have hV13 : kV E A s.heap H locs [(a0, .inr (11, [w0_0, w0_1, w0_2, w0_3, w0_4, w0_5, .ref a1, w0_7, w0_8])), (a1, .inr (0, [w1_0, w1_1, .int s_blips_many, w1_3, w1_4, w1_5]))] := hV13.sub [0, 1] rfl rfl
    clear hV4
    refine lv_if_ne (tgt := 22) hx hb dX11_beats_17 (by decide) (fun c15 => ?_) (fun c15 => ?_)
    · have h16 := ieS c15 h12
      clear h12 c15
      refine lv_aload_n hx hb dX11_beats_22 rfl (lv_at hl 0 rfl) ?_
      refine kget X hV13 (ci := 11) inlX11 rfl 0 rfl 6 (by decide) mw_37 rfl dX11_beats_23 ?_
      refine lv_iload_n hx hb dX11_beats_26 rfl (lv_at hl 1 rfl) ?_
      refine lv_iload_n hx hb dX11_beats_27 rfl (lv_at hl 2 rfl) ?_
      refine lv_iload_n hx hb dX11_beats_28 rfl (lv_at hl 3 rfl) ?_
      exact nomatch h16
    · have h17 := itS c15 h12
      clear h12 c15
      refine lv_iconst (v := (-1)) hx hb dX11_beats_20 (by decide) ?_
      have q18 := tup1_s h17
      clear h17
      exact hret _ () _ _ _ _ q18 rfl hV13 dX11_beats_21
abbrev r_X11_counted : Room := { frames := 2, cells := 0, slots := 0, locals := 42 }
set_option maxHeartbeats 4000000 in
set_option maxRecDepth 100000 in
theorem c_X11_counted (l : Launch) (E : kE) (sz : Nat) (a0 a1 : Nat) (w0_0 w0_1 w0_2 w0_3 w0_4 w0_5 w0_7 w0_8 w1_0 w1_1 w1_3 w1_4 w1_5 : Value) (s_blips_many : Int32) (p1 : Int32) (p2 : Int32) (r : Int32) (h : f_X11_counted s_blips_many p1 p2 = some (r)) : kMi l yX11_counted cX11_counted 3 (some .int) r_X11_counted [.ref a0, .int p1, .int p2] E [(a0, .inr (11, [w0_0, w0_1, w0_2, w0_3, w0_4, w0_5, .ref a1, w0_7, w0_8])), (a1, .inr (0, [w1_0, w1_1, .int s_blips_many, w1_3, w1_4, w1_5]))] sz 0 0 (fun x (_ : Unit) => x = r) (fun _ => [(a0, .inr (11, [w0_0, w0_1, w0_2, w0_3, w0_4, w0_5, .ref a1, w0_7, w0_8])), (a1, .inr (0, [w1_0, w1_1, .int s_blips_many, w1_3, w1_4, w1_5]))]) := by
  refine kmeti rfl (Nat.le_of_ble_eq_true rfl) ?_
  intro p e s m args below meth c ls A Q X hV hret hl
  have X : kC p s m c cX11_counted 3 RX11 args E A := X
  have hx := X.1
  have hb := X.2.1
  have hl : lv_has ls 3 [(0, .ref a0), (1, .int p1), (2, .int p2)] := hl
  rw [f_X11_counted] at h
  refine lv_iload_n hx hb dX11_counted_0 rfl (lv_at hl 2 rfl) ?_
  obtain ⟨r1_1, hc2, h3⟩ := cb1_s h
  clear h
  refine kgoiE (krunS (rest := []) X hV [] (c_X11_isBeat l E _ p2 r1_1 hc2) mw_998 kb_X11_isBeat (by decide) rfl rfl hl.1 rfl (Nat.le_of_ble_eq_true rfl) dX11_counted_1 (by decide)) X hV [] [0, 1] rfl rfl rfl (by decide) (fun u H locs hV4 => ?_)
  have hV4 : kV E A s.heap H locs [(a0, .inr (11, [w0_0, w0_1, w0_2, w0_3, w0_4, w0_5, .ref a1, w0_7, w0_8])), (a1, .inr (0, [w1_0, w1_1, .int s_blips_many, w1_3, w1_4, w1_5]))] := hV4.sub [0, 1] rfl rfl
  clear hV
  refine lv_if_eq (tgt := 36) hx hb dX11_counted_4 (by decide) (fun c6 => ?_) (fun c6 => ?_)
  · have h7 := itS c6 h3
    clear h3 c6
    refine lv_iconst (v := (-1)) hx hb dX11_counted_36 (by decide) ?_
    have q9 := tup1_s h7
    clear h7
    exact hret _ () _ _ _ _ q9 rfl hV4 dX11_counted_37
  · have h8 := ieS c6 h3
    clear h3 c6
    refine lv_iload_n hx hb dX11_counted_7 rfl (lv_at hl 1 rfl) ?_
    refine lv_iconst (v := 0) hx hb dX11_counted_8 (by decide) ?_
    refine lv_aload_n hx hb dX11_counted_9 rfl (lv_at hl 0 rfl) ?_
    refine kget X hV4 (ci := 11) inlX11 rfl 0 rfl 6 (by decide) mw_37 rfl dX11_counted_10 ?_
    refine kget X hV4 (ci := 0) inlX0 rfl 1 rfl 2 (by decide) mw_997 rfl dX11_counted_13 ?_
    refine lv_iconst (v := 1) hx hb dX11_counted_16 (by decide) ?_
    refine lv_isub hx hb dX11_counted_17 ?_
    obtain ⟨r18_10, hc11, h12⟩ := cb1_s h8
    clear h8
    refine kgoiE (krunS (rest := []) X hV4 [] (c_X11_isWithin l E _ p1 0 (s_blips_many - 1) r18_10 hc11) mw_187 kb_X11_isWithin (by decide) rfl rfl hl.1 rfl (Nat.le_of_ble_eq_true rfl) dX11_counted_18 (by decide)) X hV4 [] [0, 1] rfl rfl rfl (by decide) (fun u H locs hV13 => ?_)
    have hV13 : kV E A s.heap H locs [(a0, .inr (11, [w0_0, w0_1, w0_2, w0_3, w0_4, w0_5, .ref a1, w0_7, w0_8])), (a1, .inr (0, [w1_0, w1_1, .int s_blips_many, w1_3, w1_4, w1_5]))] := hV13.sub [0, 1] rfl rfl
    clear hV4
    refine lv_if_eq (tgt := 36) hx hb dX11_counted_21 (by decide) (fun c15 => ?_) (fun c15 => ?_)
    · have h16 := itS c15 h12
      clear h12 c15
      refine lv_iconst (v := (-1)) hx hb dX11_counted_36 (by decide) ?_
      have q18 := tup1_s h16
      clear h16
      exact hret _ () _ _ _ _ q18 rfl hV13 dX11_counted_37
    · have h17 := ieS c15 h12
      clear h12 c15
      refine lv_aload_n hx hb dX11_counted_24 rfl (lv_at hl 0 rfl) ?_
      refine kget X hV13 (ci := 11) inlX11 rfl 0 rfl 6 (by decide) mw_37 rfl dX11_counted_25 ?_
      refine lv_iload_n hx hb dX11_counted_28 rfl (lv_at hl 1 rfl) ?_
      refine lv_iload_n hx hb dX11_counted_29 rfl (lv_at hl 2 rfl) ?_
      exact nomatch h17
abbrev r_X11_sure : Room := { frames := 3, cells := 0, slots := 0, locals := 66 }
set_option maxHeartbeats 4000000 in
set_option maxRecDepth 100000 in
theorem c_X11_sure (l : Launch) (E : kE) (sz : Nat) (a0 a1 : Nat) (w0_0 w0_1 w0_2 w0_3 w0_4 w0_5 w0_7 w0_8 w1_0 w1_1 w1_3 w1_4 w1_5 : Value) (s_blips_many : Int32) (p1 : Int32) (p2 : Int32) (p3 : Int32) (r : Int32) (h : f_X11_sure s_blips_many p1 p2 p3 = some (r)) : kMi l yX11_sure cX11_sure 4 (some .int) r_X11_sure [.ref a0, .int p1, .int p2, .int p3] E [(a0, .inr (11, [w0_0, w0_1, w0_2, w0_3, w0_4, w0_5, .ref a1, w0_7, w0_8])), (a1, .inr (0, [w1_0, w1_1, .int s_blips_many, w1_3, w1_4, w1_5]))] sz 0 0 (fun x (_ : Unit) => x = r) (fun _ => [(a0, .inr (11, [w0_0, w0_1, w0_2, w0_3, w0_4, w0_5, .ref a1, w0_7, w0_8])), (a1, .inr (0, [w1_0, w1_1, .int s_blips_many, w1_3, w1_4, w1_5]))]) := by
  refine kmeti rfl (Nat.le_of_ble_eq_true rfl) ?_
  intro p e s m args below meth c ls A Q X hV hret hl
  have X : kC p s m c cX11_sure 4 RX11 args E A := X
  have hx := X.1
  have hb := X.2.1
  have hl : lv_has ls 4 [(0, .ref a0), (1, .int p1), (2, .int p2), (3, .int p3)] := hl
  rw [f_X11_sure] at h
  refine lv_aload_n hx hb dX11_sure_0 rfl (lv_at hl 0 rfl) ?_
  refine lv_iload_n hx hb dX11_sure_1 rfl (lv_at hl 1 rfl) ?_
  refine lv_iload_n hx hb dX11_sure_2 rfl (lv_at hl 2 rfl) ?_
  refine lv_iload_n hx hb dX11_sure_3 rfl (lv_at hl 3 rfl) ?_
  obtain ⟨r4_1, hc2, h3⟩ := cb1_s h
  clear h
  refine kgoiE (krunV (rest := []) X hV [0, 1] (c_X11_canScan l E _ a0 a1 (w0_0) (w0_1) (w0_2) (w0_3) (w0_4) (w0_5) (w0_7) (w0_8) (w1_0) (w1_1) (w1_3) (w1_4) (w1_5) s_blips_many p1 p2 p3 r4_1 hc2) mw_1026 kb_X11_canScan (ci := 11) rfl rfl (by decide) rfl rfl hl.1 rfl (Nat.le_of_ble_eq_true rfl) dX11_sure_4 (by decide)) X hV [0, 1] [] rfl rfl rfl (by decide) (fun u H locs hV4 => ?_)
  have hV4 : kV E A s.heap H locs [(a0, .inr (11, [w0_0, w0_1, w0_2, w0_3, w0_4, w0_5, .ref a1, w0_7, w0_8])), (a1, .inr (0, [w1_0, w1_1, .int s_blips_many, w1_3, w1_4, w1_5]))] := hV4.sub [0, 1] rfl rfl
  clear hV
  refine lv_if_ne (tgt := 12) hx hb dX11_sure_7 (by decide) (fun c6 => ?_) (fun c6 => ?_)
  · have h7 := ieS c6 h3
    clear h3 c6
    refine lv_aload_n hx hb dX11_sure_12 rfl (lv_at hl 0 rfl) ?_
    refine kget X hV4 (ci := 11) inlX11 rfl 0 rfl 6 (by decide) mw_37 rfl dX11_sure_13 ?_
    refine lv_iload_n hx hb dX11_sure_16 rfl (lv_at hl 1 rfl) ?_
    refine lv_iload_n hx hb dX11_sure_17 rfl (lv_at hl 2 rfl) ?_
    refine lv_iload_n hx hb dX11_sure_18 rfl (lv_at hl 3 rfl) ?_
    exact nomatch h7
  · have h8 := itS c6 h3
    clear h3 c6
    refine lv_iconst (v := (-1)) hx hb dX11_sure_10 (by decide) ?_
    have q9 := tup1_s h8
    clear h8
    exact hret _ () _ _ _ _ q9 rfl hV4 dX11_sure_11
