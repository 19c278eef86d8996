abbrev r_X11_lost : Room := { frames := 3, cells := 0, slots := 0, locals := 66 }
set_option maxHeartbeats 4000000 in
set_option maxRecDepth 100000 in
theorem c_X11_lost (l : Launch) (E : kE) (sz : Nat) (a0 a1 : Nat) (w0_0 w0_1 w0_2 w0_3 w0_4 w0_5 w0_7 w0_8 w1_0 w1_1 w1_3 w1_4 w1_5 : Value) (s_blips_many : Int32) (p1 : Int32) (p2 : Int32) (p3 : Int32) (r : Int32) (h : f_X11_lost s_blips_many p1 p2 p3 = some (r)) : kMi l yX11_lost cX11_lost 4 (some .int) r_X11_lost [.ref a0, .int p1, .int p2, .int p3] E [(a0, .inr (11, [w0_0, w0_1, w0_2, w0_3, w0_4, w0_5, .ref a1, w0_7, w0_8])), (a1, .inr (0, [w1_0, w1_1, .int s_blips_many, w1_3, w1_4, w1_5]))] sz 0 0 (fun x (_ : Unit) => x = r) (fun _ => [(a0, .inr (11, [w0_0, w0_1, w0_2, w0_3, w0_4, w0_5, .ref a1, w0_7, w0_8])), (a1, .inr (0, [w1_0, w1_1, .int s_blips_many, w1_3, w1_4, w1_5]))]) := by
  refine kmeti rfl (Nat.le_of_ble_eq_true rfl) ?_
  intro p e s m args below meth c ls A Q X hV hret hl
  have X : kC p s m c cX11_lost 4 RX11 args E A := X
  have hx := X.1
  have hb := X.2.1
  have hl : lv_has ls 4 [(0, .ref a0), (1, .int p1), (2, .int p2), (3, .int p3)] := hl
  rw [f_X11_lost] at h
  refine lv_aload_n hx hb dX11_lost_0 rfl (lv_at hl 0 rfl) ?_
  refine lv_iload_n hx hb dX11_lost_1 rfl (lv_at hl 1 rfl) ?_
  refine lv_iload_n hx hb dX11_lost_2 rfl (lv_at hl 2 rfl) ?_
  refine lv_iload_n hx hb dX11_lost_3 rfl (lv_at hl 3 rfl) ?_
  obtain ⟨r4_1, hc2, h3⟩ := cb1_s h
  clear h
  refine kgoiE (krunV (rest := []) X hV [0, 1] (c_X11_canScan l E _ a0 a1 (w0_0) (w0_1) (w0_2) (w0_3) (w0_4) (w0_5) (w0_7) (w0_8) (w1_0) (w1_1) (w1_3) (w1_4) (w1_5) s_blips_many p1 p2 p3 r4_1 hc2) mw_1026 kb_X11_canScan (ci := 11) rfl rfl (by decide) rfl rfl hl.1 rfl (Nat.le_of_ble_eq_true rfl) dX11_lost_4 (by decide)) X hV [0, 1] [] rfl rfl rfl (by decide) (fun u H locs hV4 => ?_)
  have hV4 : kV E A s.heap H locs [(a0, .inr (11, [w0_0, w0_1, w0_2, w0_3, w0_4, w0_5, .ref a1, w0_7, w0_8])), (a1, .inr (0, [w1_0, w1_1, .int s_blips_many, w1_3, w1_4, w1_5]))] := hV4.sub [0, 1] rfl rfl
  clear hV
  refine lv_if_ne (tgt := 12) hx hb dX11_lost_7 (by decide) (fun c6 => ?_) (fun c6 => ?_)
  · have h7 := ieS c6 h3
    clear h3 c6
    refine lv_aload_n hx hb dX11_lost_12 rfl (lv_at hl 0 rfl) ?_
    refine kget X hV4 (ci := 11) inlX11 rfl 0 rfl 6 (by decide) mw_37 rfl dX11_lost_13 ?_
    refine lv_iload_n hx hb dX11_lost_16 rfl (lv_at hl 1 rfl) ?_
    refine lv_iload_n hx hb dX11_lost_17 rfl (lv_at hl 2 rfl) ?_
    refine lv_iload_n hx hb dX11_lost_18 rfl (lv_at hl 3 rfl) ?_
    exact nomatch h7
  · have h8 := itS c6 h3
    clear h3 c6
    refine lv_iconst (v := (-1)) hx hb dX11_lost_10 (by decide) ?_
    have q9 := tup1_s h8
    clear h8
    exact hret _ () _ _ _ _ q9 rfl hV4 dX11_lost_11
abbrev r_X11_night : Room := { frames := 2, cells := 0, slots := 0, locals := 42 }
set_option maxHeartbeats 4000000 in
set_option maxRecDepth 100000 in
theorem c_X11_night (l : Launch) (E : kE) (sz : Nat) (a0 a1 a2 a3 : Nat) (w0_0 w0_1 w0_2 w0_3 w0_4 w0_5 w0_6 w0_8 w1_2 w1_3 w1_4 : Value) (s_nights_many : Int32) (s_nights_days : Nat → Int32) (s_nights_shifts : Nat → Int32) (p1 : Int32) (p2 : Int32) (r : Int32) (o_nights_many : Int32) (o_nights_days : Nat → Int32) (o_nights_shifts : Nat → Int32) (h : f_X11_night s_nights_many s_nights_days s_nights_shifts p1 p2 = some (r, o_nights_many, o_nights_days, o_nights_shifts)) : kMi l yX11_night cX11_night 3 (some .int) r_X11_night [.ref a0, .int p1, .int p2] E [(a0, .inr (11, [w0_0, w0_1, w0_2, w0_3, w0_4, w0_5, w0_6, .ref a1, w0_8])), (a1, .inr (2, [.ref a2, .ref a3, w1_2, w1_3, w1_4, .int s_nights_many])), (a2, .inl (E.2 0, 30, .inl s_nights_days)), (a3, .inl (E.2 0, 30, .inl s_nights_shifts))] sz 0 0 (fun x (_ : Unit) => x = r) (fun _ => [(a0, .inr (11, [w0_0, w0_1, w0_2, w0_3, w0_4, w0_5, w0_6, .ref a1, w0_8])), (a1, .inr (2, [.ref a2, .ref a3, w1_2, w1_3, w1_4, .int o_nights_many])), (a2, .inl (E.2 0, 30, .inl o_nights_days)), (a3, .inl (E.2 0, 30, .inl o_nights_shifts))]) := by
  refine kmeti rfl (Nat.le_of_ble_eq_true rfl) ?_
  intro p e s m args below meth c ls A Q X hV hret hl
  have X : kC p s m c cX11_night 3 RX11 args E A := X
  have hx := X.1
  have hb := X.2.1
  have hl : lv_has ls 3 [(0, .ref a0), (1, .int p1), (2, .int p2)] := hl
  rw [f_X11_night] at h
  refine lv_iload_n hx hb dX11_night_0 rfl (lv_at hl 1 rfl) ?_
  obtain ⟨r1_1, hc2, h3⟩ := cb1_s h
  clear h
  refine kgoiE (krunS (rest := []) X hV [] (c_X11_isDay l E _ p1 r1_1 hc2) mw_622 kb_X11_isDay (by decide) rfl rfl hl.1 rfl (Nat.le_of_ble_eq_true rfl) dX11_night_1 (by decide)) X hV [] [0, 1, 2, 3] rfl rfl rfl (by decide) (fun u H locs hV4 => ?_)
  have hV4 : kV E A s.heap H locs [(a0, .inr (11, [w0_0, w0_1, w0_2, w0_3, w0_4, w0_5, w0_6, .ref a1, w0_8])), (a1, .inr (2, [.ref a2, .ref a3, w1_2, w1_3, w1_4, .int s_nights_many])), (a2, .inl (E.2 0, 30, .inl s_nights_days)), (a3, .inl (E.2 0, 30, .inl s_nights_shifts))] := hV4.sub [0, 1, 2, 3] rfl rfl
  clear hV
  refine lv_if_eq (tgt := 30) hx hb dX11_night_4 (by decide) (fun c6 => ?_) (fun c6 => ?_)
  · have h7 := itS c6 h3
    clear h3 c6
    refine lv_iconst (v := (-1)) hx hb dX11_night_30 (by decide) ?_
    obtain ⟨q9, q10, q11, q12⟩ := tup4_s h7
    clear h7
    exact hret _ () _ _ _ _ q9 rfl (by rw [← q10, ← q11, ← q12]; exact hV4) dX11_night_31
  · have h8 := ieS c6 h3
    clear h3 c6
    refine lv_iload_n hx hb dX11_night_7 rfl (lv_at hl 2 rfl) ?_
    refine lv_ldc (v := (-100000)) hx hb X.2.2.2.1 (X.2.2.2.2.1 _ mw_1096) dX11_night_8 ?_
    refine lv_ldc (v := 100000) hx hb X.2.2.2.1 (X.2.2.2.2.1 _ mw_1097) dX11_night_10 ?_
    obtain ⟨r12_13, hc14, h15⟩ := cb1_s h8
    clear h8
    refine kgoiE (krunS (rest := []) X hV4 [] (c_X11_isWithin l E _ p2 (-100000) 100000 r12_13 hc14) mw_187 kb_X11_isWithin (by decide) rfl rfl hl.1 rfl (Nat.le_of_ble_eq_true rfl) dX11_night_12 (by decide)) X hV4 [] [0, 1, 2, 3] rfl rfl rfl (by decide) (fun u H locs hV16 => ?_)
    have hV16 : kV E A s.heap H locs [(a0, .inr (11, [w0_0, w0_1, w0_2, w0_3, w0_4, w0_5, w0_6, .ref a1, w0_8])), (a1, .inr (2, [.ref a2, .ref a3, w1_2, w1_3, w1_4, .int s_nights_many])), (a2, .inl (E.2 0, 30, .inl s_nights_days)), (a3, .inl (E.2 0, 30, .inl s_nights_shifts))] := hV16.sub [0, 1, 2, 3] rfl rfl
    clear hV4
    refine lv_if_eq (tgt := 30) hx hb dX11_night_15 (by decide) (fun c18 => ?_) (fun c18 => ?_)
    · have h19 := itS c18 h15
      clear h15 c18
      refine lv_iconst (v := (-1)) hx hb dX11_night_30 (by decide) ?_
      obtain ⟨q21, q22, q23, q24⟩ := tup4_s h19
      clear h19
      exact hret _ () _ _ _ _ q21 rfl (by rw [← q22, ← q23, ← q24]; exact hV16) dX11_night_31
    · have h20 := ieS c18 h15
      clear h15 c18
      refine lv_aload_n hx hb dX11_night_18 rfl (lv_at hl 0 rfl) ?_
      refine kget X hV16 (ci := 11) inlX11 rfl 0 rfl 7 (by decide) mw_41 rfl dX11_night_19 ?_
      refine lv_iload_n hx hb dX11_night_22 rfl (lv_at hl 1 rfl) ?_
      refine lv_iload_n hx hb dX11_night_23 rfl (lv_at hl 2 rfl) ?_
      obtain ⟨r24_25, o_many24_26, o_days24_27, o_shifts24_28, hc29, h30⟩ := cb4_s h20
      clear h20
      refine kgoiE (krunV (rest := []) X hV16 [1, 2, 3] (c_X2_add l E _ a1 a2 a3 (w1_2) (w1_3) (w1_4) s_nights_many s_nights_days s_nights_shifts p1 p2 r24_25 o_many24_26 o_days24_27 o_shifts24_28 hc29) mw_1098 kb_X2_add (ci := 2) rfl rfl (by decide) rfl rfl hl.1 rfl (Nat.le_of_ble_eq_true rfl) dX11_night_24 (by decide)) X hV16 [1, 2, 3] [0] rfl rfl rfl (by decide) (fun u H locs hV31 => ?_)
      have hV31 : kV E A s.heap H locs [(a0, .inr (11, [w0_0, w0_1, w0_2, w0_3, w0_4, w0_5, w0_6, .ref a1, w0_8])), (a1, .inr (2, [.ref a2, .ref a3, w1_2, w1_3, w1_4, .int o_many24_26])), (a2, .inl (E.2 0, 30, .inl o_days24_27)), (a3, .inl (E.2 0, 30, .inl o_shifts24_28))] := hV31.sub [0, 1, 2, 3] rfl rfl
      clear hV16
      refine lv_goto (tgt := 31) hx hb dX11_night_27 (by decide) ?_
      obtain ⟨q33, q34, q35, q36⟩ := tup4_s h30
      clear h30
      exact hret _ () _ _ _ _ q33 rfl (by rw [← q34, ← q35, ← q36]; exact hV31) dX11_night_31
abbrev r_X11_says : Room := { frames := 3, cells := 0, slots := 0, locals := 63 }
set_option maxHeartbeats 4000000 in
set_option maxRecDepth 100000 in
theorem c_X11_says (l : Launch) (E : kE) (sz : Nat) (a0 a1 a2 : Nat) (w0_0 w0_1 w0_2 w0_3 w0_4 w0_5 w0_6 w0_8 w1_0 w1_1 w1_2 w1_3 w1_5 : Value) (s_nights_stories : Nat → Option Nat) (p1 : Int32) (p2 : Int32) (r : Int32) (h : f_X11_says s_nights_stories p1 p2 = some (r)) : kMi l yX11_says cX11_says 4 (some .int) r_X11_says [.ref a0, .int p1, .int p2] E [(a0, .inr (11, [w0_0, w0_1, w0_2, w0_3, w0_4, w0_5, w0_6, .ref a1, w0_8])), (a1, .inr (2, [w1_0, w1_1, w1_2, w1_3, .ref a2, w1_5])), (a2, .inl (E.2 4, 6, .inr (.inr (.inr (.inr s_nights_stories)))))] sz 0 0 (fun x (_ : Unit) => x = r) (fun _ => [(a0, .inr (11, [w0_0, w0_1, w0_2, w0_3, w0_4, w0_5, w0_6, .ref a1, w0_8])), (a1, .inr (2, [w1_0, w1_1, w1_2, w1_3, .ref a2, w1_5])), (a2, .inl (E.2 4, 6, .inr (.inr (.inr (.inr s_nights_stories)))))]) := by
  refine kmeti rfl (Nat.le_of_ble_eq_true rfl) ?_
  intro p e s m args below meth c ls A Q X hV hret hl
  have X : kC p s m c cX11_says 4 RX11 args E A := X
  have hx := X.1
  have hb := X.2.1
  have hl : lv_has ls 4 [(0, .ref a0), (1, .int p1), (2, .int p2)] := hl
  rw [f_X11_says] at h
  refine lv_aload_n hx hb dX11_says_0 rfl (lv_at hl 0 rfl) ?_
  refine kget X hV (ci := 11) inlX11 rfl 0 rfl 7 (by decide) mw_41 rfl dX11_says_1 ?_
  refine lv_iload_n hx hb dX11_says_4 rfl (lv_at hl 1 rfl) ?_
  obtain ⟨u5_1, hc2, h3⟩ := cb1_s h
  clear h
  refine kgonE (krunV (rest := []) X hV [1, 2] (c_X2_storyAt l E _ a1 a2 (w1_0) (w1_1) (w1_2) (w1_3) (w1_5) s_nights_stories p1 hc2) mw_1115 kb_X2_storyAt (ci := 2) rfl rfl (by decide) rfl rfl hl.1 rfl (Nat.le_of_ble_eq_true rfl) dX11_says_5 (by decide)) X hV [1, 2] [0] rfl rfl rfl (by decide) (fun u H locs hV4 => ?_)
  have hV4 : kV E A s.heap H locs [(a0, .inr (11, [w0_0, w0_1, w0_2, w0_3, w0_4, w0_5, w0_6, .ref a1, w0_8])), (a1, .inr (2, [w1_0, w1_1, w1_2, w1_3, .ref a2, w1_5])), (a2, .inl (E.2 4, 6, .inr (.inr (.inr (.inr s_nights_stories)))))] := hV4.sub [0, 1, 2] rfl rfl
  clear hV
  refine lv_astore_nN (lv' := [(3, .null), (0, .ref a0), (1, .int p1), (2, .int p2)]) hx hb dX11_says_8 rfl hl (by decide) rfl (fun ls hl6 => ?_)
  clear hl
  refine lv_aload_nN hx hb dX11_says_9 rfl (lv_at hl6 0 rfl) ?_
  refine lv_ifnullN (tgt := 30) hx hb dX11_says_10 (by decide) ?_
  refine lv_ldc (v := (-1000000)) hx hb X.2.2.2.1 (X.2.2.2.2.1 _ mw_1114) dX11_says_30 ?_
  have q7 := tup1_s h3
  clear h3
  exact hret _ () _ _ _ _ q7 rfl hV4 dX11_says_32
abbrev r_X11_falls : Room := { frames := 3, cells := 0, slots := 0, locals := 63 }
set_option maxHeartbeats 4000000 in
set_option maxRecDepth 100000 in
theorem c_X11_falls (l : Launch) (E : kE) (sz : Nat) (a0 a1 a2 : Nat) (w0_0 w0_1 w0_2 w0_3 w0_4 w0_5 w0_6 w0_8 w1_0 w1_1 w1_2 w1_3 w1_5 : Value) (s_nights_stories : Nat → Option Nat) (p1 : Int32) (p2 : Int32) (r : Int32) (h : f_X11_falls s_nights_stories p1 p2 = some (r)) : kMi l yX11_falls cX11_falls 4 (some .int) r_X11_falls [.ref a0, .int p1, .int p2] E [(a0, .inr (11, [w0_0, w0_1, w0_2, w0_3, w0_4, w0_5, w0_6, .ref a1, w0_8])), (a1, .inr (2, [w1_0, w1_1, w1_2, w1_3, .ref a2, w1_5])), (a2, .inl (E.2 4, 6, .inr (.inr (.inr (.inr s_nights_stories)))))] sz 0 0 (fun x (_ : Unit) => x = r) (fun _ => [(a0, .inr (11, [w0_0, w0_1, w0_2, w0_3, w0_4, w0_5, w0_6, .ref a1, w0_8])), (a1, .inr (2, [w1_0, w1_1, w1_2, w1_3, .ref a2, w1_5])), (a2, .inl (E.2 4, 6, .inr (.inr (.inr (.inr s_nights_stories)))))]) := by
  refine kmeti rfl (Nat.le_of_ble_eq_true rfl) ?_
  intro p e s m args below meth c ls A Q X hV hret hl
  have X : kC p s m c cX11_falls 4 RX11 args E A := X
  have hx := X.1
  have hb := X.2.1
  have hl : lv_has ls 4 [(0, .ref a0), (1, .int p1), (2, .int p2)] := hl
  rw [f_X11_falls] at h
  refine lv_aload_n hx hb dX11_falls_0 rfl (lv_at hl 0 rfl) ?_
  refine kget X hV (ci := 11) inlX11 rfl 0 rfl 7 (by decide) mw_41 rfl dX11_falls_1 ?_
  refine lv_iload_n hx hb dX11_falls_4 rfl (lv_at hl 1 rfl) ?_
  obtain ⟨u5_1, hc2, h3⟩ := cb1_s h
  clear h
  refine kgonE (krunV (rest := []) X hV [1, 2] (c_X2_storyAt l E _ a1 a2 (w1_0) (w1_1) (w1_2) (w1_3) (w1_5) s_nights_stories p1 hc2) mw_1115 kb_X2_storyAt (ci := 2) rfl rfl (by decide) rfl rfl hl.1 rfl (Nat.le_of_ble_eq_true rfl) dX11_falls_5 (by decide)) X hV [1, 2] [0] rfl rfl rfl (by decide) (fun u H locs hV4 => ?_)
  have hV4 : kV E A s.heap H locs [(a0, .inr (11, [w0_0, w0_1, w0_2, w0_3, w0_4, w0_5, w0_6, .ref a1, w0_8])), (a1, .inr (2, [w1_0, w1_1, w1_2, w1_3, .ref a2, w1_5])), (a2, .inl (E.2 4, 6, .inr (.inr (.inr (.inr s_nights_stories)))))] := hV4.sub [0, 1, 2] rfl rfl
  clear hV
  refine lv_astore_nN (lv' := [(3, .null), (0, .ref a0), (1, .int p1), (2, .int p2)]) hx hb dX11_falls_8 rfl hl (by decide) rfl (fun ls hl6 => ?_)
  clear hl
  refine lv_aload_nN hx hb dX11_falls_9 rfl (lv_at hl6 0 rfl) ?_
  refine lv_ifnullN (tgt := 20) hx hb dX11_falls_10 (by decide) ?_
  refine lv_iconst (v := (-1)) hx hb dX11_falls_20 (by decide) ?_
  refine lv_goto (tgt := 33) hx hb dX11_falls_21 (by decide) ?_
  have q7 := tup1_s h3
  clear h3
  exact hret _ () _ _ _ _ q7 rfl hV4 dX11_falls_33
abbrev r_X11_told : Room := { frames := 2, cells := 0, slots := 0, locals := 42 }
set_option maxHeartbeats 4000000 in
set_option maxRecDepth 100000 in
theorem c_X11_told (l : Launch) (E : kE) (sz : Nat) (a0 a1 a2 a3 : Nat) (w0_0 w0_1 w0_2 w0_3 w0_4 w0_5 w0_6 w0_8 w1_0 w1_1 w1_3 : Value) (s_nights_many : Int32) (s_nights_fallen : Nat → Int32) (s_nights_stories : Nat → Option Nat) (p1 : Int32) (p2 : Int32) (r : Int32) (o_nights_fallen : Nat → Int32) (h : f_X11_told s_nights_many s_nights_fallen s_nights_stories p1 p2 = some (r, o_nights_fallen)) : kMi l yX11_told cX11_told 3 (some .int) r_X11_told [.ref a0, .int p1, .int p2] E [(a0, .inr (11, [w0_0, w0_1, w0_2, w0_3, w0_4, w0_5, w0_6, .ref a1, w0_8])), (a1, .inr (2, [w1_0, w1_1, .ref a2, w1_3, .ref a3, .int s_nights_many])), (a2, .inl (E.2 0, 6, .inl s_nights_fallen)), (a3, .inl (E.2 4, 6, .inr (.inr (.inr (.inr s_nights_stories)))))] sz 0 0 (fun x (_ : Unit) => x = r) (fun _ => [(a0, .inr (11, [w0_0, w0_1, w0_2, w0_3, w0_4, w0_5, w0_6, .ref a1, w0_8])), (a1, .inr (2, [w1_0, w1_1, .ref a2, w1_3, .ref a3, .int s_nights_many])), (a2, .inl (E.2 0, 6, .inl o_nights_fallen)), (a3, .inl (E.2 4, 6, .inr (.inr (.inr (.inr s_nights_stories)))))]) := by
  refine kmeti rfl (Nat.le_of_ble_eq_true rfl) ?_
  intro p e s m args below meth c ls A Q X hV hret hl
  have X : kC p s m c cX11_told 3 RX11 args E A := X
  have hx := X.1
  have hb := X.2.1
  have hl : lv_has ls 3 [(0, .ref a0), (1, .int p1), (2, .int p2)] := hl
  rw [f_X11_told] at h
  refine lv_iload_n hx hb dX11_told_0 rfl (lv_at hl 1 rfl) ?_
  obtain ⟨r1_1, hc2, h3⟩ := cb1_s h
  clear h
  refine kgoiE (krunS (rest := []) X hV [] (c_X11_isNightError l E _ p1 r1_1 hc2) mw_1146 kb_X11_isNightError (by decide) rfl rfl hl.1 rfl (Nat.le_of_ble_eq_true rfl) dX11_told_1 (by decide)) X hV [] [0, 1, 2, 3] rfl rfl rfl (by decide) (fun u H locs hV4 => ?_)
  have hV4 : kV E A s.heap H locs [(a0, .inr (11, [w0_0, w0_1, w0_2, w0_3, w0_4, w0_5, w0_6, .ref a1, w0_8])), (a1, .inr (2, [w1_0, w1_1, .ref a2, w1_3, .ref a3, .int s_nights_many])), (a2, .inl (E.2 0, 6, .inl s_nights_fallen)), (a3, .inl (E.2 4, 6, .inr (.inr (.inr (.inr s_nights_stories)))))] := hV4.sub [0, 1, 2, 3] rfl rfl
  clear hV
  refine lv_if_eq (tgt := 28) hx hb dX11_told_4 (by decide) (fun c6 => ?_) (fun c6 => ?_)
  · have h7 := itS c6 h3
    clear h3 c6
    refine lv_iconst (v := (-1)) hx hb dX11_told_28 (by decide) ?_
    obtain ⟨q9, q10⟩ := tup2_s h7
    clear h7
    exact hret _ () _ _ _ _ q9 rfl (by rw [← q10]; exact hV4) dX11_told_29
  · have h8 := ieS c6 h3
    clear h3 c6
    refine lv_iload_n hx hb dX11_told_7 rfl (lv_at hl 2 rfl) ?_
    refine lv_iconst (v := 0) hx hb dX11_told_8 (by decide) ?_
    refine lv_iconst (v := 1) hx hb dX11_told_9 (by decide) ?_
    obtain ⟨r10_11, hc12, h13⟩ := cb1_s h8
    clear h8
    refine kgoiE (krunS (rest := []) X hV4 [] (c_X11_isWithin l E _ p2 0 1 r10_11 hc12) mw_187 kb_X11_isWithin (by decide) rfl rfl hl.1 rfl (Nat.le_of_ble_eq_true rfl) dX11_told_10 (by decide)) X hV4 [] [0, 1, 2, 3] rfl rfl rfl (by decide) (fun u H locs hV14 => ?_)
    have hV14 : kV E A s.heap H locs [(a0, .inr (11, [w0_0, w0_1, w0_2, w0_3, w0_4, w0_5, w0_6, .ref a1, w0_8])), (a1, .inr (2, [w1_0, w1_1, .ref a2, w1_3, .ref a3, .int s_nights_many])), (a2, .inl (E.2 0, 6, .inl s_nights_fallen)), (a3, .inl (E.2 4, 6, .inr (.inr (.inr (.inr s_nights_stories)))))] := hV14.sub [0, 1, 2, 3] rfl rfl
    clear hV4
    refine lv_if_eq (tgt := 28) hx hb dX11_told_13 (by decide) (fun c16 => ?_) (fun c16 => ?_)
    · have h17 := itS c16 h13
      clear h13 c16
      refine lv_iconst (v := (-1)) hx hb dX11_told_28 (by decide) ?_
      obtain ⟨q19, q20⟩ := tup2_s h17
      clear h17
      exact hret _ () _ _ _ _ q19 rfl (by rw [← q20]; exact hV14) dX11_told_29
    · have h18 := ieS c16 h13
      clear h13 c16
      refine lv_aload_n hx hb dX11_told_16 rfl (lv_at hl 0 rfl) ?_
      refine kget X hV14 (ci := 11) inlX11 rfl 0 rfl 7 (by decide) mw_41 rfl dX11_told_17 ?_
      refine lv_iload_n hx hb dX11_told_20 rfl (lv_at hl 1 rfl) ?_
      refine lv_iload_n hx hb dX11_told_21 rfl (lv_at hl 2 rfl) ?_
      obtain ⟨r22_21, o_fallen22_22, hc23, h24⟩ := cb2_s h18
      clear h18
      refine kgoiE (krunV (rest := []) X hV14 [1, 2, 3] (c_X2_alone l E _ a1 a2 a3 (w1_0) (w1_1) (w1_3) s_nights_many s_nights_fallen s_nights_stories p1 p2 r22_21 o_fallen22_22 hc23) mw_1172 kb_X2_alone (ci := 2) rfl rfl (by decide) rfl rfl hl.1 rfl (Nat.le_of_ble_eq_true rfl) dX11_told_22 (by decide)) X hV14 [1, 2, 3] [0] rfl rfl rfl (by decide) (fun u H locs hV25 => ?_)
      have hV25 : kV E A s.heap H locs [(a0, .inr (11, [w0_0, w0_1, w0_2, w0_3, w0_4, w0_5, w0_6, .ref a1, w0_8])), (a1, .inr (2, [w1_0, w1_1, .ref a2, w1_3, .ref a3, .int s_nights_many])), (a2, .inl (E.2 0, 6, .inl o_fallen22_22)), (a3, .inl (E.2 4, 6, .inr (.inr (.inr (.inr s_nights_stories)))))] := hV25.sub [0, 1, 2, 3] rfl rfl
      clear hV14
      refine lv_goto (tgt := 29) hx hb dX11_told_25 (by decide) ?_
      obtain ⟨q27, q28⟩ := tup2_s h24
      clear h24
      exact hret _ () _ _ _ _ q27 rfl (by rw [← q28]; exact hV25) dX11_told_29
abbrev r_X11_bound : Room := { frames := 2, cells := 0, slots := 0, locals := 55 }
set_option maxHeartbeats 4000000 in
set_option maxRecDepth 100000 in
theorem c_X11_bound (l : Launch) (E : kE) (sz : Nat) (a0 a1 a2 : Nat) (w0_0 w0_1 w0_2 w0_3 w0_4 w0_5 w0_6 w0_8 w1_1 w1_2 w1_3 w1_4 : Value) (s_nights_many : Int32) (s_nights_days : Nat → Int32) (p1 : Int32) (p2 : Int32) (r : Int32) (h : f_X11_bound s_nights_many s_nights_days p1 p2 = some (r)) : kMi l yX11_bound cX11_bound 3 (some .int) r_X11_bound [.ref a0, .int p1, .int p2] E [(a0, .inr (11, [w0_0, w0_1, w0_2, w0_3, w0_4, w0_5, w0_6, .ref a1, w0_8])), (a1, .inr (2, [.ref a2, w1_1, w1_2, w1_3, w1_4, .int s_nights_many])), (a2, .inl (E.2 0, 30, .inl s_nights_days))] sz 0 0 (fun x (_ : Unit) => x = r) (fun _ => [(a0, .inr (11, [w0_0, w0_1, w0_2, w0_3, w0_4, w0_5, w0_6, .ref a1, w0_8])), (a1, .inr (2, [.ref a2, w1_1, w1_2, w1_3, w1_4, .int s_nights_many])), (a2, .inl (E.2 0, 30, .inl s_nights_days))]) := by
  refine kmeti rfl (Nat.le_of_ble_eq_true rfl) ?_
  intro p e s m args below meth c ls A Q X hV hret hl
  have X : kC p s m c cX11_bound 3 RX11 args E A := X
  have hx := X.1
  have hb := X.2.1
  have hl : lv_has ls 3 [(0, .ref a0), (1, .int p1), (2, .int p2)] := hl
  rw [f_X11_bound] at h
  refine lv_iload_n hx hb dX11_bound_0 rfl (lv_at hl 1 rfl) ?_
  refine lv_iconst (v := 4) hx hb dX11_bound_1 (by decide) ?_
  refine lv_sipush (v := 400) hx hb dX11_bound_2 (by decide) ?_
  obtain ⟨r5_1, hc2, h3⟩ := cb1_s h
  clear h
  refine kgoiE (krunS (rest := []) X hV [] (c_X11_isWithin l E _ p1 4 400 r5_1 hc2) mw_187 kb_X11_isWithin (by decide) rfl rfl hl.1 rfl (Nat.le_of_ble_eq_true rfl) dX11_bound_5 (by decide)) X hV [] [0, 1, 2] rfl rfl rfl (by decide) (fun u H locs hV4 => ?_)
  have hV4 : kV E A s.heap H locs [(a0, .inr (11, [w0_0, w0_1, w0_2, w0_3, w0_4, w0_5, w0_6, .ref a1, w0_8])), (a1, .inr (2, [.ref a2, w1_1, w1_2, w1_3, w1_4, .int s_nights_many])), (a2, .inl (E.2 0, 30, .inl s_nights_days))] := hV4.sub [0, 1, 2] rfl rfl
  clear hV
  refine lv_if_eq (tgt := 18) hx hb dX11_bound_8 (by decide) (fun c6 => ?_) (fun c6 => ?_)
  · have h7 := itS c6 h3
    clear h3 c6
    refine lv_iconst (v := (-1)) hx hb dX11_bound_18 (by decide) ?_
    have q9 := tup1_s h7
    clear h7
    exact hret _ () _ _ _ _ q9 rfl hV4 dX11_bound_19
  · have h8 := ieS c6 h3
    clear h3 c6
    refine lv_iload_n hx hb dX11_bound_11 rfl (lv_at hl 2 rfl) ?_
    obtain ⟨r12_10, hc11, h12⟩ := cb1_s h8
    clear h8
    refine kgoiE (krunS (rest := []) X hV4 [] (c_X11_isNightError l E _ p2 r12_10 hc11) mw_1146 kb_X11_isNightError (by decide) rfl rfl hl.1 rfl (Nat.le_of_ble_eq_true rfl) dX11_bound_12 (by decide)) X hV4 [] [0, 1, 2] rfl rfl rfl (by decide) (fun u H locs hV13 => ?_)
    have hV13 : kV E A s.heap H locs [(a0, .inr (11, [w0_0, w0_1, w0_2, w0_3, w0_4, w0_5, w0_6, .ref a1, w0_8])), (a1, .inr (2, [.ref a2, w1_1, w1_2, w1_3, w1_4, .int s_nights_many])), (a2, .inl (E.2 0, 30, .inl s_nights_days))] := hV13.sub [0, 1, 2] rfl rfl
    clear hV4
    refine lv_if_ne (tgt := 20) hx hb dX11_bound_15 (by decide) (fun c15 => ?_) (fun c15 => ?_)
    · have h16 := ieS c15 h12
      clear h12 c15
      refine lv_aload_n hx hb dX11_bound_20 rfl (lv_at hl 0 rfl) ?_
      refine kget X hV13 (ci := 11) inlX11 rfl 0 rfl 7 (by decide) mw_41 rfl dX11_bound_21 ?_
      refine lv_iload_n hx hb dX11_bound_24 rfl (lv_at hl 1 rfl) ?_
      refine lv_iload_n hx hb dX11_bound_25 rfl (lv_at hl 2 rfl) ?_
      obtain ⟨r26_18, hc19, h20⟩ := cb1_s h16
      clear h16
      refine kgoiE (krunV (rest := []) X hV13 [1, 2] (c_X2_greatestOrbit l E _ a1 a2 (w1_1) (w1_2) (w1_3) (w1_4) s_nights_many s_nights_days p1 p2 r26_18 hc19) mw_1185 kb_X2_greatestOrbit (ci := 2) rfl rfl (by decide) rfl rfl hl.1 rfl (Nat.le_of_ble_eq_true rfl) dX11_bound_26 (by decide)) X hV13 [1, 2] [0] rfl rfl rfl (by decide) (fun u H locs hV21 => ?_)
      have hV21 : kV E A s.heap H locs [(a0, .inr (11, [w0_0, w0_1, w0_2, w0_3, w0_4, w0_5, w0_6, .ref a1, w0_8])), (a1, .inr (2, [.ref a2, w1_1, w1_2, w1_3, w1_4, .int s_nights_many])), (a2, .inl (E.2 0, 30, .inl s_nights_days))] := hV21.sub [0, 1, 2] rfl rfl
      clear hV13
      have q23 := tup1_s h20
      clear h20
      exact hret _ () _ _ _ _ q23 rfl hV21 dX11_bound_29
    · have h17 := itS c15 h12
      clear h12 c15
      refine lv_iconst (v := (-1)) hx hb dX11_bound_18 (by decide) ?_
      have q24 := tup1_s h17
      clear h17
      exact hret _ () _ _ _ _ q24 rfl hV13 dX11_bound_19
abbrev r_X11_there : Room := { frames := 1, cells := 0, slots := 0, locals := 22 }
set_option maxHeartbeats 4000000 in
set_option maxRecDepth 100000 in
theorem c_X11_there (l : Launch) (E : kE) (sz : Nat) (a0 a1 a2 : Nat) (w0_0 w0_1 w0_2 w0_3 w0_4 w0_5 w0_6 w0_7 w1_1 w1_2 w1_3 : Value) (s_lots_tens : Nat → Int32) (p1 : Int32) (p2 : Int32) (r : Int32) (o_lots_tens : Nat → Int32) (h : f_X11_there s_lots_tens p1 p2 = some (r, o_lots_tens)) : kMi l yX11_there cX11_there 3 (some .boolean) r_X11_there [.ref a0, .int p1, .int p2] E [(a0, .inr (11, [w0_0, w0_1, w0_2, w0_3, w0_4, w0_5, w0_6, w0_7, .ref a1])), (a1, .inr (1, [.ref a2, w1_1, w1_2, w1_3])), (a2, .inl (E.2 0, 40, .inl s_lots_tens))] sz 0 0 (fun x (_ : Unit) => x = r) (fun _ => [(a0, .inr (11, [w0_0, w0_1, w0_2, w0_3, w0_4, w0_5, w0_6, w0_7, .ref a1])), (a1, .inr (1, [.ref a2, w1_1, w1_2, w1_3])), (a2, .inl (E.2 0, 40, .inl o_lots_tens))]) := by
  refine kmeti rfl (Nat.le_of_ble_eq_true rfl) ?_
  intro p e s m args below meth c ls A Q X hV hret hl
  have X : kC p s m c cX11_there 3 RX11 args E A := X
  have hx := X.1
  have hb := X.2.1
  have hl : lv_has ls 3 [(0, .ref a0), (1, .int p1), (2, .int p2)] := hl
  rw [f_X11_there] at h
  refine lv_iload_n hx hb dX11_there_0 rfl (lv_at hl 1 rfl) ?_
  refine lv_iconst (v := 0) hx hb dX11_there_1 (by decide) ?_
  refine lv_bipush (v := 39) hx hb dX11_there_2 (by decide) ?_
  obtain ⟨r4_1, hc2, h3⟩ := cb1_s h
  clear h
  refine kgoiE (krunS (rest := []) X hV [] (c_X11_isWithin l E _ p1 0 39 r4_1 hc2) mw_187 kb_X11_isWithin (by decide) rfl rfl hl.1 rfl (Nat.le_of_ble_eq_true rfl) dX11_there_4 (by decide)) X hV [] [0, 1, 2] rfl rfl rfl (by decide) (fun u H locs hV4 => ?_)
  have hV4 : kV E A s.heap H locs [(a0, .inr (11, [w0_0, w0_1, w0_2, w0_3, w0_4, w0_5, w0_6, w0_7, .ref a1])), (a1, .inr (1, [.ref a2, w1_1, w1_2, w1_3])), (a2, .inl (E.2 0, 40, .inl s_lots_tens))] := hV4.sub [0, 1, 2] rfl rfl
  clear hV
  refine lv_if_eq (tgt := 20) hx hb dX11_there_7 (by decide) (fun c6 => ?_) (fun c6 => ?_)
  · have h7 := itS c6 h3
    clear h3 c6
    refine lv_iconst (v := 0) hx hb dX11_there_20 (by decide) ?_
    obtain ⟨q9, q10⟩ := tup2_s h7
    clear h7
    exact hret _ () _ _ _ _ q9 rfl (by rw [← q10]; exact hV4) dX11_there_21
  · have h8 := ieS c6 h3
    clear h3 c6
    refine lv_iload_n hx hb dX11_there_10 rfl (lv_at hl 2 rfl) ?_
    refine lv_iconst (v := 0) hx hb dX11_there_11 (by decide) ?_
    refine lv_bipush (v := 10) hx hb dX11_there_12 (by decide) ?_
    obtain ⟨r14_11, hc12, h13⟩ := cb1_s h8
    clear h8
    refine kgoiE (krunS (rest := []) X hV4 [] (c_X11_isWithin l E _ p2 0 10 r14_11 hc12) mw_187 kb_X11_isWithin (by decide) rfl rfl hl.1 rfl (Nat.le_of_ble_eq_true rfl) dX11_there_14 (by decide)) X hV4 [] [0, 1, 2] rfl rfl rfl (by decide) (fun u H locs hV14 => ?_)
    have hV14 : kV E A s.heap H locs [(a0, .inr (11, [w0_0, w0_1, w0_2, w0_3, w0_4, w0_5, w0_6, w0_7, .ref a1])), (a1, .inr (1, [.ref a2, w1_1, w1_2, w1_3])), (a2, .inl (E.2 0, 40, .inl s_lots_tens))] := hV14.sub [0, 1, 2] rfl rfl
    clear hV4
    refine lv_if_ne (tgt := 22) hx hb dX11_there_17 (by decide) (fun c16 => ?_) (fun c16 => ?_)
    · have h17 := ieS c16 h13
      clear h13 c16
      refine lv_aload_n hx hb dX11_there_22 rfl (lv_at hl 0 rfl) ?_
      refine kget X hV14 (ci := 11) inlX11 rfl 0 rfl 8 (by decide) mw_45 rfl dX11_there_23 ?_
      refine kget X hV14 (ci := 1) inlX1 rfl 1 rfl 0 (by decide) mw_1216 rfl dX11_there_26 ?_
      refine lv_iload_n hx hb dX11_there_29 rfl (lv_at hl 1 rfl) ?_
      refine lv_iload_n hx hb dX11_there_30 rfl (lv_at hl 2 rfl) ?_
      obtain ⟨hi20, g31_19, e21, h22⟩ := wrI_s h17
      clear h17
      refine kiast X hV14 2 rfl hi20 e21 dX11_there_31 (fun H locs hV23 => ?_)
      have hV23 : kV E A s.heap H locs [(a0, .inr (11, [w0_0, w0_1, w0_2, w0_3, w0_4, w0_5, w0_6, w0_7, .ref a1])), (a1, .inr (1, [.ref a2, w1_1, w1_2, w1_3])), (a2, .inl (E.2 0, 40, .inl g31_19))] := hV23
      clear hV14 hi20 e21
      refine lv_iconst (v := 1) hx hb dX11_there_32 (by decide) ?_
      obtain ⟨q24, q25⟩ := tup2_s h22
      clear h22
      exact hret _ () _ _ _ _ q24 rfl (by rw [← q25]; exact hV23) dX11_there_33
    · have h18 := itS c16 h13
      clear h13 c16
      refine lv_iconst (v := 0) hx hb dX11_there_20 (by decide) ?_
      obtain ⟨q26, q27⟩ := tup2_s h18
      clear h18
      exact hret _ () _ _ _ _ q26 rfl (by rw [← q27]; exact hV14) dX11_there_21
abbrev r_X11_pen : Room := { frames := 4, cells := 0, slots := 0, locals := 100 }
set_option maxHeartbeats 4000000 in
set_option maxRecDepth 100000 in
theorem c_X11_pen (l : Launch) (E : kE) (sz : Nat) (a0 a1 a2 a3 a4 : Nat) (w0_0 w0_1 w0_2 w0_3 w0_4 w0_5 w0_6 w0_7 : Value) (s_lots_unseen : Int32) (s_lots_best : Nat → Int32) (s_lots_chosen : Nat → Int32) (s_lots_tens : Nat → Int32) (p1 : Int32) (p2 : Int32) (p3 : Int32) (r : Int32) (o_lots_unseen : Int32) (o_lots_best : Nat → Int32) (o_lots_chosen : Nat → Int32) (h : f_X11_pen s_lots_unseen s_lots_best s_lots_chosen s_lots_tens p1 p2 p3 = some (r, o_lots_unseen, o_lots_best, o_lots_chosen)) : kMi l yX11_pen cX11_pen 5 (some .int) r_X11_pen [.ref a0, .int p1, .int p2, .int p3] E [(a0, .inr (11, [w0_0, w0_1, w0_2, w0_3, w0_4, w0_5, w0_6, w0_7, .ref a1])), (a1, .inr (1, [.ref a4, .ref a3, .ref a2, .int s_lots_unseen])), (a2, .inl (E.2 0, 287, .inl s_lots_best)), (a3, .inl (E.2 0, 6, .inl s_lots_chosen)), (a4, .inl (E.2 0, 40, .inl s_lots_tens))] sz 0 0 (fun x (_ : Unit) => x = r) (fun _ => [(a0, .inr (11, [w0_0, w0_1, w0_2, w0_3, w0_4, w0_5, w0_6, w0_7, .ref a1])), (a1, .inr (1, [.ref a4, .ref a3, .ref a2, .int o_lots_unseen])), (a2, .inl (E.2 0, 287, .inl o_lots_best)), (a3, .inl (E.2 0, 6, .inl o_lots_chosen)), (a4, .inl (E.2 0, 40, .inl s_lots_tens))]) := by
  refine kmeti rfl (Nat.le_of_ble_eq_true rfl) ?_
  intro p e s m args below meth c ls A Q X hV hret hl
  have X : kC p s m c cX11_pen 5 RX11 args E A := X
  have hx := X.1
  have hb := X.2.1
  have hl : lv_has ls 5 [(0, .ref a0), (1, .int p1), (2, .int p2), (3, .int p3)] := hl
  rw [f_X11_pen] at h
  refine lv_iload_n hx hb dX11_pen_0 rfl (lv_at hl 1 rfl) ?_
  refine lv_iconst (v := 1) hx hb dX11_pen_1 (by decide) ?_
  refine lv_bipush (v := 6) hx hb dX11_pen_2 (by decide) ?_
  obtain ⟨r4_1, hc2, h3⟩ := cb1_s h
  clear h
  refine kgoiE (krunS (rest := []) X hV [] (c_X11_isWithin l E _ p1 1 6 r4_1 hc2) mw_187 kb_X11_isWithin (by decide) rfl rfl hl.1 rfl (Nat.le_of_ble_eq_true rfl) dX11_pen_4 (by decide)) X hV [] [0, 1, 2, 3, 4] rfl rfl rfl (by decide) (fun u H locs hV4 => ?_)
  have hV4 : kV E A s.heap H locs [(a0, .inr (11, [w0_0, w0_1, w0_2, w0_3, w0_4, w0_5, w0_6, w0_7, .ref a1])), (a1, .inr (1, [.ref a4, .ref a3, .ref a2, .int s_lots_unseen])), (a2, .inl (E.2 0, 287, .inl s_lots_best)), (a3, .inl (E.2 0, 6, .inl s_lots_chosen)), (a4, .inl (E.2 0, 40, .inl s_lots_tens))] := hV4.sub [0, 1, 2, 3, 4] rfl rfl
  clear hV
  have J42 : ∀ (t0_6 : Int32) (H : Heap) (locs : List Loc) (ls : Array Slot), (f_X11_pen_J42 s_lots_unseen s_lots_best s_lots_chosen s_lots_tens p1 p2 p3 ) t0_6 = some (r, o_lots_unseen, o_lots_best, o_lots_chosen) → kV E A s.heap H locs [(a0, .inr (11, [w0_0, w0_1, w0_2, w0_3, w0_4, w0_5, w0_6, w0_7, .ref a1])), (a1, .inr (1, [.ref a4, .ref a3, .ref a2, .int s_lots_unseen])), (a2, .inl (E.2 0, 287, .inl s_lots_best)), (a3, .inl (E.2 0, 6, .inl s_lots_chosen)), (a4, .inl (E.2 0, 40, .inl s_lots_tens))] → lv_has ls 5 [(0, .ref a0), (1, .int p1), (2, .int p2), (3, .int p3)] → W p l e r_X11_pen s m args below meth c H locs 0 0 Q (F0 m 42 ls [.int t0_6]) := by
    intro t0_6 H locs ls hB42 hVB42 hlB42
    rw [f_X11_pen_J42] at hB42
    refine lv_istore (lv' := [(4, .int t0_6), (0, .ref a0), (1, .int p1), (2, .int p2), (3, .int p3)]) hx hb dX11_pen_42 hlB42 (by decide) rfl (fun ls hl7 => ?_)
    clear hlB42
    refine lv_iload hx hb dX11_pen_44 (lv_at hl7 0 rfl) ?_
    refine lv_if_eq (tgt := 59) hx hb dX11_pen_46 (by decide) (fun c8 => ?_) (fun c8 => ?_)
    · have h9 := itS c8 hB42
      clear hB42 c8
      refine lv_iconst (v := (-1)) hx hb dX11_pen_59 (by decide) ?_
      obtain ⟨q11, q12, q13, q14⟩ := tup4_s h9
      clear h9
      exact hret _ () _ _ _ _ q11 rfl (by rw [← q12, ← q13, ← q14]; exact hVB42) dX11_pen_60
    · have h10 := ieS c8 hB42
      clear hB42 c8
      refine lv_iload_n hx hb dX11_pen_49 rfl (lv_at hl7 2 rfl) ?_
      refine lv_iconst (v := 1) hx hb dX11_pen_50 (by decide) ?_
      refine lv_isub hx hb dX11_pen_51 ?_
      refine lv_iload_n hx hb dX11_pen_52 rfl (lv_at hl7 3 rfl) ?_
      refine lv_imul hx hb dX11_pen_53 ?_
      refine lv_bipush (v := 40) hx hb dX11_pen_54 (by decide) ?_
      refine lv_icmp_lt (tgt := 61) hx hb dX11_pen_56 (by decide) (fun c15 => ?_) (fun c15 => ?_)
      · have h16 := itS c15 h10
        clear h10 c15
        refine lv_aload_n hx hb dX11_pen_61 rfl (lv_at hl7 1 rfl) ?_
        refine kget X hVB42 (ci := 11) inlX11 rfl 0 rfl 8 (by decide) mw_45 rfl dX11_pen_62 ?_
        refine lv_iload_n hx hb dX11_pen_65 rfl (lv_at hl7 2 rfl) ?_
        refine lv_iload_n hx hb dX11_pen_66 rfl (lv_at hl7 3 rfl) ?_
        obtain ⟨o_unseen67_18, o_best67_19, o_chosen67_20, hc21, h22⟩ := cb3_s h16
        clear h16
        refine kgov (krunV (rest := []) X hVB42 [1, 2, 3, 4] (c_X1_choose l E _ a1 a2 a3 a4 s_lots_unseen s_lots_best s_lots_chosen s_lots_tens p1 p2 o_unseen67_18 o_best67_19 o_chosen67_20 hc21) mw_1229 kb_X1_choose (ci := 1) rfl rfl (by decide) rfl rfl hl7.1 rfl (Nat.le_of_ble_eq_true rfl) dX11_pen_67 (by decide)) X hVB42 [1, 2, 3, 4] [0] rfl rfl rfl (by decide) (fun u H locs hp24 hV23 => ?_)
        have hV23 : kV E A s.heap H locs [(a0, .inr (11, [w0_0, w0_1, w0_2, w0_3, w0_4, w0_5, w0_6, w0_7, .ref a1])), (a1, .inr (1, [.ref a4, .ref a3, .ref a2, .int o_unseen67_18])), (a2, .inl (E.2 0, 287, .inl o_best67_19)), (a3, .inl (E.2 0, 6, .inl o_chosen67_20)), (a4, .inl (E.2 0, 40, .inl s_lots_tens))] := hV23.sub [0, 1, 2, 3, 4] rfl rfl
        clear hVB42
        refine lv_iload_n hx hb dX11_pen_70 rfl (lv_at hl7 4 rfl) ?_
        refine lv_bipush (v := 6) hx hb dX11_pen_71 (by decide) ?_
        refine lv_icmp_ne (tgt := 86) hx hb dX11_pen_73 (by decide) (fun c25 => ?_) (fun c25 => ?_)
        · have h26 := ieS c25 h22
          clear h22 c25
          refine lv_aload_n hx hb dX11_pen_86 rfl (lv_at hl7 1 rfl) ?_
          refine kget X hV23 (ci := 11) inlX11 rfl 0 rfl 8 (by decide) mw_45 rfl dX11_pen_87 ?_
          refine kget X hV23 (ci := 1) inlX1 rfl 1 rfl 1 (by decide) mw_1228 rfl dX11_pen_90 ?_
          refine lv_iload_n hx hb dX11_pen_93 rfl (lv_at hl7 4 rfl) ?_
          obtain ⟨hi29, v94_28, e30, h31⟩ := rdI_s h26
          clear h26
          refine kiald X hV23 3 rfl hi29 e30 dX11_pen_94 ?_
          clear hi29 e30
          obtain ⟨q32, q33, q34, q35⟩ := tup4_s h31
          clear h31
          exact hret _ () _ _ _ _ q32 rfl (by rw [← q33, ← q34, ← q35]; exact hV23) dX11_pen_95
        · have h27 := itS c25 h22
          clear h22 c25
          refine lv_aload_n hx hb dX11_pen_76 rfl (lv_at hl7 1 rfl) ?_
          refine kget X hV23 (ci := 11) inlX11 rfl 0 rfl 8 (by decide) mw_45 rfl dX11_pen_77 ?_
          refine kget X hV23 (ci := 1) inlX1 rfl 1 rfl 3 (by decide) mw_1227 rfl dX11_pen_80 ?_
          refine lv_goto (tgt := 95) hx hb dX11_pen_83 (by decide) ?_
          obtain ⟨q36, q37, q38, q39⟩ := tup4_s h27
          clear h27
          exact hret _ () _ _ _ _ q36 rfl (by rw [← q37, ← q38, ← q39]; exact hV23) dX11_pen_95
      · have h17 := ieS c15 h10
        clear h10 c15
        refine lv_iconst (v := (-1)) hx hb dX11_pen_59 (by decide) ?_
        obtain ⟨q40, q41, q42, q43⟩ := tup4_s h17
        clear h17
        exact hret _ () _ _ _ _ q40 rfl (by rw [← q41, ← q42, ← q43]; exact hVB42) dX11_pen_60
  refine lv_if_eq (tgt := 41) hx hb dX11_pen_7 (by decide) (fun c44 => ?_) (fun c44 => ?_)
  · have h45 := itS c44 h3
    clear h3 c44
    refine lv_iconst (v := 0) hx hb dX11_pen_41 (by decide) ?_
    exact J42 0 _ _ _ h45 hV4 (lv_sub hl [0, 1, 2, 3] rfl)
  · have h46 := ieS c44 h3
    clear h3 c44
    refine lv_iload_n hx hb dX11_pen_10 rfl (lv_at hl 2 rfl) ?_
    refine lv_iconst (v := 1) hx hb dX11_pen_11 (by decide) ?_
    refine lv_bipush (v := 10) hx hb dX11_pen_12 (by decide) ?_
    obtain ⟨r14_47, hc48, h49⟩ := cb1_s h46
    clear h46
    refine kgoiE (krunS (rest := []) X hV4 [] (c_X11_isWithin l E _ p2 1 10 r14_47 hc48) mw_187 kb_X11_isWithin (by decide) rfl rfl hl.1 rfl (Nat.le_of_ble_eq_true rfl) dX11_pen_14 (by decide)) X hV4 [] [0, 1, 2, 3, 4] rfl rfl rfl (by decide) (fun u H locs hV50 => ?_)
    have hV50 : kV E A s.heap H locs [(a0, .inr (11, [w0_0, w0_1, w0_2, w0_3, w0_4, w0_5, w0_6, w0_7, .ref a1])), (a1, .inr (1, [.ref a4, .ref a3, .ref a2, .int s_lots_unseen])), (a2, .inl (E.2 0, 287, .inl s_lots_best)), (a3, .inl (E.2 0, 6, .inl s_lots_chosen)), (a4, .inl (E.2 0, 40, .inl s_lots_tens))] := hV50.sub [0, 1, 2, 3, 4] rfl rfl
    clear hV4
    refine lv_if_eq (tgt := 41) hx hb dX11_pen_17 (by decide) (fun c52 => ?_) (fun c52 => ?_)
    · have h53 := itS c52 h49
      clear h49 c52
      refine lv_iconst (v := 0) hx hb dX11_pen_41 (by decide) ?_
      exact J42 0 _ _ _ h53 hV50 (lv_sub hl [0, 1, 2, 3] rfl)
    · have h54 := ieS c52 h49
      clear h49 c52
      refine lv_iload_n hx hb dX11_pen_20 rfl (lv_at hl 3 rfl) ?_
      refine lv_bipush (v := 6) hx hb dX11_pen_21 (by decide) ?_
      refine lv_icmp_eq (tgt := 37) hx hb dX11_pen_23 (by decide) (fun c55 => ?_) (fun c55 => ?_)
      · have h56 := itS c55 h54
        clear h54 c55
        refine lv_iconst (v := 1) hx hb dX11_pen_37 (by decide) ?_
        refine lv_goto (tgt := 42) hx hb dX11_pen_38 (by decide) ?_
        exact J42 1 _ _ _ h56 hV50 (lv_sub hl [0, 1, 2, 3] rfl)
      · have h57 := ieS c55 h54
        clear h54 c55
        refine lv_iload_n hx hb dX11_pen_26 rfl (lv_at hl 3 rfl) ?_
        refine lv_iconst (v := 0) hx hb dX11_pen_27 (by decide) ?_
        refine lv_iload_n hx hb dX11_pen_28 rfl (lv_at hl 1 rfl) ?_
        refine lv_iconst (v := 1) hx hb dX11_pen_29 (by decide) ?_
        refine lv_isub hx hb dX11_pen_30 ?_
        obtain ⟨r31_58, hc59, h60⟩ := cb1_s h57
        clear h57
        refine kgoiE (krunS (rest := []) X hV50 [] (c_X11_isWithin l E _ p3 0 (p1 - 1) r31_58 hc59) mw_187 kb_X11_isWithin (by decide) rfl rfl hl.1 rfl (Nat.le_of_ble_eq_true rfl) dX11_pen_31 (by decide)) X hV50 [] [0, 1, 2, 3, 4] rfl rfl rfl (by decide) (fun u H locs hV61 => ?_)
        have hV61 : kV E A s.heap H locs [(a0, .inr (11, [w0_0, w0_1, w0_2, w0_3, w0_4, w0_5, w0_6, w0_7, .ref a1])), (a1, .inr (1, [.ref a4, .ref a3, .ref a2, .int s_lots_unseen])), (a2, .inl (E.2 0, 287, .inl s_lots_best)), (a3, .inl (E.2 0, 6, .inl s_lots_chosen)), (a4, .inl (E.2 0, 40, .inl s_lots_tens))] := hV61.sub [0, 1, 2, 3, 4] rfl rfl
        clear hV50
        refine lv_if_eq (tgt := 41) hx hb dX11_pen_34 (by decide) (fun c63 => ?_) (fun c63 => ?_)
        · have h64 := itS c63 h60
          clear h60 c63
          refine lv_iconst (v := 0) hx hb dX11_pen_41 (by decide) ?_
          exact J42 0 _ _ _ h64 hV61 (lv_sub hl [0, 1, 2, 3] rfl)
        · have h65 := ieS c63 h60
          clear h60 c63
          refine lv_iconst (v := 1) hx hb dX11_pen_37 (by decide) ?_
          refine lv_goto (tgt := 42) hx hb dX11_pen_38 (by decide) ?_
          exact J42 1 _ _ _ h65 hV61 (lv_sub hl [0, 1, 2, 3] rfl)
abbrev r_X11_odds : Room := { frames := 2, cells := 0, slots := 0, locals := 53 }
set_option maxHeartbeats 4000000 in
set_option maxRecDepth 100000 in
theorem c_X11_odds (l : Launch) (E : kE) (sz : Nat) (a0 : Nat) (w0_0 w0_1 w0_2 w0_3 w0_4 w0_5 w0_6 w0_7 w0_8 : Value) (p1 : Int32) (p2 : Int32) (p3 : Int32) (p4 : Int32) (p5 : Int32) (r : Int64) (h : f_X11_odds p1 p2 p3 p4 p5 = some (r)) : kMl l yX11_odds cX11_odds 12 (some .long) r_X11_odds [.ref a0, .int p1, .int p2, .int p3, .int p4, .int p5] E [(a0, .inr (11, [w0_0, w0_1, w0_2, w0_3, w0_4, w0_5, w0_6, w0_7, w0_8]))] sz 0 0 (fun x (_ : Unit) => x = r) (fun _ => [(a0, .inr (11, [w0_0, w0_1, w0_2, w0_3, w0_4, w0_5, w0_6, w0_7, w0_8]))]) := by
  refine kmetl rfl (Nat.le_of_ble_eq_true rfl) ?_
  intro p e s m args below meth c ls A Q X hV hret hl
  have X : kC p s m c cX11_odds 12 RX11 args E A := X
  have hx := X.1
  have hb := X.2.1
  have hl : lv_has ls 12 [(0, .ref a0), (1, .int p1), (2, .int p2), (3, .int p3), (4, .int p4), (5, .int p5)] := hl
  rw [f_X11_odds] at h
  refine lv_iload_n hx hb dX11_odds_0 rfl (lv_at hl 1 rfl) ?_
  refine lv_iload_n hx hb dX11_odds_1 rfl (lv_at hl 2 rfl) ?_
  refine lv_iload_n hx hb dX11_odds_2 rfl (lv_at hl 3 rfl) ?_
  obtain ⟨r3_1, hc2, h3⟩ := cb1_s h
  clear h
  refine kgoiE (krunS (rest := []) X hV [] (c_X11_isLook l E _ p1 p2 p3 r3_1 hc2) mw_1260 kb_X11_isLook (by decide) rfl rfl hl.1 rfl (Nat.le_of_ble_eq_true rfl) dX11_odds_3 (by decide)) X hV [] [0] rfl rfl rfl (by decide) (fun u H locs hV4 => ?_)
  have hV4 : kV E A s.heap H locs [(a0, .inr (11, [w0_0, w0_1, w0_2, w0_3, w0_4, w0_5, w0_6, w0_7, w0_8]))] := hV4.sub [0] rfl rfl
  clear hV
  refine lv_if_eq (tgt := 34) hx hb dX11_odds_6 (by decide) (fun c6 => ?_) (fun c6 => ?_)
  · have h7 := itS c6 h3
    clear h3 c6
    refine lv_ldc2 (v := (-1)) hx hb X.2.2.2.1 (X.2.2.2.2.1 _ mw_1259) dX11_odds_34 ?_
    have q9 := tup1_s h7
    clear h7
    exact hret _ () _ _ _ _ q9 hV4 dX11_odds_37
  · have h8 := ieS c6 h3
    clear h3 c6
    refine lv_iload hx hb dX11_odds_9 (lv_at hl 4 rfl) ?_
    refine lv_iload_n hx hb dX11_odds_11 rfl (lv_at hl 1 rfl) ?_
    refine lv_iload_n hx hb dX11_odds_12 rfl (lv_at hl 2 rfl) ?_
    refine lv_iadd hx hb dX11_odds_13 ?_
    refine lv_iload_n hx hb dX11_odds_14 rfl (lv_at hl 3 rfl) ?_
    refine lv_isub hx hb dX11_odds_15 ?_
    refine lv_bipush (v := 40) hx hb dX11_odds_16 (by decide) ?_
    obtain ⟨r18_10, hc11, h12⟩ := cb1_s h8
    clear h8
    refine kgoiE (krunS (rest := []) X hV4 [] (c_X11_isWithin l E _ p4 ((p1 + p2) - p3) 40 r18_10 hc11) mw_187 kb_X11_isWithin (by decide) rfl rfl hl.1 rfl (Nat.le_of_ble_eq_true rfl) dX11_odds_18 (by decide)) X hV4 [] [0] rfl rfl rfl (by decide) (fun u H locs hV13 => ?_)
    have hV13 : kV E A s.heap H locs [(a0, .inr (11, [w0_0, w0_1, w0_2, w0_3, w0_4, w0_5, w0_6, w0_7, w0_8]))] := hV13.sub [0] rfl rfl
    clear hV4
    refine lv_if_eq (tgt := 34) hx hb dX11_odds_21 (by decide) (fun c15 => ?_) (fun c15 => ?_)
    · have h16 := itS c15 h12
      clear h12 c15
      refine lv_ldc2 (v := (-1)) hx hb X.2.2.2.1 (X.2.2.2.2.1 _ mw_1259) dX11_odds_34 ?_
      have q18 := tup1_s h16
      clear h16
      exact hret _ () _ _ _ _ q18 hV13 dX11_odds_37
    · have h17 := ieS c15 h12
      clear h12 c15
      refine lv_iload hx hb dX11_odds_24 (lv_at hl 5 rfl) ?_
      refine lv_iconst (v := 0) hx hb dX11_odds_26 (by decide) ?_
      refine lv_iconst (v := 1) hx hb dX11_odds_27 (by decide) ?_
      obtain ⟨r28_19, hc20, h21⟩ := cb1_s h17
      clear h17
      refine kgoiE (krunS (rest := []) X hV13 [] (c_X11_isWithin l E _ p5 0 1 r28_19 hc20) mw_187 kb_X11_isWithin (by decide) rfl rfl hl.1 rfl (Nat.le_of_ble_eq_true rfl) dX11_odds_28 (by decide)) X hV13 [] [0] rfl rfl rfl (by decide) (fun u H locs hV22 => ?_)
      have hV22 : kV E A s.heap H locs [(a0, .inr (11, [w0_0, w0_1, w0_2, w0_3, w0_4, w0_5, w0_6, w0_7, w0_8]))] := hV22.sub [0] rfl rfl
      clear hV13
      refine lv_if_ne (tgt := 38) hx hb dX11_odds_31 (by decide) (fun c24 => ?_) (fun c24 => ?_)
      · have h25 := ieS c24 h21
        clear h21 c24
        refine lv_iload_n hx hb dX11_odds_38 rfl (lv_at hl 1 rfl) ?_
        refine lv_iload_n hx hb dX11_odds_39 rfl (lv_at hl 2 rfl) ?_
        refine lv_iload_n hx hb dX11_odds_40 rfl (lv_at hl 3 rfl) ?_
        refine lv_iload hx hb dX11_odds_41 (lv_at hl 4 rfl) ?_
        obtain ⟨r43_27, hc28, h29⟩ := cb1_s h25
        clear h25
        refine kgolE (krunS (rest := []) X hV22 [] (c_X1_drawsWith l E _ p1 p2 p3 p4 r43_27 hc28) mw_1263 kb_X1_drawsWith (by decide) rfl rfl hl.1 rfl (Nat.le_of_ble_eq_true rfl) dX11_odds_43 (by decide)) X hV22 [] [0] rfl rfl rfl (by decide) (fun u H locs hV30 => ?_)
        have hV30 : kV E A s.heap H locs [(a0, .inr (11, [w0_0, w0_1, w0_2, w0_3, w0_4, w0_5, w0_6, w0_7, w0_8]))] := hV30.sub [0] rfl rfl
        clear hV22
        refine lv_lstore (lv' := [(6, .long r43_27), (0, .ref a0), (1, .int p1), (2, .int p2), (3, .int p3), (4, .int p4), (5, .int p5)]) hx hb dX11_odds_46 hl (by decide) rfl (fun ls hl32 => ?_)
        clear hl
        refine lv_iload hx hb dX11_odds_48 (lv_at hl32 5 rfl) ?_
        refine lv_iload_n hx hb dX11_odds_50 rfl (lv_at hl32 3 rfl) ?_
        obtain ⟨r51_33, hc34, h35⟩ := cb1_s h29
        clear h29
        refine kgolE (krunS (rest := []) X hV30 [] (c_X1_choices l E _ p4 p2 r51_33 hc34) mw_1269 kb_X1_choices (by decide) rfl rfl hl32.1 rfl (Nat.le_of_ble_eq_true rfl) dX11_odds_51 (by decide)) X hV30 [] [0] rfl rfl rfl (by decide) (fun u H locs hV36 => ?_)
        have hV36 : kV E A s.heap H locs [(a0, .inr (11, [w0_0, w0_1, w0_2, w0_3, w0_4, w0_5, w0_6, w0_7, w0_8]))] := hV36.sub [0] rfl rfl
        clear hV30
        refine lv_lstore (lv' := [(8, .long r51_33), (6, .long r43_27), (0, .ref a0), (1, .int p1), (2, .int p2), (3, .int p3), (4, .int p4), (5, .int p5)]) hx hb dX11_odds_54 hl32 (by decide) rfl (fun ls hl38 => ?_)
        clear hl32
        refine lv_lload hx hb dX11_odds_56 (lv_at hl38 1 rfl) ?_
        refine lv_lload hx hb dX11_odds_58 (lv_at hl38 0 rfl) ?_
        obtain ⟨r60_39, hc40, h41⟩ := cb1_s h35
        clear h35
        refine kgolE (krunS (rest := []) X hV36 [] (c_X1_commonDivisor l E _ r43_27 r51_33 r60_39 hc40) mw_1270 kb_X1_commonDivisor (by decide) rfl rfl hl38.1 rfl (Nat.le_of_ble_eq_true rfl) dX11_odds_60 (by decide)) X hV36 [] [0] rfl rfl rfl (by decide) (fun u H locs hV42 => ?_)
        have hV42 : kV E A s.heap H locs [(a0, .inr (11, [w0_0, w0_1, w0_2, w0_3, w0_4, w0_5, w0_6, w0_7, w0_8]))] := hV42.sub [0] rfl rfl
        clear hV36
        refine lv_lstore (lv' := [(10, .long r60_39), (8, .long r51_33), (6, .long r43_27), (0, .ref a0), (1, .int p1), (2, .int p2), (3, .int p3), (4, .int p4), (5, .int p5)]) hx hb dX11_odds_63 hl38 (by decide) rfl (fun ls hl44 => ?_)
        clear hl38
        refine lv_iload hx hb dX11_odds_65 (lv_at hl44 8 rfl) ?_
        refine lv_if_ne (tgt := 75) hx hb dX11_odds_67 (by decide) (fun c45 => ?_) (fun c45 => ?_)
        · have h46 := ieS c45 h41
          clear h41 c45
          refine lv_lload hx hb dX11_odds_75 (lv_at hl44 1 rfl) ?_
          refine lv_lload hx hb dX11_odds_77 (lv_at hl44 0 rfl) ?_
          obtain ⟨hn48, h49⟩ := dvL_s h46
          clear h46
          refine lv_ldiv hx hb dX11_odds_79 hn48 ?_
          have q50 := tup1_s h49
          clear h49
          exact hret _ () _ _ _ _ q50 hV42 dX11_odds_80
        · have h47 := itS c45 h41
          clear h41 c45
          refine lv_lload hx hb dX11_odds_70 (lv_at hl44 2 rfl) ?_
          refine lv_goto (tgt := 77) hx hb dX11_odds_72 (by decide) ?_
          refine lv_lload hx hb dX11_odds_77 (lv_at hl44 0 rfl) ?_
          obtain ⟨hn51, h52⟩ := dvL_s h47
          clear h47
          refine lv_ldiv hx hb dX11_odds_79 hn51 ?_
          have q53 := tup1_s h52
          clear h52
          exact hret _ () _ _ _ _ q53 hV42 dX11_odds_80
      · have h26 := itS c24 h21
        clear h21 c24
        refine lv_ldc2 (v := (-1)) hx hb X.2.2.2.1 (X.2.2.2.2.1 _ mw_1259) dX11_odds_34 ?_
        have q54 := tup1_s h26
        clear h26
        exact hret _ () _ _ _ _ q54 hV22 dX11_odds_37
abbrev r_X11_more : Room := { frames := 2, cells := 0, slots := 0, locals := 47 }
set_option maxHeartbeats 4000000 in
set_option maxRecDepth 100000 in
theorem c_X11_more (l : Launch) (E : kE) (sz : Nat) (a0 : Nat) (w0_0 w0_1 w0_2 w0_3 w0_4 w0_5 w0_6 w0_7 w0_8 : Value) (p1 : Int32) (p2 : Int32) (p3 : Int32) (p4 : Int32) (p5 : Int32) (r : Int32) (h : f_X11_more p1 p2 p3 p4 p5 = some (r)) : kMi l yX11_more cX11_more 8 (some .int) r_X11_more [.ref a0, .int p1, .int p2, .int p3, .int p4, .int p5] E [(a0, .inr (11, [w0_0, w0_1, w0_2, w0_3, w0_4, w0_5, w0_6, w0_7, w0_8]))] sz 0 0 (fun x (_ : Unit) => x = r) (fun _ => [(a0, .inr (11, [w0_0, w0_1, w0_2, w0_3, w0_4, w0_5, w0_6, w0_7, w0_8]))]) := by
  refine kmeti rfl (Nat.le_of_ble_eq_true rfl) ?_
  intro p e s m args below meth c ls A Q X hV hret hl
  have X : kC p s m c cX11_more 8 RX11 args E A := X
  have hx := X.1
  have hb := X.2.1
  have hl : lv_has ls 8 [(0, .ref a0), (1, .int p1), (2, .int p2), (3, .int p3), (4, .int p4), (5, .int p5)] := hl
  rw [f_X11_more] at h
  refine lv_iload_n hx hb dX11_more_0 rfl (lv_at hl 1 rfl) ?_
  refine lv_iload_n hx hb dX11_more_1 rfl (lv_at hl 2 rfl) ?_
  refine lv_iload_n hx hb dX11_more_2 rfl (lv_at hl 3 rfl) ?_
  obtain ⟨r3_1, hc2, h3⟩ := cb1_s h
  clear h
  refine kgoiE (krunS (rest := []) X hV [] (c_X11_isLook l E _ p1 p2 p3 r3_1 hc2) mw_1260 kb_X11_isLook (by decide) rfl rfl hl.1 rfl (Nat.le_of_ble_eq_true rfl) dX11_more_3 (by decide)) X hV [] [0] rfl rfl rfl (by decide) (fun u H locs hV4 => ?_)
  have hV4 : kV E A s.heap H locs [(a0, .inr (11, [w0_0, w0_1, w0_2, w0_3, w0_4, w0_5, w0_6, w0_7, w0_8]))] := hV4.sub [0] rfl rfl
  clear hV
  refine lv_if_eq (tgt := 31) hx hb dX11_more_6 (by decide) (fun c6 => ?_) (fun c6 => ?_)
  · have h7 := itS c6 h3
    clear h3 c6
    refine lv_iconst (v := (-1)) hx hb dX11_more_31 (by decide) ?_
    have q9 := tup1_s h7
    clear h7
    exact hret _ () _ _ _ _ q9 rfl hV4 dX11_more_32
  · have h8 := ieS c6 h3
    clear h3 c6
    refine lv_iload hx hb dX11_more_9 (lv_at hl 4 rfl) ?_
    refine lv_iconst (v := 1) hx hb dX11_more_11 (by decide) ?_
    refine lv_sipush (v := 1000) hx hb dX11_more_12 (by decide) ?_
    obtain ⟨r15_10, hc11, h12⟩ := cb1_s h8
    clear h8
    refine kgoiE (krunS (rest := []) X hV4 [] (c_X11_isWithin l E _ p4 1 1000 r15_10 hc11) mw_187 kb_X11_isWithin (by decide) rfl rfl hl.1 rfl (Nat.le_of_ble_eq_true rfl) dX11_more_15 (by decide)) X hV4 [] [0] rfl rfl rfl (by decide) (fun u H locs hV13 => ?_)
    have hV13 : kV E A s.heap H locs [(a0, .inr (11, [w0_0, w0_1, w0_2, w0_3, w0_4, w0_5, w0_6, w0_7, w0_8]))] := hV13.sub [0] rfl rfl
    clear hV4
    refine lv_if_eq (tgt := 31) hx hb dX11_more_18 (by decide) (fun c15 => ?_) (fun c15 => ?_)
    · have h16 := itS c15 h12
      clear h12 c15
      refine lv_iconst (v := (-1)) hx hb dX11_more_31 (by decide) ?_
      have q18 := tup1_s h16
      clear h16
      exact hret _ () _ _ _ _ q18 rfl hV13 dX11_more_32
    · have h17 := ieS c15 h12
      clear h12 c15
      refine lv_iload hx hb dX11_more_21 (lv_at hl 5 rfl) ?_
      refine lv_iconst (v := 0) hx hb dX11_more_23 (by decide) ?_
      refine lv_iconst (v := 1) hx hb dX11_more_24 (by decide) ?_
      obtain ⟨r25_19, hc20, h21⟩ := cb1_s h17
      clear h17
      refine kgoiE (krunS (rest := []) X hV13 [] (c_X11_isWithin l E _ p5 0 1 r25_19 hc20) mw_187 kb_X11_isWithin (by decide) rfl rfl hl.1 rfl (Nat.le_of_ble_eq_true rfl) dX11_more_25 (by decide)) X hV13 [] [0] rfl rfl rfl (by decide) (fun u H locs hV22 => ?_)
      have hV22 : kV E A s.heap H locs [(a0, .inr (11, [w0_0, w0_1, w0_2, w0_3, w0_4, w0_5, w0_6, w0_7, w0_8]))] := hV22.sub [0] rfl rfl
      clear hV13
      refine lv_if_ne (tgt := 33) hx hb dX11_more_28 (by decide) (fun c24 => ?_) (fun c24 => ?_)
      · have h25 := ieS c24 h21
        clear h21 c24
        refine lv_bipush (v := (-2)) hx hb dX11_more_33 (by decide) ?_
        refine lv_istore (lv' := [(6, .int (-2)), (0, .ref a0), (1, .int p1), (2, .int p2), (3, .int p3), (4, .int p4), (5, .int p5)]) hx hb dX11_more_35 hl (by decide) rfl (fun ls hl27 => ?_)
        clear hl
        refine lv_iload_n hx hb dX11_more_37 rfl (lv_at hl27 2 rfl) ?_
        refine lv_iload_n hx hb dX11_more_38 rfl (lv_at hl27 3 rfl) ?_
        refine lv_iadd hx hb dX11_more_39 ?_
        refine lv_iload_n hx hb dX11_more_40 rfl (lv_at hl27 4 rfl) ?_
        refine lv_isub hx hb dX11_more_41 ?_
        obtain ⟨v42_28, e29, h30⟩ := nmI_s h25
        clear h25
        refine ktopi e29 ?_
        clear e29
        refine lv_istore (lv' := [(7, .int v42_28), (6, .int (-2)), (0, .ref a0), (1, .int p1), (2, .int p2), (3, .int p3), (4, .int p4), (5, .int p5)]) hx hb dX11_more_42 hl27 (by decide) rfl (fun ls hl31 => ?_)
        clear hl27
        have L44 : ∀ (n44 : Nat) (x6_32 : Int32) (x7_33 : Int32) (H : Heap) (locs : List Loc) (ls : Array Slot), (f_X11_more_L44 p1 p2 p3 p4 p5  n44) x6_32 x7_33 = some (r) → kV E A s.heap H locs [(a0, .inr (11, [w0_0, w0_1, w0_2, w0_3, w0_4, w0_5, w0_6, w0_7, w0_8]))] → lv_has ls 8 [(1, .int p1), (2, .int p2), (3, .int p3), (4, .int p4), (5, .int p5), (6, .int x6_32), (7, .int x7_33)] → W p l e r_X11_more s m args below meth c H locs 0 0 Q (F0 m 44 ls []) := by
          intro n44
          induction n44 with
          | zero =>
            intro x6_32 x7_33 H locs ls hB44 hVB44 hlB44
            rw [f_X11_more_L44] at hB44
            exact nomatch hB44
          | succ n44 ih44 =>
            intro x6_32 x7_33 H locs ls hB44 hVB44 hlB44
            rw [f_X11_more_L44] at hB44
            refine lv_iload hx hb dX11_more_44 (lv_at hlB44 6 rfl) ?_
            refine lv_bipush (v := 40) hx hb dX11_more_46 (by decide) ?_
            refine lv_icmp_gt (tgt := 95) hx hb dX11_more_48 (by decide) (fun c34 => ?_) (fun c34 => ?_)
            · have h35 := itS c34 hB44
              clear hB44 c34
              refine lv_iload hx hb dX11_more_95 (lv_at hlB44 5 rfl) ?_
              have q37 := tup1_s h35
              clear h35
              exact hret _ () _ _ _ _ q37 rfl hVB44 dX11_more_97
            · have h36 := ieS c34 hB44
              clear hB44 c34
              refine lv_iload_n hx hb dX11_more_51 rfl (lv_at hlB44 0 rfl) ?_
              refine lv_iload_n hx hb dX11_more_52 rfl (lv_at hlB44 1 rfl) ?_
              refine lv_iload_n hx hb dX11_more_53 rfl (lv_at hlB44 2 rfl) ?_
              refine lv_iload hx hb dX11_more_54 (lv_at hlB44 6 rfl) ?_
              obtain ⟨r56_38, hc39, h40⟩ := cb1_s h36
              clear h36
              refine kgolE (krunS (rest := []) X hVB44 [] (c_X1_drawsWith l E _ p1 p2 p3 x7_33 r56_38 hc39) mw_1263 kb_X1_drawsWith (by decide) rfl rfl hlB44.1 rfl (Nat.le_of_ble_eq_true rfl) dX11_more_56 (by decide)) X hVB44 [] [0] rfl rfl rfl (by decide) (fun u H locs hV41 => ?_)
              have hV41 : kV E A s.heap H locs [(a0, .inr (11, [w0_0, w0_1, w0_2, w0_3, w0_4, w0_5, w0_6, w0_7, w0_8]))] := hV41.sub [0] rfl rfl
              clear hVB44
              refine lv_ldc2 (v := 1000) hx hb X.2.2.2.1 (X.2.2.2.2.1 _ mw_1299) dX11_more_59 ?_
              refine lv_lmul hx hb dX11_more_62 ?_
              refine lv_iload hx hb dX11_more_63 (lv_at hlB44 6 rfl) ?_
              refine lv_iload_n hx hb dX11_more_65 rfl (lv_at hlB44 1 rfl) ?_
              obtain ⟨r66_43, hc44, h45⟩ := cb1_s h40
              clear h40
              refine kgolE (krunS (rest := [.long (r56_38 * 1000)]) X hV41 [] (c_X1_choices l E _ x7_33 p2 r66_43 hc44) mw_1269 kb_X1_choices (by decide) rfl rfl hlB44.1 rfl (Nat.le_of_ble_eq_true rfl) dX11_more_66 (by decide)) X hV41 [] [0] rfl rfl rfl (by decide) (fun u H locs hV46 => ?_)
              have hV46 : kV E A s.heap H locs [(a0, .inr (11, [w0_0, w0_1, w0_2, w0_3, w0_4, w0_5, w0_6, w0_7, w0_8]))] := hV46.sub [0] rfl rfl
              clear hV41
              refine lv_iload hx hb dX11_more_69 (lv_at hlB44 3 rfl) ?_
              refine lv_i2l (v := Int32.toInt64 p4) hx hb dX11_more_71 rfl ?_
              refine lv_lmul hx hb dX11_more_72 ?_
              refine W.lcmp hx hb dX11_more_73 ?_
              refine lv_if_lt (tgt := 89) hx hb dX11_more_74 (by decide) (fun c48 => ?_) (fun c48 => ?_)
              · have h49 := itS c48 h45
                clear h45 c48
                obtain ⟨v89_51, e52, h53⟩ := nmI_s h49
                clear h49
                refine lv_iinc (v := v89_51) (lv' := [(7, .int v89_51), (1, .int p1), (2, .int p2), (3, .int p3), (4, .int p4), (5, .int p5), (6, .int x6_32)]) hx hb dX11_more_89 hlB44 (k := 6) rfl (by rw [e52]; rfl) (by decide) rfl (fun ls hl54 => ?_)
                clear hlB44 e52
                refine lv_goto (tgt := 44) hx hb dX11_more_92 (by decide) ?_
                exact ih44 x6_32 v89_51 _ _ _ h53 hV46 (lv_sub hl54 [1, 2, 3, 4, 5, 6, 0] rfl)
              · have h50 := ieS c48 h45
                clear h45 c48
                refine lv_iload hx hb dX11_more_77 (lv_at hlB44 4 rfl) ?_
                refine lv_if_ne (tgt := 85) hx hb dX11_more_79 (by decide) (fun c55 => ?_) (fun c55 => ?_)
                · have h56 := ieS c55 h50
                  clear h50 c55
                  refine lv_iload hx hb dX11_more_85 (lv_at hlB44 6 rfl) ?_
                  refine lv_istore (lv' := [(6, .int x7_33), (1, .int p1), (2, .int p2), (3, .int p3), (4, .int p4), (5, .int p5), (7, .int x7_33)]) hx hb dX11_more_87 hlB44 (by decide) rfl (fun ls hl58 => ?_)
                  clear hlB44
                  obtain ⟨v89_59, e60, h61⟩ := nmI_s h56
                  clear h56
                  refine lv_iinc (v := v89_59) (lv' := [(7, .int v89_59), (6, .int x7_33), (1, .int p1), (2, .int p2), (3, .int p3), (4, .int p4), (5, .int p5)]) hx hb dX11_more_89 hl58 (k := 6) rfl (by rw [e60]; rfl) (by decide) rfl (fun ls hl62 => ?_)
                  clear hl58 e60
                  refine lv_goto (tgt := 44) hx hb dX11_more_92 (by decide) ?_
                  exact ih44 x7_33 v89_59 _ _ _ h61 hV46 (lv_sub hl62 [2, 3, 4, 5, 6, 1, 0] rfl)
                · have h57 := itS c55 h50
                  clear h50 c55
                  refine lv_iload hx hb dX11_more_82 (lv_at hlB44 6 rfl) ?_
                  have q63 := tup1_s h57
                  clear h57
                  exact hret _ () _ _ _ _ q63 rfl hV46 dX11_more_84
        exact L44 FU (-2) v42_28 _ _ _ h30 hV22 (lv_sub hl31 [3, 4, 5, 6, 7, 1, 0] rfl)
      · have h26 := itS c24 h21
        clear h21 c24
        refine lv_iconst (v := (-1)) hx hb dX11_more_31 (by decide) ?_
        have q64 := tup1_s h26
        clear h26
        exact hret _ () _ _ _ _ q64 rfl hV22 dX11_more_32
abbrev r_X11_check : Room := { frames := 5, cells := 0, slots := 0, locals := 112 }
set_option maxHeartbeats 4000000 in
set_option maxRecDepth 100000 in
theorem c_X11_check (l : Launch) (E : kE) (sz : Nat) (a0 a1 a2 a3 a4 a5 a6 a7 a8 a9 a10 a11 : Nat) (w0_1 w0_5 w0_6 w0_7 w0_8 w2_1 w2_3 w3_0 w8_1 : Value) (s_page_readers : Int32) (s_page_day : Int32) (s_sky_many : Int32) (s_tape_length : Int32) (s_ways : Nat → Option Nat) (s_page_heights : Nat → Int32) (s_page_highest : Nat → Int32) (s_page_marked : Nat → Int32) (s_page_shapes : Nat → Int32) (s_sky_sources : Nat → Option Nat) (s_page_reckoner_letters : Nat → Int32) (p1 : Int32) (p2 : Int32) (p3 : Int32) (r : Int32) (o_page_readers : Int32) (o_page_day : Int32) (o_tape_length : Int32) (o_page_heights : Nat → Int32) (o_page_highest : Nat → Int32) (o_page_marked : Nat → Int32) (o_page_shapes : Nat → Int32) (o_page_reckoner_letters : Nat → Int32) (h : f_X11_check s_page_readers s_page_day s_sky_many s_tape_length s_ways s_page_heights s_page_highest s_page_marked s_page_shapes s_sky_sources s_page_reckoner_letters p1 p2 p3 = some (r, o_page_readers, o_page_day, o_tape_length, o_page_heights, o_page_highest, o_page_marked, o_page_shapes, o_page_reckoner_letters)) : kMi l yX11_check cX11_check 5 (some .int) r_X11_check [.ref a0, .int p1, .int p2, .int p3] E [(a0, .inr (11, [.ref a3, w0_1, .ref a2, .ref a1, .ref a4, w0_5, w0_6, w0_7, w0_8])), (a1, .inr (4, [.ref a5, .ref a9, .ref a6, .ref a7, .ref a8, .int s_page_readers, .int s_page_day])), (a2, .inr (7, [.ref a10, w2_1, .int s_sky_many, w2_3])), (a3, .inr (9, [w3_0, .int s_tape_length])), (a4, .inl (E.2 4, 4, .inr (.inr (.inr (.inr s_ways))))), (a5, .inl (E.2 0, 1440, .inl s_page_heights)), (a6, .inl (E.2 0, 1440, .inl s_page_highest)), (a7, .inl (E.2 0, 1440, .inl s_page_marked)), (a8, .inr (5, [.ref a11, w8_1])), (a9, .inl (E.2 0, 1440, .inl s_page_shapes)), (a10, .inl (E.2 3, 10, .inr (.inr (.inr (.inr s_sky_sources))))), (a11, .inl (E.2 0, 128, .inl s_page_reckoner_letters))] sz 0 0 (fun x (_ : Unit) => x = r) (fun _ => [(a0, .inr (11, [.ref a3, w0_1, .ref a2, .ref a1, .ref a4, w0_5, w0_6, w0_7, w0_8])), (a1, .inr (4, [.ref a5, .ref a9, .ref a6, .ref a7, .ref a8, .int o_page_readers, .int o_page_day])), (a2, .inr (7, [.ref a10, w2_1, .int s_sky_many, w2_3])), (a3, .inr (9, [w3_0, .int o_tape_length])), (a4, .inl (E.2 4, 4, .inr (.inr (.inr (.inr s_ways))))), (a5, .inl (E.2 0, 1440, .inl o_page_heights)), (a6, .inl (E.2 0, 1440, .inl o_page_highest)), (a7, .inl (E.2 0, 1440, .inl o_page_marked)), (a8, .inr (5, [.ref a11, w8_1])), (a9, .inl (E.2 0, 1440, .inl o_page_shapes)), (a10, .inl (E.2 3, 10, .inr (.inr (.inr (.inr s_sky_sources))))), (a11, .inl (E.2 0, 128, .inl o_page_reckoner_letters))]) := by
  refine kmeti rfl (Nat.le_of_ble_eq_true rfl) ?_
  intro p e s m args below meth c ls A Q X hV hret hl
  have X : kC p s m c cX11_check 5 RX11 args E A := X
  have hx := X.1
  have hb := X.2.1
  have hl : lv_has ls 5 [(0, .ref a0), (1, .int p1), (2, .int p2), (3, .int p3)] := hl
  rw [f_X11_check] at h
  refine lv_iload_n hx hb dX11_check_0 rfl (lv_at hl 1 rfl) ?_
  obtain ⟨r1_1, hc2, h3⟩ := cb1_s h
  clear h
  refine kgoiE (krunS (rest := []) X hV [] (c_X11_isReader l E _ p1 r1_1 hc2) mw_584 kb_X11_isReader (by decide) rfl rfl hl.1 rfl (Nat.le_of_ble_eq_true rfl) dX11_check_1 (by decide)) X hV [] [0, 1, 2, 3, 4, 5, 6, 7, 8, 9, 10, 11] rfl rfl rfl (by decide) (fun u H locs hV4 => ?_)
  have hV4 : kV E A s.heap H locs [(a0, .inr (11, [.ref a3, w0_1, .ref a2, .ref a1, .ref a4, w0_5, w0_6, w0_7, w0_8])), (a1, .inr (4, [.ref a5, .ref a9, .ref a6, .ref a7, .ref a8, .int s_page_readers, .int s_page_day])), (a2, .inr (7, [.ref a10, w2_1, .int s_sky_many, w2_3])), (a3, .inr (9, [w3_0, .int s_tape_length])), (a4, .inl (E.2 4, 4, .inr (.inr (.inr (.inr s_ways))))), (a5, .inl (E.2 0, 1440, .inl s_page_heights)), (a6, .inl (E.2 0, 1440, .inl s_page_highest)), (a7, .inl (E.2 0, 1440, .inl s_page_marked)), (a8, .inr (5, [.ref a11, w8_1])), (a9, .inl (E.2 0, 1440, .inl s_page_shapes)), (a10, .inl (E.2 3, 10, .inr (.inr (.inr (.inr s_sky_sources))))), (a11, .inl (E.2 0, 128, .inl s_page_reckoner_letters))] := hV4.sub [0, 1, 2, 3, 4, 5, 6, 7, 8, 9, 10, 11] rfl rfl
  clear hV
  refine lv_if_eq (tgt := 32) hx hb dX11_check_4 (by decide) (fun c6 => ?_) (fun c6 => ?_)
  · have h7 := itS c6 h3
    clear h3 c6
    refine lv_bipush (v := (-2)) hx hb dX11_check_32 (by decide) ?_
    obtain ⟨q9, q10, q11, q12, q13, q14, q15, q16, q17⟩ := tup9_s h7
    clear h7
    exact hret _ () _ _ _ _ q9 rfl (by rw [← q10, ← q11, ← q12, ← q13, ← q14, ← q15, ← q16, ← q17]; exact hV4) dX11_check_34
  · have h8 := ieS c6 h3
    clear h3 c6
    refine lv_iload_n hx hb dX11_check_7 rfl (lv_at hl 2 rfl) ?_
    obtain ⟨r8_18, hc19, h20⟩ := cb1_s h8
    clear h8
    refine kgoiE (krunS (rest := []) X hV4 [] (c_X11_isDay l E _ p2 r8_18 hc19) mw_622 kb_X11_isDay (by decide) rfl rfl hl.1 rfl (Nat.le_of_ble_eq_true rfl) dX11_check_8 (by decide)) X hV4 [] [0, 1, 2, 3, 4, 5, 6, 7, 8, 9, 10, 11] rfl rfl rfl (by decide) (fun u H locs hV21 => ?_)
    have hV21 : kV E A s.heap H locs [(a0, .inr (11, [.ref a3, w0_1, .ref a2, .ref a1, .ref a4, w0_5, w0_6, w0_7, w0_8])), (a1, .inr (4, [.ref a5, .ref a9, .ref a6, .ref a7, .ref a8, .int s_page_readers, .int s_page_day])), (a2, .inr (7, [.ref a10, w2_1, .int s_sky_many, w2_3])), (a3, .inr (9, [w3_0, .int s_tape_length])), (a4, .inl (E.2 4, 4, .inr (.inr (.inr (.inr s_ways))))), (a5, .inl (E.2 0, 1440, .inl s_page_heights)), (a6, .inl (E.2 0, 1440, .inl s_page_highest)), (a7, .inl (E.2 0, 1440, .inl s_page_marked)), (a8, .inr (5, [.ref a11, w8_1])), (a9, .inl (E.2 0, 1440, .inl s_page_shapes)), (a10, .inl (E.2 3, 10, .inr (.inr (.inr (.inr s_sky_sources))))), (a11, .inl (E.2 0, 128, .inl s_page_reckoner_letters))] := hV21.sub [0, 1, 2, 3, 4, 5, 6, 7, 8, 9, 10, 11] rfl rfl
    clear hV4
    refine lv_if_eq (tgt := 32) hx hb dX11_check_11 (by decide) (fun c23 => ?_) (fun c23 => ?_)
    · have h24 := itS c23 h20
      clear h20 c23
      refine lv_bipush (v := (-2)) hx hb dX11_check_32 (by decide) ?_
      obtain ⟨q26, q27, q28, q29, q30, q31, q32, q33, q34⟩ := tup9_s h24
      clear h24
      exact hret _ () _ _ _ _ q26 rfl (by rw [← q27, ← q28, ← q29, ← q30, ← q31, ← q32, ← q33, ← q34]; exact hV21) dX11_check_34
    · have h25 := ieS c23 h20
      clear h20 c23
      refine lv_iload_n hx hb dX11_check_14 rfl (lv_at hl 3 rfl) ?_
      refine lv_iconst (v := 0) hx hb dX11_check_15 (by decide) ?_
      refine lv_aload_n hx hb dX11_check_16 rfl (lv_at hl 0 rfl) ?_
      refine kget X hV21 (ci := 11) inlX11 rfl 0 rfl 0 (by decide) mw_15 rfl dX11_check_17 ?_
      refine kget X hV21 (ci := 9) inlX9 rfl 3 rfl 1 (by decide) mw_242 rfl dX11_check_20 ?_
      refine lv_bipush (v := 12) hx hb dX11_check_23 (by decide) ?_
      refine lv_idiv hx hb dX11_check_25 (by decide) ?_
      obtain ⟨r26_35, hc36, h37⟩ := cb1_s h25
      clear h25
      refine kgoiE (krunS (rest := []) X hV21 [] (c_X11_isWithin l E _ p3 0 (s_tape_length / 12) r26_35 hc36) mw_187 kb_X11_isWithin (by decide) rfl rfl hl.1 rfl (Nat.le_of_ble_eq_true rfl) dX11_check_26 (by decide)) X hV21 [] [0, 1, 2, 3, 4, 5, 6, 7, 8, 9, 10, 11] rfl rfl rfl (by decide) (fun u H locs hV38 => ?_)
      have hV38 : kV E A s.heap H locs [(a0, .inr (11, [.ref a3, w0_1, .ref a2, .ref a1, .ref a4, w0_5, w0_6, w0_7, w0_8])), (a1, .inr (4, [.ref a5, .ref a9, .ref a6, .ref a7, .ref a8, .int s_page_readers, .int s_page_day])), (a2, .inr (7, [.ref a10, w2_1, .int s_sky_many, w2_3])), (a3, .inr (9, [w3_0, .int s_tape_length])), (a4, .inl (E.2 4, 4, .inr (.inr (.inr (.inr s_ways))))), (a5, .inl (E.2 0, 1440, .inl s_page_heights)), (a6, .inl (E.2 0, 1440, .inl s_page_highest)), (a7, .inl (E.2 0, 1440, .inl s_page_marked)), (a8, .inr (5, [.ref a11, w8_1])), (a9, .inl (E.2 0, 1440, .inl s_page_shapes)), (a10, .inl (E.2 3, 10, .inr (.inr (.inr (.inr s_sky_sources))))), (a11, .inl (E.2 0, 128, .inl s_page_reckoner_letters))] := hV38.sub [0, 1, 2, 3, 4, 5, 6, 7, 8, 9, 10, 11] rfl rfl
      clear hV21
      refine lv_if_ne (tgt := 35) hx hb dX11_check_29 (by decide) (fun c40 => ?_) (fun c40 => ?_)
      · have h41 := ieS c40 h37
        clear h37 c40
        refine lv_aload_n hx hb dX11_check_35 rfl (lv_at hl 0 rfl) ?_
        refine kget X hV38 (ci := 11) inlX11 rfl 0 rfl 2 (by decide) mw_23 rfl dX11_check_36 ?_
        refine lv_aload_n hx hb dX11_check_39 rfl (lv_at hl 0 rfl) ?_
        refine kget X hV38 (ci := 11) inlX11 rfl 0 rfl 3 (by decide) mw_27 rfl dX11_check_40 ?_
        refine lv_iload_n hx hb dX11_check_43 rfl (lv_at hl 2 rfl) ?_
        obtain ⟨o_p1_readers44_43, o_p1_day44_44, o_p1_heights44_45, o_p1_highest44_46, o_p1_shapes44_47, hc48, h49⟩ := cb5_s h41
        clear h41
        refine kgov (krunV (rest := []) X hV38 [2, 1, 5, 6, 9, 10] (c_X7_lay l E _ a2 a1 a5 a6 a9 a10 (w2_1) (w2_3) (.ref a7) (.ref a8) s_sky_many s_page_readers s_page_day s_page_heights s_page_highest s_page_shapes s_sky_sources p2 o_p1_readers44_43 o_p1_day44_44 o_p1_heights44_45 o_p1_highest44_46 o_p1_shapes44_47 hc48) mw_767 kb_X7_lay (ci := 7) rfl rfl (by decide) rfl rfl hl.1 rfl (Nat.le_of_ble_eq_true rfl) dX11_check_44 (by decide)) X hV38 [2, 1, 5, 6, 9, 10] [0, 3, 4, 7, 8, 11] rfl rfl rfl (by decide) (fun u H locs hp51 hV50 => ?_)
        have hV50 : kV E A s.heap H locs [(a0, .inr (11, [.ref a3, w0_1, .ref a2, .ref a1, .ref a4, w0_5, w0_6, w0_7, w0_8])), (a1, .inr (4, [.ref a5, .ref a9, .ref a6, .ref a7, .ref a8, .int o_p1_readers44_43, .int o_p1_day44_44])), (a2, .inr (7, [.ref a10, w2_1, .int s_sky_many, w2_3])), (a3, .inr (9, [w3_0, .int s_tape_length])), (a4, .inl (E.2 4, 4, .inr (.inr (.inr (.inr s_ways))))), (a5, .inl (E.2 0, 1440, .inl o_p1_heights44_45)), (a6, .inl (E.2 0, 1440, .inl o_p1_highest44_46)), (a7, .inl (E.2 0, 1440, .inl s_page_marked)), (a8, .inr (5, [.ref a11, w8_1])), (a9, .inl (E.2 0, 1440, .inl o_p1_shapes44_47)), (a10, .inl (E.2 3, 10, .inr (.inr (.inr (.inr s_sky_sources))))), (a11, .inl (E.2 0, 128, .inl s_page_reckoner_letters))] := hV50.sub [0, 7, 6, 1, 2, 8, 9, 3, 4, 10, 11, 5] rfl rfl
        clear hV38
        refine lv_aload_n hx hb dX11_check_47 rfl (lv_at hl 0 rfl) ?_
        refine kget X hV50 (ci := 11) inlX11 rfl 0 rfl 3 (by decide) mw_27 rfl dX11_check_48 ?_
        refine lv_iload_n hx hb dX11_check_51 rfl (lv_at hl 1 rfl) ?_
        refine lv_aload_n hx hb dX11_check_52 rfl (lv_at hl 0 rfl) ?_
        refine kget X hV50 (ci := 11) inlX11 rfl 0 rfl 4 (by decide) mw_29 rfl dX11_check_53 ?_
        refine lv_iload_n hx hb dX11_check_56 rfl (lv_at hl 1 rfl) ?_
        obtain ⟨hi52, e53, h54⟩ := rdN_s h49
        clear h49
        refine kaald X hV50 4 4 rfl rfl hi52 e53 dX11_check_57 ?_
        clear hi52 e53
        refine W.eq (g2 := F0 m 58 ls [.null, .int p1, .ref a1]) rfl ?_
        obtain ⟨o_readers58_55, o_marked58_56, o_reckoner_letters58_57, hc58, h59⟩ := cb3_s h54
        clear h54
        refine kgov (krunV (rest := []) X hV50 [1, 5, 7, 8, 9, 11] (c_X4_read l E _ a1 a5 a7 a8 a9 a11 (.ref a6) (w8_1) o_p1_readers44_43 o_p1_day44_44 o_p1_heights44_45 s_page_marked o_p1_shapes44_47 s_page_reckoner_letters p1 o_readers58_55 o_marked58_56 o_reckoner_letters58_57 hc58) mw_807 kb_X4_read (ci := 4) rfl rfl (by decide) rfl rfl hl.1 rfl (Nat.le_of_ble_eq_true rfl) dX11_check_58 (by decide)) X hV50 [1, 5, 7, 8, 9, 11] [0, 2, 3, 4, 6, 10] rfl rfl rfl (by decide) (fun u H locs hp61 hV60 => ?_)
        have hV60 : kV E A s.heap H locs [(a0, .inr (11, [.ref a3, w0_1, .ref a2, .ref a1, .ref a4, w0_5, w0_6, w0_7, w0_8])), (a1, .inr (4, [.ref a5, .ref a9, .ref a6, .ref a7, .ref a8, .int o_readers58_55, .int o_p1_day44_44])), (a2, .inr (7, [.ref a10, w2_1, .int s_sky_many, w2_3])), (a3, .inr (9, [w3_0, .int s_tape_length])), (a4, .inl (E.2 4, 4, .inr (.inr (.inr (.inr s_ways))))), (a5, .inl (E.2 0, 1440, .inl o_p1_heights44_45)), (a6, .inl (E.2 0, 1440, .inl o_p1_highest44_46)), (a7, .inl (E.2 0, 1440, .inl o_marked58_56)), (a8, .inr (5, [.ref a11, w8_1])), (a9, .inl (E.2 0, 1440, .inl o_p1_shapes44_47)), (a10, .inl (E.2 3, 10, .inr (.inr (.inr (.inr s_sky_sources))))), (a11, .inl (E.2 0, 128, .inl o_reckoner_letters58_57))] := hV60.sub [0, 6, 1, 2, 3, 7, 4, 8, 9, 10, 5, 11] rfl rfl
        clear hV50
        refine lv_aload_n hx hb dX11_check_61 rfl (lv_at hl 0 rfl) ?_
        refine kget X hV60 (ci := 11) inlX11 rfl 0 rfl 3 (by decide) mw_27 rfl dX11_check_62 ?_
        refine lv_iload_n hx hb dX11_check_65 rfl (lv_at hl 1 rfl) ?_
        refine lv_aload_n hx hb dX11_check_66 rfl (lv_at hl 0 rfl) ?_
        refine kget X hV60 (ci := 11) inlX11 rfl 0 rfl 0 (by decide) mw_15 rfl dX11_check_67 ?_
        refine lv_iload_n hx hb dX11_check_70 rfl (lv_at hl 3 rfl) ?_
        obtain ⟨r71_62, hc63, h64⟩ := cb1_s h59
        clear h59
        refine kgoiE (krunV (rest := []) X hV60 [1, 7] (c_X4_firstWrong l E _ a1 a7 a3 (.ref a5) (.ref a9) (.ref a6) (.ref a8) (.int o_readers58_55) (.int o_p1_day44_44) o_marked58_56 p1 p3 r71_62 hc63) mw_1308 kb_X4_firstWrong (ci := 4) rfl rfl (by decide) rfl rfl hl.1 rfl (Nat.le_of_ble_eq_true rfl) dX11_check_71 (by decide)) X hV60 [1, 7] [0, 2, 3, 4, 5, 6, 8, 9, 10, 11] rfl rfl rfl (by decide) (fun u H locs hV65 => ?_)
        have hV65 : kV E A s.heap H locs [(a0, .inr (11, [.ref a3, w0_1, .ref a2, .ref a1, .ref a4, w0_5, w0_6, w0_7, w0_8])), (a1, .inr (4, [.ref a5, .ref a9, .ref a6, .ref a7, .ref a8, .int o_readers58_55, .int o_p1_day44_44])), (a2, .inr (7, [.ref a10, w2_1, .int s_sky_many, w2_3])), (a3, .inr (9, [w3_0, .int s_tape_length])), (a4, .inl (E.2 4, 4, .inr (.inr (.inr (.inr s_ways))))), (a5, .inl (E.2 0, 1440, .inl o_p1_heights44_45)), (a6, .inl (E.2 0, 1440, .inl o_p1_highest44_46)), (a7, .inl (E.2 0, 1440, .inl o_marked58_56)), (a8, .inr (5, [.ref a11, w8_1])), (a9, .inl (E.2 0, 1440, .inl o_p1_shapes44_47)), (a10, .inl (E.2 3, 10, .inr (.inr (.inr (.inr s_sky_sources))))), (a11, .inl (E.2 0, 128, .inl o_reckoner_letters58_57))] := hV65.sub [0, 10, 1, 2, 3, 4, 5, 11, 6, 7, 8, 9] rfl rfl
        clear hV60
        refine lv_istore (lv' := [(4, .int r71_62), (0, .ref a0), (1, .int p1), (2, .int p2), (3, .int p3)]) hx hb dX11_check_74 hl (by decide) rfl (fun ls hl67 => ?_)
        clear hl
        refine lv_aload_n hx hb dX11_check_76 rfl (lv_at hl67 1 rfl) ?_
        refine kget X hV65 (ci := 11) inlX11 rfl 0 rfl 0 (by decide) mw_15 rfl dX11_check_77 ?_
        obtain ⟨o_length80_68, hc69, h70⟩ := cb1_s h64
        clear h64
        refine kgov (krunV (rest := []) X hV65 [3] (c_X9_clear l E _ a3 (w3_0) s_tape_length o_length80_68 hc69) mw_449 kb_X9_clear (ci := 9) rfl rfl (by decide) rfl rfl hl67.1 rfl (Nat.le_of_ble_eq_true rfl) dX11_check_80 (by decide)) X hV65 [3] [0, 1, 2, 4, 5, 6, 7, 8, 9, 10, 11] rfl rfl rfl (by decide) (fun u H locs hp72 hV71 => ?_)
        have hV71 : kV E A s.heap H locs [(a0, .inr (11, [.ref a3, w0_1, .ref a2, .ref a1, .ref a4, w0_5, w0_6, w0_7, w0_8])), (a1, .inr (4, [.ref a5, .ref a9, .ref a6, .ref a7, .ref a8, .int o_readers58_55, .int o_p1_day44_44])), (a2, .inr (7, [.ref a10, w2_1, .int s_sky_many, w2_3])), (a3, .inr (9, [w3_0, .int o_length80_68])), (a4, .inl (E.2 4, 4, .inr (.inr (.inr (.inr s_ways))))), (a5, .inl (E.2 0, 1440, .inl o_p1_heights44_45)), (a6, .inl (E.2 0, 1440, .inl o_p1_highest44_46)), (a7, .inl (E.2 0, 1440, .inl o_marked58_56)), (a8, .inr (5, [.ref a11, w8_1])), (a9, .inl (E.2 0, 1440, .inl o_p1_shapes44_47)), (a10, .inl (E.2 3, 10, .inr (.inr (.inr (.inr s_sky_sources))))), (a11, .inl (E.2 0, 128, .inl o_reckoner_letters58_57))] := hV71.sub [0, 1, 2, 11, 3, 4, 5, 6, 7, 8, 9, 10] rfl rfl
        clear hV65
        refine lv_iload hx hb dX11_check_83 (lv_at hl67 0 rfl) ?_
        obtain ⟨q73, q74, q75, q76, q77, q78, q79, q80, q81⟩ := tup9_s h70
        clear h70
        exact hret _ () _ _ _ _ q73 rfl (by rw [← q74, ← q75, ← q76, ← q77, ← q78, ← q79, ← q80, ← q81]; exact hV71) dX11_check_85
      · have h42 := itS c40 h37
        clear h37 c40
        refine lv_bipush (v := (-2)) hx hb dX11_check_32 (by decide) ?_
        obtain ⟨q82, q83, q84, q85, q86, q87, q88, q89, q90⟩ := tup9_s h42
        clear h42
        exact hret _ () _ _ _ _ q82 rfl (by rw [← q83, ← q84, ← q85, ← q86, ← q87, ← q88, ← q89, ← q90]; exact hV38) dX11_check_34
abbrev r_X11_count : Room := { frames := 3, cells := 0, slots := 0, locals := 65 }
set_option maxHeartbeats 4000000 in
set_option maxRecDepth 100000 in
theorem c_X11_count (l : Launch) (E : kE) (sz : Nat) (a0 a1 a2 a3 a4 a5 a6 a7 a8 : Nat) (w0_1 w0_3 w0_8 w1_0 w1_1 w1_3 w1_4 w1_5 w2_0 w2_1 w2_2 w2_3 w3_0 w3_1 w3_2 w3_3 w4_1 w5_0 : Value) (s_blips_many : Int32) (s_nights_many : Int32) (s_notes_many : Int32) (s_sky_many : Int32) (s_sky_seed : Int32) (s_tape_length : Int32) (s_ways : Nat → Option Nat) (s_nights_stories : Nat → Option Nat) (s_sky_sources : Nat → Option Nat) (p1 : Int32) (r : Int32) (h : f_X11_count s_blips_many s_nights_many s_notes_many s_sky_many s_sky_seed s_tape_length s_ways s_nights_stories s_sky_sources p1 = some (r)) : kMi l yX11_count cX11_count 2 (some .int) r_X11_count [.ref a0, .int p1] E [(a0, .inr (11, [.ref a5, w0_1, .ref a4, w0_3, .ref a6, .ref a3, .ref a1, .ref a2, w0_8])), (a1, .inr (0, [w1_0, w1_1, .int s_blips_many, w1_3, w1_4, w1_5])), (a2, .inr (2, [w2_0, w2_1, w2_2, w2_3, .ref a7, .int s_nights_many])), (a3, .inr (3, [w3_0, w3_1, w3_2, w3_3, .int s_notes_many])), (a4, .inr (7, [.ref a8, w4_1, .int s_sky_many, .int s_sky_seed])), (a5, .inr (9, [w5_0, .int s_tape_length])), (a6, .inl (E.2 4, 4, .inr (.inr (.inr (.inr s_ways))))), (a7, .inl (E.2 4, 6, .inr (.inr (.inr (.inr s_nights_stories))))), (a8, .inl (E.2 3, 10, .inr (.inr (.inr (.inr s_sky_sources)))))] sz 0 0 (fun x (_ : Unit) => x = r) (fun _ => [(a0, .inr (11, [.ref a5, w0_1, .ref a4, w0_3, .ref a6, .ref a3, .ref a1, .ref a2, w0_8])), (a1, .inr (0, [w1_0, w1_1, .int s_blips_many, w1_3, w1_4, w1_5])), (a2, .inr (2, [w2_0, w2_1, w2_2, w2_3, .ref a7, .int s_nights_many])), (a3, .inr (3, [w3_0, w3_1, w3_2, w3_3, .int s_notes_many])), (a4, .inr (7, [.ref a8, w4_1, .int s_sky_many, .int s_sky_seed])), (a5, .inr (9, [w5_0, .int s_tape_length])), (a6, .inl (E.2 4, 4, .inr (.inr (.inr (.inr s_ways))))), (a7, .inl (E.2 4, 6, .inr (.inr (.inr (.inr s_nights_stories))))), (a8, .inl (E.2 3, 10, .inr (.inr (.inr (.inr s_sky_sources)))))]) := by
  refine kmeti rfl (Nat.le_of_ble_eq_true rfl) ?_
  intro p e s m args below meth c ls A Q X hV hret hl
  have X : kC p s m c cX11_count 2 RX11 args E A := X
  have hx := X.1
  have hb := X.2.1
  have hl : lv_has ls 2 [(0, .ref a0), (1, .int p1)] := hl
  rw [f_X11_count] at h
  refine lv_iload_n hx hb dX11_count_0 rfl (lv_at hl 1 rfl) ?_
  by_cases c1 : p1 = 0
  · have h2 := itS c1 h
    refine lv_tableIn (tgt := 40) (off := 39) hx hb dX11_count_1 (by rw [c1]; decide) (by rw [c1]; decide) (by rw [c1]; decide) (by decide) ?_
    clear h
    refine lv_aload_n hx hb dX11_count_40 rfl (lv_at hl 0 rfl) ?_
    refine kget X hV (ci := 11) inlX11 rfl 0 rfl 2 (by decide) mw_23 rfl dX11_count_41 ?_
    refine kget X hV (ci := 7) inlX7 rfl 4 rfl 2 (by decide) mw_180 rfl dX11_count_44 ?_
    have q3 := tup1_s h2
    clear h2
    exact hret _ () _ _ _ _ q3 rfl hV dX11_count_47
  · have h4 := ieS c1 h
    clear h
    by_cases c5 : p1 = 1
    · have h6 := itS c5 h4
      refine lv_tableIn (tgt := 48) (off := 47) hx hb dX11_count_1 (by rw [c5]; decide) (by rw [c5]; decide) (by rw [c5]; decide) (by decide) ?_
      clear h4
      refine lv_aload_n hx hb dX11_count_48 rfl (lv_at hl 0 rfl) ?_
      refine kget X hV (ci := 11) inlX11 rfl 0 rfl 5 (by decide) mw_33 rfl dX11_count_49 ?_
      refine kget X hV (ci := 3) inlX3 rfl 3 rfl 4 (by decide) mw_1328 rfl dX11_count_52 ?_
      have q7 := tup1_s h6
      clear h6
      exact hret _ () _ _ _ _ q7 rfl hV dX11_count_55
    · have h8 := ieS c5 h4
      clear h4
      by_cases c9 : p1 = 2
      · have h10 := itS c9 h8
        refine lv_tableIn (tgt := 56) (off := 55) hx hb dX11_count_1 (by rw [c9]; decide) (by rw [c9]; decide) (by rw [c9]; decide) (by decide) ?_
        clear h8
        refine lv_aload_n hx hb dX11_count_56 rfl (lv_at hl 0 rfl) ?_
        refine kget X hV (ci := 11) inlX11 rfl 0 rfl 6 (by decide) mw_37 rfl dX11_count_57 ?_
        refine kget X hV (ci := 0) inlX0 rfl 1 rfl 2 (by decide) mw_997 rfl dX11_count_60 ?_
        have q11 := tup1_s h10
        clear h10
        exact hret _ () _ _ _ _ q11 rfl hV dX11_count_63
      · have h12 := ieS c9 h8
        clear h8
        by_cases c13 : p1 = 3
        · have h14 := itS c13 h12
          refine lv_tableIn (tgt := 64) (off := 63) hx hb dX11_count_1 (by rw [c13]; decide) (by rw [c13]; decide) (by rw [c13]; decide) (by decide) ?_
          clear h12
          refine lv_aload_n hx hb dX11_count_64 rfl (lv_at hl 0 rfl) ?_
          refine kget X hV (ci := 11) inlX11 rfl 0 rfl 7 (by decide) mw_41 rfl dX11_count_65 ?_
          refine kget X hV (ci := 2) inlX2 rfl 2 rfl 5 (by decide) mw_1113 rfl dX11_count_68 ?_
          have q15 := tup1_s h14
          clear h14
          exact hret _ () _ _ _ _ q15 rfl hV dX11_count_71
        · have h16 := ieS c13 h12
          clear h12
          by_cases c17 : p1 = 4
          · have h18 := itS c17 h16
            refine lv_tableIn (tgt := 72) (off := 71) hx hb dX11_count_1 (by rw [c17]; decide) (by rw [c17]; decide) (by rw [c17]; decide) (by decide) ?_
            clear h16
            refine lv_aload_n hx hb dX11_count_72 rfl (lv_at hl 0 rfl) ?_
            refine kget X hV (ci := 11) inlX11 rfl 0 rfl 2 (by decide) mw_23 rfl dX11_count_73 ?_
            refine kget X hV (ci := 7) inlX7 rfl 4 rfl 3 (by decide) mw_231 rfl dX11_count_76 ?_
            have q19 := tup1_s h18
            clear h18
            exact hret _ () _ _ _ _ q19 rfl hV dX11_count_79
          · have h20 := ieS c17 h16
            clear h16
            by_cases c21 : p1 = 5
            · have h22 := itS c21 h20
              refine lv_tableIn (tgt := 80) (off := 79) hx hb dX11_count_1 (by rw [c21]; decide) (by rw [c21]; decide) (by rw [c21]; decide) (by decide) ?_
              clear h20
              refine lv_aload_n hx hb dX11_count_80 rfl (lv_at hl 0 rfl) ?_
              refine kget X hV (ci := 11) inlX11 rfl 0 rfl 0 (by decide) mw_15 rfl dX11_count_81 ?_
              refine kget X hV (ci := 9) inlX9 rfl 5 rfl 1 (by decide) mw_242 rfl dX11_count_84 ?_
              have q23 := tup1_s h22
              clear h22
              exact hret _ () _ _ _ _ q23 rfl hV dX11_count_87
            · have h24 := ieS c21 h20
              clear h20
              refine lv_tableOut (tgt := 88) hx hb dX11_count_1 (by have ec1 : ¬ p1.toInt = 0 := fun q => c1 (Int32.toInt_inj.mp (q.trans (by decide))); have ec5 : ¬ p1.toInt = 1 := fun q => c5 (Int32.toInt_inj.mp (q.trans (by decide))); have ec9 : ¬ p1.toInt = 2 := fun q => c9 (Int32.toInt_inj.mp (q.trans (by decide))); have ec13 : ¬ p1.toInt = 3 := fun q => c13 (Int32.toInt_inj.mp (q.trans (by decide))); have ec17 : ¬ p1.toInt = 4 := fun q => c17 (Int32.toInt_inj.mp (q.trans (by decide))); have ec21 : ¬ p1.toInt = 5 := fun q => c21 (Int32.toInt_inj.mp (q.trans (by decide))); omega) (by decide) ?_
              refine lv_aload_n hx hb dX11_count_88 rfl (lv_at hl 0 rfl) ?_
              refine lv_iload_n hx hb dX11_count_89 rfl (lv_at hl 1 rfl) ?_
              obtain ⟨r90_25, hc26, h27⟩ := cb1_s h24
              clear h24
              refine kgoiE (krunV (rest := []) X hV [0, 2, 4, 6, 7, 8] (c_X11_textCount l E _ a0 a2 a4 a6 a7 a8 (.ref a5) (w0_1) (w0_3) (.ref a3) (.ref a1) (w0_8) (w2_0) (w2_1) (w2_2) (w2_3) (.int s_nights_many) (w4_1) (.int s_sky_seed) s_sky_many s_ways s_nights_stories s_sky_sources p1 r90_25 hc26) mw_1329 kb_X11_textCount (ci := 11) rfl rfl (by decide) rfl rfl hl.1 rfl (Nat.le_of_ble_eq_true rfl) dX11_count_90 (by decide)) X hV [0, 2, 4, 6, 7, 8] [1, 3, 5] rfl rfl rfl (by decide) (fun u H locs hV28 => ?_)
              have hV28 : kV E A s.heap H locs [(a0, .inr (11, [.ref a5, w0_1, .ref a4, w0_3, .ref a6, .ref a3, .ref a1, .ref a2, w0_8])), (a1, .inr (0, [w1_0, w1_1, .int s_blips_many, w1_3, w1_4, w1_5])), (a2, .inr (2, [w2_0, w2_1, w2_2, w2_3, .ref a7, .int s_nights_many])), (a3, .inr (3, [w3_0, w3_1, w3_2, w3_3, .int s_notes_many])), (a4, .inr (7, [.ref a8, w4_1, .int s_sky_many, .int s_sky_seed])), (a5, .inr (9, [w5_0, .int s_tape_length])), (a6, .inl (E.2 4, 4, .inr (.inr (.inr (.inr s_ways))))), (a7, .inl (E.2 4, 6, .inr (.inr (.inr (.inr s_nights_stories))))), (a8, .inl (E.2 3, 10, .inr (.inr (.inr (.inr s_sky_sources)))))] := hV28.sub [3, 0, 4, 1, 5, 2, 6, 7, 8] rfl rfl
              clear hV
              have q30 := tup1_s h27
              clear h27
              exact hret _ () _ _ _ _ q30 rfl hV28 dX11_count_93
