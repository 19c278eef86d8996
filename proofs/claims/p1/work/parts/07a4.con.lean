abbrev r_X11_says : Room := { frames := 3, cells := 0, slots := 0, locals := 63 }
set_option maxHeartbeats 4000000 in
set_option maxRecDepth 100000 in
theorem c_X11_says (l : Launch) (E : kE) (sz : Nat) (a0 a1 a2 : Nat) (w0_0 w0_1 w0_2 w0_3 w0_4 w0_5 w0_6 w0_8 w1_0 w1_1 w1_2 w1_3 w1_5 : Value) (s_nights_stories : Nat → Option Nat) (p1 : Int32) (p2 : Int32) (r : Int32) (h : f_X11_says s_nights_stories p1 p2 = some (r)) : kMi l yX11_says cX11_says 4 (some .int) r_X11_says [.ref a0, .int p1, .int p2] E [(a0, .inr (11, [w0_0, w0_1, w0_2, w0_3, w0_4, w0_5, w0_6, .ref a1, w0_8])), (a1, .inr (2, [w1_0, w1_1, w1_2, w1_3, .ref a2, w1_5])), (a2, .inl (E.2 4, 6, .inr (.inr (.inr (.inr s_nights_stories)))))] sz 0 0 (fun x (_ : Unit) => x = r) (fun _ => [(a0, .inr (11, [w0_0, w0_1, w0_2, w0_3, w0_4, w0_5, w0_6, .ref a1, w0_8])), (a1, .inr (2, [w1_0, w1_1, w1_2, w1_3, .ref a2, w1_5])), (a2, .inl (E.2 4, 6, .inr (.inr (.inr (.inr s_nights_stories)))))]) := by
  refine kmeti rfl (Nat.le_of_ble_eq_true rfl) ?_
  intro p e s m args below meth c ls A Q X hV hret hl
  have X : kC p s m c cX11_says 4 RX11 args E A := X
  have hx := X.1
  have hb := X.2.1
  have hl : lv_has ls 4 [(0, .ref a0), (1, .int p1), (2, .int p2)] := hl
  rw [f_X11_says] at h
  refine lv_aload_n hx hb dX11_says_0 rfl (lv_at hl 0 rfl) ?_
  refine kget X hV (ci := 11) inlX11 rfl 0 rfl 7 (by decide) mw_41 rfl dX11_says_1 ?_
  refine lv_iload_n hx hb dX11_says_4 rfl (lv_at hl 1 rfl) ?_
  obtain ⟨u5_1, hc2, h3⟩ := cb1_s h
  clear h
  refine kgonE (krunV (rest := []) X hV [1, 2] (c_X2_storyAt l E _ a1 a2 (w1_0) (w1_1) (w1_2) (w1_3) (w1_5) s_nights_stories p1 hc2) mw_1115 kb_X2_storyAt (ci := 2) rfl rfl (by decide) rfl rfl hl.1 rfl (Nat.le_of_ble_eq_true rfl) dX11_says_5 (by decide)) X hV [1, 2] [0] rfl rfl rfl (by decide) (fun u H locs hV4 => ?_)
  have hV4 : kV E A s.heap H locs [(a0, .inr (11, [w0_0, w0_1, w0_2, w0_3, w0_4, w0_5, w0_6, .ref a1, w0_8])), (a1, .inr (2, [w1_0, w1_1, w1_2, w1_3, .ref a2, w1_5])), (a2, .inl (E.2 4, 6, .inr (.inr (.inr (.inr s_nights_stories)))))] := hV4.sub [0, 1, 2] rfl rfl
  clear hV
  refine lv_astore_nN (lv' := [(3, .null), (0, .ref a0), (1, .int p1), (2, .int p2)]) hx hb dX11_says_8 rfl hl (by decide) rfl (fun ls hl6 => ?_)
  clear hl
  refine lv_aload_nN hx hb dX11_says_9 rfl (lv_at hl6 0 rfl) ?_
  refine lv_ifnullN (tgt := 30) hx hb dX11_says_10 (by decide) ?_
  refine lv_ldc (v := (-1000000)) hx hb X.2.2.2.1 (X.2.2.2.2.1 _ mw_1114) dX11_says_30 ?_
  cases h3
  exact hret _ () _ _ _ _ rfl rfl hV4 dX11_says_32
abbrev r_X11_falls : Room := { frames := 3, cells := 0, slots := 0, locals := 63 }
set_option maxHeartbeats 4000000 in
set_option maxRecDepth 100000 in
theorem c_X11_falls (l : Launch) (E : kE) (sz : Nat) (a0 a1 a2 : Nat) (w0_0 w0_1 w0_2 w0_3 w0_4 w0_5 w0_6 w0_8 w1_0 w1_1 w1_2 w1_3 w1_5 : Value) (s_nights_stories : Nat → Option Nat) (p1 : Int32) (p2 : Int32) (r : Int32) (h : f_X11_falls s_nights_stories p1 p2 = some (r)) : kMi l yX11_falls cX11_falls 4 (some .int) r_X11_falls [.ref a0, .int p1, .int p2] E [(a0, .inr (11, [w0_0, w0_1, w0_2, w0_3, w0_4, w0_5, w0_6, .ref a1, w0_8])), (a1, .inr (2, [w1_0, w1_1, w1_2, w1_3, .ref a2, w1_5])), (a2, .inl (E.2 4, 6, .inr (.inr (.inr (.inr s_nights_stories)))))] sz 0 0 (fun x (_ : Unit) => x = r) (fun _ => [(a0, .inr (11, [w0_0, w0_1, w0_2, w0_3, w0_4, w0_5, w0_6, .ref a1, w0_8])), (a1, .inr (2, [w1_0, w1_1, w1_2, w1_3, .ref a2, w1_5])), (a2, .inl (E.2 4, 6, .inr (.inr (.inr (.inr s_nights_stories)))))]) := by
  refine kmeti rfl (Nat.le_of_ble_eq_true rfl) ?_
  intro p e s m args below meth c ls A Q X hV hret hl
  have X : kC p s m c cX11_falls 4 RX11 args E A := X
  have hx := X.1
  have hb := X.2.1
  have hl : lv_has ls 4 [(0, .ref a0), (1, .int p1), (2, .int p2)] := hl
  rw [f_X11_falls] at h
  refine lv_aload_n hx hb dX11_falls_0 rfl (lv_at hl 0 rfl) ?_
  refine kget X hV (ci := 11) inlX11 rfl 0 rfl 7 (by decide) mw_41 rfl dX11_falls_1 ?_
  refine lv_iload_n hx hb dX11_falls_4 rfl (lv_at hl 1 rfl) ?_
  obtain ⟨u5_1, hc2, h3⟩ := cb1_s h
  clear h
  refine kgonE (krunV (rest := []) X hV [1, 2] (c_X2_storyAt l E _ a1 a2 (w1_0) (w1_1) (w1_2) (w1_3) (w1_5) s_nights_stories p1 hc2) mw_1115 kb_X2_storyAt (ci := 2) rfl rfl (by decide) rfl rfl hl.1 rfl (Nat.le_of_ble_eq_true rfl) dX11_falls_5 (by decide)) X hV [1, 2] [0] rfl rfl rfl (by decide) (fun u H locs hV4 => ?_)
  have hV4 : kV E A s.heap H locs [(a0, .inr (11, [w0_0, w0_1, w0_2, w0_3, w0_4, w0_5, w0_6, .ref a1, w0_8])), (a1, .inr (2, [w1_0, w1_1, w1_2, w1_3, .ref a2, w1_5])), (a2, .inl (E.2 4, 6, .inr (.inr (.inr (.inr s_nights_stories)))))] := hV4.sub [0, 1, 2] rfl rfl
  clear hV
  refine lv_astore_nN (lv' := [(3, .null), (0, .ref a0), (1, .int p1), (2, .int p2)]) hx hb dX11_falls_8 rfl hl (by decide) rfl (fun ls hl6 => ?_)
  clear hl
  refine lv_aload_nN hx hb dX11_falls_9 rfl (lv_at hl6 0 rfl) ?_
  refine lv_ifnullN (tgt := 20) hx hb dX11_falls_10 (by decide) ?_
  refine lv_iconst (v := (-1)) hx hb dX11_falls_20 (by decide) ?_
  refine lv_goto (tgt := 33) hx hb dX11_falls_21 (by decide) ?_
  cases h3
  exact hret _ () _ _ _ _ rfl rfl hV4 dX11_falls_33
abbrev r_X11_told : Room := { frames := 2, cells := 0, slots := 0, locals := 42 }
set_option maxHeartbeats 4000000 in
set_option maxRecDepth 100000 in
theorem c_X11_told (l : Launch) (E : kE) (sz : Nat) (a0 a1 a2 a3 : Nat) (w0_0 w0_1 w0_2 w0_3 w0_4 w0_5 w0_6 w0_8 w1_0 w1_1 w1_3 : Value) (s_nights_many : Int32) (s_nights_fallen : Nat → Int32) (s_nights_stories : Nat → Option Nat) (p1 : Int32) (p2 : Int32) (r : Int32) (o_nights_fallen : Nat → Int32) (h : f_X11_told s_nights_many s_nights_fallen s_nights_stories p1 p2 = some (r, o_nights_fallen)) : kMi l yX11_told cX11_told 3 (some .int) r_X11_told [.ref a0, .int p1, .int p2] E [(a0, .inr (11, [w0_0, w0_1, w0_2, w0_3, w0_4, w0_5, w0_6, .ref a1, w0_8])), (a1, .inr (2, [w1_0, w1_1, .ref a2, w1_3, .ref a3, .int s_nights_many])), (a2, .inl (E.2 0, 6, .inl s_nights_fallen)), (a3, .inl (E.2 4, 6, .inr (.inr (.inr (.inr s_nights_stories)))))] sz 0 0 (fun x (_ : Unit) => x = r) (fun _ => [(a0, .inr (11, [w0_0, w0_1, w0_2, w0_3, w0_4, w0_5, w0_6, .ref a1, w0_8])), (a1, .inr (2, [w1_0, w1_1, .ref a2, w1_3, .ref a3, .int s_nights_many])), (a2, .inl (E.2 0, 6, .inl o_nights_fallen)), (a3, .inl (E.2 4, 6, .inr (.inr (.inr (.inr s_nights_stories)))))]) := by
  refine kmeti rfl (Nat.le_of_ble_eq_true rfl) ?_
  intro p e s m args below meth c ls A Q X hV hret hl
  have X : kC p s m c cX11_told 3 RX11 args E A := X
  have hx := X.1
  have hb := X.2.1
  have hl : lv_has ls 3 [(0, .ref a0), (1, .int p1), (2, .int p2)] := hl
  rw [f_X11_told] at h
  refine lv_iload_n hx hb dX11_told_0 rfl (lv_at hl 1 rfl) ?_
  obtain ⟨r1_1, hc2, h3⟩ := cb1_s h
  clear h
  refine kgoiE (krunS (rest := []) X hV [] (c_X11_isNightError l E _ p1 r1_1 hc2) mw_1146 kb_X11_isNightError (by decide) rfl rfl hl.1 rfl (Nat.le_of_ble_eq_true rfl) dX11_told_1 (by decide)) X hV [] [0, 1, 2, 3] rfl rfl rfl (by decide) (fun u H locs hV4 => ?_)
  have hV4 : kV E A s.heap H locs [(a0, .inr (11, [w0_0, w0_1, w0_2, w0_3, w0_4, w0_5, w0_6, .ref a1, w0_8])), (a1, .inr (2, [w1_0, w1_1, .ref a2, w1_3, .ref a3, .int s_nights_many])), (a2, .inl (E.2 0, 6, .inl s_nights_fallen)), (a3, .inl (E.2 4, 6, .inr (.inr (.inr (.inr s_nights_stories)))))] := hV4.sub [0, 1, 2, 3] rfl rfl
  clear hV
  refine lv_if_eq (tgt := 28) hx hb dX11_told_4 (by decide) (fun c6 => ?_) (fun c6 => ?_)
  · have h7 := itS c6 h3
    clear h3 c6
    refine lv_iconst (v := (-1)) hx hb dX11_told_28 (by decide) ?_
    cases h7
    exact hret _ () _ _ _ _ rfl rfl hV4 dX11_told_29
  · have h8 := ieS c6 h3
    clear h3 c6
    refine lv_iload_n hx hb dX11_told_7 rfl (lv_at hl 2 rfl) ?_
    refine lv_iconst (v := 0) hx hb dX11_told_8 (by decide) ?_
    refine lv_iconst (v := 1) hx hb dX11_told_9 (by decide) ?_
    obtain ⟨r10_9, hc10, h11⟩ := cb1_s h8
    clear h8
    refine kgoiE (krunS (rest := []) X hV4 [] (c_X11_isWithin l E _ p2 0 1 r10_9 hc10) mw_187 kb_X11_isWithin (by decide) rfl rfl hl.1 rfl (Nat.le_of_ble_eq_true rfl) dX11_told_10 (by decide)) X hV4 [] [0, 1, 2, 3] rfl rfl rfl (by decide) (fun u H locs hV12 => ?_)
    have hV12 : kV E A s.heap H locs [(a0, .inr (11, [w0_0, w0_1, w0_2, w0_3, w0_4, w0_5, w0_6, .ref a1, w0_8])), (a1, .inr (2, [w1_0, w1_1, .ref a2, w1_3, .ref a3, .int s_nights_many])), (a2, .inl (E.2 0, 6, .inl s_nights_fallen)), (a3, .inl (E.2 4, 6, .inr (.inr (.inr (.inr s_nights_stories)))))] := hV12.sub [0, 1, 2, 3] rfl rfl
    clear hV4
    refine lv_if_eq (tgt := 28) hx hb dX11_told_13 (by decide) (fun c14 => ?_) (fun c14 => ?_)
    · have h15 := itS c14 h11
      clear h11 c14
      refine lv_iconst (v := (-1)) hx hb dX11_told_28 (by decide) ?_
      cases h15
      exact hret _ () _ _ _ _ rfl rfl hV12 dX11_told_29
    · have h16 := ieS c14 h11
      clear h11 c14
      refine lv_aload_n hx hb dX11_told_16 rfl (lv_at hl 0 rfl) ?_
      refine kget X hV12 (ci := 11) inlX11 rfl 0 rfl 7 (by decide) mw_41 rfl dX11_told_17 ?_
      refine lv_iload_n hx hb dX11_told_20 rfl (lv_at hl 1 rfl) ?_
      refine lv_iload_n hx hb dX11_told_21 rfl (lv_at hl 2 rfl) ?_
      obtain ⟨r22_17, o_fallen22_18, hc19, h20⟩ := cb2_s h16
      clear h16
      refine kgoiE (krunV (rest := []) X hV12 [1, 2, 3] (c_X2_alone l E _ a1 a2 a3 (w1_0) (w1_1) (w1_3) s_nights_many s_nights_fallen s_nights_stories p1 p2 r22_17 o_fallen22_18 hc19) mw_1172 kb_X2_alone (ci := 2) rfl rfl (by decide) rfl rfl hl.1 rfl (Nat.le_of_ble_eq_true rfl) dX11_told_22 (by decide)) X hV12 [1, 2, 3] [0] rfl rfl rfl (by decide) (fun u H locs hV21 => ?_)
      have hV21 : kV E A s.heap H locs [(a0, .inr (11, [w0_0, w0_1, w0_2, w0_3, w0_4, w0_5, w0_6, .ref a1, w0_8])), (a1, .inr (2, [w1_0, w1_1, .ref a2, w1_3, .ref a3, .int s_nights_many])), (a2, .inl (E.2 0, 6, .inl o_fallen22_18)), (a3, .inl (E.2 4, 6, .inr (.inr (.inr (.inr s_nights_stories)))))] := hV21.sub [0, 1, 2, 3] rfl rfl
      clear hV12
      refine lv_goto (tgt := 29) hx hb dX11_told_25 (by decide) ?_
      cases h20
      exact hret _ () _ _ _ _ rfl rfl hV21 dX11_told_29
abbrev r_X11_bound : Room := { frames := 2, cells := 0, slots := 0, locals := 55 }
set_option maxHeartbeats 4000000 in
set_option maxRecDepth 100000 in
theorem c_X11_bound (l : Launch) (E : kE) (sz : Nat) (a0 a1 a2 : Nat) (w0_0 w0_1 w0_2 w0_3 w0_4 w0_5 w0_6 w0_8 w1_1 w1_2 w1_3 w1_4 : Value) (s_nights_many : Int32) (s_nights_days : Nat → Int32) (p1 : Int32) (p2 : Int32) (r : Int32) (h : f_X11_bound s_nights_many s_nights_days p1 p2 = some (r)) : kMi l yX11_bound cX11_bound 3 (some .int) r_X11_bound [.ref a0, .int p1, .int p2] E [(a0, .inr (11, [w0_0, w0_1, w0_2, w0_3, w0_4, w0_5, w0_6, .ref a1, w0_8])), (a1, .inr (2, [.ref a2, w1_1, w1_2, w1_3, w1_4, .int s_nights_many])), (a2, .inl (E.2 0, 30, .inl s_nights_days))] sz 0 0 (fun x (_ : Unit) => x = r) (fun _ => [(a0, .inr (11, [w0_0, w0_1, w0_2, w0_3, w0_4, w0_5, w0_6, .ref a1, w0_8])), (a1, .inr (2, [.ref a2, w1_1, w1_2, w1_3, w1_4, .int s_nights_many])), (a2, .inl (E.2 0, 30, .inl s_nights_days))]) := by
  refine kmeti rfl (Nat.le_of_ble_eq_true rfl) ?_
  intro p e s m args below meth c ls A Q X hV hret hl
  have X : kC p s m c cX11_bound 3 RX11 args E A := X
  have hx := X.1
  have hb := X.2.1
  have hl : lv_has ls 3 [(0, .ref a0), (1, .int p1), (2, .int p2)] := hl
  rw [f_X11_bound] at h
  refine lv_iload_n hx hb dX11_bound_0 rfl (lv_at hl 1 rfl) ?_
  refine lv_iconst (v := 4) hx hb dX11_bound_1 (by decide) ?_
  refine lv_sipush (v := 400) hx hb dX11_bound_2 (by decide) ?_
  obtain ⟨r5_1, hc2, h3⟩ := cb1_s h
  clear h
  refine kgoiE (krunS (rest := []) X hV [] (c_X11_isWithin l E _ p1 4 400 r5_1 hc2) mw_187 kb_X11_isWithin (by decide) rfl rfl hl.1 rfl (Nat.le_of_ble_eq_true rfl) dX11_bound_5 (by decide)) X hV [] [0, 1, 2] rfl rfl rfl (by decide) (fun u H locs hV4 => ?_)
  have hV4 : kV E A s.heap H locs [(a0, .inr (11, [w0_0, w0_1, w0_2, w0_3, w0_4, w0_5, w0_6, .ref a1, w0_8])), (a1, .inr (2, [.ref a2, w1_1, w1_2, w1_3, w1_4, .int s_nights_many])), (a2, .inl (E.2 0, 30, .inl s_nights_days))] := hV4.sub [0, 1, 2] rfl rfl
  clear hV
  refine lv_if_eq (tgt := 18) hx hb dX11_bound_8 (by decide) (fun c6 => ?_) (fun c6 => ?_)
  · have h7 := itS c6 h3
    clear h3 c6
    refine lv_iconst (v := (-1)) hx hb dX11_bound_18 (by decide) ?_
    cases h7
    exact hret _ () _ _ _ _ rfl rfl hV4 dX11_bound_19
  · have h8 := ieS c6 h3
    clear h3 c6
    refine lv_iload_n hx hb dX11_bound_11 rfl (lv_at hl 2 rfl) ?_
    obtain ⟨r12_9, hc10, h11⟩ := cb1_s h8
    clear h8
    refine kgoiE (krunS (rest := []) X hV4 [] (c_X11_isNightError l E _ p2 r12_9 hc10) mw_1146 kb_X11_isNightError (by decide) rfl rfl hl.1 rfl (Nat.le_of_ble_eq_true rfl) dX11_bound_12 (by decide)) X hV4 [] [0, 1, 2] rfl rfl rfl (by decide) (fun u H locs hV12 => ?_)
    have hV12 : kV E A s.heap H locs [(a0, .inr (11, [w0_0, w0_1, w0_2, w0_3, w0_4, w0_5, w0_6, .ref a1, w0_8])), (a1, .inr (2, [.ref a2, w1_1, w1_2, w1_3, w1_4, .int s_nights_many])), (a2, .inl (E.2 0, 30, .inl s_nights_days))] := hV12.sub [0, 1, 2] rfl rfl
    clear hV4
    refine lv_if_ne (tgt := 20) hx hb dX11_bound_15 (by decide) (fun c14 => ?_) (fun c14 => ?_)
    · have h15 := ieS c14 h11
      clear h11 c14
      refine lv_aload_n hx hb dX11_bound_20 rfl (lv_at hl 0 rfl) ?_
      refine kget X hV12 (ci := 11) inlX11 rfl 0 rfl 7 (by decide) mw_41 rfl dX11_bound_21 ?_
      refine lv_iload_n hx hb dX11_bound_24 rfl (lv_at hl 1 rfl) ?_
      refine lv_iload_n hx hb dX11_bound_25 rfl (lv_at hl 2 rfl) ?_
      obtain ⟨r26_17, hc18, h19⟩ := cb1_s h15
      clear h15
      refine kgoiE (krunV (rest := []) X hV12 [1, 2] (c_X2_greatestOrbit l E _ a1 a2 (w1_1) (w1_2) (w1_3) (w1_4) s_nights_many s_nights_days p1 p2 r26_17 hc18) mw_1185 kb_X2_greatestOrbit (ci := 2) rfl rfl (by decide) rfl rfl hl.1 rfl (Nat.le_of_ble_eq_true rfl) dX11_bound_26 (by decide)) X hV12 [1, 2] [0] rfl rfl rfl (by decide) (fun u H locs hV20 => ?_)
      have hV20 : kV E A s.heap H locs [(a0, .inr (11, [w0_0, w0_1, w0_2, w0_3, w0_4, w0_5, w0_6, .ref a1, w0_8])), (a1, .inr (2, [.ref a2, w1_1, w1_2, w1_3, w1_4, .int s_nights_many])), (a2, .inl (E.2 0, 30, .inl s_nights_days))] := hV20.sub [0, 1, 2] rfl rfl
      clear hV12
      cases h19
      exact hret _ () _ _ _ _ rfl rfl hV20 dX11_bound_29
    · have h16 := itS c14 h11
      clear h11 c14
      refine lv_iconst (v := (-1)) hx hb dX11_bound_18 (by decide) ?_
      cases h16
      exact hret _ () _ _ _ _ rfl rfl hV12 dX11_bound_19
abbrev r_X11_there : Room := { frames := 1, cells := 0, slots := 0, locals := 22 }
set_option maxHeartbeats 4000000 in
set_option maxRecDepth 100000 in
theorem c_X11_there (l : Launch) (E : kE) (sz : Nat) (a0 a1 a2 : Nat) (w0_0 w0_1 w0_2 w0_3 w0_4 w0_5 w0_6 w0_7 w1_1 w1_2 w1_3 : Value) (s_lots_tens : Nat → Int32) (p1 : Int32) (p2 : Int32) (r : Int32) (o_lots_tens : Nat → Int32) (h : f_X11_there s_lots_tens p1 p2 = some (r, o_lots_tens)) : kMi l yX11_there cX11_there 3 (some .boolean) r_X11_there [.ref a0, .int p1, .int p2] E [(a0, .inr (11, [w0_0, w0_1, w0_2, w0_3, w0_4, w0_5, w0_6, w0_7, .ref a1])), (a1, .inr (1, [.ref a2, w1_1, w1_2, w1_3])), (a2, .inl (E.2 0, 40, .inl s_lots_tens))] sz 0 0 (fun x (_ : Unit) => x = r) (fun _ => [(a0, .inr (11, [w0_0, w0_1, w0_2, w0_3, w0_4, w0_5, w0_6, w0_7, .ref a1])), (a1, .inr (1, [.ref a2, w1_1, w1_2, w1_3])), (a2, .inl (E.2 0, 40, .inl o_lots_tens))]) := by
  refine kmeti rfl (Nat.le_of_ble_eq_true rfl) ?_
  intro p e s m args below meth c ls A Q X hV hret hl
  have X : kC p s m c cX11_there 3 RX11 args E A := X
  have hx := X.1
  have hb := X.2.1
  have hl : lv_has ls 3 [(0, .ref a0), (1, .int p1), (2, .int p2)] := hl
  rw [f_X11_there] at h
  refine lv_iload_n hx hb dX11_there_0 rfl (lv_at hl 1 rfl) ?_
  refine lv_iconst (v := 0) hx hb dX11_there_1 (by decide) ?_
  refine lv_bipush (v := 39) hx hb dX11_there_2 (by decide) ?_
  obtain ⟨r4_1, hc2, h3⟩ := cb1_s h
  clear h
  refine kgoiE (krunS (rest := []) X hV [] (c_X11_isWithin l E _ p1 0 39 r4_1 hc2) mw_187 kb_X11_isWithin (by decide) rfl rfl hl.1 rfl (Nat.le_of_ble_eq_true rfl) dX11_there_4 (by decide)) X hV [] [0, 1, 2] rfl rfl rfl (by decide) (fun u H locs hV4 => ?_)
  have hV4 : kV E A s.heap H locs [(a0, .inr (11, [w0_0, w0_1, w0_2, w0_3, w0_4, w0_5, w0_6, w0_7, .ref a1])), (a1, .inr (1, [.ref a2, w1_1, w1_2, w1_3])), (a2, .inl (E.2 0, 40, .inl s_lots_tens))] := hV4.sub [0, 1, 2] rfl rfl
  clear hV
  refine lv_if_eq (tgt := 20) hx hb dX11_there_7 (by decide) (fun c6 => ?_) (fun c6 => ?_)
  · have h7 := itS c6 h3
    clear h3 c6
    refine lv_iconst (v := 0) hx hb dX11_there_20 (by decide) ?_
    cases h7
    exact hret _ () _ _ _ _ rfl rfl hV4 dX11_there_21
  · have h8 := ieS c6 h3
    clear h3 c6
    refine lv_iload_n hx hb dX11_there_10 rfl (lv_at hl 2 rfl) ?_
    refine lv_iconst (v := 0) hx hb dX11_there_11 (by decide) ?_
    refine lv_bipush (v := 10) hx hb dX11_there_12 (by decide) ?_
    obtain ⟨r14_9, hc10, h11⟩ := cb1_s h8
    clear h8
    refine kgoiE (krunS (rest := []) X hV4 [] (c_X11_isWithin l E _ p2 0 10 r14_9 hc10) mw_187 kb_X11_isWithin (by decide) rfl rfl hl.1 rfl (Nat.le_of_ble_eq_true rfl) dX11_there_14 (by decide)) X hV4 [] [0, 1, 2] rfl rfl rfl (by decide) (fun u H locs hV12 => ?_)
    have hV12 : kV E A s.heap H locs [(a0, .inr (11, [w0_0, w0_1, w0_2, w0_3, w0_4, w0_5, w0_6, w0_7, .ref a1])), (a1, .inr (1, [.ref a2, w1_1, w1_2, w1_3])), (a2, .inl (E.2 0, 40, .inl s_lots_tens))] := hV12.sub [0, 1, 2] rfl rfl
    clear hV4
    refine lv_if_ne (tgt := 22) hx hb dX11_there_17 (by decide) (fun c14 => ?_) (fun c14 => ?_)
    · have h15 := ieS c14 h11
      clear h11 c14
      refine lv_aload_n hx hb dX11_there_22 rfl (lv_at hl 0 rfl) ?_
      refine kget X hV12 (ci := 11) inlX11 rfl 0 rfl 8 (by decide) mw_45 rfl dX11_there_23 ?_
      refine kget X hV12 (ci := 1) inlX1 rfl 1 rfl 0 (by decide) mw_1216 rfl dX11_there_26 ?_
      refine lv_iload_n hx hb dX11_there_29 rfl (lv_at hl 1 rfl) ?_
      refine lv_iload_n hx hb dX11_there_30 rfl (lv_at hl 2 rfl) ?_
      obtain ⟨hi18, g31_17, e19, h20⟩ := wrI_s h15
      clear h15
      refine kiast X hV12 2 rfl hi18 e19 dX11_there_31 (fun H locs hV21 => ?_)
      have hV21 : kV E A s.heap H locs [(a0, .inr (11, [w0_0, w0_1, w0_2, w0_3, w0_4, w0_5, w0_6, w0_7, .ref a1])), (a1, .inr (1, [.ref a2, w1_1, w1_2, w1_3])), (a2, .inl (E.2 0, 40, .inl g31_17))] := hV21
      clear hV12 hi18 e19
      refine lv_iconst (v := 1) hx hb dX11_there_32 (by decide) ?_
      cases h20
      exact hret _ () _ _ _ _ rfl rfl hV21 dX11_there_33
    · have h16 := itS c14 h11
      clear h11 c14
      refine lv_iconst (v := 0) hx hb dX11_there_20 (by decide) ?_
      cases h16
      exact hret _ () _ _ _ _ rfl rfl hV12 dX11_there_21
abbrev r_X11_pen : Room := { frames := 4, cells := 0, slots := 0, locals := 100 }
set_option maxHeartbeats 4000000 in
set_option maxRecDepth 100000 in
theorem c_X11_pen (l : Launch) (E : kE) (sz : Nat) (a0 a1 a2 a3 a4 : Nat) (w0_0 w0_1 w0_2 w0_3 w0_4 w0_5 w0_6 w0_7 : Value) (s_lots_unseen : Int32) (s_lots_best : Nat → Int32) (s_lots_chosen : Nat → Int32) (s_lots_tens : Nat → Int32) (p1 : Int32) (p2 : Int32) (p3 : Int32) (r : Int32) (o_lots_unseen : Int32) (o_lots_best : Nat → Int32) (o_lots_chosen : Nat → Int32) (h : f_X11_pen s_lots_unseen s_lots_best s_lots_chosen s_lots_tens p1 p2 p3 = some (r, o_lots_unseen, o_lots_best, o_lots_chosen)) : kMi l yX11_pen cX11_pen 5 (some .int) r_X11_pen [.ref a0, .int p1, .int p2, .int p3] E [(a0, .inr (11, [w0_0, w0_1, w0_2, w0_3, w0_4, w0_5, w0_6, w0_7, .ref a1])), (a1, .inr (1, [.ref a4, .ref a3, .ref a2, .int s_lots_unseen])), (a2, .inl (E.2 0, 287, .inl s_lots_best)), (a3, .inl (E.2 0, 6, .inl s_lots_chosen)), (a4, .inl (E.2 0, 40, .inl s_lots_tens))] sz 0 0 (fun x (_ : Unit) => x = r) (fun _ => [(a0, .inr (11, [w0_0, w0_1, w0_2, w0_3, w0_4, w0_5, w0_6, w0_7, .ref a1])), (a1, .inr (1, [.ref a4, .ref a3, .ref a2, .int o_lots_unseen])), (a2, .inl (E.2 0, 287, .inl o_lots_best)), (a3, .inl (E.2 0, 6, .inl o_lots_chosen)), (a4, .inl (E.2 0, 40, .inl s_lots_tens))]) := by
  refine kmeti rfl (Nat.le_of_ble_eq_true rfl) ?_
  intro p e s m args below meth c ls A Q X hV hret hl
  have X : kC p s m c cX11_pen 5 RX11 args E A := X
  have hx := X.1
  have hb := X.2.1
  have hl : lv_has ls 5 [(0, .ref a0), (1, .int p1), (2, .int p2), (3, .int p3)] := hl
  rw [f_X11_pen] at h
  refine lv_iload_n hx hb dX11_pen_0 rfl (lv_at hl 1 rfl) ?_
  refine lv_iconst (v := 1) hx hb dX11_pen_1 (by decide) ?_
  refine lv_bipush (v := 6) hx hb dX11_pen_2 (by decide) ?_
  obtain ⟨r4_1, hc2, h3⟩ := cb1_s h
  clear h
  refine kgoiE (krunS (rest := []) X hV [] (c_X11_isWithin l E _ p1 1 6 r4_1 hc2) mw_187 kb_X11_isWithin (by decide) rfl rfl hl.1 rfl (Nat.le_of_ble_eq_true rfl) dX11_pen_4 (by decide)) X hV [] [0, 1, 2, 3, 4] rfl rfl rfl (by decide) (fun u H locs hV4 => ?_)
  have hV4 : kV E A s.heap H locs [(a0, .inr (11, [w0_0, w0_1, w0_2, w0_3, w0_4, w0_5, w0_6, w0_7, .ref a1])), (a1, .inr (1, [.ref a4, .ref a3, .ref a2, .int s_lots_unseen])), (a2, .inl (E.2 0, 287, .inl s_lots_best)), (a3, .inl (E.2 0, 6, .inl s_lots_chosen)), (a4, .inl (E.2 0, 40, .inl s_lots_tens))] := hV4.sub [0, 1, 2, 3, 4] rfl rfl
  clear hV
  have J42 : ∀ (t0_6 : Int32) (H : Heap) (locs : List Loc) (ls : Array Slot), (f_X11_pen_J42 s_lots_unseen s_lots_best s_lots_chosen s_lots_tens p1 p2 p3 ) t0_6 = some (r, o_lots_unseen, o_lots_best, o_lots_chosen) → kV E A s.heap H locs [(a0, .inr (11, [w0_0, w0_1, w0_2, w0_3, w0_4, w0_5, w0_6, w0_7, .ref a1])), (a1, .inr (1, [.ref a4, .ref a3, .ref a2, .int s_lots_unseen])), (a2, .inl (E.2 0, 287, .inl s_lots_best)), (a3, .inl (E.2 0, 6, .inl s_lots_chosen)), (a4, .inl (E.2 0, 40, .inl s_lots_tens))] → lv_has ls 5 [(0, .ref a0), (1, .int p1), (2, .int p2), (3, .int p3)] → W p l e r_X11_pen s m args below meth c H locs 0 0 Q (F0 m 42 ls [.int t0_6]) := by
    intro t0_6 H locs ls hB42 hVB42 hlB42
    rw [f_X11_pen_J42] at hB42
    refine lv_istore (lv' := [(4, .int t0_6), (0, .ref a0), (1, .int p1), (2, .int p2), (3, .int p3)]) hx hb dX11_pen_42 hlB42 (by decide) rfl (fun ls hl7 => ?_)
    clear hlB42
    refine lv_iload hx hb dX11_pen_44 (lv_at hl7 0 rfl) ?_
    refine lv_if_eq (tgt := 59) hx hb dX11_pen_46 (by decide) (fun c8 => ?_) (fun c8 => ?_)
    · have h9 := itS c8 hB42
      clear hB42 c8
      refine lv_iconst (v := (-1)) hx hb dX11_pen_59 (by decide) ?_
      cases h9
      exact hret _ () _ _ _ _ rfl rfl hVB42 dX11_pen_60
    · have h10 := ieS c8 hB42
      clear hB42 c8
      refine lv_iload_n hx hb dX11_pen_49 rfl (lv_at hl7 2 rfl) ?_
      refine lv_iconst (v := 1) hx hb dX11_pen_50 (by decide) ?_
      refine lv_isub hx hb dX11_pen_51 ?_
      refine lv_iload_n hx hb dX11_pen_52 rfl (lv_at hl7 3 rfl) ?_
      refine lv_imul hx hb dX11_pen_53 ?_
      refine lv_bipush (v := 40) hx hb dX11_pen_54 (by decide) ?_
      refine lv_icmp_lt (tgt := 61) hx hb dX11_pen_56 (by decide) (fun c11 => ?_) (fun c11 => ?_)
      · have h12 := itS c11 h10
        clear h10 c11
        refine lv_aload_n hx hb dX11_pen_61 rfl (lv_at hl7 1 rfl) ?_
        refine kget X hVB42 (ci := 11) inlX11 rfl 0 rfl 8 (by decide) mw_45 rfl dX11_pen_62 ?_
        refine lv_iload_n hx hb dX11_pen_65 rfl (lv_at hl7 2 rfl) ?_
        refine lv_iload_n hx hb dX11_pen_66 rfl (lv_at hl7 3 rfl) ?_
        obtain ⟨o_unseen67_14, o_best67_15, o_chosen67_16, hc17, h18⟩ := cb3_s h12
        clear h12
        refine kgov (krunV (rest := []) X hVB42 [1, 2, 3, 4] (c_X1_choose l E _ a1 a2 a3 a4 s_lots_unseen s_lots_best s_lots_chosen s_lots_tens p1 p2 o_unseen67_14 o_best67_15 o_chosen67_16 hc17) mw_1229 kb_X1_choose (ci := 1) rfl rfl (by decide) rfl rfl hl7.1 rfl (Nat.le_of_ble_eq_true rfl) dX11_pen_67 (by decide)) X hVB42 [1, 2, 3, 4] [0] rfl rfl rfl (by decide) (fun u H locs hp20 hV19 => ?_)
        have hV19 : kV E A s.heap H locs [(a0, .inr (11, [w0_0, w0_1, w0_2, w0_3, w0_4, w0_5, w0_6, w0_7, .ref a1])), (a1, .inr (1, [.ref a4, .ref a3, .ref a2, .int o_unseen67_14])), (a2, .inl (E.2 0, 287, .inl o_best67_15)), (a3, .inl (E.2 0, 6, .inl o_chosen67_16)), (a4, .inl (E.2 0, 40, .inl s_lots_tens))] := hV19.sub [0, 1, 2, 3, 4] rfl rfl
        clear hVB42
        refine lv_iload_n hx hb dX11_pen_70 rfl (lv_at hl7 4 rfl) ?_
        refine lv_bipush (v := 6) hx hb dX11_pen_71 (by decide) ?_
        refine lv_icmp_ne (tgt := 86) hx hb dX11_pen_73 (by decide) (fun c21 => ?_) (fun c21 => ?_)
        · have h22 := ieS c21 h18
          clear h18 c21
          refine lv_aload_n hx hb dX11_pen_86 rfl (lv_at hl7 1 rfl) ?_
          refine kget X hV19 (ci := 11) inlX11 rfl 0 rfl 8 (by decide) mw_45 rfl dX11_pen_87 ?_
          refine kget X hV19 (ci := 1) inlX1 rfl 1 rfl 1 (by decide) mw_1228 rfl dX11_pen_90 ?_
          refine lv_iload_n hx hb dX11_pen_93 rfl (lv_at hl7 4 rfl) ?_
          obtain ⟨hi25, v94_24, e26, h27⟩ := rdI_s h22
          clear h22
          refine kiald X hV19 3 rfl hi25 e26 dX11_pen_94 ?_
          clear hi25 e26
          cases h27
          exact hret _ () _ _ _ _ rfl rfl hV19 dX11_pen_95
        · have h23 := itS c21 h18
          clear h18 c21
          refine lv_aload_n hx hb dX11_pen_76 rfl (lv_at hl7 1 rfl) ?_
          refine kget X hV19 (ci := 11) inlX11 rfl 0 rfl 8 (by decide) mw_45 rfl dX11_pen_77 ?_
          refine kget X hV19 (ci := 1) inlX1 rfl 1 rfl 3 (by decide) mw_1227 rfl dX11_pen_80 ?_
          refine lv_goto (tgt := 95) hx hb dX11_pen_83 (by decide) ?_
          cases h23
          exact hret _ () _ _ _ _ rfl rfl hV19 dX11_pen_95
      · have h13 := ieS c11 h10
        clear h10 c11
        refine lv_iconst (v := (-1)) hx hb dX11_pen_59 (by decide) ?_
        cases h13
        exact hret _ () _ _ _ _ rfl rfl hVB42 dX11_pen_60
  refine lv_if_eq (tgt := 41) hx hb dX11_pen_7 (by decide) (fun c28 => ?_) (fun c28 => ?_)
  · have h29 := itS c28 h3
    clear h3 c28
    refine lv_iconst (v := 0) hx hb dX11_pen_41 (by decide) ?_
    exact J42 0 _ _ _ h29 hV4 (lv_sub hl [0, 1, 2, 3] rfl)
  · have h30 := ieS c28 h3
    clear h3 c28
    refine lv_iload_n hx hb dX11_pen_10 rfl (lv_at hl 2 rfl) ?_
    refine lv_iconst (v := 1) hx hb dX11_pen_11 (by decide) ?_
    refine lv_bipush (v := 10) hx hb dX11_pen_12 (by decide) ?_
    obtain ⟨r14_31, hc32, h33⟩ := cb1_s h30
    clear h30
    refine kgoiE (krunS (rest := []) X hV4 [] (c_X11_isWithin l E _ p2 1 10 r14_31 hc32) mw_187 kb_X11_isWithin (by decide) rfl rfl hl.1 rfl (Nat.le_of_ble_eq_true rfl) dX11_pen_14 (by decide)) X hV4 [] [0, 1, 2, 3, 4] rfl rfl rfl (by decide) (fun u H locs hV34 => ?_)
    have hV34 : kV E A s.heap H locs [(a0, .inr (11, [w0_0, w0_1, w0_2, w0_3, w0_4, w0_5, w0_6, w0_7, .ref a1])), (a1, .inr (1, [.ref a4, .ref a3, .ref a2, .int s_lots_unseen])), (a2, .inl (E.2 0, 287, .inl s_lots_best)), (a3, .inl (E.2 0, 6, .inl s_lots_chosen)), (a4, .inl (E.2 0, 40, .inl s_lots_tens))] := hV34.sub [0, 1, 2, 3, 4] rfl rfl
    clear hV4
    refine lv_if_eq (tgt := 41) hx hb dX11_pen_17 (by decide) (fun c36 => ?_) (fun c36 => ?_)
    · have h37 := itS c36 h33
      clear h33 c36
      refine lv_iconst (v := 0) hx hb dX11_pen_41 (by decide) ?_
      exact J42 0 _ _ _ h37 hV34 (lv_sub hl [0, 1, 2, 3] rfl)
    · have h38 := ieS c36 h33
      clear h33 c36
      refine lv_iload_n hx hb dX11_pen_20 rfl (lv_at hl 3 rfl) ?_
      refine lv_bipush (v := 6) hx hb dX11_pen_21 (by decide) ?_
      refine lv_icmp_eq (tgt := 37) hx hb dX11_pen_23 (by decide) (fun c39 => ?_) (fun c39 => ?_)
      · have h40 := itS c39 h38
        clear h38 c39
        refine lv_iconst (v := 1) hx hb dX11_pen_37 (by decide) ?_
        refine lv_goto (tgt := 42) hx hb dX11_pen_38 (by decide) ?_
        exact J42 1 _ _ _ h40 hV34 (lv_sub hl [0, 1, 2, 3] rfl)
      · have h41 := ieS c39 h38
        clear h38 c39
        refine lv_iload_n hx hb dX11_pen_26 rfl (lv_at hl 3 rfl) ?_
        refine lv_iconst (v := 0) hx hb dX11_pen_27 (by decide) ?_
        refine lv_iload_n hx hb dX11_pen_28 rfl (lv_at hl 1 rfl) ?_
        refine lv_iconst (v := 1) hx hb dX11_pen_29 (by decide) ?_
        refine lv_isub hx hb dX11_pen_30 ?_
        obtain ⟨r31_42, hc43, h44⟩ := cb1_s h41
        clear h41
        refine kgoiE (krunS (rest := []) X hV34 [] (c_X11_isWithin l E _ p3 0 (p1 - 1) r31_42 hc43) mw_187 kb_X11_isWithin (by decide) rfl rfl hl.1 rfl (Nat.le_of_ble_eq_true rfl) dX11_pen_31 (by decide)) X hV34 [] [0, 1, 2, 3, 4] rfl rfl rfl (by decide) (fun u H locs hV45 => ?_)
        have hV45 : kV E A s.heap H locs [(a0, .inr (11, [w0_0, w0_1, w0_2, w0_3, w0_4, w0_5, w0_6, w0_7, .ref a1])), (a1, .inr (1, [.ref a4, .ref a3, .ref a2, .int s_lots_unseen])), (a2, .inl (E.2 0, 287, .inl s_lots_best)), (a3, .inl (E.2 0, 6, .inl s_lots_chosen)), (a4, .inl (E.2 0, 40, .inl s_lots_tens))] := hV45.sub [0, 1, 2, 3, 4] rfl rfl
        clear hV34
        refine lv_if_eq (tgt := 41) hx hb dX11_pen_34 (by decide) (fun c47 => ?_) (fun c47 => ?_)
        · have h48 := itS c47 h44
          clear h44 c47
          refine lv_iconst (v := 0) hx hb dX11_pen_41 (by decide) ?_
          exact J42 0 _ _ _ h48 hV45 (lv_sub hl [0, 1, 2, 3] rfl)
        · have h49 := ieS c47 h44
          clear h44 c47
          refine lv_iconst (v := 1) hx hb dX11_pen_37 (by decide) ?_
          refine lv_goto (tgt := 42) hx hb dX11_pen_38 (by decide) ?_
          exact J42 1 _ _ _ h49 hV45 (lv_sub hl [0, 1, 2, 3] rfl)
abbrev r_X11_odds : Room := { frames := 2, cells := 0, slots := 0, locals := 53 }
set_option maxHeartbeats 4000000 in
set_option maxRecDepth 100000 in
theorem c_X11_odds (l : Launch) (E : kE) (sz : Nat) (a0 : Nat) (w0_0 w0_1 w0_2 w0_3 w0_4 w0_5 w0_6 w0_7 w0_8 : Value) (p1 : Int32) (p2 : Int32) (p3 : Int32) (p4 : Int32) (p5 : Int32) (r : Int64) (h : f_X11_odds p1 p2 p3 p4 p5 = some (r)) : kMl l yX11_odds cX11_odds 12 (some .long) r_X11_odds [.ref a0, .int p1, .int p2, .int p3, .int p4, .int p5] E [(a0, .inr (11, [w0_0, w0_1, w0_2, w0_3, w0_4, w0_5, w0_6, w0_7, w0_8]))] sz 0 0 (fun x (_ : Unit) => x = r) (fun _ => [(a0, .inr (11, [w0_0, w0_1, w0_2, w0_3, w0_4, w0_5, w0_6, w0_7, w0_8]))]) := by
  refine kmetl rfl (Nat.le_of_ble_eq_true rfl) ?_
  intro p e s m args below meth c ls A Q X hV hret hl
  have X : kC p s m c cX11_odds 12 RX11 args E A := X
  have hx := X.1
  have hb := X.2.1
  have hl : lv_has ls 12 [(0, .ref a0), (1, .int p1), (2, .int p2), (3, .int p3), (4, .int p4), (5, .int p5)] := hl
  rw [f_X11_odds] at h
  refine lv_iload_n hx hb dX11_odds_0 rfl (lv_at hl 1 rfl) ?_
  refine lv_iload_n hx hb dX11_odds_1 rfl (lv_at hl 2 rfl) ?_
  refine lv_iload_n hx hb dX11_odds_2 rfl (lv_at hl 3 rfl) ?_
  obtain ⟨r3_1, hc2, h3⟩ := cb1_s h
  clear h
  refine kgoiE (krunS (rest := []) X hV [] (c_X11_isLook l E _ p1 p2 p3 r3_1 hc2) mw_1260 kb_X11_isLook (by decide) rfl rfl hl.1 rfl (Nat.le_of_ble_eq_true rfl) dX11_odds_3 (by decide)) X hV [] [0] rfl rfl rfl (by decide) (fun u H locs hV4 => ?_)
  have hV4 : kV E A s.heap H locs [(a0, .inr (11, [w0_0, w0_1, w0_2, w0_3, w0_4, w0_5, w0_6, w0_7, w0_8]))] := hV4.sub [0] rfl rfl
  clear hV
  refine lv_if_eq (tgt := 34) hx hb dX11_odds_6 (by decide) (fun c6 => ?_) (fun c6 => ?_)
  · have h7 := itS c6 h3
    clear h3 c6
    refine lv_ldc2 (v := (-1)) hx hb X.2.2.2.1 (X.2.2.2.2.1 _ mw_1259) dX11_odds_34 ?_
    cases h7
    exact hret _ () _ _ _ _ rfl hV4 dX11_odds_37
  · have h8 := ieS c6 h3
    clear h3 c6
    refine lv_iload hx hb dX11_odds_9 (lv_at hl 4 rfl) ?_
    refine lv_iload_n hx hb dX11_odds_11 rfl (lv_at hl 1 rfl) ?_
    refine lv_iload_n hx hb dX11_odds_12 rfl (lv_at hl 2 rfl) ?_
    refine lv_iadd hx hb dX11_odds_13 ?_
    refine lv_iload_n hx hb dX11_odds_14 rfl (lv_at hl 3 rfl) ?_
    refine lv_isub hx hb dX11_odds_15 ?_
    refine lv_bipush (v := 40) hx hb dX11_odds_16 (by decide) ?_
    obtain ⟨r18_9, hc10, h11⟩ := cb1_s h8
    clear h8
    refine kgoiE (krunS (rest := []) X hV4 [] (c_X11_isWithin l E _ p4 ((p1 + p2) - p3) 40 r18_9 hc10) mw_187 kb_X11_isWithin (by decide) rfl rfl hl.1 rfl (Nat.le_of_ble_eq_true rfl) dX11_odds_18 (by decide)) X hV4 [] [0] rfl rfl rfl (by decide) (fun u H locs hV12 => ?_)
    have hV12 : kV E A s.heap H locs [(a0, .inr (11, [w0_0, w0_1, w0_2, w0_3, w0_4, w0_5, w0_6, w0_7, w0_8]))] := hV12.sub [0] rfl rfl
    clear hV4
    refine lv_if_eq (tgt := 34) hx hb dX11_odds_21 (by decide) (fun c14 => ?_) (fun c14 => ?_)
    · have h15 := itS c14 h11
      clear h11 c14
      refine lv_ldc2 (v := (-1)) hx hb X.2.2.2.1 (X.2.2.2.2.1 _ mw_1259) dX11_odds_34 ?_
      cases h15
      exact hret _ () _ _ _ _ rfl hV12 dX11_odds_37
    · have h16 := ieS c14 h11
      clear h11 c14
      refine lv_iload hx hb dX11_odds_24 (lv_at hl 5 rfl) ?_
      refine lv_iconst (v := 0) hx hb dX11_odds_26 (by decide) ?_
      refine lv_iconst (v := 1) hx hb dX11_odds_27 (by decide) ?_
      obtain ⟨r28_17, hc18, h19⟩ := cb1_s h16
      clear h16
      refine kgoiE (krunS (rest := []) X hV12 [] (c_X11_isWithin l E _ p5 0 1 r28_17 hc18) mw_187 kb_X11_isWithin (by decide) rfl rfl hl.1 rfl (Nat.le_of_ble_eq_true rfl) dX11_odds_28 (by decide)) X hV12 [] [0] rfl rfl rfl (by decide) (fun u H locs hV20 => ?_)
      have hV20 : kV E A s.heap H locs [(a0, .inr (11, [w0_0, w0_1, w0_2, w0_3, w0_4, w0_5, w0_6, w0_7, w0_8]))] := hV20.sub [0] rfl rfl
      clear hV12
      refine lv_if_ne (tgt := 38) hx hb dX11_odds_31 (by decide) (fun c22 => ?_) (fun c22 => ?_)
      · have h23 := ieS c22 h19
        clear h19 c22
        refine lv_iload_n hx hb dX11_odds_38 rfl (lv_at hl 1 rfl) ?_
        refine lv_iload_n hx hb dX11_odds_39 rfl (lv_at hl 2 rfl) ?_
        refine lv_iload_n hx hb dX11_odds_40 rfl (lv_at hl 3 rfl) ?_
        refine lv_iload hx hb dX11_odds_41 (lv_at hl 4 rfl) ?_
        obtain ⟨r43_25, hc26, h27⟩ := cb1_s h23
        clear h23
        refine kgolE (krunS (rest := []) X hV20 [] (c_X1_drawsWith l E _ p1 p2 p3 p4 r43_25 hc26) mw_1263 kb_X1_drawsWith (by decide) rfl rfl hl.1 rfl (Nat.le_of_ble_eq_true rfl) dX11_odds_43 (by decide)) X hV20 [] [0] rfl rfl rfl (by decide) (fun u H locs hV28 => ?_)
        have hV28 : kV E A s.heap H locs [(a0, .inr (11, [w0_0, w0_1, w0_2, w0_3, w0_4, w0_5, w0_6, w0_7, w0_8]))] := hV28.sub [0] rfl rfl
        clear hV20
        refine lv_lstore (lv' := [(6, .long r43_25), (0, .ref a0), (1, .int p1), (2, .int p2), (3, .int p3), (4, .int p4), (5, .int p5)]) hx hb dX11_odds_46 hl (by decide) rfl (fun ls hl30 => ?_)
        clear hl
        refine lv_iload hx hb dX11_odds_48 (lv_at hl30 5 rfl) ?_
        refine lv_iload_n hx hb dX11_odds_50 rfl (lv_at hl30 3 rfl) ?_
        obtain ⟨r51_31, hc32, h33⟩ := cb1_s h27
        clear h27
        refine kgolE (krunS (rest := []) X hV28 [] (c_X1_choices l E _ p4 p2 r51_31 hc32) mw_1269 kb_X1_choices (by decide) rfl rfl hl30.1 rfl (Nat.le_of_ble_eq_true rfl) dX11_odds_51 (by decide)) X hV28 [] [0] rfl rfl rfl (by decide) (fun u H locs hV34 => ?_)
        have hV34 : kV E A s.heap H locs [(a0, .inr (11, [w0_0, w0_1, w0_2, w0_3, w0_4, w0_5, w0_6, w0_7, w0_8]))] := hV34.sub [0] rfl rfl
        clear hV28
        refine lv_lstore (lv' := [(8, .long r51_31), (6, .long r43_25), (0, .ref a0), (1, .int p1), (2, .int p2), (3, .int p3), (4, .int p4), (5, .int p5)]) hx hb dX11_odds_54 hl30 (by decide) rfl (fun ls hl36 => ?_)
        clear hl30
        refine lv_lload hx hb dX11_odds_56 (lv_at hl36 1 rfl) ?_
        refine lv_lload hx hb dX11_odds_58 (lv_at hl36 0 rfl) ?_
        obtain ⟨r60_37, hc38, h39⟩ := cb1_s h33
        clear h33
        refine kgolE (krunS (rest := []) X hV34 [] (c_X1_commonDivisor l E _ r43_25 r51_31 r60_37 hc38) mw_1270 kb_X1_commonDivisor (by decide) rfl rfl hl36.1 rfl (Nat.le_of_ble_eq_true rfl) dX11_odds_60 (by decide)) X hV34 [] [0] rfl rfl rfl (by decide) (fun u H locs hV40 => ?_)
        have hV40 : kV E A s.heap H locs [(a0, .inr (11, [w0_0, w0_1, w0_2, w0_3, w0_4, w0_5, w0_6, w0_7, w0_8]))] := hV40.sub [0] rfl rfl
        clear hV34
        refine lv_lstore (lv' := [(10, .long r60_37), (8, .long r51_31), (6, .long r43_25), (0, .ref a0), (1, .int p1), (2, .int p2), (3, .int p3), (4, .int p4), (5, .int p5)]) hx hb dX11_odds_63 hl36 (by decide) rfl (fun ls hl42 => ?_)
        clear hl36
        refine lv_iload hx hb dX11_odds_65 (lv_at hl42 8 rfl) ?_
        refine lv_if_ne (tgt := 75) hx hb dX11_odds_67 (by decide) (fun c43 => ?_) (fun c43 => ?_)
        · have h44 := ieS c43 h39
          clear h39 c43
          refine lv_lload hx hb dX11_odds_75 (lv_at hl42 1 rfl) ?_
          refine lv_lload hx hb dX11_odds_77 (lv_at hl42 0 rfl) ?_
          obtain ⟨hn46, h47⟩ := dvL_s h44
          clear h44
          refine lv_ldiv hx hb dX11_odds_79 hn46 ?_
          cases h47
          exact hret _ () _ _ _ _ rfl hV40 dX11_odds_80
        · have h45 := itS c43 h39
          clear h39 c43
          refine lv_lload hx hb dX11_odds_70 (lv_at hl42 2 rfl) ?_
          refine lv_goto (tgt := 77) hx hb dX11_odds_72 (by decide) ?_
          refine lv_lload hx hb dX11_odds_77 (lv_at hl42 0 rfl) ?_
          obtain ⟨hn48, h49⟩ := dvL_s h45
          clear h45
          refine lv_ldiv hx hb dX11_odds_79 hn48 ?_
          cases h49
          exact hret _ () _ _ _ _ rfl hV40 dX11_odds_80
      · have h24 := itS c22 h19
        clear h19 c22
        refine lv_ldc2 (v := (-1)) hx hb X.2.2.2.1 (X.2.2.2.2.1 _ mw_1259) dX11_odds_34 ?_
        cases h24
        exact hret _ () _ _ _ _ rfl hV20 dX11_odds_37
abbrev r_X11_more : Room := { frames := 2, cells := 0, slots := 0, locals := 47 }
set_option maxHeartbeats 4000000 in
set_option maxRecDepth 100000 in
theorem c_X11_more (l : Launch) (E : kE) (sz : Nat) (a0 : Nat) (w0_0 w0_1 w0_2 w0_3 w0_4 w0_5 w0_6 w0_7 w0_8 : Value) (p1 : Int32) (p2 : Int32) (p3 : Int32) (p4 : Int32) (p5 : Int32) (r : Int32) (h : f_X11_more p1 p2 p3 p4 p5 = some (r)) : kMi l yX11_more cX11_more 8 (some .int) r_X11_more [.ref a0, .int p1, .int p2, .int p3, .int p4, .int p5] E [(a0, .inr (11, [w0_0, w0_1, w0_2, w0_3, w0_4, w0_5, w0_6, w0_7, w0_8]))] sz 0 0 (fun x (_ : Unit) => x = r) (fun _ => [(a0, .inr (11, [w0_0, w0_1, w0_2, w0_3, w0_4, w0_5, w0_6, w0_7, w0_8]))]) := by
  refine kmeti rfl (Nat.le_of_ble_eq_true rfl) ?_
  intro p e s m args below meth c ls A Q X hV hret hl
  have X : kC p s m c cX11_more 8 RX11 args E A := X
  have hx := X.1
  have hb := X.2.1
  have hl : lv_has ls 8 [(0, .ref a0), (1, .int p1), (2, .int p2), (3, .int p3), (4, .int p4), (5, .int p5)] := hl
  rw [f_X11_more] at h
  refine lv_iload_n hx hb dX11_more_0 rfl (lv_at hl 1 rfl) ?_
  refine lv_iload_n hx hb dX11_more_1 rfl (lv_at hl 2 rfl) ?_
  refine lv_iload_n hx hb dX11_more_2 rfl (lv_at hl 3 rfl) ?_
  obtain ⟨r3_1, hc2, h3⟩ := cb1_s h
  clear h
  refine kgoiE (krunS (rest := []) X hV [] (c_X11_isLook l E _ p1 p2 p3 r3_1 hc2) mw_1260 kb_X11_isLook (by decide) rfl rfl hl.1 rfl (Nat.le_of_ble_eq_true rfl) dX11_more_3 (by decide)) X hV [] [0] rfl rfl rfl (by decide) (fun u H locs hV4 => ?_)
  have hV4 : kV E A s.heap H locs [(a0, .inr (11, [w0_0, w0_1, w0_2, w0_3, w0_4, w0_5, w0_6, w0_7, w0_8]))] := hV4.sub [0] rfl rfl
  clear hV
  refine lv_if_eq (tgt := 31) hx hb dX11_more_6 (by decide) (fun c6 => ?_) (fun c6 => ?_)
  · have h7 := itS c6 h3
    clear h3 c6
    refine lv_iconst (v := (-1)) hx hb dX11_more_31 (by decide) ?_
    cases h7
    exact hret _ () _ _ _ _ rfl rfl hV4 dX11_more_32
  · have h8 := ieS c6 h3
    clear h3 c6
    refine lv_iload hx hb dX11_more_9 (lv_at hl 4 rfl) ?_
    refine lv_iconst (v := 1) hx hb dX11_more_11 (by decide) ?_
    refine lv_sipush (v := 1000) hx hb dX11_more_12 (by decide) ?_
    obtain ⟨r15_9, hc10, h11⟩ := cb1_s h8
    clear h8
    refine kgoiE (krunS (rest := []) X hV4 [] (c_X11_isWithin l E _ p4 1 1000 r15_9 hc10) mw_187 kb_X11_isWithin (by decide) rfl rfl hl.1 rfl (Nat.le_of_ble_eq_true rfl) dX11_more_15 (by decide)) X hV4 [] [0] rfl rfl rfl (by decide) (fun u H locs hV12 => ?_)
    have hV12 : kV E A s.heap H locs [(a0, .inr (11, [w0_0, w0_1, w0_2, w0_3, w0_4, w0_5, w0_6, w0_7, w0_8]))] := hV12.sub [0] rfl rfl
    clear hV4
    refine lv_if_eq (tgt := 31) hx hb dX11_more_18 (by decide) (fun c14 => ?_) (fun c14 => ?_)
    · have h15 := itS c14 h11
      clear h11 c14
      refine lv_iconst (v := (-1)) hx hb dX11_more_31 (by decide) ?_
      cases h15
      exact hret _ () _ _ _ _ rfl rfl hV12 dX11_more_32
    · have h16 := ieS c14 h11
      clear h11 c14
      refine lv_iload hx hb dX11_more_21 (lv_at hl 5 rfl) ?_
      refine lv_iconst (v := 0) hx hb dX11_more_23 (by decide) ?_
      refine lv_iconst (v := 1) hx hb dX11_more_24 (by decide) ?_
      obtain ⟨r25_17, hc18, h19⟩ := cb1_s h16
      clear h16
      refine kgoiE (krunS (rest := []) X hV12 [] (c_X11_isWithin l E _ p5 0 1 r25_17 hc18) mw_187 kb_X11_isWithin (by decide) rfl rfl hl.1 rfl (Nat.le_of_ble_eq_true rfl) dX11_more_25 (by decide)) X hV12 [] [0] rfl rfl rfl (by decide) (fun u H locs hV20 => ?_)
      have hV20 : kV E A s.heap H locs [(a0, .inr (11, [w0_0, w0_1, w0_2, w0_3, w0_4, w0_5, w0_6, w0_7, w0_8]))] := hV20.sub [0] rfl rfl
      clear hV12
      refine lv_if_ne (tgt := 33) hx hb dX11_more_28 (by decide) (fun c22 => ?_) (fun c22 => ?_)
      · have h23 := ieS c22 h19
        clear h19 c22
        refine lv_bipush (v := (-2)) hx hb dX11_more_33 (by decide) ?_
        refine lv_istore (lv' := [(6, .int (-2)), (0, .ref a0), (1, .int p1), (2, .int p2), (3, .int p3), (4, .int p4), (5, .int p5)]) hx hb dX11_more_35 hl (by decide) rfl (fun ls hl25 => ?_)
        clear hl
        refine lv_iload_n hx hb dX11_more_37 rfl (lv_at hl25 2 rfl) ?_
        refine lv_iload_n hx hb dX11_more_38 rfl (lv_at hl25 3 rfl) ?_
        refine lv_iadd hx hb dX11_more_39 ?_
        refine lv_iload_n hx hb dX11_more_40 rfl (lv_at hl25 4 rfl) ?_
        refine lv_isub hx hb dX11_more_41 ?_
        obtain ⟨v42_26, e27, h28⟩ := nmI_s h23
        clear h23
        refine ktopi e27 ?_
        clear e27
        refine lv_istore (lv' := [(7, .int v42_26), (6, .int (-2)), (0, .ref a0), (1, .int p1), (2, .int p2), (3, .int p3), (4, .int p4), (5, .int p5)]) hx hb dX11_more_42 hl25 (by decide) rfl (fun ls hl29 => ?_)
        clear hl25
        have L44 : ∀ (n44 : Nat) (x6_30 : Int32) (x7_31 : Int32) (H : Heap) (locs : List Loc) (ls : Array Slot), (f_X11_more_L44 p1 p2 p3 p4 p5  n44) x6_30 x7_31 = some (r) → kV E A s.heap H locs [(a0, .inr (11, [w0_0, w0_1, w0_2, w0_3, w0_4, w0_5, w0_6, w0_7, w0_8]))] → lv_has ls 8 [(1, .int p1), (2, .int p2), (3, .int p3), (4, .int p4), (5, .int p5), (6, .int x6_30), (7, .int x7_31)] → W p l e r_X11_more s m args below meth c H locs 0 0 Q (F0 m 44 ls []) := by
          intro n44
          induction n44 with
          | zero =>
            intro x6_30 x7_31 H locs ls hB44 hVB44 hlB44
            rw [f_X11_more_L44] at hB44
            exact nomatch hB44
          | succ n44 ih44 =>
            intro x6_30 x7_31 H locs ls hB44 hVB44 hlB44
            rw [f_X11_more_L44] at hB44
            refine lv_iload hx hb dX11_more_44 (lv_at hlB44 6 rfl) ?_
            refine lv_bipush (v := 40) hx hb dX11_more_46 (by decide) ?_
            refine lv_icmp_gt (tgt := 95) hx hb dX11_more_48 (by decide) (fun c32 => ?_) (fun c32 => ?_)
            · have h33 := itS c32 hB44
              clear hB44 c32
              refine lv_iload hx hb dX11_more_95 (lv_at hlB44 5 rfl) ?_
              cases h33
              exact hret _ () _ _ _ _ rfl rfl hVB44 dX11_more_97
            · have h34 := ieS c32 hB44
              clear hB44 c32
              refine lv_iload_n hx hb dX11_more_51 rfl (lv_at hlB44 0 rfl) ?_
              refine lv_iload_n hx hb dX11_more_52 rfl (lv_at hlB44 1 rfl) ?_
              refine lv_iload_n hx hb dX11_more_53 rfl (lv_at hlB44 2 rfl) ?_
              refine lv_iload hx hb dX11_more_54 (lv_at hlB44 6 rfl) ?_
              obtain ⟨r56_35, hc36, h37⟩ := cb1_s h34
              clear h34
              refine kgolE (krunS (rest := []) X hVB44 [] (c_X1_drawsWith l E _ p1 p2 p3 x7_31 r56_35 hc36) mw_1263 kb_X1_drawsWith (by decide) rfl rfl hlB44.1 rfl (Nat.le_of_ble_eq_true rfl) dX11_more_56 (by decide)) X hVB44 [] [0] rfl rfl rfl (by decide) (fun u H locs hV38 => ?_)
              have hV38 : kV E A s.heap H locs [(a0, .inr (11, [w0_0, w0_1, w0_2, w0_3, w0_4, w0_5, w0_6, w0_7, w0_8]))] := hV38.sub [0] rfl rfl
              clear hVB44
              refine lv_ldc2 (v := 1000) hx hb X.2.2.2.1 (X.2.2.2.2.1 _ mw_1299) dX11_more_59 ?_
              refine lv_lmul hx hb dX11_more_62 ?_
              refine lv_iload hx hb dX11_more_63 (lv_at hlB44 6 rfl) ?_
              refine lv_iload_n hx hb dX11_more_65 rfl (lv_at hlB44 1 rfl) ?_
              obtain ⟨r66_40, hc41, h42⟩ := cb1_s h37
              clear h37
              refine kgolE (krunS (rest := [.long (r56_35 * 1000)]) X hV38 [] (c_X1_choices l E _ x7_31 p2 r66_40 hc41) mw_1269 kb_X1_choices (by decide) rfl rfl hlB44.1 rfl (Nat.le_of_ble_eq_true rfl) dX11_more_66 (by decide)) X hV38 [] [0] rfl rfl rfl (by decide) (fun u H locs hV43 => ?_)
              have hV43 : kV E A s.heap H locs [(a0, .inr (11, [w0_0, w0_1, w0_2, w0_3, w0_4, w0_5, w0_6, w0_7, w0_8]))] := hV43.sub [0] rfl rfl
              clear hV38
              refine lv_iload hx hb dX11_more_69 (lv_at hlB44 3 rfl) ?_
              refine lv_i2l (v := Int32.toInt64 p4) hx hb dX11_more_71 rfl ?_
              refine lv_lmul hx hb dX11_more_72 ?_
              refine W.lcmp hx hb dX11_more_73 ?_
              refine lv_if_lt (tgt := 89) hx hb dX11_more_74 (by decide) (fun c45 => ?_) (fun c45 => ?_)
              · have h46 := itS c45 h42
                clear h42 c45
                obtain ⟨v89_48, e49, h50⟩ := nmI_s h46
                clear h46
                refine lv_iinc (v := v89_48) (lv' := [(7, .int v89_48), (1, .int p1), (2, .int p2), (3, .int p3), (4, .int p4), (5, .int p5), (6, .int x6_30)]) hx hb dX11_more_89 hlB44 (k := 6) rfl (by rw [e49]; rfl) (by decide) rfl (fun ls hl51 => ?_)
                clear hlB44 e49
                refine lv_goto (tgt := 44) hx hb dX11_more_92 (by decide) ?_
                exact ih44 x6_30 v89_48 _ _ _ h50 hV43 (lv_sub hl51 [1, 2, 3, 4, 5, 6, 0] rfl)
              · have h47 := ieS c45 h42
                clear h42 c45
                refine lv_iload hx hb dX11_more_77 (lv_at hlB44 4 rfl) ?_
                refine lv_if_ne (tgt := 85) hx hb dX11_more_79 (by decide) (fun c52 => ?_) (fun c52 => ?_)
                · have h53 := ieS c52 h47
                  clear h47 c52
                  refine lv_iload hx hb dX11_more_85 (lv_at hlB44 6 rfl) ?_
                  refine lv_istore (lv' := [(6, .int x7_31), (1, .int p1), (2, .int p2), (3, .int p3), (4, .int p4), (5, .int p5), (7, .int x7_31)]) hx hb dX11_more_87 hlB44 (by decide) rfl (fun ls hl55 => ?_)
                  clear hlB44
                  obtain ⟨v89_56, e57, h58⟩ := nmI_s h53
                  clear h53
                  refine lv_iinc (v := v89_56) (lv' := [(7, .int v89_56), (6, .int x7_31), (1, .int p1), (2, .int p2), (3, .int p3), (4, .int p4), (5, .int p5)]) hx hb dX11_more_89 hl55 (k := 6) rfl (by rw [e57]; rfl) (by decide) rfl (fun ls hl59 => ?_)
                  clear hl55 e57
                  refine lv_goto (tgt := 44) hx hb dX11_more_92 (by decide) ?_
                  exact ih44 x7_31 v89_56 _ _ _ h58 hV43 (lv_sub hl59 [2, 3, 4, 5, 6, 1, 0] rfl)
                · have h54 := itS c52 h47
                  clear h47 c52
                  refine lv_iload hx hb dX11_more_82 (lv_at hlB44 6 rfl) ?_
                  cases h54
                  exact hret _ () _ _ _ _ rfl rfl hV43 dX11_more_84
        exact L44 FU (-2) v42_26 _ _ _ h28 hV20 (lv_sub hl29 [3, 4, 5, 6, 7, 1, 0] rfl)
      · have h24 := itS c22 h19
        clear h19 c22
        refine lv_iconst (v := (-1)) hx hb dX11_more_31 (by decide) ?_
        cases h24
        exact hret _ () _ _ _ _ rfl rfl hV20 dX11_more_32
abbrev r_X11_check : Room := { frames := 5, cells := 0, slots := 0, locals := 112 }
set_option maxHeartbeats 4000000 in
set_option maxRecDepth 100000 in
theorem c_X11_check (l : Launch) (E : kE) (sz : Nat) (a0 a1 a2 a3 a4 a5 a6 a7 a8 a9 a10 a11 : Nat) (w0_1 w0_5 w0_6 w0_7 w0_8 w2_1 w2_3 w3_0 w8_1 : Value) (s_page_readers : Int32) (s_page_day : Int32) (s_sky_many : Int32) (s_tape_length : Int32) (s_ways : Nat → Option Nat) (s_page_heights : Nat → Int32) (s_page_highest : Nat → Int32) (s_page_marked : Nat → Int32) (s_page_shapes : Nat → Int32) (s_sky_sources : Nat → Option Nat) (s_page_reckoner_letters : Nat → Int32) (p1 : Int32) (p2 : Int32) (p3 : Int32) (r : Int32) (o_page_readers : Int32) (o_page_day : Int32) (o_tape_length : Int32) (o_page_heights : Nat → Int32) (o_page_highest : Nat → Int32) (o_page_marked : Nat → Int32) (o_page_shapes : Nat → Int32) (o_page_reckoner_letters : Nat → Int32) (h : f_X11_check s_page_readers s_page_day s_sky_many s_tape_length s_ways s_page_heights s_page_highest s_page_marked s_page_shapes s_sky_sources s_page_reckoner_letters p1 p2 p3 = some (r, o_page_readers, o_page_day, o_tape_length, o_page_heights, o_page_highest, o_page_marked, o_page_shapes, o_page_reckoner_letters)) : kMi l yX11_check cX11_check 5 (some .int) r_X11_check [.ref a0, .int p1, .int p2, .int p3] E [(a0, .inr (11, [.ref a3, w0_1, .ref a2, .ref a1, .ref a4, w0_5, w0_6, w0_7, w0_8])), (a1, .inr (4, [.ref a5, .ref a9, .ref a6, .ref a7, .ref a8, .int s_page_readers, .int s_page_day])), (a2, .inr (7, [.ref a10, w2_1, .int s_sky_many, w2_3])), (a3, .inr (9, [w3_0, .int s_tape_length])), (a4, .inl (E.2 4, 4, .inr (.inr (.inr (.inr s_ways))))), (a5, .inl (E.2 0, 1440, .inl s_page_heights)), (a6, .inl (E.2 0, 1440, .inl s_page_highest)), (a7, .inl (E.2 0, 1440, .inl s_page_marked)), (a8, .inr (5, [.ref a11, w8_1])), (a9, .inl (E.2 0, 1440, .inl s_page_shapes)), (a10, .inl (E.2 3, 10, .inr (.inr (.inr (.inr s_sky_sources))))), (a11, .inl (E.2 0, 128, .inl s_page_reckoner_letters))] sz 0 0 (fun x (_ : Unit) => x = r) (fun _ => [(a0, .inr (11, [.ref a3, w0_1, .ref a2, .ref a1, .ref a4, w0_5, w0_6, w0_7, w0_8])), (a1, .inr (4, [.ref a5, .ref a9, .ref a6, .ref a7, .ref a8, .int o_page_readers, .int o_page_day])), (a2, .inr (7, [.ref a10, w2_1, .int s_sky_many, w2_3])), (a3, .inr (9, [w3_0, .int o_tape_length])), (a4, .inl (E.2 4, 4, .inr (.inr (.inr (.inr s_ways))))), (a5, .inl (E.2 0, 1440, .inl o_page_heights)), (a6, .inl (E.2 0, 1440, .inl o_page_highest)), (a7, .inl (E.2 0, 1440, .inl o_page_marked)), (a8, .inr (5, [.ref a11, w8_1])), (a9, .inl (E.2 0, 1440, .inl o_page_shapes)), (a10, .inl (E.2 3, 10, .inr (.inr (.inr (.inr s_sky_sources))))), (a11, .inl (E.2 0, 128, .inl o_page_reckoner_letters))]) := by
  refine kmeti rfl (Nat.le_of_ble_eq_true rfl) ?_
  intro p e s m args below meth c ls A Q X hV hret hl
  have X : kC p s m c cX11_check 5 RX11 args E A := X
  have hx := X.1
  have hb := X.2.1
  have hl : lv_has ls 5 [(0, .ref a0), (1, .int p1), (2, .int p2), (3, .int p3)] := hl
  rw [f_X11_check] at h
  refine lv_iload_n hx hb dX11_check_0 rfl (lv_at hl 1 rfl) ?_
  obtain ⟨r1_1, hc2, h3⟩ := cb1_s h
  clear h
  refine kgoiE (krunS (rest := []) X hV [] (c_X11_isReader l E _ p1 r1_1 hc2) mw_584 kb_X11_isReader (by decide) rfl rfl hl.1 rfl (Nat.le_of_ble_eq_true rfl) dX11_check_1 (by decide)) X hV [] [0, 1, 2, 3, 4, 5, 6, 7, 8, 9, 10, 11] rfl rfl rfl (by decide) (fun u H locs hV4 => ?_)
  have hV4 : kV E A s.heap H locs [(a0, .inr (11, [.ref a3, w0_1, .ref a2, .ref a1, .ref a4, w0_5, w0_6, w0_7, w0_8])), (a1, .inr (4, [.ref a5, .ref a9, .ref a6, .ref a7, .ref a8, .int s_page_readers, .int s_page_day])), (a2, .inr (7, [.ref a10, w2_1, .int s_sky_many, w2_3])), (a3, .inr (9, [w3_0, .int s_tape_length])), (a4, .inl (E.2 4, 4, .inr (.inr (.inr (.inr s_ways))))), (a5, .inl (E.2 0, 1440, .inl s_page_heights)), (a6, .inl (E.2 0, 1440, .inl s_page_highest)), (a7, .inl (E.2 0, 1440, .inl s_page_marked)), (a8, .inr (5, [.ref a11, w8_1])), (a9, .inl (E.2 0, 1440, .inl s_page_shapes)), (a10, .inl (E.2 3, 10, .inr (.inr (.inr (.inr s_sky_sources))))), (a11, .inl (E.2 0, 128, .inl s_page_reckoner_letters))] := hV4.sub [0, 1, 2, 3, 4, 5, 6, 7, 8, 9, 10, 11] rfl rfl
  clear hV
  refine lv_if_eq (tgt := 32) hx hb dX11_check_4 (by decide) (fun c6 => ?_) (fun c6 => ?_)
  · have h7 := itS c6 h3
    clear h3 c6
    refine lv_bipush (v := (-2)) hx hb dX11_check_32 (by decide) ?_
    cases h7
    exact hret _ () _ _ _ _ rfl rfl hV4 dX11_check_34
  · have h8 := ieS c6 h3
    clear h3 c6
    refine lv_iload_n hx hb dX11_check_7 rfl (lv_at hl 2 rfl) ?_
    obtain ⟨r8_9, hc10, h11⟩ := cb1_s h8
    clear h8
    refine kgoiE (krunS (rest := []) X hV4 [] (c_X11_isDay l E _ p2 r8_9 hc10) mw_622 kb_X11_isDay (by decide) rfl rfl hl.1 rfl (Nat.le_of_ble_eq_true rfl) dX11_check_8 (by decide)) X hV4 [] [0, 1, 2, 3, 4, 5, 6, 7, 8, 9, 10, 11] rfl rfl rfl (by decide) (fun u H locs hV12 => ?_)
    have hV12 : kV E A s.heap H locs [(a0, .inr (11, [.ref a3, w0_1, .ref a2, .ref a1, .ref a4, w0_5, w0_6, w0_7, w0_8])), (a1, .inr (4, [.ref a5, .ref a9, .ref a6, .ref a7, .ref a8, .int s_page_readers, .int s_page_day])), (a2, .inr (7, [.ref a10, w2_1, .int s_sky_many, w2_3])), (a3, .inr (9, [w3_0, .int s_tape_length])), (a4, .inl (E.2 4, 4, .inr (.inr (.inr (.inr s_ways))))), (a5, .inl (E.2 0, 1440, .inl s_page_heights)), (a6, .inl (E.2 0, 1440, .inl s_page_highest)), (a7, .inl (E.2 0, 1440, .inl s_page_marked)), (a8, .inr (5, [.ref a11, w8_1])), (a9, .inl (E.2 0, 1440, .inl s_page_shapes)), (a10, .inl (E.2 3, 10, .inr (.inr (.inr (.inr s_sky_sources))))), (a11, .inl (E.2 0, 128, .inl s_page_reckoner_letters))] := hV12.sub [0, 1, 2, 3, 4, 5, 6, 7, 8, 9, 10, 11] rfl rfl
    clear hV4
    refine lv_if_eq (tgt := 32) hx hb dX11_check_11 (by decide) (fun c14 => ?_) (fun c14 => ?_)
    · have h15 := itS c14 h11
      clear h11 c14
      refine lv_bipush (v := (-2)) hx hb dX11_check_32 (by decide) ?_
      cases h15
      exact hret _ () _ _ _ _ rfl rfl hV12 dX11_check_34
    · have h16 := ieS c14 h11
      clear h11 c14
      refine lv_iload_n hx hb dX11_check_14 rfl (lv_at hl 3 rfl) ?_
      refine lv_iconst (v := 0) hx hb dX11_check_15 (by decide) ?_
      refine lv_aload_n hx hb dX11_check_16 rfl (lv_at hl 0 rfl) ?_
      refine kget X hV12 (ci := 11) inlX11 rfl 0 rfl 0 (by decide) mw_15 rfl dX11_check_17 ?_
      refine kget X hV12 (ci := 9) inlX9 rfl 3 rfl 1 (by decide) mw_242 rfl dX11_check_20 ?_
      refine lv_bipush (v := 12) hx hb dX11_check_23 (by decide) ?_
      refine lv_idiv hx hb dX11_check_25 (by decide) ?_
      obtain ⟨r26_17, hc18, h19⟩ := cb1_s h16
      clear h16
      refine kgoiE (krunS (rest := []) X hV12 [] (c_X11_isWithin l E _ p3 0 (s_tape_length / 12) r26_17 hc18) mw_187 kb_X11_isWithin (by decide) rfl rfl hl.1 rfl (Nat.le_of_ble_eq_true rfl) dX11_check_26 (by decide)) X hV12 [] [0, 1, 2, 3, 4, 5, 6, 7, 8, 9, 10, 11] rfl rfl rfl (by decide) (fun u H locs hV20 => ?_)
      have hV20 : kV E A s.heap H locs [(a0, .inr (11, [.ref a3, w0_1, .ref a2, .ref a1, .ref a4, w0_5, w0_6, w0_7, w0_8])), (a1, .inr (4, [.ref a5, .ref a9, .ref a6, .ref a7, .ref a8, .int s_page_readers, .int s_page_day])), (a2, .inr (7, [.ref a10, w2_1, .int s_sky_many, w2_3])), (a3, .inr (9, [w3_0, .int s_tape_length])), (a4, .inl (E.2 4, 4, .inr (.inr (.inr (.inr s_ways))))), (a5, .inl (E.2 0, 1440, .inl s_page_heights)), (a6, .inl (E.2 0, 1440, .inl s_page_highest)), (a7, .inl (E.2 0, 1440, .inl s_page_marked)), (a8, .inr (5, [.ref a11, w8_1])), (a9, .inl (E.2 0, 1440, .inl s_page_shapes)), (a10, .inl (E.2 3, 10, .inr (.inr (.inr (.inr s_sky_sources))))), (a11, .inl (E.2 0, 128, .inl s_page_reckoner_letters))] := hV20.sub [0, 1, 2, 3, 4, 5, 6, 7, 8, 9, 10, 11] rfl rfl
      clear hV12
      refine lv_if_ne (tgt := 35) hx hb dX11_check_29 (by decide) (fun c22 => ?_) (fun c22 => ?_)
      · have h23 := ieS c22 h19
        clear h19 c22
        refine lv_aload_n hx hb dX11_check_35 rfl (lv_at hl 0 rfl) ?_
        refine kget X hV20 (ci := 11) inlX11 rfl 0 rfl 2 (by decide) mw_23 rfl dX11_check_36 ?_
        refine lv_aload_n hx hb dX11_check_39 rfl (lv_at hl 0 rfl) ?_
        refine kget X hV20 (ci := 11) inlX11 rfl 0 rfl 3 (by decide) mw_27 rfl dX11_check_40 ?_
        refine lv_iload_n hx hb dX11_check_43 rfl (lv_at hl 2 rfl) ?_
        obtain ⟨o_p1_readers44_25, o_p1_day44_26, o_p1_heights44_27, o_p1_highest44_28, o_p1_shapes44_29, hc30, h31⟩ := cb5_s h23
        clear h23
        refine kgov (krunV (rest := []) X hV20 [2, 1, 5, 6, 9, 10] (c_X7_lay l E _ a2 a1 a5 a6 a9 a10 (w2_1) (w2_3) (.ref a7) (.ref a8) s_sky_many s_page_readers s_page_day s_page_heights s_page_highest s_page_shapes s_sky_sources p2 o_p1_readers44_25 o_p1_day44_26 o_p1_heights44_27 o_p1_highest44_28 o_p1_shapes44_29 hc30) mw_767 kb_X7_lay (ci := 7) rfl rfl (by decide) rfl rfl hl.1 rfl (Nat.le_of_ble_eq_true rfl) dX11_check_44 (by decide)) X hV20 [2, 1, 5, 6, 9, 10] [0, 3, 4, 7, 8, 11] rfl rfl rfl (by decide) (fun u H locs hp33 hV32 => ?_)
        have hV32 : kV E A s.heap H locs [(a0, .inr (11, [.ref a3, w0_1, .ref a2, .ref a1, .ref a4, w0_5, w0_6, w0_7, w0_8])), (a1, .inr (4, [.ref a5, .ref a9, .ref a6, .ref a7, .ref a8, .int o_p1_readers44_25, .int o_p1_day44_26])), (a2, .inr (7, [.ref a10, w2_1, .int s_sky_many, w2_3])), (a3, .inr (9, [w3_0, .int s_tape_length])), (a4, .inl (E.2 4, 4, .inr (.inr (.inr (.inr s_ways))))), (a5, .inl (E.2 0, 1440, .inl o_p1_heights44_27)), (a6, .inl (E.2 0, 1440, .inl o_p1_highest44_28)), (a7, .inl (E.2 0, 1440, .inl s_page_marked)), (a8, .inr (5, [.ref a11, w8_1])), (a9, .inl (E.2 0, 1440, .inl o_p1_shapes44_29)), (a10, .inl (E.2 3, 10, .inr (.inr (.inr (.inr s_sky_sources))))), (a11, .inl (E.2 0, 128, .inl s_page_reckoner_letters))] := hV32.sub [0, 7, 6, 1, 2, 8, 9, 3, 4, 10, 11, 5] rfl rfl
        clear hV20
        refine lv_aload_n hx hb dX11_check_47 rfl (lv_at hl 0 rfl) ?_
        refine kget X hV32 (ci := 11) inlX11 rfl 0 rfl 3 (by decide) mw_27 rfl dX11_check_48 ?_
        refine lv_iload_n hx hb dX11_check_51 rfl (lv_at hl 1 rfl) ?_
        refine lv_aload_n hx hb dX11_check_52 rfl (lv_at hl 0 rfl) ?_
        refine kget X hV32 (ci := 11) inlX11 rfl 0 rfl 4 (by decide) mw_29 rfl dX11_check_53 ?_
        refine lv_iload_n hx hb dX11_check_56 rfl (lv_at hl 1 rfl) ?_
        obtain ⟨hi34, e35, h36⟩ := rdN_s h31
        clear h31
        refine kaald X hV32 4 4 rfl rfl hi34 e35 dX11_check_57 ?_
        clear hi34 e35
        refine W.eq (g2 := F0 m 58 ls [.null, .int p1, .ref a1]) rfl ?_
        obtain ⟨o_readers58_37, o_marked58_38, o_reckoner_letters58_39, hc40, h41⟩ := cb3_s h36
        clear h36
        refine kgov (krunV (rest := []) X hV32 [1, 5, 7, 8, 9, 11] (c_X4_read l E _ a1 a5 a7 a8 a9 a11 (.ref a6) (w8_1) o_p1_readers44_25 o_p1_day44_26 o_p1_heights44_27 s_page_marked o_p1_shapes44_29 s_page_reckoner_letters p1 o_readers58_37 o_marked58_38 o_reckoner_letters58_39 hc40) mw_807 kb_X4_read (ci := 4) rfl rfl (by decide) rfl rfl hl.1 rfl (Nat.le_of_ble_eq_true rfl) dX11_check_58 (by decide)) X hV32 [1, 5, 7, 8, 9, 11] [0, 2, 3, 4, 6, 10] rfl rfl rfl (by decide) (fun u H locs hp43 hV42 => ?_)
        have hV42 : kV E A s.heap H locs [(a0, .inr (11, [.ref a3, w0_1, .ref a2, .ref a1, .ref a4, w0_5, w0_6, w0_7, w0_8])), (a1, .inr (4, [.ref a5, .ref a9, .ref a6, .ref a7, .ref a8, .int o_readers58_37, .int o_p1_day44_26])), (a2, .inr (7, [.ref a10, w2_1, .int s_sky_many, w2_3])), (a3, .inr (9, [w3_0, .int s_tape_length])), (a4, .inl (E.2 4, 4, .inr (.inr (.inr (.inr s_ways))))), (a5, .inl (E.2 0, 1440, .inl o_p1_heights44_27)), (a6, .inl (E.2 0, 1440, .inl o_p1_highest44_28)), (a7, .inl (E.2 0, 1440, .inl o_marked58_38)), (a8, .inr (5, [.ref a11, w8_1])), (a9, .inl (E.2 0, 1440, .inl o_p1_shapes44_29)), (a10, .inl (E.2 3, 10, .inr (.inr (.inr (.inr s_sky_sources))))), (a11, .inl (E.2 0, 128, .inl o_reckoner_letters58_39))] := hV42.sub [0, 6, 1, 2, 3, 7, 4, 8, 9, 10, 5, 11] rfl rfl
        clear hV32
        refine lv_aload_n hx hb dX11_check_61 rfl (lv_at hl 0 rfl) ?_
        refine kget X hV42 (ci := 11) inlX11 rfl 0 rfl 3 (by decide) mw_27 rfl dX11_check_62 ?_
        refine lv_iload_n hx hb dX11_check_65 rfl (lv_at hl 1 rfl) ?_
        refine lv_aload_n hx hb dX11_check_66 rfl (lv_at hl 0 rfl) ?_
        refine kget X hV42 (ci := 11) inlX11 rfl 0 rfl 0 (by decide) mw_15 rfl dX11_check_67 ?_
        refine lv_iload_n hx hb dX11_check_70 rfl (lv_at hl 3 rfl) ?_
        obtain ⟨r71_44, hc45, h46⟩ := cb1_s h41
        clear h41
        refine kgoiE (krunV (rest := []) X hV42 [1, 7] (c_X4_firstWrong l E _ a1 a7 a3 (.ref a5) (.ref a9) (.ref a6) (.ref a8) (.int o_readers58_37) (.int o_p1_day44_26) o_marked58_38 p1 p3 r71_44 hc45) mw_1308 kb_X4_firstWrong (ci := 4) rfl rfl (by decide) rfl rfl hl.1 rfl (Nat.le_of_ble_eq_true rfl) dX11_check_71 (by decide)) X hV42 [1, 7] [0, 2, 3, 4, 5, 6, 8, 9, 10, 11] rfl rfl rfl (by decide) (fun u H locs hV47 => ?_)
        have hV47 : kV E A s.heap H locs [(a0, .inr (11, [.ref a3, w0_1, .ref a2, .ref a1, .ref a4, w0_5, w0_6, w0_7, w0_8])), (a1, .inr (4, [.ref a5, .ref a9, .ref a6, .ref a7, .ref a8, .int o_readers58_37, .int o_p1_day44_26])), (a2, .inr (7, [.ref a10, w2_1, .int s_sky_many, w2_3])), (a3, .inr (9, [w3_0, .int s_tape_length])), (a4, .inl (E.2 4, 4, .inr (.inr (.inr (.inr s_ways))))), (a5, .inl (E.2 0, 1440, .inl o_p1_heights44_27)), (a6, .inl (E.2 0, 1440, .inl o_p1_highest44_28)), (a7, .inl (E.2 0, 1440, .inl o_marked58_38)), (a8, .inr (5, [.ref a11, w8_1])), (a9, .inl (E.2 0, 1440, .inl o_p1_shapes44_29)), (a10, .inl (E.2 3, 10, .inr (.inr (.inr (.inr s_sky_sources))))), (a11, .inl (E.2 0, 128, .inl o_reckoner_letters58_39))] := hV47.sub [0, 10, 1, 2, 3, 4, 5, 11, 6, 7, 8, 9] rfl rfl
        clear hV42
        refine lv_istore (lv' := [(4, .int r71_44), (0, .ref a0), (1, .int p1), (2, .int p2), (3, .int p3)]) hx hb dX11_check_74 hl (by decide) rfl (fun ls hl49 => ?_)
        clear hl
        refine lv_aload_n hx hb dX11_check_76 rfl (lv_at hl49 1 rfl) ?_
        refine kget X hV47 (ci := 11) inlX11 rfl 0 rfl 0 (by decide) mw_15 rfl dX11_check_77 ?_
        obtain ⟨o_length80_50, hc51, h52⟩ := cb1_s h46
        clear h46
        refine kgov (krunV (rest := []) X hV47 [3] (c_X9_clear l E _ a3 (w3_0) s_tape_length o_length80_50 hc51) mw_449 kb_X9_clear (ci := 9) rfl rfl (by decide) rfl rfl hl49.1 rfl (Nat.le_of_ble_eq_true rfl) dX11_check_80 (by decide)) X hV47 [3] [0, 1, 2, 4, 5, 6, 7, 8, 9, 10, 11] rfl rfl rfl (by decide) (fun u H locs hp54 hV53 => ?_)
        have hV53 : kV E A s.heap H locs [(a0, .inr (11, [.ref a3, w0_1, .ref a2, .ref a1, .ref a4, w0_5, w0_6, w0_7, w0_8])), (a1, .inr (4, [.ref a5, .ref a9, .ref a6, .ref a7, .ref a8, .int o_readers58_37, .int o_p1_day44_26])), (a2, .inr (7, [.ref a10, w2_1, .int s_sky_many, w2_3])), (a3, .inr (9, [w3_0, .int o_length80_50])), (a4, .inl (E.2 4, 4, .inr (.inr (.inr (.inr s_ways))))), (a5, .inl (E.2 0, 1440, .inl o_p1_heights44_27)), (a6, .inl (E.2 0, 1440, .inl o_p1_highest44_28)), (a7, .inl (E.2 0, 1440, .inl o_marked58_38)), (a8, .inr (5, [.ref a11, w8_1])), (a9, .inl (E.2 0, 1440, .inl o_p1_shapes44_29)), (a10, .inl (E.2 3, 10, .inr (.inr (.inr (.inr s_sky_sources))))), (a11, .inl (E.2 0, 128, .inl o_reckoner_letters58_39))] := hV53.sub [0, 1, 2, 11, 3, 4, 5, 6, 7, 8, 9, 10] rfl rfl
        clear hV47
        refine lv_iload hx hb dX11_check_83 (lv_at hl49 0 rfl) ?_
        cases h52
        exact hret _ () _ _ _ _ rfl rfl hV53 dX11_check_85
      · have h24 := itS c22 h19
        clear h19 c22
        refine lv_bipush (v := (-2)) hx hb dX11_check_32 (by decide) ?_
        cases h24
        exact hret _ () _ _ _ _ rfl rfl hV20 dX11_check_34
abbrev r_X11_count : Room := { frames := 3, cells := 0, slots := 0, locals := 65 }
set_option maxHeartbeats 4000000 in
set_option maxRecDepth 100000 in
theorem c_X11_count (l : Launch) (E : kE) (sz : Nat) (a0 a1 a2 a3 a4 a5 a6 a7 a8 : Nat) (w0_1 w0_3 w0_8 w1_0 w1_1 w1_3 w1_4 w1_5 w2_0 w2_1 w2_2 w2_3 w3_0 w3_1 w3_2 w3_3 w4_1 w5_0 : Value) (s_blips_many : Int32) (s_nights_many : Int32) (s_notes_many : Int32) (s_sky_many : Int32) (s_sky_seed : Int32) (s_tape_length : Int32) (s_ways : Nat → Option Nat) (s_nights_stories : Nat → Option Nat) (s_sky_sources : Nat → Option Nat) (p1 : Int32) (r : Int32) (h : f_X11_count s_blips_many s_nights_many s_notes_many s_sky_many s_sky_seed s_tape_length s_ways s_nights_stories s_sky_sources p1 = some (r)) : kMi l yX11_count cX11_count 2 (some .int) r_X11_count [.ref a0, .int p1] E [(a0, .inr (11, [.ref a5, w0_1, .ref a4, w0_3, .ref a6, .ref a3, .ref a1, .ref a2, w0_8])), (a1, .inr (0, [w1_0, w1_1, .int s_blips_many, w1_3, w1_4, w1_5])), (a2, .inr (2, [w2_0, w2_1, w2_2, w2_3, .ref a7, .int s_nights_many])), (a3, .inr (3, [w3_0, w3_1, w3_2, w3_3, .int s_notes_many])), (a4, .inr (7, [.ref a8, w4_1, .int s_sky_many, .int s_sky_seed])), (a5, .inr (9, [w5_0, .int s_tape_length])), (a6, .inl (E.2 4, 4, .inr (.inr (.inr (.inr s_ways))))), (a7, .inl (E.2 4, 6, .inr (.inr (.inr (.inr s_nights_stories))))), (a8, .inl (E.2 3, 10, .inr (.inr (.inr (.inr s_sky_sources)))))] sz 0 0 (fun x (_ : Unit) => x = r) (fun _ => [(a0, .inr (11, [.ref a5, w0_1, .ref a4, w0_3, .ref a6, .ref a3, .ref a1, .ref a2, w0_8])), (a1, .inr (0, [w1_0, w1_1, .int s_blips_many, w1_3, w1_4, w1_5])), (a2, .inr (2, [w2_0, w2_1, w2_2, w2_3, .ref a7, .int s_nights_many])), (a3, .inr (3, [w3_0, w3_1, w3_2, w3_3, .int s_notes_many])), (a4, .inr (7, [.ref a8, w4_1, .int s_sky_many, .int s_sky_seed])), (a5, .inr (9, [w5_0, .int s_tape_length])), (a6, .inl (E.2 4, 4, .inr (.inr (.inr (.inr s_ways))))), (a7, .inl (E.2 4, 6, .inr (.inr (.inr (.inr s_nights_stories))))), (a8, .inl (E.2 3, 10, .inr (.inr (.inr (.inr s_sky_sources)))))]) := by
  refine kmeti rfl (Nat.le_of_ble_eq_true rfl) ?_
  intro p e s m args below meth c ls A Q X hV hret hl
  have X : kC p s m c cX11_count 2 RX11 args E A := X
  have hx := X.1
  have hb := X.2.1
  have hl : lv_has ls 2 [(0, .ref a0), (1, .int p1)] := hl
  rw [f_X11_count] at h
  refine lv_iload_n hx hb dX11_count_0 rfl (lv_at hl 1 rfl) ?_
  by_cases c1 : p1 = 0
  · have h2 := itS c1 h
    refine lv_tableIn (tgt := 40) (off := 39) hx hb dX11_count_1 (by rw [c1]; decide) (by rw [c1]; decide) (by rw [c1]; decide) (by decide) ?_
    clear h
    refine lv_aload_n hx hb dX11_count_40 rfl (lv_at hl 0 rfl) ?_
    refine kget X hV (ci := 11) inlX11 rfl 0 rfl 2 (by decide) mw_23 rfl dX11_count_41 ?_
    refine kget X hV (ci := 7) inlX7 rfl 4 rfl 2 (by decide) mw_180 rfl dX11_count_44 ?_
    cases h2
    exact hret _ () _ _ _ _ rfl rfl hV dX11_count_47
  · have h3 := ieS c1 h
    clear h
    by_cases c4 : p1 = 1
    · have h5 := itS c4 h3
      refine lv_tableIn (tgt := 48) (off := 47) hx hb dX11_count_1 (by rw [c4]; decide) (by rw [c4]; decide) (by rw [c4]; decide) (by decide) ?_
      clear h3
      refine lv_aload_n hx hb dX11_count_48 rfl (lv_at hl 0 rfl) ?_
      refine kget X hV (ci := 11) inlX11 rfl 0 rfl 5 (by decide) mw_33 rfl dX11_count_49 ?_
      refine kget X hV (ci := 3) inlX3 rfl 3 rfl 4 (by decide) mw_1328 rfl dX11_count_52 ?_
      cases h5
      exact hret _ () _ _ _ _ rfl rfl hV dX11_count_55
    · have h6 := ieS c4 h3
      clear h3
      by_cases c7 : p1 = 2
      · have h8 := itS c7 h6
        refine lv_tableIn (tgt := 56) (off := 55) hx hb dX11_count_1 (by rw [c7]; decide) (by rw [c7]; decide) (by rw [c7]; decide) (by decide) ?_
        clear h6
        refine lv_aload_n hx hb dX11_count_56 rfl (lv_at hl 0 rfl) ?_
        refine kget X hV (ci := 11) inlX11 rfl 0 rfl 6 (by decide) mw_37 rfl dX11_count_57 ?_
        refine kget X hV (ci := 0) inlX0 rfl 1 rfl 2 (by decide) mw_997 rfl dX11_count_60 ?_
        cases h8
        exact hret _ () _ _ _ _ rfl rfl hV dX11_count_63
      · have h9 := ieS c7 h6
        clear h6
        by_cases c10 : p1 = 3
        · have h11 := itS c10 h9
          refine lv_tableIn (tgt := 64) (off := 63) hx hb dX11_count_1 (by rw [c10]; decide) (by rw [c10]; decide) (by rw [c10]; decide) (by decide) ?_
          clear h9
          refine lv_aload_n hx hb dX11_count_64 rfl (lv_at hl 0 rfl) ?_
          refine kget X hV (ci := 11) inlX11 rfl 0 rfl 7 (by decide) mw_41 rfl dX11_count_65 ?_
          refine kget X hV (ci := 2) inlX2 rfl 2 rfl 5 (by decide) mw_1113 rfl dX11_count_68 ?_
          cases h11
          exact hret _ () _ _ _ _ rfl rfl hV dX11_count_71
        · have h12 := ieS c10 h9
          clear h9
          by_cases c13 : p1 = 4
          · have h14 := itS c13 h12
            refine lv_tableIn (tgt := 72) (off := 71) hx hb dX11_count_1 (by rw [c13]; decide) (by rw [c13]; decide) (by rw [c13]; decide) (by decide) ?_
            clear h12
            refine lv_aload_n hx hb dX11_count_72 rfl (lv_at hl 0 rfl) ?_
            refine kget X hV (ci := 11) inlX11 rfl 0 rfl 2 (by decide) mw_23 rfl dX11_count_73 ?_
            refine kget X hV (ci := 7) inlX7 rfl 4 rfl 3 (by decide) mw_231 rfl dX11_count_76 ?_
            cases h14
            exact hret _ () _ _ _ _ rfl rfl hV dX11_count_79
          · have h15 := ieS c13 h12
            clear h12
            by_cases c16 : p1 = 5
            · have h17 := itS c16 h15
              refine lv_tableIn (tgt := 80) (off := 79) hx hb dX11_count_1 (by rw [c16]; decide) (by rw [c16]; decide) (by rw [c16]; decide) (by decide) ?_
              clear h15
              refine lv_aload_n hx hb dX11_count_80 rfl (lv_at hl 0 rfl) ?_
              refine kget X hV (ci := 11) inlX11 rfl 0 rfl 0 (by decide) mw_15 rfl dX11_count_81 ?_
              refine kget X hV (ci := 9) inlX9 rfl 5 rfl 1 (by decide) mw_242 rfl dX11_count_84 ?_
              cases h17
              exact hret _ () _ _ _ _ rfl rfl hV dX11_count_87
            · have h18 := ieS c16 h15
              clear h15
              refine lv_tableOut (tgt := 88) hx hb dX11_count_1 (by have ec1 : ¬ p1.toInt = 0 := fun q => c1 (Int32.toInt_inj.mp (q.trans (by decide))); have ec4 : ¬ p1.toInt = 1 := fun q => c4 (Int32.toInt_inj.mp (q.trans (by decide))); have ec7 : ¬ p1.toInt = 2 := fun q => c7 (Int32.toInt_inj.mp (q.trans (by decide))); have ec10 : ¬ p1.toInt = 3 := fun q => c10 (Int32.toInt_inj.mp (q.trans (by decide))); have ec13 : ¬ p1.toInt = 4 := fun q => c13 (Int32.toInt_inj.mp (q.trans (by decide))); have ec16 : ¬ p1.toInt = 5 := fun q => c16 (Int32.toInt_inj.mp (q.trans (by decide))); omega) (by decide) ?_
              refine lv_aload_n hx hb dX11_count_88 rfl (lv_at hl 0 rfl) ?_
              refine lv_iload_n hx hb dX11_count_89 rfl (lv_at hl 1 rfl) ?_
              obtain ⟨r90_19, hc20, h21⟩ := cb1_s h18
              clear h18
              refine kgoiE (krunV (rest := []) X hV [0, 2, 4, 6, 7, 8] (c_X11_textCount l E _ a0 a2 a4 a6 a7 a8 (.ref a5) (w0_1) (w0_3) (.ref a3) (.ref a1) (w0_8) (w2_0) (w2_1) (w2_2) (w2_3) (.int s_nights_many) (w4_1) (.int s_sky_seed) s_sky_many s_ways s_nights_stories s_sky_sources p1 r90_19 hc20) mw_1329 kb_X11_textCount (ci := 11) rfl rfl (by decide) rfl rfl hl.1 rfl (Nat.le_of_ble_eq_true rfl) dX11_count_90 (by decide)) X hV [0, 2, 4, 6, 7, 8] [1, 3, 5] rfl rfl rfl (by decide) (fun u H locs hV22 => ?_)
              have hV22 : kV E A s.heap H locs [(a0, .inr (11, [.ref a5, w0_1, .ref a4, w0_3, .ref a6, .ref a3, .ref a1, .ref a2, w0_8])), (a1, .inr (0, [w1_0, w1_1, .int s_blips_many, w1_3, w1_4, w1_5])), (a2, .inr (2, [w2_0, w2_1, w2_2, w2_3, .ref a7, .int s_nights_many])), (a3, .inr (3, [w3_0, w3_1, w3_2, w3_3, .int s_notes_many])), (a4, .inr (7, [.ref a8, w4_1, .int s_sky_many, .int s_sky_seed])), (a5, .inr (9, [w5_0, .int s_tape_length])), (a6, .inl (E.2 4, 4, .inr (.inr (.inr (.inr s_ways))))), (a7, .inl (E.2 4, 6, .inr (.inr (.inr (.inr s_nights_stories))))), (a8, .inl (E.2 3, 10, .inr (.inr (.inr (.inr s_sky_sources)))))] := hV22.sub [3, 0, 4, 1, 5, 2, 6, 7, 8] rfl rfl
              clear hV
              cases h21
              exact hret _ () _ _ _ _ rfl rfl hV22 dX11_count_93
