abbrev r_X11_isWithin : Room := { frames := 0, cells := 0, slots := 0, locals := 0 }
set_option maxHeartbeats 4000000 in
set_option maxRecDepth 100000 in
theorem c_X11_isWithin (l : Launch) (E : kE) (sz : Nat) (p1 : Int32) (p2 : Int32) (p3 : Int32) (r : Int32) (h : f_X11_isWithin p1 p2 p3 = some (r)) : kMi l yX11_isWithin cX11_isWithin 3 (some .boolean) r_X11_isWithin [.int p1, .int p2, .int p3] E [] sz 0 0 (fun x (_ : Unit) => x = r) (fun _ => []) := by
  refine kmeti rfl (Nat.le_of_ble_eq_true rfl) ?_
  intro p e s m args below meth c ls A Q X hV hret hl
  have X : kC p s m c cX11_isWithin 3 RX11 args E A := X
  have hx := X.1
  have hb := X.2.1
  have hl : lv_has ls 3 [(0, .int p1), (1, .int p2), (2, .int p3)] := hl
  rw [f_X11_isWithin] at h
  refine lv_iload_n hx hb dX11_isWithin_0 rfl (lv_at hl 0 rfl) ?_
  refine lv_iload_n hx hb dX11_isWithin_1 rfl (lv_at hl 1 rfl) ?_
  refine lv_icmp_lt (tgt := 14) hx hb dX11_isWithin_2 (by decide) (fun c1 => ?_) (fun c1 => ?_)
  · have h2 := itS c1 h
    clear h c1
    refine lv_iconst (v := 0) hx hb dX11_isWithin_14 (by decide) ?_
    cases h2
    exact hret _ () _ _ _ _ rfl rfl hV dX11_isWithin_15
  · have h3 := ieS c1 h
    clear h c1
    refine lv_iload_n hx hb dX11_isWithin_5 rfl (lv_at hl 0 rfl) ?_
    refine lv_iload_n hx hb dX11_isWithin_6 rfl (lv_at hl 2 rfl) ?_
    refine lv_icmp_gt (tgt := 14) hx hb dX11_isWithin_7 (by decide) (fun c4 => ?_) (fun c4 => ?_)
    · have h5 := itS c4 h3
      clear h3 c4
      refine lv_iconst (v := 0) hx hb dX11_isWithin_14 (by decide) ?_
      cases h5
      exact hret _ () _ _ _ _ rfl rfl hV dX11_isWithin_15
    · have h6 := ieS c4 h3
      clear h3 c4
      refine lv_iconst (v := 1) hx hb dX11_isWithin_10 (by decide) ?_
      refine lv_goto (tgt := 15) hx hb dX11_isWithin_11 (by decide) ?_
      cases h6
      exact hret _ () _ _ _ _ rfl rfl hV dX11_isWithin_15
abbrev r_X11_isDay : Room := { frames := 1, cells := 0, slots := 0, locals := 22 }
set_option maxHeartbeats 4000000 in
set_option maxRecDepth 100000 in
theorem c_X11_isDay (l : Launch) (E : kE) (sz : Nat) (p1 : Int32) (r : Int32) (h : f_X11_isDay p1 = some (r)) : kMi l yX11_isDay cX11_isDay 1 (some .boolean) r_X11_isDay [.int p1] E [] sz 0 0 (fun x (_ : Unit) => x = r) (fun _ => []) := by
  refine kmeti rfl (Nat.le_of_ble_eq_true rfl) ?_
  intro p e s m args below meth c ls A Q X hV hret hl
  have X : kC p s m c cX11_isDay 1 RX11 args E A := X
  have hx := X.1
  have hb := X.2.1
  have hl : lv_has ls 1 [(0, .int p1)] := hl
  rw [f_X11_isDay] at h
  refine lv_iload_n hx hb dX11_isDay_0 rfl (lv_at hl 0 rfl) ?_
  refine lv_iconst (v := 0) hx hb dX11_isDay_1 (by decide) ?_
  refine lv_sipush (v := 399) hx hb dX11_isDay_2 (by decide) ?_
  obtain ⟨r5_1, hc2, h3⟩ := cb1_s h
  clear h
  refine kgoiE (krunS (rest := []) X hV [] (c_X11_isWithin l E _ p1 0 399 r5_1 hc2) mw_187 kb_X11_isWithin (by decide) rfl rfl hl.1 rfl (Nat.le_of_ble_eq_true rfl) dX11_isDay_5 (by decide)) X hV [] [] rfl rfl rfl (by decide) (fun u H locs hV4 => ?_)
  have hV4 : kV E A s.heap H locs [] := hV4.sub [] rfl rfl
  clear hV
  obtain ⟨hb6, h7⟩ := bo_s h3
  clear h3
  cases h7
  exact hret _ () _ _ _ _ rfl hb6 hV4 dX11_isDay_8
abbrev r_X11_isMinute : Room := { frames := 1, cells := 0, slots := 0, locals := 22 }
set_option maxHeartbeats 4000000 in
set_option maxRecDepth 100000 in
theorem c_X11_isMinute (l : Launch) (E : kE) (sz : Nat) (p1 : Int32) (r : Int32) (h : f_X11_isMinute p1 = some (r)) : kMi l yX11_isMinute cX11_isMinute 1 (some .boolean) r_X11_isMinute [.int p1] E [] sz 0 0 (fun x (_ : Unit) => x = r) (fun _ => []) := by
  refine kmeti rfl (Nat.le_of_ble_eq_true rfl) ?_
  intro p e s m args below meth c ls A Q X hV hret hl
  have X : kC p s m c cX11_isMinute 1 RX11 args E A := X
  have hx := X.1
  have hb := X.2.1
  have hl : lv_has ls 1 [(0, .int p1)] := hl
  rw [f_X11_isMinute] at h
  refine lv_iload_n hx hb dX11_isMinute_0 rfl (lv_at hl 0 rfl) ?_
  refine lv_iconst (v := 0) hx hb dX11_isMinute_1 (by decide) ?_
  refine lv_sipush (v := 1439) hx hb dX11_isMinute_2 (by decide) ?_
  obtain ⟨r5_1, hc2, h3⟩ := cb1_s h
  clear h
  refine kgoiE (krunS (rest := []) X hV [] (c_X11_isWithin l E _ p1 0 1439 r5_1 hc2) mw_187 kb_X11_isWithin (by decide) rfl rfl hl.1 rfl (Nat.le_of_ble_eq_true rfl) dX11_isMinute_5 (by decide)) X hV [] [] rfl rfl rfl (by decide) (fun u H locs hV4 => ?_)
  have hV4 : kV E A s.heap H locs [] := hV4.sub [] rfl rfl
  clear hV
  obtain ⟨hb6, h7⟩ := bo_s h3
  clear h3
  cases h7
  exact hret _ () _ _ _ _ rfl hb6 hV4 dX11_isMinute_8
abbrev r_X11_isShape : Room := { frames := 1, cells := 0, slots := 0, locals := 22 }
set_option maxHeartbeats 4000000 in
set_option maxRecDepth 100000 in
theorem c_X11_isShape (l : Launch) (E : kE) (sz : Nat) (p1 : Int32) (r : Int32) (h : f_X11_isShape p1 = some (r)) : kMi l yX11_isShape cX11_isShape 1 (some .boolean) r_X11_isShape [.int p1] E [] sz 0 0 (fun x (_ : Unit) => x = r) (fun _ => []) := by
  refine kmeti rfl (Nat.le_of_ble_eq_true rfl) ?_
  intro p e s m args below meth c ls A Q X hV hret hl
  have X : kC p s m c cX11_isShape 1 RX11 args E A := X
  have hx := X.1
  have hb := X.2.1
  have hl : lv_has ls 1 [(0, .int p1)] := hl
  rw [f_X11_isShape] at h
  refine lv_iload_n hx hb dX11_isShape_0 rfl (lv_at hl 0 rfl) ?_
  refine lv_iconst (v := 0) hx hb dX11_isShape_1 (by decide) ?_
  refine lv_iconst (v := 3) hx hb dX11_isShape_2 (by decide) ?_
  obtain ⟨r3_1, hc2, h3⟩ := cb1_s h
  clear h
  refine kgoiE (krunS (rest := []) X hV [] (c_X11_isWithin l E _ p1 0 3 r3_1 hc2) mw_187 kb_X11_isWithin (by decide) rfl rfl hl.1 rfl (Nat.le_of_ble_eq_true rfl) dX11_isShape_3 (by decide)) X hV [] [] rfl rfl rfl (by decide) (fun u H locs hV4 => ?_)
  have hV4 : kV E A s.heap H locs [] := hV4.sub [] rfl rfl
  clear hV
  obtain ⟨hb6, h7⟩ := bo_s h3
  clear h3
  cases h7
  exact hret _ () _ _ _ _ rfl hb6 hV4 dX11_isShape_6
abbrev r_X11_isReader : Room := { frames := 1, cells := 0, slots := 0, locals := 22 }
set_option maxHeartbeats 4000000 in
set_option maxRecDepth 100000 in
theorem c_X11_isReader (l : Launch) (E : kE) (sz : Nat) (p1 : Int32) (r : Int32) (h : f_X11_isReader p1 = some (r)) : kMi l yX11_isReader cX11_isReader 1 (some .boolean) r_X11_isReader [.int p1] E [] sz 0 0 (fun x (_ : Unit) => x = r) (fun _ => []) := by
  refine kmeti rfl (Nat.le_of_ble_eq_true rfl) ?_
  intro p e s m args below meth c ls A Q X hV hret hl
  have X : kC p s m c cX11_isReader 1 RX11 args E A := X
  have hx := X.1
  have hb := X.2.1
  have hl : lv_has ls 1 [(0, .int p1)] := hl
  rw [f_X11_isReader] at h
  refine lv_iload_n hx hb dX11_isReader_0 rfl (lv_at hl 0 rfl) ?_
  refine lv_iconst (v := 0) hx hb dX11_isReader_1 (by decide) ?_
  refine lv_iconst (v := 3) hx hb dX11_isReader_2 (by decide) ?_
  obtain ⟨r3_1, hc2, h3⟩ := cb1_s h
  clear h
  refine kgoiE (krunS (rest := []) X hV [] (c_X11_isWithin l E _ p1 0 3 r3_1 hc2) mw_187 kb_X11_isWithin (by decide) rfl rfl hl.1 rfl (Nat.le_of_ble_eq_true rfl) dX11_isReader_3 (by decide)) X hV [] [] rfl rfl rfl (by decide) (fun u H locs hV4 => ?_)
  have hV4 : kV E A s.heap H locs [] := hV4.sub [] rfl rfl
  clear hV
  obtain ⟨hb6, h7⟩ := bo_s h3
  clear h3
  cases h7
  exact hret _ () _ _ _ _ rfl hb6 hV4 dX11_isReader_6
abbrev r_X11_isStory : Room := { frames := 1, cells := 0, slots := 0, locals := 22 }
set_option maxHeartbeats 4000000 in
set_option maxRecDepth 100000 in
theorem c_X11_isStory (l : Launch) (E : kE) (sz : Nat) (p1 : Int32) (r : Int32) (h : f_X11_isStory p1 = some (r)) : kMi l yX11_isStory cX11_isStory 1 (some .boolean) r_X11_isStory [.int p1] E [] sz 0 0 (fun x (_ : Unit) => x = r) (fun _ => []) := by
  refine kmeti rfl (Nat.le_of_ble_eq_true rfl) ?_
  intro p e s m args below meth c ls A Q X hV hret hl
  have X : kC p s m c cX11_isStory 1 RX11 args E A := X
  have hx := X.1
  have hb := X.2.1
  have hl : lv_has ls 1 [(0, .int p1)] := hl
  rw [f_X11_isStory] at h
  refine lv_iload_n hx hb dX11_isStory_0 rfl (lv_at hl 0 rfl) ?_
  refine lv_iconst (v := 0) hx hb dX11_isStory_1 (by decide) ?_
  refine lv_iconst (v := 5) hx hb dX11_isStory_2 (by decide) ?_
  obtain ⟨r3_1, hc2, h3⟩ := cb1_s h
  clear h
  refine kgoiE (krunS (rest := []) X hV [] (c_X11_isWithin l E _ p1 0 5 r3_1 hc2) mw_187 kb_X11_isWithin (by decide) rfl rfl hl.1 rfl (Nat.le_of_ble_eq_true rfl) dX11_isStory_3 (by decide)) X hV [] [] rfl rfl rfl (by decide) (fun u H locs hV4 => ?_)
  have hV4 : kV E A s.heap H locs [] := hV4.sub [] rfl rfl
  clear hV
  obtain ⟨hb6, h7⟩ := bo_s h3
  clear h3
  cases h7
  exact hret _ () _ _ _ _ rfl hb6 hV4 dX11_isStory_6
abbrev r_X11_isBeat : Room := { frames := 1, cells := 0, slots := 0, locals := 22 }
set_option maxHeartbeats 4000000 in
set_option maxRecDepth 100000 in
theorem c_X11_isBeat (l : Launch) (E : kE) (sz : Nat) (p1 : Int32) (r : Int32) (h : f_X11_isBeat p1 = some (r)) : kMi l yX11_isBeat cX11_isBeat 1 (some .boolean) r_X11_isBeat [.int p1] E [] sz 0 0 (fun x (_ : Unit) => x = r) (fun _ => []) := by
  refine kmeti rfl (Nat.le_of_ble_eq_true rfl) ?_
  intro p e s m args below meth c ls A Q X hV hret hl
  have X : kC p s m c cX11_isBeat 1 RX11 args E A := X
  have hx := X.1
  have hb := X.2.1
  have hl : lv_has ls 1 [(0, .int p1)] := hl
  rw [f_X11_isBeat] at h
  refine lv_iload_n hx hb dX11_isBeat_0 rfl (lv_at hl 0 rfl) ?_
  refine lv_iconst (v := 1) hx hb dX11_isBeat_1 (by decide) ?_
  refine lv_ldcw (v := 1000000) hx hb X.2.2.2.1 (X.2.2.2.2.1 _ mw_1001) dX11_isBeat_2 ?_
  obtain ⟨r5_1, hc2, h3⟩ := cb1_s h
  clear h
  refine kgoiE (krunS (rest := []) X hV [] (c_X11_isWithin l E _ p1 1 1000000 r5_1 hc2) mw_187 kb_X11_isWithin (by decide) rfl rfl hl.1 rfl (Nat.le_of_ble_eq_true rfl) dX11_isBeat_5 (by decide)) X hV [] [] rfl rfl rfl (by decide) (fun u H locs hV4 => ?_)
  have hV4 : kV E A s.heap H locs [] := hV4.sub [] rfl rfl
  clear hV
  obtain ⟨hb6, h7⟩ := bo_s h3
  clear h3
  cases h7
  exact hret _ () _ _ _ _ rfl hb6 hV4 dX11_isBeat_8
abbrev r_X11_isNightError : Room := { frames := 1, cells := 0, slots := 0, locals := 22 }
set_option maxHeartbeats 4000000 in
set_option maxRecDepth 100000 in
theorem c_X11_isNightError (l : Launch) (E : kE) (sz : Nat) (p1 : Int32) (r : Int32) (h : f_X11_isNightError p1 = some (r)) : kMi l yX11_isNightError cX11_isNightError 1 (some .boolean) r_X11_isNightError [.int p1] E [] sz 0 0 (fun x (_ : Unit) => x = r) (fun _ => []) := by
  refine kmeti rfl (Nat.le_of_ble_eq_true rfl) ?_
  intro p e s m args below meth c ls A Q X hV hret hl
  have X : kC p s m c cX11_isNightError 1 RX11 args E A := X
  have hx := X.1
  have hb := X.2.1
  have hl : lv_has ls 1 [(0, .int p1)] := hl
  rw [f_X11_isNightError] at h
  refine lv_iload_n hx hb dX11_isNightError_0 rfl (lv_at hl 0 rfl) ?_
  refine lv_iconst (v := 0) hx hb dX11_isNightError_1 (by decide) ?_
  refine lv_ldc (v := 100000) hx hb X.2.2.2.1 (X.2.2.2.2.1 _ mw_1097) dX11_isNightError_2 ?_
  obtain ⟨r4_1, hc2, h3⟩ := cb1_s h
  clear h
  refine kgoiE (krunS (rest := []) X hV [] (c_X11_isWithin l E _ p1 0 100000 r4_1 hc2) mw_187 kb_X11_isWithin (by decide) rfl rfl hl.1 rfl (Nat.le_of_ble_eq_true rfl) dX11_isNightError_4 (by decide)) X hV [] [] rfl rfl rfl (by decide) (fun u H locs hV4 => ?_)
  have hV4 : kV E A s.heap H locs [] := hV4.sub [] rfl rfl
  clear hV
  obtain ⟨hb6, h7⟩ := bo_s h3
  clear h3
  cases h7
  exact hret _ () _ _ _ _ rfl hb6 hV4 dX11_isNightError_7
abbrev r_X11_isLook : Room := { frames := 1, cells := 0, slots := 0, locals := 23 }
set_option maxHeartbeats 4000000 in
set_option maxRecDepth 100000 in
theorem c_X11_isLook (l : Launch) (E : kE) (sz : Nat) (p1 : Int32) (p2 : Int32) (p3 : Int32) (r : Int32) (h : f_X11_isLook p1 p2 p3 = some (r)) : kMi l yX11_isLook cX11_isLook 3 (some .boolean) r_X11_isLook [.int p1, .int p2, .int p3] E [] sz 0 0 (fun x (_ : Unit) => x = r) (fun _ => []) := by
  refine kmeti rfl (Nat.le_of_ble_eq_true rfl) ?_
  intro p e s m args below meth c ls A Q X hV hret hl
  have X : kC p s m c cX11_isLook 3 RX11 args E A := X
  have hx := X.1
  have hb := X.2.1
  have hl : lv_has ls 3 [(0, .int p1), (1, .int p2), (2, .int p3)] := hl
  rw [f_X11_isLook] at h
  refine lv_iload_n hx hb dX11_isLook_0 rfl (lv_at hl 0 rfl) ?_
  refine lv_iconst (v := 0) hx hb dX11_isLook_1 (by decide) ?_
  refine lv_bipush (v := 20) hx hb dX11_isLook_2 (by decide) ?_
  obtain ⟨r4_1, hc2, h3⟩ := cb1_s h
  clear h
  refine kgoiE (krunS (rest := []) X hV [] (c_X11_isWithin l E _ p1 0 20 r4_1 hc2) mw_187 kb_X11_isWithin (by decide) rfl rfl hl.1 rfl (Nat.le_of_ble_eq_true rfl) dX11_isLook_4 (by decide)) X hV [] [] rfl rfl rfl (by decide) (fun u H locs hV4 => ?_)
  have hV4 : kV E A s.heap H locs [] := hV4.sub [] rfl rfl
  clear hV
  refine lv_if_eq (tgt := 37) hx hb dX11_isLook_7 (by decide) (fun c6 => ?_) (fun c6 => ?_)
  · have h7 := itS c6 h3
    clear h3 c6
    refine lv_iconst (v := 0) hx hb dX11_isLook_37 (by decide) ?_
    cases h7
    exact hret _ () _ _ _ _ rfl rfl hV4 dX11_isLook_38
  · have h8 := ieS c6 h3
    clear h3 c6
    refine lv_iload_n hx hb dX11_isLook_10 rfl (lv_at hl 1 rfl) ?_
    refine lv_iconst (v := 0) hx hb dX11_isLook_11 (by decide) ?_
    refine lv_bipush (v := 20) hx hb dX11_isLook_12 (by decide) ?_
    obtain ⟨r14_9, hc10, h11⟩ := cb1_s h8
    clear h8
    refine kgoiE (krunS (rest := []) X hV4 [] (c_X11_isWithin l E _ p2 0 20 r14_9 hc10) mw_187 kb_X11_isWithin (by decide) rfl rfl hl.1 rfl (Nat.le_of_ble_eq_true rfl) dX11_isLook_14 (by decide)) X hV4 [] [] rfl rfl rfl (by decide) (fun u H locs hV12 => ?_)
    have hV12 : kV E A s.heap H locs [] := hV12.sub [] rfl rfl
    clear hV4
    refine lv_if_eq (tgt := 37) hx hb dX11_isLook_17 (by decide) (fun c14 => ?_) (fun c14 => ?_)
    · have h15 := itS c14 h11
      clear h11 c14
      refine lv_iconst (v := 0) hx hb dX11_isLook_37 (by decide) ?_
      cases h15
      exact hret _ () _ _ _ _ rfl rfl hV12 dX11_isLook_38
    · have h16 := ieS c14 h11
      clear h11 c14
      refine lv_iload_n hx hb dX11_isLook_20 rfl (lv_at hl 2 rfl) ?_
      refine lv_iconst (v := 0) hx hb dX11_isLook_21 (by decide) ?_
      refine lv_iload_n hx hb dX11_isLook_22 rfl (lv_at hl 0 rfl) ?_
      refine lv_iload_n hx hb dX11_isLook_23 rfl (lv_at hl 1 rfl) ?_
      refine va_mmin hx hb (X.2.2.1.trans hl.1.symm) X.2.2.2.1 (X.2.2.2.2.1 _ mw_660) (X.2.2.2.2.1 _ mw_280) (X.2.2.2.2.1 _ mw_281) (X.2.2.2.2.1 _ mw_282) (by decide) (Nat.le_of_ble_eq_true rfl) (by decide) (by decide) dX11_isLook_24 ?_
      obtain ⟨r27_17, hc18, h19⟩ := cb1_s h16
      clear h16
      refine kgoiE (krunS (rest := []) X hV12 [] (c_X11_isWithin l E _ p3 0 (jmin p1 p2) r27_17 hc18) mw_187 kb_X11_isWithin (by decide) rfl rfl hl.1 rfl (Nat.le_of_ble_eq_true rfl) dX11_isLook_27 (by decide)) X hV12 [] [] rfl rfl rfl (by decide) (fun u H locs hV20 => ?_)
      have hV20 : kV E A s.heap H locs [] := hV20.sub [] rfl rfl
      clear hV12
      refine lv_if_eq (tgt := 37) hx hb dX11_isLook_30 (by decide) (fun c22 => ?_) (fun c22 => ?_)
      · have h23 := itS c22 h19
        clear h19 c22
        refine lv_iconst (v := 0) hx hb dX11_isLook_37 (by decide) ?_
        cases h23
        exact hret _ () _ _ _ _ rfl rfl hV20 dX11_isLook_38
      · have h24 := ieS c22 h19
        clear h19 c22
        refine lv_iconst (v := 1) hx hb dX11_isLook_33 (by decide) ?_
        refine lv_goto (tgt := 38) hx hb dX11_isLook_34 (by decide) ?_
        cases h24
        exact hret _ () _ _ _ _ rfl rfl hV20 dX11_isLook_38
abbrev r_X11_starMinute : Room := { frames := 0, cells := 0, slots := 0, locals := 0 }
set_option maxHeartbeats 4000000 in
set_option maxRecDepth 100000 in
theorem c_X11_starMinute (l : Launch) (E : kE) (sz : Nat) (p1 : Int32) (p2 : Int32) (r : Int32) (h : f_X11_starMinute p1 p2 = some (r)) : kMi l yX11_starMinute cX11_starMinute 2 (some .int) r_X11_starMinute [.int p1, .int p2] E [] sz 0 0 (fun x (_ : Unit) => x = r) (fun _ => []) := by
  refine kmeti rfl (Nat.le_of_ble_eq_true rfl) ?_
  intro p e s m args below meth c ls A Q X hV hret hl
  have X : kC p s m c cX11_starMinute 2 RX11 args E A := X
  have hx := X.1
  have hb := X.2.1
  have hl : lv_has ls 2 [(0, .int p1), (1, .int p2)] := hl
  rw [f_X11_starMinute] at h
  refine lv_iload_n hx hb dX11_starMinute_0 rfl (lv_at hl 1 rfl) ?_
  refine lv_iconst (v := 4) hx hb dX11_starMinute_1 (by decide) ?_
  refine lv_iload_n hx hb dX11_starMinute_2 rfl (lv_at hl 0 rfl) ?_
  refine lv_imul hx hb dX11_starMinute_3 ?_
  refine lv_iadd hx hb dX11_starMinute_4 ?_
  refine lv_sipush (v := 1440) hx hb dX11_starMinute_5 (by decide) ?_
  refine lv_irem hx hb dX11_starMinute_8 (by decide) ?_
  cases h
  exact hret _ () _ _ _ _ rfl rfl hV dX11_starMinute_9
abbrev r_X9_put : Room := { frames := 0, cells := 0, slots := 0, locals := 0 }
set_option maxHeartbeats 4000000 in
set_option maxRecDepth 100000 in
theorem c_X9_put (l : Launch) (E : kE) (sz : Nat) (a0 a1 : Nat) (s_length : Int32) (s_bytes : Nat → Int32) (p1 : Int32) (o_length : Int32) (o_bytes : Nat → Int32) (h : f_X9_put s_length s_bytes p1 = some (o_length, o_bytes)) : kMv l yX9_put cX9_put 3 r_X9_put [.ref a0, .int p1] E [(a0, .inr (9, [.ref a1, .int s_length])), (a1, .inl (E.2 0, 200, .inl s_bytes))] sz 0 0 (fun (_ : Unit) => True) (fun _ => [(a0, .inr (9, [.ref a1, .int o_length])), (a1, .inl (E.2 0, 200, .inl o_bytes))]) := by
  refine kmetv rfl (Nat.le_of_ble_eq_true rfl) ?_
  intro p e s m args below meth c ls A Q X hnm hV hret hl
  have X : kC p s m c cX9_put 3 RX9 args E A := X
  have hx := X.1
  have hb := X.2.1
  have hl : lv_has ls 3 [(0, .ref a0), (1, .int p1)] := hl
  rw [f_X9_put] at h
  refine lv_bipush (v := 24) hx hb dX9_put_0 (by decide) ?_
  refine lv_istore_n (lv' := [(2, .int 24), (0, .ref a0), (1, .int p1)]) hx hb dX9_put_2 rfl hl (by decide) rfl (fun ls hl1 => ?_)
  clear hl
  have L3 : ∀ (n3 : Nat) (x2_2 : Int32) (length__3 : Int32) (bytes__4 : Nat → Int32) (H : Heap) (locs : List Loc) (ls : Array Slot), (f_X9_put_L3 p1  n3) x2_2 length__3 bytes__4 = some (o_length, o_bytes) → kV E A s.heap H locs [(a0, .inr (9, [.ref a1, .int length__3])), (a1, .inl (E.2 0, 200, .inl bytes__4))] → lv_has ls 3 [(0, .ref a0), (1, .int p1), (2, .int x2_2)] → W p l e r_X9_put s m args below meth c H locs 0 0 Q (F0 m 3 ls []) := by
    intro n3
    induction n3 with
    | zero =>
      intro x2_2 length__3 bytes__4 H locs ls hB3 hVB3 hlB3
      rw [f_X9_put_L3] at hB3
      exact nomatch hB3
    | succ n3 ih3 =>
      intro x2_2 length__3 bytes__4 H locs ls hB3 hVB3 hlB3
      rw [f_X9_put_L3] at hB3
      refine lv_iload_n hx hb dX9_put_3 rfl (lv_at hlB3 2 rfl) ?_
      refine lv_if_lt (tgt := 51) hx hb dX9_put_4 (by decide) (fun c5 => ?_) (fun c5 => ?_)
      · have h6 := itS c5 hB3
        clear hB3 c5
        cases h6
        exact hret () _ _ _ _ trivial hVB3 dX9_put_51
      · have h7 := ieS c5 hB3
        clear hB3 c5
        refine lv_aload_n hx hb dX9_put_7 rfl (lv_at hlB3 0 rfl) ?_
        refine kget X hVB3 (ci := 9) inlX9 rfl 0 rfl 1 (by decide) mw_52 rfl dX9_put_8 ?_
        refine lv_aload_n hx hb dX9_put_11 rfl (lv_at hlB3 0 rfl) ?_
        refine kget X hVB3 (ci := 9) inlX9 rfl 0 rfl 0 (by decide) mw_51 rfl dX9_put_12 ?_
        refine kalen X hVB3 1 0 rfl rfl (v := 200) rfl dX9_put_15 ?_
        refine lv_icmp_ge (tgt := 51) hx hb dX9_put_16 (by decide) (fun c8 => ?_) (fun c8 => ?_)
        · have h9 := itS c8 h7
          clear h7 c8
          cases h9
          exact hret () _ _ _ _ trivial hVB3 dX9_put_51
        · have h10 := ieS c8 h7
          clear h7 c8
          refine lv_aload_n hx hb dX9_put_19 rfl (lv_at hlB3 0 rfl) ?_
          refine kget X hVB3 (ci := 9) inlX9 rfl 0 rfl 0 (by decide) mw_51 rfl dX9_put_20 ?_
          refine lv_aload_n hx hb dX9_put_23 rfl (lv_at hlB3 0 rfl) ?_
          refine kget X hVB3 (ci := 9) inlX9 rfl 0 rfl 1 (by decide) mw_52 rfl dX9_put_24 ?_
          refine lv_iload_n hx hb dX9_put_27 rfl (lv_at hlB3 1 rfl) ?_
          refine lv_iload_n hx hb dX9_put_28 rfl (lv_at hlB3 2 rfl) ?_
          refine lv_iushr (v := jushr p1 x2_2) hx hb dX9_put_29 rfl ?_
          refine lv_sipush (v := 255) hx hb dX9_put_30 (by decide) ?_
          refine lv_iand hx hb dX9_put_33 ?_
          obtain ⟨v34_11, e12, h13⟩ := nmI_s h10
          clear h10
          refine ktopi e12 ?_
          clear e12
          obtain ⟨hi15, g34_14, e16, h17⟩ := wrI_s h13
          clear h13
          refine kiast X hVB3 1 rfl hi15 e16 dX9_put_34 (fun H locs hV18 => ?_)
          have hV18 : kV E A s.heap H locs [(a0, .inr (9, [.ref a1, .int length__3])), (a1, .inl (E.2 0, 200, .inl g34_14))] := hV18
          clear hVB3 hi15 e16
          refine lv_aload_n hx hb dX9_put_35 rfl (lv_at hlB3 0 rfl) ?_
          refine lv_dup hx hb dX9_put_36 rfl ?_
          refine kget X hV18 (ci := 9) inlX9 rfl 0 rfl 1 (by decide) mw_52 rfl dX9_put_37 ?_
          refine lv_iconst (v := 1) hx hb dX9_put_40 (by decide) ?_
          refine lv_iadd hx hb dX9_put_41 ?_
          obtain ⟨v42_19, e20, h21⟩ := nmI_s h17
          clear h17
          refine ktopi e20 ?_
          clear e20
          refine kput X hV18 (ci := 9) inlX9 rfl tyX9 tyX9_ok nmX9 0 rfl 1 (by decide) mw_52 rfl rfl rfl (Nat.le_of_ble_eq_true rfl) dX9_put_42 (fun H locs hV22 => ?_)
          have hV22 : kV E A s.heap H locs [(a0, .inr (9, [.ref a1, .int v42_19])), (a1, .inl (E.2 0, 200, .inl g34_14))] := hV22
          clear hV18
          obtain ⟨v45_23, e24, h25⟩ := nmI_s h21
          clear h21
          refine lv_iinc (v := v45_23) (lv' := [(2, .int v45_23), (0, .ref a0), (1, .int p1)]) hx hb dX9_put_45 hlB3 (k := 2) rfl (by rw [e24]; rfl) (by decide) rfl (fun ls hl26 => ?_)
          clear hlB3 e24
          refine lv_goto (tgt := 3) hx hb dX9_put_48 (by decide) ?_
          exact ih3 v45_23 v42_19 g34_14 _ _ _ h25 hV22 (lv_sub hl26 [1, 2, 0] rfl)
  exact L3 FU 24 s_length s_bytes _ _ _ h hV (lv_sub hl1 [1, 2, 0] rfl)
abbrev r_X9_clear : Room := { frames := 0, cells := 0, slots := 0, locals := 0 }
set_option maxHeartbeats 4000000 in
set_option maxRecDepth 100000 in
theorem c_X9_clear (l : Launch) (E : kE) (sz : Nat) (a0 : Nat) (w0_0 : Value) (s_length : Int32) (o_length : Int32) (h : f_X9_clear s_length = some (o_length)) : kMv l yX9_clear cX9_clear 1 r_X9_clear [.ref a0] E [(a0, .inr (9, [w0_0, .int s_length]))] sz 0 0 (fun (_ : Unit) => True) (fun _ => [(a0, .inr (9, [w0_0, .int o_length]))]) := by
  refine kmetv rfl (Nat.le_of_ble_eq_true rfl) ?_
  intro p e s m args below meth c ls A Q X hnm hV hret hl
  have X : kC p s m c cX9_clear 1 RX9 args E A := X
  have hx := X.1
  have hb := X.2.1
  have hl : lv_has ls 1 [(0, .ref a0)] := hl
  rw [f_X9_clear] at h
  refine lv_aload_n hx hb dX9_clear_0 rfl (lv_at hl 0 rfl) ?_
  refine lv_iconst (v := 0) hx hb dX9_clear_1 (by decide) ?_
  refine kput X hV (ci := 9) inlX9 rfl tyX9 tyX9_ok nmX9 0 rfl 1 (by decide) mw_52 rfl rfl rfl (Nat.le_of_ble_eq_true rfl) dX9_clear_2 (fun H locs hV1 => ?_)
  have hV1 : kV E A s.heap H locs [(a0, .inr (9, [w0_0, .int 0]))] := hV1
  clear hV
  cases h
  exact hret () _ _ _ _ trivial hV1 dX9_clear_5
abbrev r_X0_add : Room := { frames := 0, cells := 0, slots := 0, locals := 0 }
set_option maxHeartbeats 4000000 in
set_option maxRecDepth 100000 in
theorem c_X0_add (l : Launch) (E : kE) (sz : Nat) (a0 a1 : Nat) (w0_1 w0_3 w0_4 w0_5 : Value) (s_many : Int32) (s_times : Nat → Int32) (p1 : Int32) (r : Int32) (o_many : Int32) (o_times : Nat → Int32) (h : f_X0_add s_many s_times p1 = some (r, o_many, o_times)) : kMi l yX0_add cX0_add 2 (some .int) r_X0_add [.ref a0, .int p1] E [(a0, .inr (0, [.ref a1, w0_1, .int s_many, w0_3, w0_4, w0_5])), (a1, .inl (E.2 0, 40, .inl s_times))] sz 0 0 (fun x (_ : Unit) => x = r) (fun _ => [(a0, .inr (0, [.ref a1, w0_1, .int o_many, w0_3, w0_4, w0_5])), (a1, .inl (E.2 0, 40, .inl o_times))]) := by
  refine kmeti rfl (Nat.le_of_ble_eq_true rfl) ?_
  intro p e s m args below meth c ls A Q X hV hret hl
  have X : kC p s m c cX0_add 2 RX0 args E A := X
  have hx := X.1
  have hb := X.2.1
  have hl : lv_has ls 2 [(0, .ref a0), (1, .int p1)] := hl
  rw [f_X0_add] at h
  refine lv_aload_n hx hb dX0_add_0 rfl (lv_at hl 0 rfl) ?_
  refine kget X hV (ci := 0) inlX0 rfl 0 rfl 2 (by decide) mw_111 rfl dX0_add_1 ?_
  refine lv_bipush (v := 40) hx hb dX0_add_4 (by decide) ?_
  refine lv_icmp_ge (tgt := 31) hx hb dX0_add_6 (by decide) (fun c1 => ?_) (fun c1 => ?_)
  · have h2 := itS c1 h
    clear h c1
    refine lv_iconst (v := (-1)) hx hb dX0_add_31 (by decide) ?_
    cases h2
    exact hret _ () _ _ _ _ rfl rfl hV dX0_add_32
  · have h3 := ieS c1 h
    clear h c1
    refine lv_aload_n hx hb dX0_add_9 rfl (lv_at hl 0 rfl) ?_
    refine kget X hV (ci := 0) inlX0 rfl 0 rfl 2 (by decide) mw_111 rfl dX0_add_10 ?_
    have J33 : ∀  (H : Heap) (locs : List Loc) (ls : Array Slot), (f_X0_add_J33 s_many s_times p1 ) = some (r, o_many, o_times) → kV E A s.heap H locs [(a0, .inr (0, [.ref a1, w0_1, .int s_many, w0_3, w0_4, w0_5])), (a1, .inl (E.2 0, 40, .inl s_times))] → lv_has ls 2 [(0, .ref a0), (1, .int p1)] → W p l e r_X0_add s m args below meth c H locs 0 0 Q (F0 m 33 ls []) := by
      intro  H locs ls hB33 hVB33 hlB33
      rw [f_X0_add_J33] at hB33
      refine lv_aload_n hx hb dX0_add_33 rfl (lv_at hlB33 0 rfl) ?_
      refine kget X hVB33 (ci := 0) inlX0 rfl 0 rfl 0 (by decide) mw_109 rfl dX0_add_34 ?_
      refine lv_aload_n hx hb dX0_add_37 rfl (lv_at hlB33 0 rfl) ?_
      refine kget X hVB33 (ci := 0) inlX0 rfl 0 rfl 2 (by decide) mw_111 rfl dX0_add_38 ?_
      refine lv_iload_n hx hb dX0_add_41 rfl (lv_at hlB33 1 rfl) ?_
      obtain ⟨hi5, g42_4, e6, h7⟩ := wrI_s hB33
      clear hB33
      refine kiast X hVB33 1 rfl hi5 e6 dX0_add_42 (fun H locs hV8 => ?_)
      have hV8 : kV E A s.heap H locs [(a0, .inr (0, [.ref a1, w0_1, .int s_many, w0_3, w0_4, w0_5])), (a1, .inl (E.2 0, 40, .inl g42_4))] := hV8
      clear hVB33 hi5 e6
      refine lv_aload_n hx hb dX0_add_43 rfl (lv_at hlB33 0 rfl) ?_
      refine lv_dup hx hb dX0_add_44 rfl ?_
      refine kget X hV8 (ci := 0) inlX0 rfl 0 rfl 2 (by decide) mw_111 rfl dX0_add_45 ?_
      refine lv_iconst (v := 1) hx hb dX0_add_48 (by decide) ?_
      refine lv_iadd hx hb dX0_add_49 ?_
      obtain ⟨v50_9, e10, h11⟩ := nmI_s h7
      clear h7
      refine ktopi e10 ?_
      clear e10
      refine kput X hV8 (ci := 0) inlX0 rfl tyX0 tyX0_ok nmX0 0 rfl 2 (by decide) mw_111 rfl rfl rfl (Nat.le_of_ble_eq_true rfl) dX0_add_50 (fun H locs hV12 => ?_)
      have hV12 : kV E A s.heap H locs [(a0, .inr (0, [.ref a1, w0_1, .int v50_9, w0_3, w0_4, w0_5])), (a1, .inl (E.2 0, 40, .inl g42_4))] := hV12
      clear hV8
      refine lv_aload_n hx hb dX0_add_53 rfl (lv_at hlB33 0 rfl) ?_
      refine kget X hV12 (ci := 0) inlX0 rfl 0 rfl 2 (by decide) mw_111 rfl dX0_add_54 ?_
      refine lv_iconst (v := 1) hx hb dX0_add_57 (by decide) ?_
      refine lv_isub hx hb dX0_add_58 ?_
      cases h11
      exact hret _ () _ _ _ _ rfl rfl hV12 dX0_add_59
    refine lv_if_le (tgt := 33) hx hb dX0_add_13 (by decide) (fun c13 => ?_) (fun c13 => ?_)
    · have h14 := itS c13 h3
      clear h3 c13
      exact J33  _ _ _ h14 hV (lv_sub hl [0, 1] rfl)
    · have h15 := ieS c13 h3
      clear h3 c13
      refine lv_iload_n hx hb dX0_add_16 rfl (lv_at hl 1 rfl) ?_
      refine lv_aload_n hx hb dX0_add_17 rfl (lv_at hl 0 rfl) ?_
      refine kget X hV (ci := 0) inlX0 rfl 0 rfl 0 (by decide) mw_109 rfl dX0_add_18 ?_
      refine lv_aload_n hx hb dX0_add_21 rfl (lv_at hl 0 rfl) ?_
      refine kget X hV (ci := 0) inlX0 rfl 0 rfl 2 (by decide) mw_111 rfl dX0_add_22 ?_
      refine lv_iconst (v := 1) hx hb dX0_add_25 (by decide) ?_
      refine lv_isub hx hb dX0_add_26 ?_
      obtain ⟨hi17, v27_16, e18, h19⟩ := rdI_s h15
      clear h15
      refine kiald X hV 1 rfl hi17 e18 dX0_add_27 ?_
      clear hi17 e18
      refine lv_icmp_gt (tgt := 33) hx hb dX0_add_28 (by decide) (fun c20 => ?_) (fun c20 => ?_)
      · have h21 := itS c20 h19
        clear h19 c20
        exact J33  _ _ _ h21 hV (lv_sub hl [0, 1] rfl)
      · have h22 := ieS c20 h19
        clear h19 c20
        refine lv_iconst (v := (-1)) hx hb dX0_add_31 (by decide) ?_
        cases h22
        exact hret _ () _ _ _ _ rfl rfl hV dX0_add_32
abbrev r_X3_add : Room := { frames := 0, cells := 0, slots := 0, locals := 0 }
set_option maxHeartbeats 4000000 in
set_option maxRecDepth 100000 in
theorem c_X3_add (l : Launch) (E : kE) (sz : Nat) (a0 a1 a2 a3 : Nat) (w0_3 : Value) (s_many : Int32) (s_days : Nat → Int32) (s_minutes : Nat → Int32) (s_shapes : Nat → Int32) (p1 : Int32) (p2 : Int32) (p3 : Int32) (r : Int32) (o_many : Int32) (o_days : Nat → Int32) (o_minutes : Nat → Int32) (o_shapes : Nat → Int32) (h : f_X3_add s_many s_days s_minutes s_shapes p1 p2 p3 = some (r, o_many, o_days, o_minutes, o_shapes)) : kMi l yX3_add cX3_add 4 (some .int) r_X3_add [.ref a0, .int p1, .int p2, .int p3] E [(a0, .inr (3, [.ref a1, .ref a2, .ref a3, w0_3, .int s_many])), (a1, .inl (E.2 0, 40, .inl s_days)), (a2, .inl (E.2 0, 40, .inl s_minutes)), (a3, .inl (E.2 0, 40, .inl s_shapes))] sz 0 0 (fun x (_ : Unit) => x = r) (fun _ => [(a0, .inr (3, [.ref a1, .ref a2, .ref a3, w0_3, .int o_many])), (a1, .inl (E.2 0, 40, .inl o_days)), (a2, .inl (E.2 0, 40, .inl o_minutes)), (a3, .inl (E.2 0, 40, .inl o_shapes))]) := by
  refine kmeti rfl (Nat.le_of_ble_eq_true rfl) ?_
  intro p e s m args below meth c ls A Q X hV hret hl
  have X : kC p s m c cX3_add 4 RX3 args E A := X
  have hx := X.1
  have hb := X.2.1
  have hl : lv_has ls 4 [(0, .ref a0), (1, .int p1), (2, .int p2), (3, .int p3)] := hl
  rw [f_X3_add] at h
  refine lv_aload_n hx hb dX3_add_0 rfl (lv_at hl 0 rfl) ?_
  refine kget X hV (ci := 3) inlX3 rfl 0 rfl 4 (by decide) mw_104 rfl dX3_add_1 ?_
  refine lv_bipush (v := 40) hx hb dX3_add_4 (by decide) ?_
  refine lv_icmp_ge (tgt := 31) hx hb dX3_add_6 (by decide) (fun c1 => ?_) (fun c1 => ?_)
  · have h2 := itS c1 h
    clear h c1
    refine lv_iconst (v := (-1)) hx hb dX3_add_31 (by decide) ?_
    cases h2
    exact hret _ () _ _ _ _ rfl rfl hV dX3_add_32
  · have h3 := ieS c1 h
    clear h c1
    refine lv_aload_n hx hb dX3_add_9 rfl (lv_at hl 0 rfl) ?_
    refine kget X hV (ci := 3) inlX3 rfl 0 rfl 4 (by decide) mw_104 rfl dX3_add_10 ?_
    have J33 : ∀  (H : Heap) (locs : List Loc) (ls : Array Slot), (f_X3_add_J33 s_many s_days s_minutes s_shapes p1 p2 p3 ) = some (r, o_many, o_days, o_minutes, o_shapes) → kV E A s.heap H locs [(a0, .inr (3, [.ref a1, .ref a2, .ref a3, w0_3, .int s_many])), (a1, .inl (E.2 0, 40, .inl s_days)), (a2, .inl (E.2 0, 40, .inl s_minutes)), (a3, .inl (E.2 0, 40, .inl s_shapes))] → lv_has ls 4 [(0, .ref a0), (1, .int p1), (2, .int p2), (3, .int p3)] → W p l e r_X3_add s m args below meth c H locs 0 0 Q (F0 m 33 ls []) := by
      intro  H locs ls hB33 hVB33 hlB33
      rw [f_X3_add_J33] at hB33
      refine lv_aload_n hx hb dX3_add_33 rfl (lv_at hlB33 0 rfl) ?_
      refine kget X hVB33 (ci := 3) inlX3 rfl 0 rfl 0 (by decide) mw_100 rfl dX3_add_34 ?_
      refine lv_aload_n hx hb dX3_add_37 rfl (lv_at hlB33 0 rfl) ?_
      refine kget X hVB33 (ci := 3) inlX3 rfl 0 rfl 4 (by decide) mw_104 rfl dX3_add_38 ?_
      refine lv_iload_n hx hb dX3_add_41 rfl (lv_at hlB33 1 rfl) ?_
      obtain ⟨hi5, g42_4, e6, h7⟩ := wrI_s hB33
      clear hB33
      refine kiast X hVB33 1 rfl hi5 e6 dX3_add_42 (fun H locs hV8 => ?_)
      have hV8 : kV E A s.heap H locs [(a0, .inr (3, [.ref a1, .ref a2, .ref a3, w0_3, .int s_many])), (a1, .inl (E.2 0, 40, .inl g42_4)), (a2, .inl (E.2 0, 40, .inl s_minutes)), (a3, .inl (E.2 0, 40, .inl s_shapes))] := hV8
      clear hVB33 hi5 e6
      refine lv_aload_n hx hb dX3_add_43 rfl (lv_at hlB33 0 rfl) ?_
      refine kget X hV8 (ci := 3) inlX3 rfl 0 rfl 1 (by decide) mw_101 rfl dX3_add_44 ?_
      refine lv_aload_n hx hb dX3_add_47 rfl (lv_at hlB33 0 rfl) ?_
      refine kget X hV8 (ci := 3) inlX3 rfl 0 rfl 4 (by decide) mw_104 rfl dX3_add_48 ?_
      refine lv_iload_n hx hb dX3_add_51 rfl (lv_at hlB33 2 rfl) ?_
      obtain ⟨hi10, g52_9, e11, h12⟩ := wrI_s h7
      clear h7
      refine kiast X hV8 2 rfl hi10 e11 dX3_add_52 (fun H locs hV13 => ?_)
      have hV13 : kV E A s.heap H locs [(a0, .inr (3, [.ref a1, .ref a2, .ref a3, w0_3, .int s_many])), (a1, .inl (E.2 0, 40, .inl g42_4)), (a2, .inl (E.2 0, 40, .inl g52_9)), (a3, .inl (E.2 0, 40, .inl s_shapes))] := hV13
      clear hV8 hi10 e11
      refine lv_aload_n hx hb dX3_add_53 rfl (lv_at hlB33 0 rfl) ?_
      refine kget X hV13 (ci := 3) inlX3 rfl 0 rfl 2 (by decide) mw_102 rfl dX3_add_54 ?_
      refine lv_aload_n hx hb dX3_add_57 rfl (lv_at hlB33 0 rfl) ?_
      refine kget X hV13 (ci := 3) inlX3 rfl 0 rfl 4 (by decide) mw_104 rfl dX3_add_58 ?_
      refine lv_iload_n hx hb dX3_add_61 rfl (lv_at hlB33 3 rfl) ?_
      obtain ⟨hi15, g62_14, e16, h17⟩ := wrI_s h12
      clear h12
      refine kiast X hV13 3 rfl hi15 e16 dX3_add_62 (fun H locs hV18 => ?_)
      have hV18 : kV E A s.heap H locs [(a0, .inr (3, [.ref a1, .ref a2, .ref a3, w0_3, .int s_many])), (a1, .inl (E.2 0, 40, .inl g42_4)), (a2, .inl (E.2 0, 40, .inl g52_9)), (a3, .inl (E.2 0, 40, .inl g62_14))] := hV18
      clear hV13 hi15 e16
      refine lv_aload_n hx hb dX3_add_63 rfl (lv_at hlB33 0 rfl) ?_
      refine lv_dup hx hb dX3_add_64 rfl ?_
      refine kget X hV18 (ci := 3) inlX3 rfl 0 rfl 4 (by decide) mw_104 rfl dX3_add_65 ?_
      refine lv_iconst (v := 1) hx hb dX3_add_68 (by decide) ?_
      refine lv_iadd hx hb dX3_add_69 ?_
      obtain ⟨v70_19, e20, h21⟩ := nmI_s h17
      clear h17
      refine ktopi e20 ?_
      clear e20
      refine kput X hV18 (ci := 3) inlX3 rfl tyX3 tyX3_ok nmX3 0 rfl 4 (by decide) mw_104 rfl rfl rfl (Nat.le_of_ble_eq_true rfl) dX3_add_70 (fun H locs hV22 => ?_)
      have hV22 : kV E A s.heap H locs [(a0, .inr (3, [.ref a1, .ref a2, .ref a3, w0_3, .int v70_19])), (a1, .inl (E.2 0, 40, .inl g42_4)), (a2, .inl (E.2 0, 40, .inl g52_9)), (a3, .inl (E.2 0, 40, .inl g62_14))] := hV22
      clear hV18
      refine lv_aload_n hx hb dX3_add_73 rfl (lv_at hlB33 0 rfl) ?_
      refine kget X hV22 (ci := 3) inlX3 rfl 0 rfl 4 (by decide) mw_104 rfl dX3_add_74 ?_
      refine lv_iconst (v := 1) hx hb dX3_add_77 (by decide) ?_
      refine lv_isub hx hb dX3_add_78 ?_
      cases h21
      exact hret _ () _ _ _ _ rfl rfl hV22 dX3_add_79
    refine lv_if_le (tgt := 33) hx hb dX3_add_13 (by decide) (fun c23 => ?_) (fun c23 => ?_)
    · have h24 := itS c23 h3
      clear h3 c23
      exact J33  _ _ _ h24 hV (lv_sub hl [0, 1, 2, 3] rfl)
    · have h25 := ieS c23 h3
      clear h3 c23
      refine lv_iload_n hx hb dX3_add_16 rfl (lv_at hl 1 rfl) ?_
      refine lv_aload_n hx hb dX3_add_17 rfl (lv_at hl 0 rfl) ?_
      refine kget X hV (ci := 3) inlX3 rfl 0 rfl 0 (by decide) mw_100 rfl dX3_add_18 ?_
      refine lv_aload_n hx hb dX3_add_21 rfl (lv_at hl 0 rfl) ?_
      refine kget X hV (ci := 3) inlX3 rfl 0 rfl 4 (by decide) mw_104 rfl dX3_add_22 ?_
      refine lv_iconst (v := 1) hx hb dX3_add_25 (by decide) ?_
      refine lv_isub hx hb dX3_add_26 ?_
      obtain ⟨hi27, v27_26, e28, h29⟩ := rdI_s h25
      clear h25
      refine kiald X hV 1 rfl hi27 e28 dX3_add_27 ?_
      clear hi27 e28
      refine lv_icmp_ge (tgt := 33) hx hb dX3_add_28 (by decide) (fun c30 => ?_) (fun c30 => ?_)
      · have h31 := itS c30 h29
        clear h29 c30
        exact J33  _ _ _ h31 hV (lv_sub hl [0, 1, 2, 3] rfl)
      · have h32 := ieS c30 h29
        clear h29 c30
        refine lv_iconst (v := (-1)) hx hb dX3_add_31 (by decide) ?_
        cases h32
        exact hret _ () _ _ _ _ rfl rfl hV dX3_add_32
abbrev r_X3_gather : Room := { frames := 1, cells := 0, slots := 0, locals := 21 }
set_option maxHeartbeats 4000000 in
set_option maxRecDepth 100000 in
theorem c_X3_gather (l : Launch) (E : kE) (sz : Nat) (a0 a1 a2 a3 a4 : Nat) (s_many : Int32) (s_days : Nat → Int32) (s_gathered : Nat → Int32) (s_minutes : Nat → Int32) (s_shapes : Nat → Int32) (p1 : Int32) (p2 : Int32) (p3 : Int32) (r : Int32) (o_gathered : Nat → Int32) (h : f_X3_gather s_many s_days s_gathered s_minutes s_shapes p1 p2 p3 = some (r, o_gathered)) : kMi l yX3_gather cX3_gather 6 (some .int) r_X3_gather [.ref a0, .int p1, .int p2, .int p3] E [(a0, .inr (3, [.ref a1, .ref a3, .ref a4, .ref a2, .int s_many])), (a1, .inl (E.2 0, 40, .inl s_days)), (a2, .inl (E.2 0, 40, .inl s_gathered)), (a3, .inl (E.2 0, 40, .inl s_minutes)), (a4, .inl (E.2 0, 40, .inl s_shapes))] sz 0 0 (fun x (_ : Unit) => x = r) (fun _ => [(a0, .inr (3, [.ref a1, .ref a3, .ref a4, .ref a2, .int s_many])), (a1, .inl (E.2 0, 40, .inl s_days)), (a2, .inl (E.2 0, 40, .inl o_gathered)), (a3, .inl (E.2 0, 40, .inl s_minutes)), (a4, .inl (E.2 0, 40, .inl s_shapes))]) := by
  refine kmeti rfl (Nat.le_of_ble_eq_true rfl) ?_
  intro p e s m args below meth c ls A Q X hV hret hl
  have X : kC p s m c cX3_gather 6 RX3 args E A := X
  have hx := X.1
  have hb := X.2.1
  have hl : lv_has ls 6 [(0, .ref a0), (1, .int p1), (2, .int p2), (3, .int p3)] := hl
  rw [f_X3_gather] at h
  refine lv_iconst (v := 0) hx hb dX3_gather_0 (by decide) ?_
  refine lv_istore (lv' := [(4, .int 0), (0, .ref a0), (1, .int p1), (2, .int p2), (3, .int p3)]) hx hb dX3_gather_1 hl (by decide) rfl (fun ls hl1 => ?_)
  clear hl
  refine lv_iconst (v := 0) hx hb dX3_gather_3 (by decide) ?_
  refine lv_istore (lv' := [(5, .int 0), (4, .int 0), (0, .ref a0), (1, .int p1), (2, .int p2), (3, .int p3)]) hx hb dX3_gather_4 hl1 (by decide) rfl (fun ls hl2 => ?_)
  clear hl1
  have L6 : ∀ (n6 : Nat) (x4_3 : Int32) (x5_4 : Int32) (gathered__5 : Nat → Int32) (H : Heap) (locs : List Loc) (ls : Array Slot), (f_X3_gather_L6 s_many s_days s_minutes s_shapes p1 p2 p3  n6) x4_3 x5_4 gathered__5 = some (r, o_gathered) → kV E A s.heap H locs [(a0, .inr (3, [.ref a1, .ref a3, .ref a4, .ref a2, .int s_many])), (a1, .inl (E.2 0, 40, .inl s_days)), (a2, .inl (E.2 0, 40, .inl gathered__5)), (a3, .inl (E.2 0, 40, .inl s_minutes)), (a4, .inl (E.2 0, 40, .inl s_shapes))] → lv_has ls 6 [(0, .ref a0), (1, .int p1), (2, .int p2), (3, .int p3), (4, .int x4_3), (5, .int x5_4)] → W p l e r_X3_gather s m args below meth c H locs 0 0 Q (F0 m 6 ls []) := by
    intro n6
    induction n6 with
    | zero =>
      intro x4_3 x5_4 gathered__5 H locs ls hB6 hVB6 hlB6
      rw [f_X3_gather_L6] at hB6
      exact nomatch hB6
    | succ n6 ih6 =>
      intro x4_3 x5_4 gathered__5 H locs ls hB6 hVB6 hlB6
      rw [f_X3_gather_L6] at hB6
      refine lv_iload hx hb dX3_gather_6 (lv_at hlB6 5 rfl) ?_
      refine lv_aload_n hx hb dX3_gather_8 rfl (lv_at hlB6 0 rfl) ?_
      refine kget X hVB6 (ci := 3) inlX3 rfl 0 rfl 4 (by decide) mw_104 rfl dX3_gather_9 ?_
      refine lv_icmp_ge (tgt := 84) hx hb dX3_gather_12 (by decide) (fun c6 => ?_) (fun c6 => ?_)
      · have h7 := itS c6 hB6
        clear hB6 c6
        refine lv_iload hx hb dX3_gather_84 (lv_at hlB6 4 rfl) ?_
        cases h7
        exact hret _ () _ _ _ _ rfl rfl hVB6 dX3_gather_86
      · have h8 := ieS c6 hB6
        clear hB6 c6
        refine lv_aload_n hx hb dX3_gather_15 rfl (lv_at hlB6 0 rfl) ?_
        refine kget X hVB6 (ci := 3) inlX3 rfl 0 rfl 2 (by decide) mw_102 rfl dX3_gather_16 ?_
        refine lv_iload hx hb dX3_gather_19 (lv_at hlB6 5 rfl) ?_
        obtain ⟨hi10, v21_9, e11, h12⟩ := rdI_s h8
        clear h8
        refine kiald X hVB6 4 rfl hi10 e11 dX3_gather_21 ?_
        clear hi10 e11
        refine lv_iload_n hx hb dX3_gather_22 rfl (lv_at hlB6 1 rfl) ?_
        refine lv_icmp_ne (tgt := 78) hx hb dX3_gather_23 (by decide) (fun c13 => ?_) (fun c13 => ?_)
        · have h14 := ieS c13 h12
          clear h12 c13
          obtain ⟨v78_16, e17, h18⟩ := nmI_s h14
          clear h14
          refine lv_iinc (v := v78_16) (lv' := [(5, .int v78_16), (0, .ref a0), (1, .int p1), (2, .int p2), (3, .int p3), (4, .int x4_3)]) hx hb dX3_gather_78 hlB6 (k := 5) rfl (by rw [e17]; rfl) (by decide) rfl (fun ls hl19 => ?_)
          clear hlB6 e17
          refine lv_goto (tgt := 6) hx hb dX3_gather_81 (by decide) ?_
          exact ih6 x4_3 v78_16 gathered__5 _ _ _ h18 hVB6 (lv_sub hl19 [1, 2, 3, 4, 5, 0] rfl)
        · have h15 := itS c13 h12
          clear h12 c13
          refine lv_aload_n hx hb dX3_gather_26 rfl (lv_at hlB6 0 rfl) ?_
          refine kget X hVB6 (ci := 3) inlX3 rfl 0 rfl 0 (by decide) mw_100 rfl dX3_gather_27 ?_
          refine lv_iload hx hb dX3_gather_30 (lv_at hlB6 5 rfl) ?_
          obtain ⟨hi21, v32_20, e22, h23⟩ := rdI_s h15
          clear h15
          refine kiald X hVB6 1 rfl hi21 e22 dX3_gather_32 ?_
          clear hi21 e22
          refine lv_iload_n hx hb dX3_gather_33 rfl (lv_at hlB6 2 rfl) ?_
          refine lv_icmp_gt (tgt := 78) hx hb dX3_gather_34 (by decide) (fun c24 => ?_) (fun c24 => ?_)
          · have h25 := itS c24 h23
            clear h23 c24
            obtain ⟨v78_27, e28, h29⟩ := nmI_s h25
            clear h25
            refine lv_iinc (v := v78_27) (lv' := [(5, .int v78_27), (0, .ref a0), (1, .int p1), (2, .int p2), (3, .int p3), (4, .int x4_3)]) hx hb dX3_gather_78 hlB6 (k := 5) rfl (by rw [e28]; rfl) (by decide) rfl (fun ls hl30 => ?_)
            clear hlB6 e28
            refine lv_goto (tgt := 6) hx hb dX3_gather_81 (by decide) ?_
            exact ih6 x4_3 v78_27 gathered__5 _ _ _ h29 hVB6 (lv_sub hl30 [1, 2, 3, 4, 5, 0] rfl)
          · have h26 := ieS c24 h23
            clear h23 c24
            refine lv_aload_n hx hb dX3_gather_37 rfl (lv_at hlB6 0 rfl) ?_
            refine kget X hVB6 (ci := 3) inlX3 rfl 0 rfl 3 (by decide) mw_103 rfl dX3_gather_38 ?_
            refine lv_iload hx hb dX3_gather_41 (lv_at hlB6 4 rfl) ?_
            refine lv_iload_n hx hb dX3_gather_43 rfl (lv_at hlB6 3 rfl) ?_
            refine lv_if_eq (tgt := 67) hx hb dX3_gather_44 (by decide) (fun c31 => ?_) (fun c31 => ?_)
            · have h32 := itS c31 h26
              clear h26 c31
              refine lv_aload_n hx hb dX3_gather_67 rfl (lv_at hlB6 0 rfl) ?_
              refine kget X hVB6 (ci := 3) inlX3 rfl 0 rfl 1 (by decide) mw_101 rfl dX3_gather_68 ?_
              refine lv_iload hx hb dX3_gather_71 (lv_at hlB6 5 rfl) ?_
              obtain ⟨hi35, v73_34, e36, h37⟩ := rdI_s h32
              clear h32
              refine kiald X hVB6 3 rfl hi35 e36 dX3_gather_73 ?_
              clear hi35 e36
              obtain ⟨hi39, g74_38, e40, h41⟩ := wrI_s h37
              clear h37
              refine kiast X hVB6 2 rfl hi39 e40 dX3_gather_74 (fun H locs hV42 => ?_)
              have hV42 : kV E A s.heap H locs [(a0, .inr (3, [.ref a1, .ref a3, .ref a4, .ref a2, .int s_many])), (a1, .inl (E.2 0, 40, .inl s_days)), (a2, .inl (E.2 0, 40, .inl g74_38)), (a3, .inl (E.2 0, 40, .inl s_minutes)), (a4, .inl (E.2 0, 40, .inl s_shapes))] := hV42
              clear hVB6 hi39 e40
              obtain ⟨v75_43, e44, h45⟩ := nmI_s h41
              clear h41
              refine lv_iinc (v := v75_43) (lv' := [(4, .int v75_43), (0, .ref a0), (1, .int p1), (2, .int p2), (3, .int p3), (5, .int x5_4)]) hx hb dX3_gather_75 hlB6 (k := 4) rfl (by rw [e44]; rfl) (by decide) rfl (fun ls hl46 => ?_)
              clear hlB6 e44
              obtain ⟨v78_47, e48, h49⟩ := nmI_s h45
              clear h45
              refine lv_iinc (v := v78_47) (lv' := [(5, .int v78_47), (4, .int v75_43), (0, .ref a0), (1, .int p1), (2, .int p2), (3, .int p3)]) hx hb dX3_gather_78 hl46 (k := 5) rfl (by rw [e48]; rfl) (by decide) rfl (fun ls hl50 => ?_)
              clear hl46 e48
              refine lv_goto (tgt := 6) hx hb dX3_gather_81 (by decide) ?_
              exact ih6 v75_43 v78_47 g74_38 _ _ _ h49 hV42 (lv_sub hl50 [2, 3, 4, 5, 1, 0] rfl)
            · have h33 := ieS c31 h26
              clear h26 c31
              refine lv_aload_n hx hb dX3_gather_47 rfl (lv_at hlB6 0 rfl) ?_
              refine kget X hVB6 (ci := 3) inlX3 rfl 0 rfl 0 (by decide) mw_100 rfl dX3_gather_48 ?_
              refine lv_iload hx hb dX3_gather_51 (lv_at hlB6 5 rfl) ?_
              obtain ⟨hi52, v53_51, e53, h54⟩ := rdI_s h33
              clear h33
              refine kiald X hVB6 1 rfl hi52 e53 dX3_gather_53 ?_
              clear hi52 e53
              refine lv_aload_n hx hb dX3_gather_54 rfl (lv_at hlB6 0 rfl) ?_
              refine kget X hVB6 (ci := 3) inlX3 rfl 0 rfl 1 (by decide) mw_101 rfl dX3_gather_55 ?_
              refine lv_iload hx hb dX3_gather_58 (lv_at hlB6 5 rfl) ?_
              obtain ⟨hi56, v60_55, e57, h58⟩ := rdI_s h54
              clear h54
              refine kiald X hVB6 3 rfl hi56 e57 dX3_gather_60 ?_
              clear hi56 e57
              obtain ⟨r61_59, hc60, h61⟩ := cb1_s h58
              clear h58
              refine kgoiE (krunSN (rest := [.int x4_3, .ref a2]) X hVB6 [] (c_X11_starMinute l E _ v53_51 v60_55 r61_59 hc60) (List.mem_of_getElem? (i := 6) rfl) kb_X11_starMinute (by decide) rfl rfl hlB6.1 rfl (Nat.le_of_ble_eq_true rfl) dX3_gather_61 (by decide)) X hVB6 [] [0, 1, 2, 3, 4] rfl rfl rfl (by decide) (fun u H locs hV62 => ?_)
              have hV62 : kV E A s.heap H locs [(a0, .inr (3, [.ref a1, .ref a3, .ref a4, .ref a2, .int s_many])), (a1, .inl (E.2 0, 40, .inl s_days)), (a2, .inl (E.2 0, 40, .inl gathered__5)), (a3, .inl (E.2 0, 40, .inl s_minutes)), (a4, .inl (E.2 0, 40, .inl s_shapes))] := hV62.sub [0, 1, 2, 3, 4] rfl rfl
              clear hVB6
              refine lv_goto (tgt := 74) hx hb dX3_gather_64 (by decide) ?_
              obtain ⟨hi65, g74_64, e66, h67⟩ := wrI_s h61
              clear h61
              refine kiast X hV62 2 rfl hi65 e66 dX3_gather_74 (fun H locs hV68 => ?_)
              have hV68 : kV E A s.heap H locs [(a0, .inr (3, [.ref a1, .ref a3, .ref a4, .ref a2, .int s_many])), (a1, .inl (E.2 0, 40, .inl s_days)), (a2, .inl (E.2 0, 40, .inl g74_64)), (a3, .inl (E.2 0, 40, .inl s_minutes)), (a4, .inl (E.2 0, 40, .inl s_shapes))] := hV68
              clear hV62 hi65 e66
              obtain ⟨v75_69, e70, h71⟩ := nmI_s h67
              clear h67
              refine lv_iinc (v := v75_69) (lv' := [(4, .int v75_69), (0, .ref a0), (1, .int p1), (2, .int p2), (3, .int p3), (5, .int x5_4)]) hx hb dX3_gather_75 hlB6 (k := 4) rfl (by rw [e70]; rfl) (by decide) rfl (fun ls hl72 => ?_)
              clear hlB6 e70
              obtain ⟨v78_73, e74, h75⟩ := nmI_s h71
              clear h71
              refine lv_iinc (v := v78_73) (lv' := [(5, .int v78_73), (4, .int v75_69), (0, .ref a0), (1, .int p1), (2, .int p2), (3, .int p3)]) hx hb dX3_gather_78 hl72 (k := 5) rfl (by rw [e74]; rfl) (by decide) rfl (fun ls hl76 => ?_)
              clear hl72 e74
              refine lv_goto (tgt := 6) hx hb dX3_gather_81 (by decide) ?_
              exact ih6 v75_69 v78_73 g74_64 _ _ _ h75 hV68 (lv_sub hl76 [2, 3, 4, 5, 1, 0] rfl)
  exact L6 FU 0 0 s_gathered _ _ _ h hV (lv_sub hl2 [2, 3, 4, 5, 1, 0] rfl)
abbrev r_X3_oneBy : Room := { frames := 2, cells := 0, slots := 0, locals := 46 }
set_option maxHeartbeats 4000000 in
set_option maxRecDepth 100000 in
theorem c_X3_oneBy (l : Launch) (E : kE) (sz : Nat) (a0 a1 a2 a3 a4 : Nat) (s_many : Int32) (s_days : Nat → Int32) (s_gathered : Nat → Int32) (s_minutes : Nat → Int32) (s_shapes : Nat → Int32) (p1 : Int32) (p2 : Int32) (p3 : Int32) (r : Int32) (o_gathered : Nat → Int32) (h : f_X3_oneBy s_many s_days s_gathered s_minutes s_shapes p1 p2 p3 = some (r, o_gathered)) : kMi l yX3_oneBy cX3_oneBy 6 (some .int) r_X3_oneBy [.ref a0, .int p1, .int p2, .int p3] E [(a0, .inr (3, [.ref a1, .ref a3, .ref a4, .ref a2, .int s_many])), (a1, .inl (E.2 0, 40, .inl s_days)), (a2, .inl (E.2 0, 40, .inl s_gathered)), (a3, .inl (E.2 0, 40, .inl s_minutes)), (a4, .inl (E.2 0, 40, .inl s_shapes))] sz 0 0 (fun x (_ : Unit) => x = r) (fun _ => [(a0, .inr (3, [.ref a1, .ref a3, .ref a4, .ref a2, .int s_many])), (a1, .inl (E.2 0, 40, .inl s_days)), (a2, .inl (E.2 0, 40, .inl o_gathered)), (a3, .inl (E.2 0, 40, .inl s_minutes)), (a4, .inl (E.2 0, 40, .inl s_shapes))]) := by
  refine kmeti rfl (Nat.le_of_ble_eq_true rfl) ?_
  intro p e s m args below meth c ls A Q X hV hret hl
  have X : kC p s m c cX3_oneBy 6 RX3 args E A := X
  have hx := X.1
  have hb := X.2.1
  have hl : lv_has ls 6 [(0, .ref a0), (1, .int p1), (2, .int p2), (3, .int p3)] := hl
  rw [f_X3_oneBy] at h
  refine lv_aload_n hx hb dX3_oneBy_0 rfl (lv_at hl 0 rfl) ?_
  refine lv_iload_n hx hb dX3_oneBy_1 rfl (lv_at hl 1 rfl) ?_
  refine lv_iload_n hx hb dX3_oneBy_2 rfl (lv_at hl 3 rfl) ?_
  refine lv_iconst (v := 1) hx hb dX3_oneBy_3 (by decide) ?_
  obtain ⟨r4_1, o_gathered4_2, hc3, h4⟩ := cb2_s h
  clear h
  refine kgoiE (krunV (rest := []) X hV [0, 1, 2, 3, 4] (c_X3_gather l E _ a0 a1 a2 a3 a4 s_many s_days s_gathered s_minutes s_shapes p1 p3 1 r4_1 o_gathered4_2 hc3) mw_908 kb_X3_gather (ci := 3) rfl rfl (by decide) rfl rfl hl.1 rfl (Nat.le_of_ble_eq_true rfl) dX3_oneBy_4 (by decide)) X hV [0, 1, 2, 3, 4] [] rfl rfl rfl (by decide) (fun u H locs hV5 => ?_)
  have hV5 : kV E A s.heap H locs [(a0, .inr (3, [.ref a1, .ref a3, .ref a4, .ref a2, .int s_many])), (a1, .inl (E.2 0, 40, .inl s_days)), (a2, .inl (E.2 0, 40, .inl o_gathered4_2)), (a3, .inl (E.2 0, 40, .inl s_minutes)), (a4, .inl (E.2 0, 40, .inl s_shapes))] := hV5.sub [0, 1, 2, 3, 4] rfl rfl
  clear hV
  refine lv_istore (lv' := [(4, .int r4_1), (0, .ref a0), (1, .int p1), (2, .int p2), (3, .int p3)]) hx hb dX3_oneBy_7 hl (by decide) rfl (fun ls hl7 => ?_)
  clear hl
  refine lv_iload hx hb dX3_oneBy_9 (lv_at hl7 0 rfl) ?_
  refine lv_iconst (v := 2) hx hb dX3_oneBy_11 (by decide) ?_
  refine lv_icmp_ge (tgt := 17) hx hb dX3_oneBy_12 (by decide) (fun c8 => ?_) (fun c8 => ?_)
  · have h9 := itS c8 h4
    clear h4 c8
    refine lv_aload_n hx hb dX3_oneBy_17 rfl (lv_at hl7 1 rfl) ?_
    refine kget X hV5 (ci := 3) inlX3 rfl 0 rfl 3 (by decide) mw_103 rfl dX3_oneBy_18 ?_
    refine lv_iload hx hb dX3_oneBy_21 (lv_at hl7 0 rfl) ?_
    refine lv_sipush (v := 1440) hx hb dX3_oneBy_23 (by decide) ?_
    refine lv_iload_n hx hb dX3_oneBy_26 rfl (lv_at hl7 3 rfl) ?_
    exact nomatch h9
  · have h10 := ieS c8 h4
    clear h4 c8
    refine lv_iconst (v := (-1)) hx hb dX3_oneBy_15 (by decide) ?_
    cases h10
    exact hret _ () _ _ _ _ rfl rfl hV5 dX3_oneBy_16
abbrev r_X3_knownDay : Room := { frames := 3, cells := 0, slots := 0, locals := 71 }
set_option maxHeartbeats 4000000 in
set_option maxRecDepth 100000 in
theorem c_X3_knownDay (l : Launch) (E : kE) (sz : Nat) (a0 a1 a2 a3 a4 : Nat) (s_many : Int32) (s_days : Nat → Int32) (s_gathered : Nat → Int32) (s_minutes : Nat → Int32) (s_shapes : Nat → Int32) (p1 : Int32) (p2 : Int32) (r : Int32) (o_gathered : Nat → Int32) (h : f_X3_knownDay s_many s_days s_gathered s_minutes s_shapes p1 p2 = some (r, o_gathered)) : kMi l yX3_knownDay cX3_knownDay 5 (some .int) r_X3_knownDay [.ref a0, .int p1, .int p2] E [(a0, .inr (3, [.ref a1, .ref a3, .ref a4, .ref a2, .int s_many])), (a1, .inl (E.2 0, 40, .inl s_days)), (a2, .inl (E.2 0, 40, .inl s_gathered)), (a3, .inl (E.2 0, 40, .inl s_minutes)), (a4, .inl (E.2 0, 40, .inl s_shapes))] sz 0 0 (fun x (_ : Unit) => x = r) (fun _ => [(a0, .inr (3, [.ref a1, .ref a3, .ref a4, .ref a2, .int s_many])), (a1, .inl (E.2 0, 40, .inl s_days)), (a2, .inl (E.2 0, 40, .inl o_gathered)), (a3, .inl (E.2 0, 40, .inl s_minutes)), (a4, .inl (E.2 0, 40, .inl s_shapes))]) := by
  refine kmeti rfl (Nat.le_of_ble_eq_true rfl) ?_
  intro p e s m args below meth c ls A Q X hV hret hl
  have X : kC p s m c cX3_knownDay 5 RX3 args E A := X
  have hx := X.1
  have hb := X.2.1
  have hl : lv_has ls 5 [(0, .ref a0), (1, .int p1), (2, .int p2)] := hl
  rw [f_X3_knownDay] at h
  refine lv_iconst (v := 0) hx hb dX3_knownDay_0 (by decide) ?_
  refine lv_istore_n (lv' := [(3, .int 0), (0, .ref a0), (1, .int p1), (2, .int p2)]) hx hb dX3_knownDay_1 rfl hl (by decide) rfl (fun ls hl1 => ?_)
  clear hl
  have L2 : ∀ (n2 : Nat) (x3_2 : Int32) (gathered__3 : Nat → Int32) (H : Heap) (locs : List Loc) (ls : Array Slot), (f_X3_knownDay_L2 s_many s_days s_minutes s_shapes p1 p2  n2) x3_2 gathered__3 = some (r, o_gathered) → kV E A s.heap H locs [(a0, .inr (3, [.ref a1, .ref a3, .ref a4, .ref a2, .int s_many])), (a1, .inl (E.2 0, 40, .inl s_days)), (a2, .inl (E.2 0, 40, .inl gathered__3)), (a3, .inl (E.2 0, 40, .inl s_minutes)), (a4, .inl (E.2 0, 40, .inl s_shapes))] → lv_has ls 5 [(0, .ref a0), (1, .int p1), (2, .int p2), (3, .int x3_2)] → W p l e r_X3_knownDay s m args below meth c H locs 0 0 Q (F0 m 2 ls []) := by
    intro n2
    induction n2 with
    | zero =>
      intro x3_2 gathered__3 H locs ls hB2 hVB2 hlB2
      rw [f_X3_knownDay_L2] at hB2
      exact nomatch hB2
    | succ n2 ih2 =>
      intro x3_2 gathered__3 H locs ls hB2 hVB2 hlB2
      rw [f_X3_knownDay_L2] at hB2
      refine lv_iload_n hx hb dX3_knownDay_2 rfl (lv_at hlB2 3 rfl) ?_
      refine lv_aload_n hx hb dX3_knownDay_3 rfl (lv_at hlB2 0 rfl) ?_
      refine kget X hVB2 (ci := 3) inlX3 rfl 0 rfl 4 (by decide) mw_104 rfl dX3_knownDay_4 ?_
      refine lv_icmp_ge (tgt := 59) hx hb dX3_knownDay_7 (by decide) (fun c4 => ?_) (fun c4 => ?_)
      · have h5 := itS c4 hB2
        clear hB2 c4
        refine lv_iconst (v := (-1)) hx hb dX3_knownDay_59 (by decide) ?_
        cases h5
        exact hret _ () _ _ _ _ rfl rfl hVB2 dX3_knownDay_60
      · have h6 := ieS c4 hB2
        clear hB2 c4
        refine lv_aload_n hx hb dX3_knownDay_10 rfl (lv_at hlB2 0 rfl) ?_
        refine kget X hVB2 (ci := 3) inlX3 rfl 0 rfl 2 (by decide) mw_102 rfl dX3_knownDay_11 ?_
        refine lv_iload_n hx hb dX3_knownDay_14 rfl (lv_at hlB2 3 rfl) ?_
        obtain ⟨hi8, v15_7, e9, h10⟩ := rdI_s h6
        clear h6
        refine kiald X hVB2 4 rfl hi8 e9 dX3_knownDay_15 ?_
        clear hi8 e9
        refine lv_iload_n hx hb dX3_knownDay_16 rfl (lv_at hlB2 1 rfl) ?_
        refine lv_icmp_ne (tgt := 53) hx hb dX3_knownDay_17 (by decide) (fun c11 => ?_) (fun c11 => ?_)
        · have h12 := ieS c11 h10
          clear h10 c11
          obtain ⟨v53_14, e15, h16⟩ := nmI_s h12
          clear h12
          refine lv_iinc (v := v53_14) (lv' := [(3, .int v53_14), (0, .ref a0), (1, .int p1), (2, .int p2)]) hx hb dX3_knownDay_53 hlB2 (k := 3) rfl (by rw [e15]; rfl) (by decide) rfl (fun ls hl17 => ?_)
          clear hlB2 e15
          refine lv_goto (tgt := 2) hx hb dX3_knownDay_56 (by decide) ?_
          exact ih2 v53_14 gathered__3 _ _ _ h16 hVB2 (lv_sub hl17 [1, 2, 3, 0] rfl)
        · have h13 := itS c11 h10
          clear h10 c11
          refine lv_aload_n hx hb dX3_knownDay_20 rfl (lv_at hlB2 0 rfl) ?_
          refine lv_iload_n hx hb dX3_knownDay_21 rfl (lv_at hlB2 1 rfl) ?_
          refine lv_iload_n hx hb dX3_knownDay_22 rfl (lv_at hlB2 2 rfl) ?_
          refine lv_aload_n hx hb dX3_knownDay_23 rfl (lv_at hlB2 0 rfl) ?_
          refine kget X hVB2 (ci := 3) inlX3 rfl 0 rfl 0 (by decide) mw_100 rfl dX3_knownDay_24 ?_
          refine lv_iload_n hx hb dX3_knownDay_27 rfl (lv_at hlB2 3 rfl) ?_
          obtain ⟨hi19, v28_18, e20, h21⟩ := rdI_s h13
          clear h13
          refine kiald X hVB2 1 rfl hi19 e20 dX3_knownDay_28 ?_
          clear hi19 e20
          obtain ⟨r29_22, o_gathered29_23, hc24, h25⟩ := cb2_s h21
          clear h21
          refine kgoiE (krunV (rest := []) X hVB2 [0, 1, 2, 3, 4] (c_X3_oneBy l E _ a0 a1 a2 a3 a4 s_many s_days gathered__3 s_minutes s_shapes p1 p2 v28_18 r29_22 o_gathered29_23 hc24) mw_956 kb_X3_oneBy (ci := 3) rfl rfl (by decide) rfl rfl hlB2.1 rfl (Nat.le_of_ble_eq_true rfl) dX3_knownDay_29 (by decide)) X hVB2 [0, 1, 2, 3, 4] [] rfl rfl rfl (by decide) (fun u H locs hV26 => ?_)
          have hV26 : kV E A s.heap H locs [(a0, .inr (3, [.ref a1, .ref a3, .ref a4, .ref a2, .int s_many])), (a1, .inl (E.2 0, 40, .inl s_days)), (a2, .inl (E.2 0, 40, .inl o_gathered29_23)), (a3, .inl (E.2 0, 40, .inl s_minutes)), (a4, .inl (E.2 0, 40, .inl s_shapes))] := hV26.sub [0, 1, 2, 3, 4] rfl rfl
          clear hVB2
          refine lv_istore (lv' := [(4, .int r29_22), (0, .ref a0), (1, .int p1), (2, .int p2), (3, .int x3_2)]) hx hb dX3_knownDay_32 hlB2 (by decide) rfl (fun ls hl28 => ?_)
          clear hlB2
          refine lv_iload hx hb dX3_knownDay_34 (lv_at hl28 0 rfl) ?_
          refine lv_iconst (v := 1) hx hb dX3_knownDay_36 (by decide) ?_
          refine lv_icmp_eq (tgt := 46) hx hb dX3_knownDay_37 (by decide) (fun c29 => ?_) (fun c29 => ?_)
          · have h30 := itS c29 h25
            clear h25 c29
            refine lv_aload_n hx hb dX3_knownDay_46 rfl (lv_at hl28 1 rfl) ?_
            refine kget X hV26 (ci := 3) inlX3 rfl 0 rfl 0 (by decide) mw_100 rfl dX3_knownDay_47 ?_
            refine lv_iload_n hx hb dX3_knownDay_50 rfl (lv_at hl28 4 rfl) ?_
            obtain ⟨hi33, v51_32, e34, h35⟩ := rdI_s h30
            clear h30
            refine kiald X hV26 1 rfl hi33 e34 dX3_knownDay_51 ?_
            clear hi33 e34
            cases h35
            exact hret _ () _ _ _ _ rfl rfl hV26 dX3_knownDay_52
          · have h31 := ieS c29 h25
            clear h25 c29
            refine lv_iload hx hb dX3_knownDay_40 (lv_at hl28 0 rfl) ?_
            refine lv_iconst (v := 2) hx hb dX3_knownDay_42 (by decide) ?_
            refine lv_icmp_ne (tgt := 53) hx hb dX3_knownDay_43 (by decide) (fun c36 => ?_) (fun c36 => ?_)
            · have h37 := ieS c36 h31
              clear h31 c36
              obtain ⟨v53_39, e40, h41⟩ := nmI_s h37
              clear h37
              refine lv_iinc (v := v53_39) (lv' := [(3, .int v53_39), (4, .int r29_22), (0, .ref a0), (1, .int p1), (2, .int p2)]) hx hb dX3_knownDay_53 hl28 (k := 4) rfl (by rw [e40]; rfl) (by decide) rfl (fun ls hl42 => ?_)
              clear hl28 e40
              refine lv_goto (tgt := 2) hx hb dX3_knownDay_56 (by decide) ?_
              exact ih2 v53_39 o_gathered29_23 _ _ _ h41 hV26 (lv_sub hl42 [2, 3, 4, 0] rfl)
            · have h38 := itS c36 h31
              clear h31 c36
              refine lv_aload_n hx hb dX3_knownDay_46 rfl (lv_at hl28 1 rfl) ?_
              refine kget X hV26 (ci := 3) inlX3 rfl 0 rfl 0 (by decide) mw_100 rfl dX3_knownDay_47 ?_
              refine lv_iload_n hx hb dX3_knownDay_50 rfl (lv_at hl28 4 rfl) ?_
              obtain ⟨hi44, v51_43, e45, h46⟩ := rdI_s h38
              clear h38
              refine kiald X hV26 1 rfl hi44 e45 dX3_knownDay_51 ?_
              clear hi44 e45
              cases h46
              exact hret _ () _ _ _ _ rfl rfl hV26 dX3_knownDay_52
  exact L2 FU 0 s_gathered _ _ _ h hV (lv_sub hl1 [1, 2, 3, 0] rfl)
abbrev r_X3_longestRow : Room := { frames := 2, cells := 0, slots := 0, locals := 46 }
set_option maxHeartbeats 4000000 in
set_option maxRecDepth 100000 in
theorem c_X3_longestRow (l : Launch) (E : kE) (sz : Nat) (a0 a1 a2 a3 a4 : Nat) (s_many : Int32) (s_days : Nat → Int32) (s_gathered : Nat → Int32) (s_minutes : Nat → Int32) (s_shapes : Nat → Int32) (p1 : Int32) (p2 : Int32) (p3 : Int32) (r : Int32) (o_gathered : Nat → Int32) (h : f_X3_longestRow s_many s_days s_gathered s_minutes s_shapes p1 p2 p3 = some (r, o_gathered)) : kMi l yX3_longestRow cX3_longestRow 9 (some .int) r_X3_longestRow [.ref a0, .int p1, .int p2, .int p3] E [(a0, .inr (3, [.ref a1, .ref a3, .ref a4, .ref a2, .int s_many])), (a1, .inl (E.2 0, 40, .inl s_days)), (a2, .inl (E.2 0, 40, .inl s_gathered)), (a3, .inl (E.2 0, 40, .inl s_minutes)), (a4, .inl (E.2 0, 40, .inl s_shapes))] sz 0 0 (fun x (_ : Unit) => x = r) (fun _ => [(a0, .inr (3, [.ref a1, .ref a3, .ref a4, .ref a2, .int s_many])), (a1, .inl (E.2 0, 40, .inl s_days)), (a2, .inl (E.2 0, 40, .inl o_gathered)), (a3, .inl (E.2 0, 40, .inl s_minutes)), (a4, .inl (E.2 0, 40, .inl s_shapes))]) := by
  refine kmeti rfl (Nat.le_of_ble_eq_true rfl) ?_
  intro p e s m args below meth c ls A Q X hV hret hl
  have X : kC p s m c cX3_longestRow 9 RX3 args E A := X
  have hx := X.1
  have hb := X.2.1
  have hl : lv_has ls 9 [(0, .ref a0), (1, .int p1), (2, .int p2), (3, .int p3)] := hl
  rw [f_X3_longestRow] at h
  refine lv_aload_n hx hb dX3_longestRow_0 rfl (lv_at hl 0 rfl) ?_
  refine lv_iload_n hx hb dX3_longestRow_1 rfl (lv_at hl 1 rfl) ?_
  refine lv_sipush (v := 400) hx hb dX3_longestRow_2 (by decide) ?_
  refine lv_iconst (v := 1) hx hb dX3_longestRow_5 (by decide) ?_
  obtain ⟨r6_1, o_gathered6_2, hc3, h4⟩ := cb2_s h
  clear h
  refine kgoiE (krunV (rest := []) X hV [0, 1, 2, 3, 4] (c_X3_gather l E _ a0 a1 a2 a3 a4 s_many s_days s_gathered s_minutes s_shapes p1 400 1 r6_1 o_gathered6_2 hc3) mw_908 kb_X3_gather (ci := 3) rfl rfl (by decide) rfl rfl hl.1 rfl (Nat.le_of_ble_eq_true rfl) dX3_longestRow_6 (by decide)) X hV [0, 1, 2, 3, 4] [] rfl rfl rfl (by decide) (fun u H locs hV5 => ?_)
  have hV5 : kV E A s.heap H locs [(a0, .inr (3, [.ref a1, .ref a3, .ref a4, .ref a2, .int s_many])), (a1, .inl (E.2 0, 40, .inl s_days)), (a2, .inl (E.2 0, 40, .inl o_gathered6_2)), (a3, .inl (E.2 0, 40, .inl s_minutes)), (a4, .inl (E.2 0, 40, .inl s_shapes))] := hV5.sub [0, 1, 2, 3, 4] rfl rfl
  clear hV
  refine lv_istore (lv' := [(4, .int r6_1), (0, .ref a0), (1, .int p1), (2, .int p2), (3, .int p3)]) hx hb dX3_longestRow_9 hl (by decide) rfl (fun ls hl7 => ?_)
  clear hl
  refine lv_iconst (v := 0) hx hb dX3_longestRow_11 (by decide) ?_
  refine lv_istore (lv' := [(5, .int 0), (4, .int r6_1), (0, .ref a0), (1, .int p1), (2, .int p2), (3, .int p3)]) hx hb dX3_longestRow_12 hl7 (by decide) rfl (fun ls hl8 => ?_)
  clear hl7
  refine lv_iconst (v := (-1)) hx hb dX3_longestRow_14 (by decide) ?_
  refine lv_istore (lv' := [(6, .int (-1)), (5, .int 0), (4, .int r6_1), (0, .ref a0), (1, .int p1), (2, .int p2), (3, .int p3)]) hx hb dX3_longestRow_15 hl8 (by decide) rfl (fun ls hl9 => ?_)
  clear hl8
  refine lv_iconst (v := 0) hx hb dX3_longestRow_17 (by decide) ?_
  refine lv_istore (lv' := [(7, .int 0), (6, .int (-1)), (5, .int 0), (4, .int r6_1), (0, .ref a0), (1, .int p1), (2, .int p2), (3, .int p3)]) hx hb dX3_longestRow_18 hl9 (by decide) rfl (fun ls hl10 => ?_)
  clear hl9
  refine lv_iload hx hb dX3_longestRow_20 (lv_at hl10 0 rfl) ?_
  refine lv_iload hx hb dX3_longestRow_22 (lv_at hl10 3 rfl) ?_
  refine lv_icmp_ge (tgt := 88) hx hb dX3_longestRow_24 (by decide) (fun c11 => ?_) (fun c11 => ?_)
  · have h12 := itS c11 h4
    clear h4 c11
    refine lv_iload_n hx hb dX3_longestRow_88 rfl (lv_at hl10 7 rfl) ?_
    refine lv_if_ne (tgt := 102) hx hb dX3_longestRow_89 (by decide) (fun c14 => ?_) (fun c14 => ?_)
    · have h15 := ieS c14 h12
      clear h12 c14
      refine lv_iload hx hb dX3_longestRow_102 (lv_at hl10 1 rfl) ?_
      cases h15
      exact hret _ () _ _ _ _ rfl rfl hV5 dX3_longestRow_104
    · have h16 := itS c14 h12
      clear h12 c14
      refine lv_iload hx hb dX3_longestRow_92 (lv_at hl10 3 rfl) ?_
      refine lv_if_le (tgt := 102) hx hb dX3_longestRow_94 (by decide) (fun c17 => ?_) (fun c17 => ?_)
      · have h18 := itS c17 h16
        clear h16 c17
        refine lv_iload hx hb dX3_longestRow_102 (lv_at hl10 1 rfl) ?_
        cases h18
        exact hret _ () _ _ _ _ rfl rfl hV5 dX3_longestRow_104
      · have h19 := ieS c17 h16
        clear h16 c17
        refine lv_iload hx hb dX3_longestRow_97 (lv_at hl10 2 rfl) ?_
        refine lv_goto (tgt := 104) hx hb dX3_longestRow_99 (by decide) ?_
        cases h19
        exact hret _ () _ _ _ _ rfl rfl hV5 dX3_longestRow_104
  · have h13 := ieS c11 h4
    clear h4 c11
    refine lv_aload_n hx hb dX3_longestRow_27 rfl (lv_at hl10 4 rfl) ?_
    refine lv_aload_n hx hb dX3_longestRow_28 rfl (lv_at hl10 4 rfl) ?_
    refine kget X hV5 (ci := 3) inlX3 rfl 0 rfl 3 (by decide) mw_103 rfl dX3_longestRow_29 ?_
    refine lv_iload hx hb dX3_longestRow_32 (lv_at hl10 0 rfl) ?_
    obtain ⟨hi21, v34_20, e22, h23⟩ := rdI_s h13
    clear h13
    refine kiald X hV5 2 rfl hi21 e22 dX3_longestRow_34 ?_
    clear hi21 e22
    refine lv_iload hx hb dX3_longestRow_35 (lv_at hl10 3 rfl) ?_
    refine lv_iload_n hx hb dX3_longestRow_37 rfl (lv_at hl10 6 rfl) ?_
    exact nomatch h23
abbrev r_X2_add : Room := { frames := 0, cells := 0, slots := 0, locals := 0 }
set_option maxHeartbeats 4000000 in
set_option maxRecDepth 100000 in
theorem c_X2_add (l : Launch) (E : kE) (sz : Nat) (a0 a1 a2 : Nat) (w0_2 w0_3 w0_4 : Value) (s_many : Int32) (s_days : Nat → Int32) (s_shifts : Nat → Int32) (p1 : Int32) (p2 : Int32) (r : Int32) (o_many : Int32) (o_days : Nat → Int32) (o_shifts : Nat → Int32) (h : f_X2_add s_many s_days s_shifts p1 p2 = some (r, o_many, o_days, o_shifts)) : kMi l yX2_add cX2_add 3 (some .int) r_X2_add [.ref a0, .int p1, .int p2] E [(a0, .inr (2, [.ref a1, .ref a2, w0_2, w0_3, w0_4, .int s_many])), (a1, .inl (E.2 0, 30, .inl s_days)), (a2, .inl (E.2 0, 30, .inl s_shifts))] sz 0 0 (fun x (_ : Unit) => x = r) (fun _ => [(a0, .inr (2, [.ref a1, .ref a2, w0_2, w0_3, w0_4, .int o_many])), (a1, .inl (E.2 0, 30, .inl o_days)), (a2, .inl (E.2 0, 30, .inl o_shifts))]) := by
  refine kmeti rfl (Nat.le_of_ble_eq_true rfl) ?_
  intro p e s m args below meth c ls A Q X hV hret hl
  have X : kC p s m c cX2_add 3 RX2 args E A := X
  have hx := X.1
  have hb := X.2.1
  have hl : lv_has ls 3 [(0, .ref a0), (1, .int p1), (2, .int p2)] := hl
  rw [f_X2_add] at h
  refine lv_aload_n hx hb dX2_add_0 rfl (lv_at hl 0 rfl) ?_
  refine kget X hV (ci := 2) inlX2 rfl 0 rfl 5 (by decide) mw_126 rfl dX2_add_1 ?_
  refine lv_bipush (v := 30) hx hb dX2_add_4 (by decide) ?_
  refine lv_icmp_lt (tgt := 11) hx hb dX2_add_6 (by decide) (fun c1 => ?_) (fun c1 => ?_)
  · have h2 := itS c1 h
    clear h c1
    refine lv_aload_n hx hb dX2_add_11 rfl (lv_at hl 0 rfl) ?_
    refine kget X hV (ci := 2) inlX2 rfl 0 rfl 0 (by decide) mw_119 rfl dX2_add_12 ?_
    refine lv_aload_n hx hb dX2_add_15 rfl (lv_at hl 0 rfl) ?_
    refine kget X hV (ci := 2) inlX2 rfl 0 rfl 5 (by decide) mw_126 rfl dX2_add_16 ?_
    refine lv_iload_n hx hb dX2_add_19 rfl (lv_at hl 1 rfl) ?_
    obtain ⟨hi5, g20_4, e6, h7⟩ := wrI_s h2
    clear h2
    refine kiast X hV 1 rfl hi5 e6 dX2_add_20 (fun H locs hV8 => ?_)
    have hV8 : kV E A s.heap H locs [(a0, .inr (2, [.ref a1, .ref a2, w0_2, w0_3, w0_4, .int s_many])), (a1, .inl (E.2 0, 30, .inl g20_4)), (a2, .inl (E.2 0, 30, .inl s_shifts))] := hV8
    clear hV hi5 e6
    refine lv_aload_n hx hb dX2_add_21 rfl (lv_at hl 0 rfl) ?_
    refine kget X hV8 (ci := 2) inlX2 rfl 0 rfl 1 (by decide) mw_120 rfl dX2_add_22 ?_
    refine lv_aload_n hx hb dX2_add_25 rfl (lv_at hl 0 rfl) ?_
    refine kget X hV8 (ci := 2) inlX2 rfl 0 rfl 5 (by decide) mw_126 rfl dX2_add_26 ?_
    refine lv_iload_n hx hb dX2_add_29 rfl (lv_at hl 2 rfl) ?_
    obtain ⟨hi10, g30_9, e11, h12⟩ := wrI_s h7
    clear h7
    refine kiast X hV8 2 rfl hi10 e11 dX2_add_30 (fun H locs hV13 => ?_)
    have hV13 : kV E A s.heap H locs [(a0, .inr (2, [.ref a1, .ref a2, w0_2, w0_3, w0_4, .int s_many])), (a1, .inl (E.2 0, 30, .inl g20_4)), (a2, .inl (E.2 0, 30, .inl g30_9))] := hV13
    clear hV8 hi10 e11
    refine lv_aload_n hx hb dX2_add_31 rfl (lv_at hl 0 rfl) ?_
    refine lv_dup hx hb dX2_add_32 rfl ?_
    refine kget X hV13 (ci := 2) inlX2 rfl 0 rfl 5 (by decide) mw_126 rfl dX2_add_33 ?_
    refine lv_iconst (v := 1) hx hb dX2_add_36 (by decide) ?_
    refine lv_iadd hx hb dX2_add_37 ?_
    obtain ⟨v38_14, e15, h16⟩ := nmI_s h12
    clear h12
    refine ktopi e15 ?_
    clear e15
    refine kput X hV13 (ci := 2) inlX2 rfl tyX2 tyX2_ok nmX2 0 rfl 5 (by decide) mw_126 rfl rfl rfl (Nat.le_of_ble_eq_true rfl) dX2_add_38 (fun H locs hV17 => ?_)
    have hV17 : kV E A s.heap H locs [(a0, .inr (2, [.ref a1, .ref a2, w0_2, w0_3, w0_4, .int v38_14])), (a1, .inl (E.2 0, 30, .inl g20_4)), (a2, .inl (E.2 0, 30, .inl g30_9))] := hV17
    clear hV13
    refine lv_aload_n hx hb dX2_add_41 rfl (lv_at hl 0 rfl) ?_
    refine kget X hV17 (ci := 2) inlX2 rfl 0 rfl 5 (by decide) mw_126 rfl dX2_add_42 ?_
    refine lv_iconst (v := 1) hx hb dX2_add_45 (by decide) ?_
    refine lv_isub hx hb dX2_add_46 ?_
    cases h16
    exact hret _ () _ _ _ _ rfl rfl hV17 dX2_add_47
  · have h3 := ieS c1 h
    clear h c1
    refine lv_iconst (v := (-1)) hx hb dX2_add_9 (by decide) ?_
    cases h3
    exact hret _ () _ _ _ _ rfl rfl hV dX2_add_10
abbrev r_X2_storyAt : Room := { frames := 2, cells := 0, slots := 0, locals := 42 }
set_option maxHeartbeats 4000000 in
set_option maxRecDepth 100000 in
theorem c_X2_storyAt (l : Launch) (E : kE) (sz : Nat) (a0 a1 : Nat) (w0_0 w0_1 w0_2 w0_3 w0_5 : Value) (s_stories : Nat → Option Nat) (p1 : Int32) (h : f_X2_storyAt s_stories p1 = some ()) : kMq l yX2_storyAt cX2_storyAt 2 (some (.object "ScruffPaper$Text")) r_X2_storyAt [.ref a0, .int p1] E [(a0, .inr (2, [w0_0, w0_1, w0_2, w0_3, .ref a1, w0_5])), (a1, .inl (E.2 4, 6, .inr (.inr (.inr (.inr s_stories)))))] sz 0 0 (fun x (_ : Unit) => x = none) (fun _ => [(a0, .inr (2, [w0_0, w0_1, w0_2, w0_3, .ref a1, w0_5])), (a1, .inl (E.2 4, 6, .inr (.inr (.inr (.inr s_stories)))))]) := by
  refine kmetq (Or.inl ⟨_, rfl⟩) rfl (Nat.le_of_ble_eq_true rfl) ?_
  intro p e s m args below meth c ls A Q X hV hret hl
  have X : kC p s m c cX2_storyAt 2 RX2 args E A := X
  have hx := X.1
  have hb := X.2.1
  have hl : lv_has ls 2 [(0, .ref a0), (1, .int p1)] := hl
  rw [f_X2_storyAt] at h
  refine lv_iload_n hx hb dX2_storyAt_0 rfl (lv_at hl 1 rfl) ?_
  obtain ⟨r1_1, hc2, h3⟩ := cb1_s h
  clear h
  refine kgoiE (krunSN (rest := []) X hV [] (c_X11_isStory l E _ p1 r1_1 hc2) (List.mem_of_getElem? (i := 7) rfl) kb_X11_isStory (by decide) rfl rfl hl.1 rfl (Nat.le_of_ble_eq_true rfl) dX2_storyAt_1 (by decide)) X hV [] [0, 1] rfl rfl rfl (by decide) (fun u H locs hV4 => ?_)
  have hV4 : kV E A s.heap H locs [(a0, .inr (2, [w0_0, w0_1, w0_2, w0_3, .ref a1, w0_5])), (a1, .inl (E.2 4, 6, .inr (.inr (.inr (.inr s_stories)))))] := hV4.sub [0, 1] rfl rfl
  clear hV
  refine lv_if_eq (tgt := 16) hx hb dX2_storyAt_4 (by decide) (fun c6 => ?_) (fun c6 => ?_)
  · have h7 := itS c6 h3
    clear h3 c6
    refine lv_null hx hb dX2_storyAt_16 ?_
    exact hret none () _ _ _ _ rfl hV4 dX2_storyAt_17
  · have h8 := ieS c6 h3
    clear h3 c6
    refine lv_aload_n hx hb dX2_storyAt_7 rfl (lv_at hl 0 rfl) ?_
    refine kget X hV4 (ci := 2) inlX2 rfl 0 rfl 4 (by decide) mw_125 rfl dX2_storyAt_8 ?_
    refine lv_iload_n hx hb dX2_storyAt_11 rfl (lv_at hl 1 rfl) ?_
    obtain ⟨hi9, e10, h11⟩ := rdN_s h8
    clear h8
    refine kaald X hV4 1 4 rfl rfl hi9 e10 dX2_storyAt_12 ?_
    clear hi9 e10
    refine W.eq (g2 := F0 m 13 ls [.null]) rfl ?_
    refine lv_goto (tgt := 17) hx hb dX2_storyAt_13 (by decide) ?_
    exact hret none () _ _ _ _ rfl hV4 dX2_storyAt_17
abbrev r_X2_alone : Room := { frames := 0, cells := 0, slots := 0, locals := 0 }
set_option maxHeartbeats 4000000 in
set_option maxRecDepth 100000 in
theorem c_X2_alone (l : Launch) (E : kE) (sz : Nat) (a0 a1 a2 : Nat) (w0_0 w0_1 w0_3 : Value) (s_many : Int32) (s_fallen : Nat → Int32) (s_stories : Nat → Option Nat) (p1 : Int32) (p2 : Int32) (r : Int32) (o_fallen : Nat → Int32) (h : f_X2_alone s_many s_fallen s_stories p1 p2 = some (r, o_fallen)) : kMi l yX2_alone cX2_alone 7 (some .int) r_X2_alone [.ref a0, .int p1, .int p2] E [(a0, .inr (2, [w0_0, w0_1, .ref a1, w0_3, .ref a2, .int s_many])), (a1, .inl (E.2 0, 6, .inl s_fallen)), (a2, .inl (E.2 4, 6, .inr (.inr (.inr (.inr s_stories)))))] sz 0 0 (fun x (_ : Unit) => x = r) (fun _ => [(a0, .inr (2, [w0_0, w0_1, .ref a1, w0_3, .ref a2, .int s_many])), (a1, .inl (E.2 0, 6, .inl o_fallen)), (a2, .inl (E.2 4, 6, .inr (.inr (.inr (.inr s_stories)))))]) := by
  refine kmeti rfl (Nat.le_of_ble_eq_true rfl) ?_
  intro p e s m args below meth c ls A Q X hV hret hl
  have X : kC p s m c cX2_alone 7 RX2 args E A := X
  have hx := X.1
  have hb := X.2.1
  have hl : lv_has ls 7 [(0, .ref a0), (1, .int p1), (2, .int p2)] := hl
  rw [f_X2_alone] at h
  refine lv_iconst (v := 0) hx hb dX2_alone_0 (by decide) ?_
  refine lv_istore_n (lv' := [(3, .int 0), (0, .ref a0), (1, .int p1), (2, .int p2)]) hx hb dX2_alone_1 rfl hl (by decide) rfl (fun ls hl1 => ?_)
  clear hl
  have J44 : ∀ (fallen__2 : Nat → Int32) (H : Heap) (locs : List Loc) (ls : Array Slot), (f_X2_alone_J44 s_many p2 ) fallen__2 = some (r, o_fallen) → kV E A s.heap H locs [(a0, .inr (2, [w0_0, w0_1, .ref a1, w0_3, .ref a2, .int s_many])), (a1, .inl (E.2 0, 6, .inl fallen__2)), (a2, .inl (E.2 4, 6, .inr (.inr (.inr (.inr s_stories)))))] → lv_has ls 7 [(0, .ref a0), (2, .int p2)] → W p l e r_X2_alone s m args below meth c H locs 0 0 Q (F0 m 44 ls []) := by
    intro fallen__2 H locs ls hB44 hVB44 hlB44
    rw [f_X2_alone_J44] at hB44
    refine lv_iconst (v := 0) hx hb dX2_alone_44 (by decide) ?_
    refine lv_istore_n (lv' := [(3, .int 0), (0, .ref a0), (2, .int p2)]) hx hb dX2_alone_45 rfl hlB44 (by decide) rfl (fun ls hl3 => ?_)
    clear hlB44
    have J112 : ∀ (x3_4 : Int32) (x5_5 : Int32) (H : Heap) (locs : List Loc) (ls : Array Slot), (f_X2_alone_J112 p2 fallen__2 ) x3_4 x5_5 = some (r, o_fallen) → kV E A s.heap H locs [(a0, .inr (2, [w0_0, w0_1, .ref a1, w0_3, .ref a2, .int s_many])), (a1, .inl (E.2 0, 6, .inl fallen__2)), (a2, .inl (E.2 4, 6, .inr (.inr (.inr (.inr s_stories)))))] → lv_has ls 7 [(2, .int p2), (3, .int x3_4), (5, .int x5_5)] → W p l e r_X2_alone s m args below meth c H locs 0 0 Q (F0 m 112 ls []) := by
      intro x3_4 x5_5 H locs ls hB112 hVB112 hlB112
      rw [f_X2_alone_J112] at hB112
      refine lv_iload_n hx hb dX2_alone_112 rfl (lv_at hlB112 0 rfl) ?_
      refine lv_if_ne (tgt := 120) hx hb dX2_alone_113 (by decide) (fun c6 => ?_) (fun c6 => ?_)
      · have h7 := ieS c6 hB112
        clear hB112 c6
        refine lv_iload hx hb dX2_alone_120 (lv_at hlB112 2 rfl) ?_
        cases h7
        exact hret _ () _ _ _ _ rfl rfl hVB112 dX2_alone_122
      · have h8 := itS c6 hB112
        clear hB112 c6
        refine lv_iload_n hx hb dX2_alone_116 rfl (lv_at hlB112 1 rfl) ?_
        refine lv_goto (tgt := 122) hx hb dX2_alone_117 (by decide) ?_
        cases h8
        exact hret _ () _ _ _ _ rfl rfl hVB112 dX2_alone_122
    have L46 : ∀ (n46 : Nat) (x3_9 : Int32) (H : Heap) (locs : List Loc) (ls : Array Slot), (f_X2_alone_L46 s_many fallen__2 (f_X2_alone_J112 p2 fallen__2 ) n46) x3_9 = some (r, o_fallen) → kV E A s.heap H locs [(a0, .inr (2, [w0_0, w0_1, .ref a1, w0_3, .ref a2, .int s_many])), (a1, .inl (E.2 0, 6, .inl fallen__2)), (a2, .inl (E.2 4, 6, .inr (.inr (.inr (.inr s_stories)))))] → lv_has ls 7 [(0, .ref a0), (2, .int p2), (3, .int x3_9)] → W p l e r_X2_alone s m args below meth c H locs 0 0 Q (F0 m 46 ls []) := by
      intro n46
      induction n46 with
      | zero =>
        intro x3_9 H locs ls hB46 hVB46 hlB46
        rw [f_X2_alone_L46] at hB46
        exact nomatch hB46
      | succ n46 ih46 =>
        intro x3_9 H locs ls hB46 hVB46 hlB46
        rw [f_X2_alone_L46] at hB46
        refine lv_iload_n hx hb dX2_alone_46 rfl (lv_at hlB46 2 rfl) ?_
        refine lv_aload_n hx hb dX2_alone_47 rfl (lv_at hlB46 0 rfl) ?_
        refine kget X hVB46 (ci := 2) inlX2 rfl 0 rfl 5 (by decide) mw_126 rfl dX2_alone_48 ?_
        refine lv_icmp_ge (tgt := 129) hx hb dX2_alone_51 (by decide) (fun c10 => ?_) (fun c10 => ?_)
        · have h11 := itS c10 hB46
          clear hB46 c10
          refine lv_iconst (v := (-1)) hx hb dX2_alone_129 (by decide) ?_
          cases h11
          exact hret _ () _ _ _ _ rfl rfl hVB46 dX2_alone_130
        · have h12 := ieS c10 hB46
          clear hB46 c10
          refine lv_iconst (v := 0) hx hb dX2_alone_54 (by decide) ?_
          refine lv_istore (lv' := [(4, .int 0), (0, .ref a0), (2, .int p2), (3, .int x3_9)]) hx hb dX2_alone_55 hlB46 (by decide) rfl (fun ls hl13 => ?_)
          clear hlB46
          refine lv_iconst (v := (-1)) hx hb dX2_alone_57 (by decide) ?_
          refine lv_istore (lv' := [(5, .int (-1)), (4, .int 0), (0, .ref a0), (2, .int p2), (3, .int x3_9)]) hx hb dX2_alone_58 hl13 (by decide) rfl (fun ls hl14 => ?_)
          clear hl13
          refine lv_iconst (v := 0) hx hb dX2_alone_60 (by decide) ?_
          refine lv_istore (lv' := [(6, .int 0), (5, .int (-1)), (4, .int 0), (0, .ref a0), (2, .int p2), (3, .int x3_9)]) hx hb dX2_alone_61 hl14 (by decide) rfl (fun ls hl15 => ?_)
          clear hl14
          have J106 : ∀ (x4_16 : Int32) (x5_17 : Int32) (H : Heap) (locs : List Loc) (ls : Array Slot), (f_X2_alone_J106 x3_9 (f_X2_alone_L46 s_many fallen__2 (f_X2_alone_J112 p2 fallen__2 ) n46) (f_X2_alone_J112 p2 fallen__2 )) x4_16 x5_17 = some (r, o_fallen) → kV E A s.heap H locs [(a0, .inr (2, [w0_0, w0_1, .ref a1, w0_3, .ref a2, .int s_many])), (a1, .inl (E.2 0, 6, .inl fallen__2)), (a2, .inl (E.2 4, 6, .inr (.inr (.inr (.inr s_stories)))))] → lv_has ls 7 [(0, .ref a0), (2, .int p2), (3, .int x3_9), (4, .int x4_16), (5, .int x5_17)] → W p l e r_X2_alone s m args below meth c H locs 0 0 Q (F0 m 106 ls []) := by
            intro x4_16 x5_17 H locs ls hB106 hVB106 hlB106
            rw [f_X2_alone_J106] at hB106
            refine lv_iload hx hb dX2_alone_106 (lv_at hlB106 3 rfl) ?_
            refine lv_iconst (v := 1) hx hb dX2_alone_108 (by decide) ?_
            refine lv_icmp_ne (tgt := 123) hx hb dX2_alone_109 (by decide) (fun c18 => ?_) (fun c18 => ?_)
            · have h19 := ieS c18 hB106
              clear hB106 c18
              obtain ⟨v123_21, e22, h23⟩ := nmI_s h19
              clear h19
              refine lv_iinc (v := v123_21) (lv' := [(3, .int v123_21), (0, .ref a0), (2, .int p2), (4, .int x4_16), (5, .int x5_17)]) hx hb dX2_alone_123 hlB106 (k := 2) rfl (by rw [e22]; rfl) (by decide) rfl (fun ls hl24 => ?_)
              clear hlB106 e22
              refine lv_goto (tgt := 46) hx hb dX2_alone_126 (by decide) ?_
              exact ih46 v123_21 _ _ _ h23 hVB106 (lv_sub hl24 [1, 2, 0] rfl)
            · have h20 := itS c18 hB106
              clear hB106 c18
              exact J112 x3_9 x5_17 _ _ _ h20 hVB106 (lv_sub hlB106 [1, 2, 4] rfl)
          have L63 : ∀ (n63 : Nat) (x4_25 : Int32) (x5_26 : Int32) (x6_27 : Int32) (H : Heap) (locs : List Loc) (ls : Array Slot), (f_X2_alone_L63 fallen__2 x3_9 (f_X2_alone_J106 x3_9 (f_X2_alone_L46 s_many fallen__2 (f_X2_alone_J112 p2 fallen__2 ) n46) (f_X2_alone_J112 p2 fallen__2 )) n63) x4_25 x5_26 x6_27 = some (r, o_fallen) → kV E A s.heap H locs [(a0, .inr (2, [w0_0, w0_1, .ref a1, w0_3, .ref a2, .int s_many])), (a1, .inl (E.2 0, 6, .inl fallen__2)), (a2, .inl (E.2 4, 6, .inr (.inr (.inr (.inr s_stories)))))] → lv_has ls 7 [(0, .ref a0), (2, .int p2), (3, .int x3_9), (4, .int x4_25), (5, .int x5_26), (6, .int x6_27)] → W p l e r_X2_alone s m args below meth c H locs 0 0 Q (F0 m 63 ls []) := by
            intro n63
            induction n63 with
            | zero =>
              intro x4_25 x5_26 x6_27 H locs ls hB63 hVB63 hlB63
              rw [f_X2_alone_L63] at hB63
              exact nomatch hB63
            | succ n63 ih63 =>
              intro x4_25 x5_26 x6_27 H locs ls hB63 hVB63 hlB63
              rw [f_X2_alone_L63] at hB63
              refine lv_iload hx hb dX2_alone_63 (lv_at hlB63 5 rfl) ?_
              refine lv_bipush (v := 6) hx hb dX2_alone_65 (by decide) ?_
              refine lv_icmp_ge (tgt := 106) hx hb dX2_alone_67 (by decide) (fun c28 => ?_) (fun c28 => ?_)
              · have h29 := itS c28 hB63
                clear hB63 c28
                exact J106 x4_25 x5_26 _ _ _ h29 hVB63 (lv_sub hlB63 [0, 1, 2, 3, 4] rfl)
              · have h30 := ieS c28 hB63
                clear hB63 c28
                refine lv_aload_n hx hb dX2_alone_70 rfl (lv_at hlB63 0 rfl) ?_
                refine kget X hVB63 (ci := 2) inlX2 rfl 0 rfl 2 (by decide) mw_121 rfl dX2_alone_71 ?_
                refine lv_iload hx hb dX2_alone_74 (lv_at hlB63 5 rfl) ?_
                obtain ⟨hi32, v76_31, e33, h34⟩ := rdI_s h30
                clear h30
                refine kiald X hVB63 1 rfl hi32 e33 dX2_alone_76 ?_
                clear hi32 e33
                refine lv_bipush (v := (-2)) hx hb dX2_alone_77 (by decide) ?_
                have J93 : ∀ (x6_35 : Int32) (H : Heap) (locs : List Loc) (ls : Array Slot), (f_X2_alone_J93 x4_25 (f_X2_alone_L63 fallen__2 x3_9 (f_X2_alone_J106 x3_9 (f_X2_alone_L46 s_many fallen__2 (f_X2_alone_J112 p2 fallen__2 ) n46) (f_X2_alone_J112 p2 fallen__2 )) n63)) x6_35 = some (r, o_fallen) → kV E A s.heap H locs [(a0, .inr (2, [w0_0, w0_1, .ref a1, w0_3, .ref a2, .int s_many])), (a1, .inl (E.2 0, 6, .inl fallen__2)), (a2, .inl (E.2 4, 6, .inr (.inr (.inr (.inr s_stories)))))] → lv_has ls 7 [(0, .ref a0), (2, .int p2), (3, .int x3_9), (4, .int x4_25), (6, .int x6_35)] → W p l e r_X2_alone s m args below meth c H locs 0 0 Q (F0 m 93 ls []) := by
                  intro x6_35 H locs ls hB93 hVB93 hlB93
                  rw [f_X2_alone_J93] at hB93
                  obtain ⟨v93_36, e37, h38⟩ := nmI_s hB93
                  clear hB93
                  refine lv_iinc (v := v93_36) (lv' := [(4, .int v93_36), (0, .ref a0), (2, .int p2), (3, .int x3_9), (6, .int x6_35)]) hx hb dX2_alone_93 hlB93 (k := 3) rfl (by rw [e37]; rfl) (by decide) rfl (fun ls hl39 => ?_)
                  clear hlB93 e37
                  refine lv_iload hx hb dX2_alone_96 (lv_at hl39 4 rfl) ?_
                  refine lv_istore (lv' := [(5, .int x6_35), (4, .int v93_36), (0, .ref a0), (2, .int p2), (3, .int x3_9), (6, .int x6_35)]) hx hb dX2_alone_98 hl39 (by decide) rfl (fun ls hl40 => ?_)
                  clear hl39
                  obtain ⟨v100_41, e42, h43⟩ := nmI_s h38
                  clear h38
                  refine lv_iinc (v := v100_41) (lv' := [(6, .int v100_41), (5, .int x6_35), (4, .int v93_36), (0, .ref a0), (2, .int p2), (3, .int x3_9)]) hx hb dX2_alone_100 hl40 (k := 5) rfl (by rw [e42]; rfl) (by decide) rfl (fun ls hl44 => ?_)
                  clear hl40 e42
                  refine lv_goto (tgt := 63) hx hb dX2_alone_103 (by decide) ?_
                  exact ih63 v93_36 x6_35 v100_41 _ _ _ h43 hVB93 (lv_sub hl44 [3, 4, 5, 2, 1, 0] rfl)
                refine lv_icmp_eq (tgt := 93) hx hb dX2_alone_79 (by decide) (fun c45 => ?_) (fun c45 => ?_)
                · have h46 := itS c45 h34
                  clear h34 c45
                  exact J93 x6_27 _ _ _ h46 hVB63 (lv_sub hlB63 [0, 1, 2, 3, 5] rfl)
                · have h47 := ieS c45 h34
                  clear h34 c45
                  refine lv_aload_n hx hb dX2_alone_82 rfl (lv_at hlB63 0 rfl) ?_
                  refine kget X hVB63 (ci := 2) inlX2 rfl 0 rfl 2 (by decide) mw_121 rfl dX2_alone_83 ?_
                  refine lv_iload hx hb dX2_alone_86 (lv_at hlB63 5 rfl) ?_
                  obtain ⟨hi49, v88_48, e50, h51⟩ := rdI_s h47
                  clear h47
                  refine kiald X hVB63 1 rfl hi49 e50 dX2_alone_88 ?_
                  clear hi49 e50
                  refine lv_iload_n hx hb dX2_alone_89 rfl (lv_at hlB63 2 rfl) ?_
                  refine lv_icmp_le (tgt := 100) hx hb dX2_alone_90 (by decide) (fun c52 => ?_) (fun c52 => ?_)
                  · have h53 := itS c52 h51
                    clear h51 c52
                    obtain ⟨v100_55, e56, h57⟩ := nmI_s h53
                    clear h53
                    refine lv_iinc (v := v100_55) (lv' := [(6, .int v100_55), (0, .ref a0), (2, .int p2), (3, .int x3_9), (4, .int x4_25), (5, .int x5_26)]) hx hb dX2_alone_100 hlB63 (k := 5) rfl (by rw [e56]; rfl) (by decide) rfl (fun ls hl58 => ?_)
                    clear hlB63 e56
                    refine lv_goto (tgt := 63) hx hb dX2_alone_103 (by decide) ?_
                    exact ih63 x4_25 x5_26 v100_55 _ _ _ h57 hVB63 (lv_sub hl58 [1, 2, 3, 4, 5, 0] rfl)
                  · have h54 := ieS c52 h51
                    clear h51 c52
                    exact J93 x6_27 _ _ _ h54 hVB63 (lv_sub hlB63 [0, 1, 2, 3, 5] rfl)
          exact L63 FU 0 (-1) 0 _ _ _ h12 hVB46 (lv_sub hl15 [3, 4, 5, 2, 1, 0] rfl)
    exact L46 FU 0 _ _ _ hB44 hVB44 (lv_sub hl3 [1, 2, 0] rfl)
  have L2 : ∀ (n2 : Nat) (x3_59 : Int32) (fallen__60 : Nat → Int32) (H : Heap) (locs : List Loc) (ls : Array Slot), (f_X2_alone_L2 s_stories (f_X2_alone_J44 s_many p2 ) n2) x3_59 fallen__60 = some (r, o_fallen) → kV E A s.heap H locs [(a0, .inr (2, [w0_0, w0_1, .ref a1, w0_3, .ref a2, .int s_many])), (a1, .inl (E.2 0, 6, .inl fallen__60)), (a2, .inl (E.2 4, 6, .inr (.inr (.inr (.inr s_stories)))))] → lv_has ls 7 [(0, .ref a0), (2, .int p2), (3, .int x3_59)] → W p l e r_X2_alone s m args below meth c H locs 0 0 Q (F0 m 2 ls []) := by
    intro n2
    induction n2 with
    | zero =>
      intro x3_59 fallen__60 H locs ls hB2 hVB2 hlB2
      rw [f_X2_alone_L2] at hB2
      exact nomatch hB2
    | succ n2 ih2 =>
      intro x3_59 fallen__60 H locs ls hB2 hVB2 hlB2
      rw [f_X2_alone_L2] at hB2
      refine lv_iload_n hx hb dX2_alone_2 rfl (lv_at hlB2 2 rfl) ?_
      refine lv_bipush (v := 6) hx hb dX2_alone_3 (by decide) ?_
      refine lv_icmp_ge (tgt := 44) hx hb dX2_alone_5 (by decide) (fun c61 => ?_) (fun c61 => ?_)
      · have h62 := itS c61 hB2
        clear hB2 c61
        exact J44 fallen__60 _ _ _ h62 hVB2 (lv_sub hlB2 [0, 1] rfl)
      · have h63 := ieS c61 hB2
        clear hB2 c61
        refine lv_aload_n hx hb dX2_alone_8 rfl (lv_at hlB2 0 rfl) ?_
        refine kget X hVB2 (ci := 2) inlX2 rfl 0 rfl 2 (by decide) mw_121 rfl dX2_alone_9 ?_
        refine lv_iload_n hx hb dX2_alone_12 rfl (lv_at hlB2 2 rfl) ?_
        refine lv_aload_n hx hb dX2_alone_13 rfl (lv_at hlB2 0 rfl) ?_
        refine kget X hVB2 (ci := 2) inlX2 rfl 0 rfl 4 (by decide) mw_125 rfl dX2_alone_14 ?_
        refine lv_iload_n hx hb dX2_alone_17 rfl (lv_at hlB2 2 rfl) ?_
        obtain ⟨hi64, e65, h66⟩ := rdN_s h63
        clear h63
        refine kaald X hVB2 2 4 rfl rfl hi64 e65 dX2_alone_18 ?_
        clear hi64 e65
        refine W.eq (g2 := F0 m 19 ls [.null, .int x3_59, .ref a1]) rfl ?_
        refine lv_ifnonnullN hx hb dX2_alone_19 ?_
        refine lv_iconst (v := 0) hx hb dX2_alone_22 (by decide) ?_
        refine lv_goto (tgt := 37) hx hb dX2_alone_23 (by decide) ?_
        obtain ⟨hi68, g37_67, e69, h70⟩ := wrI_s h66
        clear h66
        refine kiast X hVB2 1 rfl hi68 e69 dX2_alone_37 (fun H locs hV71 => ?_)
        have hV71 : kV E A s.heap H locs [(a0, .inr (2, [w0_0, w0_1, .ref a1, w0_3, .ref a2, .int s_many])), (a1, .inl (E.2 0, 6, .inl g37_67)), (a2, .inl (E.2 4, 6, .inr (.inr (.inr (.inr s_stories)))))] := hV71
        clear hVB2 hi68 e69
        obtain ⟨v38_72, e73, h74⟩ := nmI_s h70
        clear h70
        refine lv_iinc (v := v38_72) (lv' := [(3, .int v38_72), (0, .ref a0), (2, .int p2)]) hx hb dX2_alone_38 hlB2 (k := 2) rfl (by rw [e73]; rfl) (by decide) rfl (fun ls hl75 => ?_)
        clear hlB2 e73
        refine lv_goto (tgt := 2) hx hb dX2_alone_41 (by decide) ?_
        exact ih2 v38_72 g37_67 _ _ _ h74 hV71 (lv_sub hl75 [1, 2, 0] rfl)
  exact L2 FU 0 s_fallen _ _ _ h hV (lv_sub hl1 [1, 3, 0] rfl)
abbrev r_X2_greatestSize : Room := { frames := 0, cells := 0, slots := 0, locals := 0 }
set_option maxHeartbeats 4000000 in
set_option maxRecDepth 100000 in
theorem c_X2_greatestSize (l : Launch) (E : kE) (sz : Nat) (a0 a1 : Nat) (w0_1 w0_2 w0_3 w0_4 : Value) (s_many : Int32) (s_days : Nat → Int32) (p1 : Int32) (p2 : Int32) (p3 : Int32) (r : Int32) (h : f_X2_greatestSize s_many s_days p1 p2 p3 = some (r)) : kMi l yX2_greatestSize cX2_greatestSize 12 (some .int) r_X2_greatestSize [.ref a0, .int p1, .int p2, .int p3] E [(a0, .inr (2, [.ref a1, w0_1, w0_2, w0_3, w0_4, .int s_many])), (a1, .inl (E.2 0, 30, .inl s_days))] sz 0 0 (fun x (_ : Unit) => x = r) (fun _ => [(a0, .inr (2, [.ref a1, w0_1, w0_2, w0_3, w0_4, .int s_many])), (a1, .inl (E.2 0, 30, .inl s_days))]) := by
  refine kmeti rfl (Nat.le_of_ble_eq_true rfl) ?_
  intro p e s m args below meth c ls A Q X hV hret hl
  have X : kC p s m c cX2_greatestSize 12 RX2 args E A := X
  have hx := X.1
  have hb := X.2.1
  have hl : lv_has ls 12 [(0, .ref a0), (1, .int p1), (2, .int p2), (3, .int p3)] := hl
  rw [f_X2_greatestSize] at h
  refine lv_iconst (v := 0) hx hb dX2_greatestSize_0 (by decide) ?_
  refine lv_istore (lv' := [(4, .int 0), (0, .ref a0), (1, .int p1), (2, .int p2), (3, .int p3)]) hx hb dX2_greatestSize_1 hl (by decide) rfl (fun ls hl1 => ?_)
  clear hl
  refine lv_sipush (v := 2000) hx hb dX2_greatestSize_3 (by decide) ?_
  refine lv_istore (lv' := [(5, .int 2000), (4, .int 0), (0, .ref a0), (1, .int p1), (2, .int p2), (3, .int p3)]) hx hb dX2_greatestSize_6 hl1 (by decide) rfl (fun ls hl2 => ?_)
  clear hl1
  refine lv_iconst (v := 0) hx hb dX2_greatestSize_8 (by decide) ?_
  refine lv_istore (lv' := [(6, .int 0), (5, .int 2000), (4, .int 0), (0, .ref a0), (1, .int p1), (2, .int p2), (3, .int p3)]) hx hb dX2_greatestSize_9 hl2 (by decide) rfl (fun ls hl3 => ?_)
  clear hl2
  refine lv_iload hx hb dX2_greatestSize_11 (lv_at hl3 0 rfl) ?_
  refine lv_aload_n hx hb dX2_greatestSize_13 rfl (lv_at hl3 3 rfl) ?_
  refine kget X hV (ci := 2) inlX2 rfl 0 rfl 5 (by decide) mw_126 rfl dX2_greatestSize_14 ?_
  have J165 : ∀  (H : Heap) (locs : List Loc) (ls : Array Slot), (f_X2_greatestSize_J165  ) = some (r) → kV E A s.heap H locs [(a0, .inr (2, [.ref a1, w0_1, w0_2, w0_3, w0_4, .int s_many])), (a1, .inl (E.2 0, 30, .inl s_days))] → lv_has ls 12 [(4, .int 0), (5, .int 2000)] → W p l e r_X2_greatestSize s m args below meth c H locs 0 0 Q (F0 m 165 ls []) := by
    intro  H locs ls hB165 hVB165 hlB165
    rw [f_X2_greatestSize_J165] at hB165
    refine lv_iload hx hb dX2_greatestSize_165 (lv_at hlB165 0 rfl) ?_
    refine lv_iload hx hb dX2_greatestSize_167 (lv_at hlB165 1 rfl) ?_
    refine lv_icmp_gt (tgt := 177) hx hb dX2_greatestSize_169 (by decide) (fun c4 => by exact absurd c4 (by decide)) (fun c4 => ?_)
    clear c4
    refine lv_iload hx hb dX2_greatestSize_172 (lv_at hlB165 1 rfl) ?_
    refine lv_goto (tgt := 179) hx hb dX2_greatestSize_174 (by decide) ?_
    cases hB165
    exact hret _ () _ _ _ _ rfl rfl hVB165 dX2_greatestSize_179
  refine lv_icmp_ge (tgt := 165) hx hb dX2_greatestSize_17 (by decide) (fun c5 => ?_) (fun c5 => ?_)
  · have h6 := itS c5 h
    clear h c5
    exact J165  _ _ _ h6 hV (lv_sub hl3 [2, 1] rfl)
  · have h7 := ieS c5 h
    clear h c5
    refine lv_iload_n hx hb dX2_greatestSize_20 rfl (lv_at hl3 4 rfl) ?_
    refine lv_if_le (tgt := 165) hx hb dX2_greatestSize_21 (by decide) (fun c8 => ?_) (fun c8 => ?_)
    · have h9 := itS c8 h7
      clear h7 c8
      exact J165  _ _ _ h9 hV (lv_sub hl3 [2, 1] rfl)
    · have h10 := ieS c8 h7
      clear h7 c8
      refine lv_aload_n hx hb dX2_greatestSize_24 rfl (lv_at hl3 3 rfl) ?_
      refine kget X hV (ci := 2) inlX2 rfl 0 rfl 0 (by decide) mw_119 rfl dX2_greatestSize_25 ?_
      refine lv_iload hx hb dX2_greatestSize_28 (lv_at hl3 0 rfl) ?_
      obtain ⟨hi12, v30_11, e13, h14⟩ := rdI_s h10
      clear h10
      refine kiald X hV 1 rfl hi12 e13 dX2_greatestSize_30 ?_
      clear hi12 e13
      refine lv_iload_n hx hb dX2_greatestSize_31 rfl (lv_at hl3 5 rfl) ?_
      refine lv_iadd hx hb dX2_greatestSize_32 ?_
      refine lv_iload_n hx hb dX2_greatestSize_33 rfl (lv_at hl3 4 rfl) ?_
      obtain ⟨hn15, h16⟩ := dvI_s h14
      clear h14
      refine lv_irem hx hb dX2_greatestSize_34 hn15 ?_
      refine lv_iload_n hx hb dX2_greatestSize_35 rfl (lv_at hl3 4 rfl) ?_
      exact nomatch h16
abbrev r_X2_greatestOrbit : Room := { frames := 1, cells := 0, slots := 0, locals := 31 }
set_option maxHeartbeats 4000000 in
set_option maxRecDepth 100000 in
theorem c_X2_greatestOrbit (l : Launch) (E : kE) (sz : Nat) (a0 a1 : Nat) (w0_1 w0_2 w0_3 w0_4 : Value) (s_many : Int32) (s_days : Nat → Int32) (p1 : Int32) (p2 : Int32) (r : Int32) (h : f_X2_greatestOrbit s_many s_days p1 p2 = some (r)) : kMi l yX2_greatestOrbit cX2_greatestOrbit 5 (some .int) r_X2_greatestOrbit [.ref a0, .int p1, .int p2] E [(a0, .inr (2, [.ref a1, w0_1, w0_2, w0_3, w0_4, .int s_many])), (a1, .inl (E.2 0, 30, .inl s_days))] sz 0 0 (fun x (_ : Unit) => x = r) (fun _ => [(a0, .inr (2, [.ref a1, w0_1, w0_2, w0_3, w0_4, .int s_many])), (a1, .inl (E.2 0, 30, .inl s_days))]) := by
  refine kmeti rfl (Nat.le_of_ble_eq_true rfl) ?_
  intro p e s m args below meth c ls A Q X hV hret hl
  have X : kC p s m c cX2_greatestOrbit 5 RX2 args E A := X
  have hx := X.1
  have hb := X.2.1
  have hl : lv_has ls 5 [(0, .ref a0), (1, .int p1), (2, .int p2)] := hl
  rw [f_X2_greatestOrbit] at h
  refine lv_bipush (v := (-2)) hx hb dX2_greatestOrbit_0 (by decide) ?_
  refine lv_istore_n (lv' := [(3, .int (-2)), (0, .ref a0), (1, .int p1), (2, .int p2)]) hx hb dX2_greatestOrbit_2 rfl hl (by decide) rfl (fun ls hl1 => ?_)
  clear hl
  refine lv_iconst (v := 0) hx hb dX2_greatestOrbit_3 (by decide) ?_
  refine lv_istore (lv' := [(4, .int 0), (3, .int (-2)), (0, .ref a0), (1, .int p1), (2, .int p2)]) hx hb dX2_greatestOrbit_4 hl1 (by decide) rfl (fun ls hl2 => ?_)
  clear hl1
  have L6 : ∀ (n6 : Nat) (x3_3 : Int32) (x4_4 : Int32) (H : Heap) (locs : List Loc) (ls : Array Slot), (f_X2_greatestOrbit_L6 s_many s_days p1 p2  n6) x3_3 x4_4 = some (r) → kV E A s.heap H locs [(a0, .inr (2, [.ref a1, w0_1, w0_2, w0_3, w0_4, .int s_many])), (a1, .inl (E.2 0, 30, .inl s_days))] → lv_has ls 5 [(0, .ref a0), (1, .int p1), (2, .int p2), (3, .int x3_3), (4, .int x4_4)] → W p l e r_X2_greatestOrbit s m args below meth c H locs 0 0 Q (F0 m 6 ls []) := by
    intro n6
    induction n6 with
    | zero =>
      intro x3_3 x4_4 H locs ls hB6 hVB6 hlB6
      rw [f_X2_greatestOrbit_L6] at hB6
      exact nomatch hB6
    | succ n6 ih6 =>
      intro x3_3 x4_4 H locs ls hB6 hVB6 hlB6
      rw [f_X2_greatestOrbit_L6] at hB6
      refine lv_iload hx hb dX2_greatestOrbit_6 (lv_at hlB6 4 rfl) ?_
      refine lv_iload_n hx hb dX2_greatestOrbit_8 rfl (lv_at hlB6 1 rfl) ?_
      refine lv_icmp_ge (tgt := 31) hx hb dX2_greatestOrbit_9 (by decide) (fun c5 => ?_) (fun c5 => ?_)
      · have h6 := itS c5 hB6
        clear hB6 c5
        refine lv_iload_n hx hb dX2_greatestOrbit_31 rfl (lv_at hlB6 3 rfl) ?_
        cases h6
        exact hret _ () _ _ _ _ rfl rfl hVB6 dX2_greatestOrbit_32
      · have h7 := ieS c5 hB6
        clear hB6 c5
        refine lv_iload_n hx hb dX2_greatestOrbit_12 rfl (lv_at hlB6 3 rfl) ?_
        refine lv_aload_n hx hb dX2_greatestOrbit_13 rfl (lv_at hlB6 0 rfl) ?_
        refine lv_iload_n hx hb dX2_greatestOrbit_14 rfl (lv_at hlB6 1 rfl) ?_
        refine lv_iload hx hb dX2_greatestOrbit_15 (lv_at hlB6 4 rfl) ?_
        refine lv_iload_n hx hb dX2_greatestOrbit_17 rfl (lv_at hlB6 2 rfl) ?_
        obtain ⟨r18_8, hc9, h10⟩ := cb1_s h7
        clear h7
        refine kgoiE (krunV (rest := [.int x3_3]) X hVB6 [0, 1] (c_X2_greatestSize l E _ a0 a1 (w0_1) (w0_2) (w0_3) (w0_4) s_many s_days p1 x4_4 p2 r18_8 hc9) mw_1190 kb_X2_greatestSize (ci := 2) rfl rfl (by decide) rfl rfl hlB6.1 rfl (Nat.le_of_ble_eq_true rfl) dX2_greatestOrbit_18 (by decide)) X hVB6 [0, 1] [] rfl rfl rfl (by decide) (fun u H locs hV11 => ?_)
        have hV11 : kV E A s.heap H locs [(a0, .inr (2, [.ref a1, w0_1, w0_2, w0_3, w0_4, .int s_many])), (a1, .inl (E.2 0, 30, .inl s_days))] := hV11.sub [0, 1] rfl rfl
        clear hVB6
        refine va_mmax hx hb (X.2.2.1.trans hlB6.1.symm) X.2.2.2.1 (X.2.2.2.2.1 _ mw_1189) (X.2.2.2.2.1 _ mw_354) (X.2.2.2.2.1 _ mw_281) (X.2.2.2.2.1 _ mw_355) (by decide) (Nat.le_of_ble_eq_true rfl) (by decide) (by decide) dX2_greatestOrbit_21 ?_
        obtain ⟨v24_13, e14, h15⟩ := nmI_s h10
        clear h10
        refine ktopi e14 ?_
        clear e14
        refine lv_istore_n (lv' := [(3, .int v24_13), (0, .ref a0), (1, .int p1), (2, .int p2), (4, .int x4_4)]) hx hb dX2_greatestOrbit_24 rfl hlB6 (by decide) rfl (fun ls hl16 => ?_)
        clear hlB6
        obtain ⟨v25_17, e18, h19⟩ := nmI_s h15
        clear h15
        refine lv_iinc (v := v25_17) (lv' := [(4, .int v25_17), (3, .int v24_13), (0, .ref a0), (1, .int p1), (2, .int p2)]) hx hb dX2_greatestOrbit_25 hl16 (k := 4) rfl (by rw [e18]; rfl) (by decide) rfl (fun ls hl20 => ?_)
        clear hl16 e18
        refine lv_goto (tgt := 6) hx hb dX2_greatestOrbit_28 (by decide) ?_
        exact ih6 v24_13 v25_17 _ _ _ h19 hV11 (lv_sub hl20 [2, 3, 4, 1, 0] rfl)
  exact L6 FU (-2) 0 _ _ _ h hV (lv_sub hl2 [2, 3, 4, 1, 0] rfl)
abbrev r_X1_missesFrom : Room := { frames := 1, cells := 0, slots := 0, locals := 23 }
set_option maxHeartbeats 4000000 in
set_option maxRecDepth 100000 in
theorem c_X1_missesFrom (l : Launch) (E : kE) (sz : Nat) (a0 a1 a2 : Nat) (w0_1 w0_3 : Value) (s_best : Nat → Int32) (s_tens : Nat → Int32) (p1 : Int32) (p2 : Int32) (p3 : Int32) (r : Int32) (h : f_X1_missesFrom s_best s_tens p1 p2 p3 = some (r)) : kMi l yX1_missesFrom cX1_missesFrom 5 (some .int) r_X1_missesFrom [.ref a0, .int p1, .int p2, .int p3] E [(a0, .inr (1, [.ref a2, w0_1, .ref a1, w0_3])), (a1, .inl (E.2 0, 287, .inl s_best)), (a2, .inl (E.2 0, 40, .inl s_tens))] sz 0 0 (fun x (_ : Unit) => x = r) (fun _ => [(a0, .inr (1, [.ref a2, w0_1, .ref a1, w0_3])), (a1, .inl (E.2 0, 287, .inl s_best)), (a2, .inl (E.2 0, 40, .inl s_tens))]) := by
  refine kmeti rfl (Nat.le_of_ble_eq_true rfl) ?_
  intro p e s m args below meth c ls A Q X hV hret hl
  have X : kC p s m c cX1_missesFrom 5 RX1 args E A := X
  have hx := X.1
  have hb := X.2.1
  have hl : lv_has ls 5 [(0, .ref a0), (1, .int p1), (2, .int p2), (3, .int p3)] := hl
  rw [f_X1_missesFrom] at h
  refine lv_aload_n hx hb dX1_missesFrom_0 rfl (lv_at hl 0 rfl) ?_
  refine kget X hV (ci := 1) inlX1 rfl 0 rfl 2 (by decide) mw_134 rfl dX1_missesFrom_1 ?_
  refine lv_iload_n hx hb dX1_missesFrom_4 rfl (lv_at hl 2 rfl) ?_
  refine lv_bipush (v := 41) hx hb dX1_missesFrom_5 (by decide) ?_
  refine lv_imul hx hb dX1_missesFrom_7 ?_
  refine lv_bipush (v := 40) hx hb dX1_missesFrom_8 (by decide) ?_
  refine lv_iload_n hx hb dX1_missesFrom_10 rfl (lv_at hl 1 rfl) ?_
  refine lv_iload_n hx hb dX1_missesFrom_11 rfl (lv_at hl 3 rfl) ?_
  refine lv_iadd hx hb dX1_missesFrom_12 ?_
  refine va_mmin hx hb (X.2.2.1.trans hl.1.symm) X.2.2.2.1 (X.2.2.2.2.1 _ mw_1233) (X.2.2.2.2.1 _ mw_280) (X.2.2.2.2.1 _ mw_281) (X.2.2.2.2.1 _ mw_282) (by decide) (Nat.le_of_ble_eq_true rfl) (by decide) (by decide) dX1_missesFrom_13 ?_
  refine lv_iadd hx hb dX1_missesFrom_16 ?_
  obtain ⟨hi2, v17_1, e3, h4⟩ := rdI_s h
  clear h
  refine kiald X hV 1 rfl hi2 e3 dX1_missesFrom_17 ?_
  clear hi2 e3
  refine lv_istore (lv' := [(4, .int v17_1), (0, .ref a0), (1, .int p1), (2, .int p2), (3, .int p3)]) hx hb dX1_missesFrom_18 hl (by decide) rfl (fun ls hl5 => ?_)
  clear hl
  refine lv_iload hx hb dX1_missesFrom_20 (lv_at hl5 0 rfl) ?_
  refine lv_iconst (v := (-1)) hx hb dX1_missesFrom_22 (by decide) ?_
  refine lv_icmp_ne (tgt := 30) hx hb dX1_missesFrom_23 (by decide) (fun c6 => ?_) (fun c6 => ?_)
  · have h7 := ieS c6 h4
    clear h4 c6
    refine lv_bipush (v := 10) hx hb dX1_missesFrom_30 (by decide) ?_
    refine lv_aload_n hx hb dX1_missesFrom_32 rfl (lv_at hl5 1 rfl) ?_
    refine kget X hV (ci := 1) inlX1 rfl 0 rfl 0 (by decide) mw_132 rfl dX1_missesFrom_33 ?_
    refine lv_iload_n hx hb dX1_missesFrom_36 rfl (lv_at hl5 2 rfl) ?_
    obtain ⟨hi10, v37_9, e11, h12⟩ := rdI_s h7
    clear h7
    refine kiald X hV 2 rfl hi10 e11 dX1_missesFrom_37 ?_
    clear hi10 e11
    refine lv_isub hx hb dX1_missesFrom_38 ?_
    refine lv_iload hx hb dX1_missesFrom_39 (lv_at hl5 0 rfl) ?_
    refine lv_imul hx hb dX1_missesFrom_41 ?_
    cases h12
    exact hret _ () _ _ _ _ rfl rfl hV dX1_missesFrom_42
  · have h8 := itS c6 h4
    clear h4 c6
    refine lv_iconst (v := (-1)) hx hb dX1_missesFrom_26 (by decide) ?_
    refine lv_goto (tgt := 42) hx hb dX1_missesFrom_27 (by decide) ?_
    cases h8
    exact hret _ () _ _ _ _ rfl rfl hV dX1_missesFrom_42
abbrev r_X1_weigh : Room := { frames := 2, cells := 0, slots := 0, locals := 47 }
set_option maxHeartbeats 4000000 in
set_option maxRecDepth 100000 in
theorem c_X1_weigh (l : Launch) (E : kE) (sz : Nat) (a0 a1 a2 : Nat) (w0_1 w0_3 : Value) (s_best : Nat → Int32) (s_tens : Nat → Int32) (p1 : Int32) (p2 : Int32) (o_best : Nat → Int32) (h : f_X1_weigh s_best s_tens p1 p2 = some (o_best)) : kMv l yX1_weigh cX1_weigh 8 r_X1_weigh [.ref a0, .int p1, .int p2] E [(a0, .inr (1, [.ref a2, w0_1, .ref a1, w0_3])), (a1, .inl (E.2 0, 287, .inl s_best)), (a2, .inl (E.2 0, 40, .inl s_tens))] sz 0 0 (fun (_ : Unit) => True) (fun _ => [(a0, .inr (1, [.ref a2, w0_1, .ref a1, w0_3])), (a1, .inl (E.2 0, 287, .inl o_best)), (a2, .inl (E.2 0, 40, .inl s_tens))]) := by
  refine kmetv rfl (Nat.le_of_ble_eq_true rfl) ?_
  intro p e s m args below meth c ls A Q X hnm hV hret hl
  have X : kC p s m c cX1_weigh 8 RX1 args E A := X
  have hx := X.1
  have hb := X.2.1
  have hl : lv_has ls 8 [(0, .ref a0), (1, .int p1), (2, .int p2)] := hl
  rw [f_X1_weigh] at h
  refine lv_iconst (v := 0) hx hb dX1_weigh_0 (by decide) ?_
  refine lv_istore_n (lv' := [(3, .int 0), (0, .ref a0), (1, .int p1), (2, .int p2)]) hx hb dX1_weigh_1 rfl hl (by decide) rfl (fun ls hl1 => ?_)
  clear hl
  have L2 : ∀ (n2 : Nat) (x3_2 : Int32) (best__3 : Nat → Int32) (H : Heap) (locs : List Loc) (ls : Array Slot), (f_X1_weigh_L2 s_tens p1 p2  n2) x3_2 best__3 = some (o_best) → kV E A s.heap H locs [(a0, .inr (1, [.ref a2, w0_1, .ref a1, w0_3])), (a1, .inl (E.2 0, 287, .inl best__3)), (a2, .inl (E.2 0, 40, .inl s_tens))] → lv_has ls 8 [(0, .ref a0), (1, .int p1), (2, .int p2), (3, .int x3_2)] → W p l e r_X1_weigh s m args below meth c H locs 0 0 Q (F0 m 2 ls []) := by
    intro n2
    induction n2 with
    | zero =>
      intro x3_2 best__3 H locs ls hB2 hVB2 hlB2
      rw [f_X1_weigh_L2] at hB2
      exact nomatch hB2
    | succ n2 ih2 =>
      intro x3_2 best__3 H locs ls hB2 hVB2 hlB2
      rw [f_X1_weigh_L2] at hB2
      refine lv_iload_n hx hb dX1_weigh_2 rfl (lv_at hlB2 3 rfl) ?_
      refine lv_iload_n hx hb dX1_weigh_3 rfl (lv_at hlB2 1 rfl) ?_
      refine lv_icmp_gt (tgt := 135) hx hb dX1_weigh_4 (by decide) (fun c4 => ?_) (fun c4 => ?_)
      · have h5 := itS c4 hB2
        clear hB2 c4
        cases h5
        exact hret () _ _ _ _ trivial hVB2 dX1_weigh_135
      · have h6 := ieS c4 hB2
        clear hB2 c4
        refine lv_aload_n hx hb dX1_weigh_7 rfl (lv_at hlB2 0 rfl) ?_
        refine kget X hVB2 (ci := 1) inlX1 rfl 0 rfl 2 (by decide) mw_134 rfl dX1_weigh_8 ?_
        refine lv_iload_n hx hb dX1_weigh_11 rfl (lv_at hlB2 3 rfl) ?_
        refine lv_bipush (v := 41) hx hb dX1_weigh_12 (by decide) ?_
        refine lv_imul hx hb dX1_weigh_14 ?_
        refine lv_bipush (v := 40) hx hb dX1_weigh_15 (by decide) ?_
        refine lv_iadd hx hb dX1_weigh_17 ?_
        refine lv_iload_n hx hb dX1_weigh_18 rfl (lv_at hlB2 3 rfl) ?_
        have J27 : ∀ (t2_7 : Int32) (H : Heap) (locs : List Loc) (ls : Array Slot), (f_X1_weigh_J27 s_tens p2 x3_2 best__3 (f_X1_weigh_L2 s_tens p1 p2  n2)) t2_7 = some (o_best) → kV E A s.heap H locs [(a0, .inr (1, [.ref a2, w0_1, .ref a1, w0_3])), (a1, .inl (E.2 0, 287, .inl best__3)), (a2, .inl (E.2 0, 40, .inl s_tens))] → lv_has ls 8 [(0, .ref a0), (1, .int p1), (2, .int p2), (3, .int x3_2)] → W p l e r_X1_weigh s m args below meth c H locs 0 0 Q (F0 m 27 ls [.int t2_7, .int ((x3_2 * 41) + 40), .ref a1]) := by
          intro t2_7 H locs ls hB27 hVB27 hlB27
          rw [f_X1_weigh_J27] at hB27
          obtain ⟨hi9, g27_8, e10, h11⟩ := wrI_s hB27
          clear hB27
          refine kiast X hVB27 1 rfl hi9 e10 dX1_weigh_27 (fun H locs hV12 => ?_)
          have hV12 : kV E A s.heap H locs [(a0, .inr (1, [.ref a2, w0_1, .ref a1, w0_3])), (a1, .inl (E.2 0, 287, .inl g27_8)), (a2, .inl (E.2 0, 40, .inl s_tens))] := hV12
          clear hVB27 hi9 e10
          refine lv_bipush (v := 39) hx hb dX1_weigh_28 (by decide) ?_
          refine lv_istore (lv' := [(4, .int 39), (0, .ref a0), (1, .int p1), (2, .int p2), (3, .int x3_2)]) hx hb dX1_weigh_30 hlB27 (by decide) rfl (fun ls hl13 => ?_)
          clear hlB27
          have L32 : ∀ (n32 : Nat) (x4_14 : Int32) (best__15 : Nat → Int32) (H : Heap) (locs : List Loc) (ls : Array Slot), (f_X1_weigh_L32 s_tens p2 x3_2 (f_X1_weigh_L2 s_tens p1 p2  n2) n32) x4_14 best__15 = some (o_best) → kV E A s.heap H locs [(a0, .inr (1, [.ref a2, w0_1, .ref a1, w0_3])), (a1, .inl (E.2 0, 287, .inl best__15)), (a2, .inl (E.2 0, 40, .inl s_tens))] → lv_has ls 8 [(0, .ref a0), (1, .int p1), (2, .int p2), (3, .int x3_2), (4, .int x4_14)] → W p l e r_X1_weigh s m args below meth c H locs 0 0 Q (F0 m 32 ls []) := by
            intro n32
            induction n32 with
            | zero =>
              intro x4_14 best__15 H locs ls hB32 hVB32 hlB32
              rw [f_X1_weigh_L32] at hB32
              exact nomatch hB32
            | succ n32 ih32 =>
              intro x4_14 best__15 H locs ls hB32 hVB32 hlB32
              rw [f_X1_weigh_L32] at hB32
              refine lv_iload hx hb dX1_weigh_32 (lv_at hlB32 4 rfl) ?_
              refine lv_if_lt (tgt := 129) hx hb dX1_weigh_34 (by decide) (fun c16 => ?_) (fun c16 => ?_)
              · have h17 := itS c16 hB32
                clear hB32 c16
                obtain ⟨v129_19, e20, h21⟩ := nmI_s h17
                clear h17
                refine lv_iinc (v := v129_19) (lv' := [(3, .int v129_19), (0, .ref a0), (1, .int p1), (2, .int p2), (4, .int x4_14)]) hx hb dX1_weigh_129 hlB32 (k := 3) rfl (by rw [e20]; rfl) (by decide) rfl (fun ls hl22 => ?_)
                clear hlB32 e20
                refine lv_goto (tgt := 2) hx hb dX1_weigh_132 (by decide) ?_
                exact ih2 v129_19 best__15 _ _ _ h21 hVB32 (lv_sub hl22 [1, 2, 3, 0] rfl)
              · have h18 := ieS c16 hB32
                clear hB32 c16
                refine lv_aload_n hx hb dX1_weigh_37 rfl (lv_at hlB32 0 rfl) ?_
                refine kget X hVB32 (ci := 1) inlX1 rfl 0 rfl 2 (by decide) mw_134 rfl dX1_weigh_38 ?_
                refine lv_iload_n hx hb dX1_weigh_41 rfl (lv_at hlB32 3 rfl) ?_
                refine lv_bipush (v := 41) hx hb dX1_weigh_42 (by decide) ?_
                refine lv_imul hx hb dX1_weigh_44 ?_
                refine lv_iload hx hb dX1_weigh_45 (lv_at hlB32 4 rfl) ?_
                refine lv_iadd hx hb dX1_weigh_47 ?_
                refine lv_iconst (v := 1) hx hb dX1_weigh_48 (by decide) ?_
                refine lv_iadd hx hb dX1_weigh_49 ?_
                obtain ⟨hi24, v50_23, e25, h26⟩ := rdI_s h18
                clear h18
                refine kiald X hVB32 1 rfl hi24 e25 dX1_weigh_50 ?_
                clear hi24 e25
                refine lv_istore (lv' := [(5, .int v50_23), (0, .ref a0), (1, .int p1), (2, .int p2), (3, .int x3_2), (4, .int x4_14)]) hx hb dX1_weigh_51 hlB32 (by decide) rfl (fun ls hl27 => ?_)
                clear hlB32
                refine lv_iload_n hx hb dX1_weigh_53 rfl (lv_at hl27 4 rfl) ?_
                have J71 : ∀ (t0_28 : Int32) (H : Heap) (locs : List Loc) (ls : Array Slot), (f_X1_weigh_J71 x3_2 x4_14 best__15 v50_23 (f_X1_weigh_L32 s_tens p2 x3_2 (f_X1_weigh_L2 s_tens p1 p2  n2) n32)) t0_28 = some (o_best) → kV E A s.heap H locs [(a0, .inr (1, [.ref a2, w0_1, .ref a1, w0_3])), (a1, .inl (E.2 0, 287, .inl best__15)), (a2, .inl (E.2 0, 40, .inl s_tens))] → lv_has ls 8 [(0, .ref a0), (1, .int p1), (2, .int p2), (3, .int x3_2), (4, .int x4_14), (5, .int v50_23)] → W p l e r_X1_weigh s m args below meth c H locs 0 0 Q (F0 m 71 ls [.int t0_28]) := by
                  intro t0_28 H locs ls hB71 hVB71 hlB71
                  rw [f_X1_weigh_J71] at hB71
                  refine lv_istore (lv' := [(6, .int t0_28), (0, .ref a0), (1, .int p1), (2, .int p2), (3, .int x3_2), (4, .int x4_14), (5, .int v50_23)]) hx hb dX1_weigh_71 hlB71 (by decide) rfl (fun ls hl29 => ?_)
                  clear hlB71
                  refine lv_iload hx hb dX1_weigh_73 (lv_at hl29 0 rfl) ?_
                  refine lv_iconst (v := (-1)) hx hb dX1_weigh_75 (by decide) ?_
                  have J97 : ∀ (t0_30 : Int32) (H : Heap) (locs : List Loc) (ls : Array Slot), (f_X1_weigh_J97 x3_2 x4_14 best__15 v50_23 t0_28 (f_X1_weigh_L32 s_tens p2 x3_2 (f_X1_weigh_L2 s_tens p1 p2  n2) n32)) t0_30 = some (o_best) → kV E A s.heap H locs [(a0, .inr (1, [.ref a2, w0_1, .ref a1, w0_3])), (a1, .inl (E.2 0, 287, .inl best__15)), (a2, .inl (E.2 0, 40, .inl s_tens))] → lv_has ls 8 [(0, .ref a0), (1, .int p1), (2, .int p2), (3, .int x3_2), (4, .int x4_14), (5, .int v50_23), (6, .int t0_28)] → W p l e r_X1_weigh s m args below meth c H locs 0 0 Q (F0 m 97 ls [.int t0_30]) := by
                    intro t0_30 H locs ls hB97 hVB97 hlB97
                    rw [f_X1_weigh_J97] at hB97
                    refine lv_istore (lv' := [(7, .int t0_30), (0, .ref a0), (1, .int p1), (2, .int p2), (3, .int x3_2), (4, .int x4_14), (5, .int v50_23), (6, .int t0_28)]) hx hb dX1_weigh_97 hlB97 (by decide) rfl (fun ls hl31 => ?_)
                    clear hlB97
                    refine lv_aload_n hx hb dX1_weigh_99 rfl (lv_at hl31 1 rfl) ?_
                    refine kget X hVB97 (ci := 1) inlX1 rfl 0 rfl 2 (by decide) mw_134 rfl dX1_weigh_100 ?_
                    refine lv_iload_n hx hb dX1_weigh_103 rfl (lv_at hl31 4 rfl) ?_
                    refine lv_bipush (v := 41) hx hb dX1_weigh_104 (by decide) ?_
                    refine lv_imul hx hb dX1_weigh_106 ?_
                    refine lv_iload hx hb dX1_weigh_107 (lv_at hl31 5 rfl) ?_
                    refine lv_iadd hx hb dX1_weigh_109 ?_
                    refine lv_iload hx hb dX1_weigh_110 (lv_at hl31 0 rfl) ?_
                    refine lv_if_eq (tgt := 120) hx hb dX1_weigh_112 (by decide) (fun c32 => ?_) (fun c32 => ?_)
                    · have h33 := itS c32 hB97
                      clear hB97 c32
                      refine lv_iload hx hb dX1_weigh_120 (lv_at hl31 6 rfl) ?_
                      obtain ⟨hi36, g122_35, e37, h38⟩ := wrI_s h33
                      clear h33
                      refine kiast X hVB97 1 rfl hi36 e37 dX1_weigh_122 (fun H locs hV39 => ?_)
                      have hV39 : kV E A s.heap H locs [(a0, .inr (1, [.ref a2, w0_1, .ref a1, w0_3])), (a1, .inl (E.2 0, 287, .inl g122_35)), (a2, .inl (E.2 0, 40, .inl s_tens))] := hV39
                      clear hVB97 hi36 e37
                      obtain ⟨v123_40, e41, h42⟩ := nmI_s h38
                      clear h38
                      refine lv_iinc (v := v123_40) (lv' := [(4, .int v123_40), (7, .int t0_30), (0, .ref a0), (1, .int p1), (2, .int p2), (3, .int x3_2), (5, .int v50_23), (6, .int t0_28)]) hx hb dX1_weigh_123 hl31 (k := 5) rfl (by rw [e41]; rfl) (by decide) rfl (fun ls hl43 => ?_)
                      clear hl31 e41
                      refine lv_goto (tgt := 32) hx hb dX1_weigh_126 (by decide) ?_
                      exact ih32 v123_40 g122_35 _ _ _ h42 hV39 (lv_sub hl43 [2, 3, 4, 5, 0] rfl)
                    · have h34 := ieS c32 hB97
                      clear hB97 c32
                      refine lv_iload hx hb dX1_weigh_115 (lv_at hl31 7 rfl) ?_
                      refine lv_goto (tgt := 122) hx hb dX1_weigh_117 (by decide) ?_
                      obtain ⟨hi45, g122_44, e46, h47⟩ := wrI_s h34
                      clear h34
                      refine kiast X hVB97 1 rfl hi45 e46 dX1_weigh_122 (fun H locs hV48 => ?_)
                      have hV48 : kV E A s.heap H locs [(a0, .inr (1, [.ref a2, w0_1, .ref a1, w0_3])), (a1, .inl (E.2 0, 287, .inl g122_44)), (a2, .inl (E.2 0, 40, .inl s_tens))] := hV48
                      clear hVB97 hi45 e46
                      obtain ⟨v123_49, e50, h51⟩ := nmI_s h47
                      clear h47
                      refine lv_iinc (v := v123_49) (lv' := [(4, .int v123_49), (7, .int t0_30), (0, .ref a0), (1, .int p1), (2, .int p2), (3, .int x3_2), (5, .int v50_23), (6, .int t0_28)]) hx hb dX1_weigh_123 hl31 (k := 5) rfl (by rw [e50]; rfl) (by decide) rfl (fun ls hl52 => ?_)
                      clear hl31 e50
                      refine lv_goto (tgt := 32) hx hb dX1_weigh_126 (by decide) ?_
                      exact ih32 v123_49 g122_44 _ _ _ h51 hV48 (lv_sub hl52 [2, 3, 4, 5, 0] rfl)
                  refine lv_icmp_eq (tgt := 96) hx hb dX1_weigh_76 (by decide) (fun c53 => ?_) (fun c53 => ?_)
                  · have h54 := itS c53 hB71
                    clear hB71 c53
                    refine lv_iconst (v := 0) hx hb dX1_weigh_96 (by decide) ?_
                    exact J97 0 _ _ _ h54 hVB71 (lv_sub hl29 [1, 2, 3, 4, 5, 6, 0] rfl)
                  · have h55 := ieS c53 hB71
                    clear hB71 c53
                    refine lv_iload hx hb dX1_weigh_79 (lv_at hl29 6 rfl) ?_
                    refine lv_iconst (v := (-1)) hx hb dX1_weigh_81 (by decide) ?_
                    refine lv_icmp_eq (tgt := 92) hx hb dX1_weigh_82 (by decide) (fun c56 => ?_) (fun c56 => ?_)
                    · have h57 := itS c56 h55
                      clear h55 c56
                      refine lv_iconst (v := 1) hx hb dX1_weigh_92 (by decide) ?_
                      refine lv_goto (tgt := 97) hx hb dX1_weigh_93 (by decide) ?_
                      exact J97 1 _ _ _ h57 hVB71 (lv_sub hl29 [1, 2, 3, 4, 5, 6, 0] rfl)
                    · have h58 := ieS c56 h55
                      clear h55 c56
                      refine lv_iload hx hb dX1_weigh_85 (lv_at hl29 0 rfl) ?_
                      refine lv_iload hx hb dX1_weigh_87 (lv_at hl29 6 rfl) ?_
                      refine lv_icmp_ge (tgt := 96) hx hb dX1_weigh_89 (by decide) (fun c59 => ?_) (fun c59 => ?_)
                      · have h60 := itS c59 h58
                        clear h58 c59
                        refine lv_iconst (v := 0) hx hb dX1_weigh_96 (by decide) ?_
                        exact J97 0 _ _ _ h60 hVB71 (lv_sub hl29 [1, 2, 3, 4, 5, 6, 0] rfl)
                      · have h61 := ieS c59 h58
                        clear h58 c59
                        refine lv_iconst (v := 1) hx hb dX1_weigh_92 (by decide) ?_
                        refine lv_goto (tgt := 97) hx hb dX1_weigh_93 (by decide) ?_
                        exact J97 1 _ _ _ h61 hVB71 (lv_sub hl29 [1, 2, 3, 4, 5, 6, 0] rfl)
                refine lv_if_ne (tgt := 61) hx hb dX1_weigh_54 (by decide) (fun c62 => ?_) (fun c62 => ?_)
                · have h63 := ieS c62 h26
                  clear h26 c62
                  refine lv_aload_n hx hb dX1_weigh_61 rfl (lv_at hl27 1 rfl) ?_
                  refine lv_iload hx hb dX1_weigh_62 (lv_at hl27 5 rfl) ?_
                  refine lv_iload_n hx hb dX1_weigh_64 rfl (lv_at hl27 4 rfl) ?_
                  refine lv_iconst (v := 1) hx hb dX1_weigh_65 (by decide) ?_
                  refine lv_isub hx hb dX1_weigh_66 ?_
                  refine lv_iload_n hx hb dX1_weigh_67 rfl (lv_at hl27 3 rfl) ?_
                  obtain ⟨r68_65, hc66, h67⟩ := cb1_s h63
                  clear h63
                  refine kgoiE (krunV (rest := []) X hVB32 [0, 1, 2] (c_X1_missesFrom l E _ a0 a1 a2 (w0_1) (w0_3) best__15 s_tens x4_14 (x3_2 - 1) p2 r68_65 hc66) mw_1238 kb_X1_missesFrom (ci := 1) rfl rfl (by decide) rfl rfl hl27.1 rfl (Nat.le_of_ble_eq_true rfl) dX1_weigh_68 (by decide)) X hVB32 [0, 1, 2] [] rfl rfl rfl (by decide) (fun u H locs hV68 => ?_)
                  have hV68 : kV E A s.heap H locs [(a0, .inr (1, [.ref a2, w0_1, .ref a1, w0_3])), (a1, .inl (E.2 0, 287, .inl best__15)), (a2, .inl (E.2 0, 40, .inl s_tens))] := hV68.sub [0, 1, 2] rfl rfl
                  clear hVB32
                  exact J71 r68_65 _ _ _ h67 hV68 (lv_sub hl27 [1, 2, 3, 4, 5, 0] rfl)
                · have h64 := itS c62 h26
                  clear h26 c62
                  refine lv_iconst (v := 1) hx hb dX1_weigh_57 (by decide) ?_
                  refine lv_goto (tgt := 71) hx hb dX1_weigh_58 (by decide) ?_
                  exact J71 1 _ _ _ h64 hVB32 (lv_sub hl27 [1, 2, 3, 4, 5, 0] rfl)
          exact L32 FU 39 g27_8 _ _ _ h11 hV12 (lv_sub hl13 [1, 2, 3, 4, 0] rfl)
        refine lv_if_ne (tgt := 26) hx hb dX1_weigh_19 (by decide) (fun c70 => ?_) (fun c70 => ?_)
        · have h71 := ieS c70 h6
          clear h6 c70
          refine lv_iconst (v := (-1)) hx hb dX1_weigh_26 (by decide) ?_
          exact J27 (-1) _ _ _ h71 hVB2 (lv_sub hlB2 [0, 1, 2, 3] rfl)
        · have h72 := itS c70 h6
          clear h6 c70
          refine lv_iconst (v := 1) hx hb dX1_weigh_22 (by decide) ?_
          refine lv_goto (tgt := 27) hx hb dX1_weigh_23 (by decide) ?_
          exact J27 1 _ _ _ h72 hVB2 (lv_sub hlB2 [0, 1, 2, 3] rfl)
  exact L2 FU 0 s_best _ _ _ h hV (lv_sub hl1 [1, 2, 3, 0] rfl)
abbrev r_X1_goesOn : Room := { frames := 2, cells := 0, slots := 0, locals := 47 }
set_option maxHeartbeats 4000000 in
set_option maxRecDepth 100000 in
theorem c_X1_goesOn (l : Launch) (E : kE) (sz : Nat) (a0 a1 a2 : Nat) (w0_1 : Value) (s_unseen : Int32) (s_best : Nat → Int32) (s_tens : Nat → Int32) (p1 : Int32) (p2 : Int32) (p3 : Int32) (p4 : Int32) (r : Int32) (h : f_X1_goesOn s_unseen s_best s_tens p1 p2 p3 p4 = some (r)) : kMi l yX1_goesOn cX1_goesOn 6 (some .boolean) r_X1_goesOn [.ref a0, .int p1, .int p2, .int p3, .int p4] E [(a0, .inr (1, [.ref a2, w0_1, .ref a1, .int s_unseen])), (a1, .inl (E.2 0, 287, .inl s_best)), (a2, .inl (E.2 0, 40, .inl s_tens))] sz 0 0 (fun x (_ : Unit) => x = r) (fun _ => [(a0, .inr (1, [.ref a2, w0_1, .ref a1, .int s_unseen])), (a1, .inl (E.2 0, 287, .inl s_best)), (a2, .inl (E.2 0, 40, .inl s_tens))]) := by
  refine kmeti rfl (Nat.le_of_ble_eq_true rfl) ?_
  intro p e s m args below meth c ls A Q X hV hret hl
  have X : kC p s m c cX1_goesOn 6 RX1 args E A := X
  have hx := X.1
  have hb := X.2.1
  have hl : lv_has ls 6 [(0, .ref a0), (1, .int p1), (2, .int p2), (3, .int p3), (4, .int p4)] := hl
  rw [f_X1_goesOn] at h
  refine lv_aload_n hx hb dX1_goesOn_0 rfl (lv_at hl 0 rfl) ?_
  refine lv_iload_n hx hb dX1_goesOn_1 rfl (lv_at hl 2 rfl) ?_
  refine lv_iload_n hx hb dX1_goesOn_2 rfl (lv_at hl 3 rfl) ?_
  refine lv_iload hx hb dX1_goesOn_3 (lv_at hl 4 rfl) ?_
  obtain ⟨r5_1, hc2, h3⟩ := cb1_s h
  clear h
  refine kgoiE (krunV (rest := []) X hV [0, 1, 2] (c_X1_missesFrom l E _ a0 a1 a2 (w0_1) (.int s_unseen) s_best s_tens p2 p3 p4 r5_1 hc2) mw_1238 kb_X1_missesFrom (ci := 1) rfl rfl (by decide) rfl rfl hl.1 rfl (Nat.le_of_ble_eq_true rfl) dX1_goesOn_5 (by decide)) X hV [0, 1, 2] [] rfl rfl rfl (by decide) (fun u H locs hV4 => ?_)
  have hV4 : kV E A s.heap H locs [(a0, .inr (1, [.ref a2, w0_1, .ref a1, .int s_unseen])), (a1, .inl (E.2 0, 287, .inl s_best)), (a2, .inl (E.2 0, 40, .inl s_tens))] := hV4.sub [0, 1, 2] rfl rfl
  clear hV
  refine lv_istore (lv' := [(5, .int r5_1), (0, .ref a0), (1, .int p1), (2, .int p2), (3, .int p3), (4, .int p4)]) hx hb dX1_goesOn_8 hl (by decide) rfl (fun ls hl6 => ?_)
  clear hl
  refine lv_iload hx hb dX1_goesOn_10 (lv_at hl6 0 rfl) ?_
  refine lv_iconst (v := (-1)) hx hb dX1_goesOn_12 (by decide) ?_
  refine lv_icmp_eq (tgt := 31) hx hb dX1_goesOn_13 (by decide) (fun c7 => ?_) (fun c7 => ?_)
  · have h8 := itS c7 h3
    clear h3 c7
    refine lv_iconst (v := 0) hx hb dX1_goesOn_31 (by decide) ?_
    cases h8
    exact hret _ () _ _ _ _ rfl rfl hV4 dX1_goesOn_32
  · have h9 := ieS c7 h3
    clear h3 c7
    refine lv_iload_n hx hb dX1_goesOn_16 rfl (lv_at hl6 2 rfl) ?_
    refine lv_iload hx hb dX1_goesOn_17 (lv_at hl6 0 rfl) ?_
    refine lv_imul hx hb dX1_goesOn_19 ?_
    refine lv_aload_n hx hb dX1_goesOn_20 rfl (lv_at hl6 1 rfl) ?_
    refine kget X hV4 (ci := 1) inlX1 rfl 0 rfl 3 (by decide) mw_135 rfl dX1_goesOn_21 ?_
    refine lv_icmp_ne (tgt := 31) hx hb dX1_goesOn_24 (by decide) (fun c10 => ?_) (fun c10 => ?_)
    · have h11 := ieS c10 h9
      clear h9 c10
      refine lv_iconst (v := 0) hx hb dX1_goesOn_31 (by decide) ?_
      cases h11
      exact hret _ () _ _ _ _ rfl rfl hV4 dX1_goesOn_32
    · have h12 := itS c10 h9
      clear h9 c10
      refine lv_iconst (v := 1) hx hb dX1_goesOn_27 (by decide) ?_
      refine lv_goto (tgt := 32) hx hb dX1_goesOn_28 (by decide) ?_
      cases h12
      exact hret _ () _ _ _ _ rfl rfl hV4 dX1_goesOn_32
abbrev r_X1_choose : Room := { frames := 3, cells := 0, slots := 0, locals := 74 }
set_option maxHeartbeats 4000000 in
set_option maxRecDepth 100000 in
theorem c_X1_choose (l : Launch) (E : kE) (sz : Nat) (a0 a1 a2 a3 : Nat) (s_unseen : Int32) (s_best : Nat → Int32) (s_chosen : Nat → Int32) (s_tens : Nat → Int32) (p1 : Int32) (p2 : Int32) (o_unseen : Int32) (o_best : Nat → Int32) (o_chosen : Nat → Int32) (h : f_X1_choose s_unseen s_best s_chosen s_tens p1 p2 = some (o_unseen, o_best, o_chosen)) : kMv l yX1_choose cX1_choose 7 r_X1_choose [.ref a0, .int p1, .int p2] E [(a0, .inr (1, [.ref a3, .ref a2, .ref a1, .int s_unseen])), (a1, .inl (E.2 0, 287, .inl s_best)), (a2, .inl (E.2 0, 6, .inl s_chosen)), (a3, .inl (E.2 0, 40, .inl s_tens))] sz 0 0 (fun (_ : Unit) => True) (fun _ => [(a0, .inr (1, [.ref a3, .ref a2, .ref a1, .int o_unseen])), (a1, .inl (E.2 0, 287, .inl o_best)), (a2, .inl (E.2 0, 6, .inl o_chosen)), (a3, .inl (E.2 0, 40, .inl s_tens))]) := by
  refine kmetv rfl (Nat.le_of_ble_eq_true rfl) ?_
  intro p e s m args below meth c ls A Q X hnm hV hret hl
  have X : kC p s m c cX1_choose 7 RX1 args E A := X
  have hx := X.1
  have hb := X.2.1
  have hl : lv_has ls 7 [(0, .ref a0), (1, .int p1), (2, .int p2)] := hl
  rw [f_X1_choose] at h
  refine lv_aload_n hx hb dX1_choose_0 rfl (lv_at hl 0 rfl) ?_
  refine lv_iload_n hx hb dX1_choose_1 rfl (lv_at hl 1 rfl) ?_
  refine lv_iload_n hx hb dX1_choose_2 rfl (lv_at hl 2 rfl) ?_
  obtain ⟨o_best3_1, hc2, h3⟩ := cb1_s h
  clear h
  refine kgov (krunV (rest := []) X hV [0, 1, 3] (c_X1_weigh l E _ a0 a1 a3 (.ref a2) (.int s_unseen) s_best s_tens p1 p2 o_best3_1 hc2) mw_1234 kb_X1_weigh (ci := 1) rfl rfl (by decide) rfl rfl hl.1 rfl (Nat.le_of_ble_eq_true rfl) dX1_choose_3 (by decide)) X hV [0, 1, 3] [2] rfl rfl rfl (by decide) (fun u H locs hp5 hV4 => ?_)
  have hV4 : kV E A s.heap H locs [(a0, .inr (1, [.ref a3, .ref a2, .ref a1, .int s_unseen])), (a1, .inl (E.2 0, 287, .inl o_best3_1)), (a2, .inl (E.2 0, 6, .inl s_chosen)), (a3, .inl (E.2 0, 40, .inl s_tens))] := hV4.sub [1, 2, 0, 3] rfl rfl
  clear hV
  refine lv_aload_n hx hb dX1_choose_6 rfl (lv_at hl 0 rfl) ?_
  refine lv_aload_n hx hb dX1_choose_7 rfl (lv_at hl 0 rfl) ?_
  refine kget X hV4 (ci := 1) inlX1 rfl 0 rfl 2 (by decide) mw_134 rfl dX1_choose_8 ?_
  refine lv_iload_n hx hb dX1_choose_11 rfl (lv_at hl 1 rfl) ?_
  refine lv_bipush (v := 41) hx hb dX1_choose_12 (by decide) ?_
  refine lv_imul hx hb dX1_choose_14 ?_
  obtain ⟨hi7, v15_6, e8, h9⟩ := rdI_s h3
  clear h3
  refine kiald X hV4 1 rfl hi7 e8 dX1_choose_15 ?_
  clear hi7 e8
  refine kput X hV4 (ci := 1) inlX1 rfl tyX1 tyX1_ok nmX1 0 rfl 3 (by decide) mw_135 rfl rfl rfl (Nat.le_of_ble_eq_true rfl) dX1_choose_16 (fun H locs hV10 => ?_)
  have hV10 : kV E A s.heap H locs [(a0, .inr (1, [.ref a3, .ref a2, .ref a1, .int v15_6])), (a1, .inl (E.2 0, 287, .inl o_best3_1)), (a2, .inl (E.2 0, 6, .inl s_chosen)), (a3, .inl (E.2 0, 40, .inl s_tens))] := hV10
  clear hV4
  refine lv_iconst (v := 1) hx hb dX1_choose_19 (by decide) ?_
  refine lv_istore_n (lv' := [(3, .int 1), (0, .ref a0), (1, .int p1), (2, .int p2)]) hx hb dX1_choose_20 rfl hl (by decide) rfl (fun ls hl11 => ?_)
  clear hl
  refine lv_iconst (v := 0) hx hb dX1_choose_21 (by decide) ?_
  refine lv_istore (lv' := [(4, .int 0), (3, .int 1), (0, .ref a0), (1, .int p1), (2, .int p2)]) hx hb dX1_choose_22 hl11 (by decide) rfl (fun ls hl12 => ?_)
  clear hl11
  refine lv_iconst (v := 0) hx hb dX1_choose_24 (by decide) ?_
  refine lv_istore (lv' := [(5, .int 0), (4, .int 0), (3, .int 1), (0, .ref a0), (1, .int p1), (2, .int p2)]) hx hb dX1_choose_25 hl12 (by decide) rfl (fun ls hl13 => ?_)
  clear hl12
  have L27 : ∀ (n27 : Nat) (x3_14 : Int32) (x4_15 : Int32) (x5_16 : Int32) (chosen__17 : Nat → Int32) (H : Heap) (locs : List Loc) (ls : Array Slot), (f_X1_choose_L27 s_tens p1 p2 o_best3_1 v15_6  n27) x3_14 x4_15 x5_16 chosen__17 = some (o_unseen, o_best, o_chosen) → kV E A s.heap H locs [(a0, .inr (1, [.ref a3, .ref a2, .ref a1, .int v15_6])), (a1, .inl (E.2 0, 287, .inl o_best3_1)), (a2, .inl (E.2 0, 6, .inl chosen__17)), (a3, .inl (E.2 0, 40, .inl s_tens))] → lv_has ls 7 [(0, .ref a0), (1, .int p1), (2, .int p2), (3, .int x3_14), (4, .int x4_15), (5, .int x5_16)] → W p l e r_X1_choose s m args below meth c H locs 0 0 Q (F0 m 27 ls []) := by
    intro n27
    induction n27 with
    | zero =>
      intro x3_14 x4_15 x5_16 chosen__17 H locs ls hB27 hVB27 hlB27
      rw [f_X1_choose_L27] at hB27
      exact nomatch hB27
    | succ n27 ih27 =>
      intro x3_14 x4_15 x5_16 chosen__17 H locs ls hB27 hVB27 hlB27
      rw [f_X1_choose_L27] at hB27
      refine lv_iload hx hb dX1_choose_27 (lv_at hlB27 5 rfl) ?_
      refine lv_iload_n hx hb dX1_choose_29 rfl (lv_at hlB27 1 rfl) ?_
      refine lv_icmp_ge (tgt := 106) hx hb dX1_choose_30 (by decide) (fun c18 => ?_) (fun c18 => ?_)
      · have h19 := itS c18 hB27
        clear hB27 c18
        cases h19
        exact hret () _ _ _ _ trivial hVB27 dX1_choose_106
      · have h20 := ieS c18 hB27
        clear hB27 c18
        refine lv_iload_n hx hb dX1_choose_33 rfl (lv_at hlB27 1 rfl) ?_
        refine lv_iload hx hb dX1_choose_34 (lv_at hlB27 5 rfl) ?_
        refine lv_isub hx hb dX1_choose_36 ?_
        refine lv_iconst (v := 1) hx hb dX1_choose_37 (by decide) ?_
        refine lv_isub hx hb dX1_choose_38 ?_
        obtain ⟨v39_21, e22, h23⟩ := nmI_s h20
        clear h20
        refine ktopi e22 ?_
        clear e22
        refine lv_istore (lv' := [(6, .int v39_21), (0, .ref a0), (1, .int p1), (2, .int p2), (3, .int x3_14), (4, .int x4_15), (5, .int x5_16)]) hx hb dX1_choose_39 hlB27 (by decide) rfl (fun ls hl24 => ?_)
        clear hlB27
        have J67 : ∀ (x4_25 : Int32) (H : Heap) (locs : List Loc) (ls : Array Slot), (f_X1_choose_J67 s_tens p2 x3_14 x5_16 chosen__17 (f_X1_choose_L27 s_tens p1 p2 o_best3_1 v15_6  n27)) x4_25 = some (o_unseen, o_best, o_chosen) → kV E A s.heap H locs [(a0, .inr (1, [.ref a3, .ref a2, .ref a1, .int v15_6])), (a1, .inl (E.2 0, 287, .inl o_best3_1)), (a2, .inl (E.2 0, 6, .inl chosen__17)), (a3, .inl (E.2 0, 40, .inl s_tens))] → lv_has ls 7 [(0, .ref a0), (1, .int p1), (2, .int p2), (3, .int x3_14), (4, .int x4_25), (5, .int x5_16)] → W p l e r_X1_choose s m args below meth c H locs 0 0 Q (F0 m 67 ls []) := by
          intro x4_25 H locs ls hB67 hVB67 hlB67
          rw [f_X1_choose_J67] at hB67
          refine lv_aload_n hx hb dX1_choose_67 rfl (lv_at hlB67 0 rfl) ?_
          refine kget X hVB67 (ci := 1) inlX1 rfl 0 rfl 1 (by decide) mw_133 rfl dX1_choose_68 ?_
          refine lv_iload hx hb dX1_choose_71 (lv_at hlB67 5 rfl) ?_
          refine lv_iload hx hb dX1_choose_73 (lv_at hlB67 4 rfl) ?_
          obtain ⟨hi27, g75_26, e28, h29⟩ := wrI_s hB67
          clear hB67
          refine kiast X hVB67 2 rfl hi27 e28 dX1_choose_75 (fun H locs hV30 => ?_)
          have hV30 : kV E A s.heap H locs [(a0, .inr (1, [.ref a3, .ref a2, .ref a1, .int v15_6])), (a1, .inl (E.2 0, 287, .inl o_best3_1)), (a2, .inl (E.2 0, 6, .inl g75_26)), (a3, .inl (E.2 0, 40, .inl s_tens))] := hV30
          clear hVB67 hi27 e28
          refine lv_iload_n hx hb dX1_choose_76 rfl (lv_at hlB67 3 rfl) ?_
          refine lv_bipush (v := 10) hx hb dX1_choose_77 (by decide) ?_
          refine lv_aload_n hx hb dX1_choose_79 rfl (lv_at hlB67 0 rfl) ?_
          refine kget X hV30 (ci := 1) inlX1 rfl 0 rfl 0 (by decide) mw_132 rfl dX1_choose_80 ?_
          refine lv_iload hx hb dX1_choose_83 (lv_at hlB67 4 rfl) ?_
          obtain ⟨hi32, v85_31, e33, h34⟩ := rdI_s h29
          clear h29
          refine kiald X hV30 3 rfl hi32 e33 dX1_choose_85 ?_
          clear hi32 e33
          refine lv_isub hx hb dX1_choose_86 ?_
          refine lv_imul hx hb dX1_choose_87 ?_
          obtain ⟨v88_35, e36, h37⟩ := nmI_s h34
          clear h34
          refine ktopi e36 ?_
          clear e36
          refine lv_istore_n (lv' := [(3, .int v88_35), (0, .ref a0), (1, .int p1), (2, .int p2), (4, .int x4_25), (5, .int x5_16)]) hx hb dX1_choose_88 rfl hlB67 (by decide) rfl (fun ls hl38 => ?_)
          clear hlB67
          refine lv_bipush (v := 39) hx hb dX1_choose_89 (by decide) ?_
          refine lv_iload hx hb dX1_choose_91 (lv_at hl38 4 rfl) ?_
          refine lv_iload_n hx hb dX1_choose_93 rfl (lv_at hl38 3 rfl) ?_
          refine lv_iadd hx hb dX1_choose_94 ?_
          refine va_mmin hx hb (X.2.2.1.trans hl38.1.symm) X.2.2.2.1 (X.2.2.2.2.1 _ mw_1233) (X.2.2.2.2.1 _ mw_280) (X.2.2.2.2.1 _ mw_281) (X.2.2.2.2.1 _ mw_282) (by decide) (Nat.le_of_ble_eq_true rfl) (by decide) (by decide) dX1_choose_95 ?_
          obtain ⟨v98_39, e40, h41⟩ := nmI_s h37
          clear h37
          refine ktopi e40 ?_
          clear e40
          refine lv_istore (lv' := [(4, .int v98_39), (3, .int v88_35), (0, .ref a0), (1, .int p1), (2, .int p2), (5, .int x5_16)]) hx hb dX1_choose_98 hl38 (by decide) rfl (fun ls hl42 => ?_)
          clear hl38
          obtain ⟨v100_43, e44, h45⟩ := nmI_s h41
          clear h41
          refine lv_iinc (v := v100_43) (lv' := [(5, .int v100_43), (4, .int v98_39), (3, .int v88_35), (0, .ref a0), (1, .int p1), (2, .int p2)]) hx hb dX1_choose_100 hl42 (k := 5) rfl (by rw [e44]; rfl) (by decide) rfl (fun ls hl46 => ?_)
          clear hl42 e44
          refine lv_goto (tgt := 27) hx hb dX1_choose_103 (by decide) ?_
          exact ih27 v88_35 v98_39 v100_43 g75_26 _ _ _ h45 hV30 (lv_sub hl46 [3, 4, 5, 2, 1, 0] rfl)
        have L41 : ∀ (n41 : Nat) (x4_47 : Int32) (H : Heap) (locs : List Loc) (ls : Array Slot), (f_X1_choose_L41 s_tens p2 o_best3_1 v15_6 x3_14 v39_21 (f_X1_choose_J67 s_tens p2 x3_14 x5_16 chosen__17 (f_X1_choose_L27 s_tens p1 p2 o_best3_1 v15_6  n27)) n41) x4_47 = some (o_unseen, o_best, o_chosen) → kV E A s.heap H locs [(a0, .inr (1, [.ref a3, .ref a2, .ref a1, .int v15_6])), (a1, .inl (E.2 0, 287, .inl o_best3_1)), (a2, .inl (E.2 0, 6, .inl chosen__17)), (a3, .inl (E.2 0, 40, .inl s_tens))] → lv_has ls 7 [(0, .ref a0), (1, .int p1), (2, .int p2), (3, .int x3_14), (4, .int x4_47), (5, .int x5_16), (6, .int v39_21)] → W p l e r_X1_choose s m args below meth c H locs 0 0 Q (F0 m 41 ls []) := by
          intro n41
          induction n41 with
          | zero =>
            intro x4_47 H locs ls hB41 hVB41 hlB41
            rw [f_X1_choose_L41] at hB41
            exact nomatch hB41
          | succ n41 ih41 =>
            intro x4_47 H locs ls hB41 hVB41 hlB41
            rw [f_X1_choose_L41] at hB41
            refine lv_iload hx hb dX1_choose_41 (lv_at hlB41 4 rfl) ?_
            refine lv_bipush (v := 39) hx hb dX1_choose_43 (by decide) ?_
            refine lv_icmp_ge (tgt := 67) hx hb dX1_choose_45 (by decide) (fun c48 => ?_) (fun c48 => ?_)
            · have h49 := itS c48 hB41
              clear hB41 c48
              exact J67 x4_47 _ _ _ h49 hVB41 (lv_sub hlB41 [0, 1, 2, 3, 4, 5] rfl)
            · have h50 := ieS c48 hB41
              clear hB41 c48
              refine lv_aload_n hx hb dX1_choose_48 rfl (lv_at hlB41 0 rfl) ?_
              refine lv_iload_n hx hb dX1_choose_49 rfl (lv_at hlB41 3 rfl) ?_
              refine lv_iload hx hb dX1_choose_50 (lv_at hlB41 4 rfl) ?_
              refine lv_iload hx hb dX1_choose_52 (lv_at hlB41 6 rfl) ?_
              refine lv_iload_n hx hb dX1_choose_54 rfl (lv_at hlB41 2 rfl) ?_
              obtain ⟨r55_51, hc52, h53⟩ := cb1_s h50
              clear h50
              refine kgoiE (krunV (rest := []) X hVB41 [0, 1, 3] (c_X1_goesOn l E _ a0 a1 a3 (.ref a2) v15_6 o_best3_1 s_tens x3_14 x4_47 v39_21 p2 r55_51 hc52) mw_1242 kb_X1_goesOn (ci := 1) rfl rfl (by decide) rfl rfl hlB41.1 rfl (Nat.le_of_ble_eq_true rfl) dX1_choose_55 (by decide)) X hVB41 [0, 1, 3] [2] rfl rfl rfl (by decide) (fun u H locs hV54 => ?_)
              have hV54 : kV E A s.heap H locs [(a0, .inr (1, [.ref a3, .ref a2, .ref a1, .int v15_6])), (a1, .inl (E.2 0, 287, .inl o_best3_1)), (a2, .inl (E.2 0, 6, .inl chosen__17)), (a3, .inl (E.2 0, 40, .inl s_tens))] := hV54.sub [1, 2, 0, 3] rfl rfl
              clear hVB41
              refine lv_if_ne (tgt := 67) hx hb dX1_choose_58 (by decide) (fun c56 => ?_) (fun c56 => ?_)
              · have h57 := ieS c56 h53
                clear h53 c56
                exact J67 x4_47 _ _ _ h57 hV54 (lv_sub hlB41 [0, 1, 2, 3, 4, 5] rfl)
              · have h58 := itS c56 h53
                clear h53 c56
                obtain ⟨v61_59, e60, h61⟩ := nmI_s h58
                clear h58
                refine lv_iinc (v := v61_59) (lv' := [(4, .int v61_59), (0, .ref a0), (1, .int p1), (2, .int p2), (3, .int x3_14), (5, .int x5_16), (6, .int v39_21)]) hx hb dX1_choose_61 hlB41 (k := 4) rfl (by rw [e60]; rfl) (by decide) rfl (fun ls hl62 => ?_)
                clear hlB41 e60
                refine lv_goto (tgt := 41) hx hb dX1_choose_64 (by decide) ?_
                exact ih41 v61_59 _ _ _ h61 hV54 (lv_sub hl62 [1, 2, 3, 4, 0, 5, 6] rfl)
        exact L41 FU x4_15 _ _ _ h23 hVB27 (lv_sub hl24 [1, 2, 3, 4, 5, 6, 0] rfl)
  exact L27 FU 1 0 0 s_chosen _ _ _ h9 hV10 (lv_sub hl13 [3, 4, 5, 2, 1, 0] rfl)
