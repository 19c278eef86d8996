abbrev r_X11_isWithin : Room := { frames := 0, cells := 0, slots := 0, locals := 0 }
set_option maxHeartbeats 4000000 in
set_option maxRecDepth 100000 in
theorem c_X11_isWithin (l : Launch) (E : kE) (sz : Nat) (p1 : Int32) (p2 : Int32) (p3 : Int32) (r : Int32) (h : f_X11_isWithin p1 p2 p3 = some (r)) : kMi l yX11_isWithin cX11_isWithin 3 (some .boolean) r_X11_isWithin [.int p1, .int p2, .int p3] E [] sz 0 0 (fun x (_ : Unit) => x = r) (fun _ => []) := by
  refine kmeti rfl (Nat.le_of_ble_eq_true rfl) ?_
  intro p e s m args below meth c ls A Q X hV hret hl
  have X : kC p s m c cX11_isWithin 3 RX11 args E A := X
  have hx := X.1
  have hb := X.2.1
  have hl : lv_has ls 3 [(0, .int p1), (1, .int p2), (2, .int p3)] := hl
  rw [f_X11_isWithin] at h
  refine lv_iload_n hx hb dX11_isWithin_0 rfl (lv_at hl 0 rfl) ?_
  refine lv_iload_n hx hb dX11_isWithin_1 rfl (lv_at hl 1 rfl) ?_
  refine lv_icmp_lt (tgt := 14) hx hb dX11_isWithin_2 (by decide) (fun c1 => ?_) (fun c1 => ?_)
  · have h2 := itS c1 h
    clear h c1
    refine lv_iconst (v := 0) hx hb dX11_isWithin_14 (by decide) ?_
    have q4 := tup1_s h2
    clear h2
    exact hret _ () _ _ _ _ q4 rfl hV dX11_isWithin_15
  · have h3 := ieS c1 h
    clear h c1
    refine lv_iload_n hx hb dX11_isWithin_5 rfl (lv_at hl 0 rfl) ?_
    refine lv_iload_n hx hb dX11_isWithin_6 rfl (lv_at hl 2 rfl) ?_
    refine lv_icmp_gt (tgt := 14) hx hb dX11_isWithin_7 (by decide) (fun c5 => ?_) (fun c5 => ?_)
    · have h6 := itS c5 h3
      clear h3 c5
      refine lv_iconst (v := 0) hx hb dX11_isWithin_14 (by decide) ?_
      have q8 := tup1_s h6
      clear h6
      exact hret _ () _ _ _ _ q8 rfl hV dX11_isWithin_15
    · have h7 := ieS c5 h3
      clear h3 c5
      refine lv_iconst (v := 1) hx hb dX11_isWithin_10 (by decide) ?_
      refine lv_goto (tgt := 15) hx hb dX11_isWithin_11 (by decide) ?_
      have q9 := tup1_s h7
      clear h7
      exact hret _ () _ _ _ _ q9 rfl hV dX11_isWithin_15
abbrev r_X11_isDay : Room := { frames := 1, cells := 0, slots := 0, locals := 22 }
set_option maxHeartbeats 4000000 in
set_option maxRecDepth 100000 in
theorem c_X11_isDay (l : Launch) (E : kE) (sz : Nat) (p1 : Int32) (r : Int32) (h : f_X11_isDay p1 = some (r)) : kMi l yX11_isDay cX11_isDay 1 (some .boolean) r_X11_isDay [.int p1] E [] sz 0 0 (fun x (_ : Unit) => x = r) (fun _ => []) := by
  refine kmeti rfl (Nat.le_of_ble_eq_true rfl) ?_
  intro p e s m args below meth c ls A Q X hV hret hl
  have X : kC p s m c cX11_isDay 1 RX11 args E A := X
  have hx := X.1
  have hb := X.2.1
  have hl : lv_has ls 1 [(0, .int p1)] := hl
  rw [f_X11_isDay] at h
  refine lv_iload_n hx hb dX11_isDay_0 rfl (lv_at hl 0 rfl) ?_
  refine lv_iconst (v := 0) hx hb dX11_isDay_1 (by decide) ?_
  refine lv_sipush (v := 399) hx hb dX11_isDay_2 (by decide) ?_
  obtain ⟨r5_1, hc2, h3⟩ := cb1_s h
  clear h
  refine kgoiE (krunS (rest := []) X hV [] (c_X11_isWithin l E _ p1 0 399 r5_1 hc2) mw_187 kb_X11_isWithin (by decide) rfl rfl hl.1 rfl (Nat.le_of_ble_eq_true rfl) dX11_isDay_5 (by decide)) X hV [] [] rfl rfl rfl (by decide) (fun u H locs hV4 => ?_)
  have hV4 : kV E A s.heap H locs [] := hV4.sub [] rfl rfl
  clear hV
  obtain ⟨hb6, h7⟩ := bo_s h3
  clear h3
  have q8 := tup1_s h7
  clear h7
  exact hret _ () _ _ _ _ q8 hb6 hV4 dX11_isDay_8
abbrev r_X11_isMinute : Room := { frames := 1, cells := 0, slots := 0, locals := 22 }
set_option maxHeartbeats 4000000 in
set_option maxRecDepth 100000 in
theorem c_X11_isMinute (l : Launch) (E : kE) (sz : Nat) (p1 : Int32) (r : Int32) (h : f_X11_isMinute p1 = some (r)) : kMi l yX11_isMinute cX11_isMinute 1 (some .boolean) r_X11_isMinute [.int p1] E [] sz 0 0 (fun x (_ : Unit) => x = r) (fun _ => []) := by
  refine kmeti rfl (Nat.le_of_ble_eq_true rfl) ?_
  intro p e s m args below meth c ls A Q X hV hret hl
  have X : kC p s m c cX11_isMinute 1 RX11 args E A := X
  have hx := X.1
  have hb := X.2.1
  have hl : lv_has ls 1 [(0, .int p1)] := hl
  rw [f_X11_isMinute] at h
  refine lv_iload_n hx hb dX11_isMinute_0 rfl (lv_at hl 0 rfl) ?_
  refine lv_iconst (v := 0) hx hb dX11_isMinute_1 (by decide) ?_
  refine lv_sipush (v := 1439) hx hb dX11_isMinute_2 (by decide) ?_
  obtain ⟨r5_1, hc2, h3⟩ := cb1_s h
  clear h
  refine kgoiE (krunS (rest := []) X hV [] (c_X11_isWithin l E _ p1 0 1439 r5_1 hc2) mw_187 kb_X11_isWithin (by decide) rfl rfl hl.1 rfl (Nat.le_of_ble_eq_true rfl) dX11_isMinute_5 (by decide)) X hV [] [] rfl rfl rfl (by decide) (fun u H locs hV4 => ?_)
  have hV4 : kV E A s.heap H locs [] := hV4.sub [] rfl rfl
  clear hV
  obtain ⟨hb6, h7⟩ := bo_s h3
  clear h3
  have q8 := tup1_s h7
  clear h7
  exact hret _ () _ _ _ _ q8 hb6 hV4 dX11_isMinute_8
abbrev r_X11_isShape : Room := { frames := 1, cells := 0, slots := 0, locals := 22 }
set_option maxHeartbeats 4000000 in
set_option maxRecDepth 100000 in
theorem c_X11_isShape (l : Launch) (E : kE) (sz : Nat) (p1 : Int32) (r : Int32) (h : f_X11_isShape p1 = some (r)) : kMi l yX11_isShape cX11_isShape 1 (some .boolean) r_X11_isShape [.int p1] E [] sz 0 0 (fun x (_ : Unit) => x = r) (fun _ => []) := by
  refine kmeti rfl (Nat.le_of_ble_eq_true rfl) ?_
  intro p e s m args below meth c ls A Q X hV hret hl
  have X : kC p s m c cX11_isShape 1 RX11 args E A := X
  have hx := X.1
  have hb := X.2.1
  have hl : lv_has ls 1 [(0, .int p1)] := hl
  rw [f_X11_isShape] at h
  refine lv_iload_n hx hb dX11_isShape_0 rfl (lv_at hl 0 rfl) ?_
  refine lv_iconst (v := 0) hx hb dX11_isShape_1 (by decide) ?_
  refine lv_iconst (v := 3) hx hb dX11_isShape_2 (by decide) ?_
  obtain ⟨r3_1, hc2, h3⟩ := cb1_s h
  clear h
  refine kgoiE (krunS (rest := []) X hV [] (c_X11_isWithin l E _ p1 0 3 r3_1 hc2) mw_187 kb_X11_isWithin (by decide) rfl rfl hl.1 rfl (Nat.le_of_ble_eq_true rfl) dX11_isShape_3 (by decide)) X hV [] [] rfl rfl rfl (by decide) (fun u H locs hV4 => ?_)
  have hV4 : kV E A s.heap H locs [] := hV4.sub [] rfl rfl
  clear hV
  obtain ⟨hb6, h7⟩ := bo_s h3
  clear h3
  have q8 := tup1_s h7
  clear h7
  exact hret _ () _ _ _ _ q8 hb6 hV4 dX11_isShape_6
abbrev r_X11_isReader : Room := { frames := 1, cells := 0, slots := 0, locals := 22 }
set_option maxHeartbeats 4000000 in
set_option maxRecDepth 100000 in
theorem c_X11_isReader (l : Launch) (E : kE) (sz : Nat) (p1 : Int32) (r : Int32) (h : f_X11_isReader p1 = some (r)) : kMi l yX11_isReader cX11_isReader 1 (some .boolean) r_X11_isReader [.int p1] E [] sz 0 0 (fun x (_ : Unit) => x = r) (fun _ => []) := by
  refine kmeti rfl (Nat.le_of_ble_eq_true rfl) ?_
  intro p e s m args below meth c ls A Q X hV hret hl
  have X : kC p s m c cX11_isReader 1 RX11 args E A := X
  have hx := X.1
  have hb := X.2.1
  have hl : lv_has ls 1 [(0, .int p1)] := hl
  rw [f_X11_isReader] at h
  refine lv_iload_n hx hb dX11_isReader_0 rfl (lv_at hl 0 rfl) ?_
  refine lv_iconst (v := 0) hx hb dX11_isReader_1 (by decide) ?_
  refine lv_iconst (v := 3) hx hb dX11_isReader_2 (by decide) ?_
  obtain ⟨r3_1, hc2, h3⟩ := cb1_s h
  clear h
  refine kgoiE (krunS (rest := []) X hV [] (c_X11_isWithin l E _ p1 0 3 r3_1 hc2) mw_187 kb_X11_isWithin (by decide) rfl rfl hl.1 rfl (Nat.le_of_ble_eq_true rfl) dX11_isReader_3 (by decide)) X hV [] [] rfl rfl rfl (by decide) (fun u H locs hV4 => ?_)
  have hV4 : kV E A s.heap H locs [] := hV4.sub [] rfl rfl
  clear hV
  obtain ⟨hb6, h7⟩ := bo_s h3
  clear h3
  have q8 := tup1_s h7
  clear h7
  exact hret _ () _ _ _ _ q8 hb6 hV4 dX11_isReader_6
abbrev r_X11_isStory : Room := { frames := 1, cells := 0, slots := 0, locals := 22 }
set_option maxHeartbeats 4000000 in
set_option maxRecDepth 100000 in
theorem c_X11_isStory (l : Launch) (E : kE) (sz : Nat) (p1 : Int32) (r : Int32) (h : f_X11_isStory p1 = some (r)) : kMi l yX11_isStory cX11_isStory 1 (some .boolean) r_X11_isStory [.int p1] E [] sz 0 0 (fun x (_ : Unit) => x = r) (fun _ => []) := by
  refine kmeti rfl (Nat.le_of_ble_eq_true rfl) ?_
  intro p e s m args below meth c ls A Q X hV hret hl
  have X : kC p s m c cX11_isStory 1 RX11 args E A := X
  have hx := X.1
  have hb := X.2.1
  have hl : lv_has ls 1 [(0, .int p1)] := hl
  rw [f_X11_isStory] at h
  refine lv_iload_n hx hb dX11_isStory_0 rfl (lv_at hl 0 rfl) ?_
  refine lv_iconst (v := 0) hx hb dX11_isStory_1 (by decide) ?_
  refine lv_iconst (v := 5) hx hb dX11_isStory_2 (by decide) ?_
  obtain ⟨r3_1, hc2, h3⟩ := cb1_s h
  clear h
  refine kgoiE (krunS (rest := []) X hV [] (c_X11_isWithin l E _ p1 0 5 r3_1 hc2) mw_187 kb_X11_isWithin (by decide) rfl rfl hl.1 rfl (Nat.le_of_ble_eq_true rfl) dX11_isStory_3 (by decide)) X hV [] [] rfl rfl rfl (by decide) (fun u H locs hV4 => ?_)
  have hV4 : kV E A s.heap H locs [] := hV4.sub [] rfl rfl
  clear hV
  obtain ⟨hb6, h7⟩ := bo_s h3
  clear h3
  have q8 := tup1_s h7
  clear h7
  exact hret _ () _ _ _ _ q8 hb6 hV4 dX11_isStory_6
abbrev r_X11_isBeat : Room := { frames := 1, cells := 0, slots := 0, locals := 22 }
set_option maxHeartbeats 4000000 in
set_option maxRecDepth 100000 in
theorem c_X11_isBeat (l : Launch) (E : kE) (sz : Nat) (p1 : Int32) (r : Int32) (h : f_X11_isBeat p1 = some (r)) : kMi l yX11_isBeat cX11_isBeat 1 (some .boolean) r_X11_isBeat [.int p1] E [] sz 0 0 (fun x (_ : Unit) => x = r) (fun _ => []) := by
  refine kmeti rfl (Nat.le_of_ble_eq_true rfl) ?_
  intro p e s m args below meth c ls A Q X hV hret hl
  have X : kC p s m c cX11_isBeat 1 RX11 args E A := X
  have hx := X.1
  have hb := X.2.1
  have hl : lv_has ls 1 [(0, .int p1)] := hl
  rw [f_X11_isBeat] at h
  refine lv_iload_n hx hb dX11_isBeat_0 rfl (lv_at hl 0 rfl) ?_
  refine lv_iconst (v := 1) hx hb dX11_isBeat_1 (by decide) ?_
  refine lv_ldcw (v := 1000000) hx hb X.2.2.2.1 (X.2.2.2.2.1 _ mw_1001) dX11_isBeat_2 ?_
  obtain ⟨r5_1, hc2, h3⟩ := cb1_s h
  clear h
  refine kgoiE (krunS (rest := []) X hV [] (c_X11_isWithin l E _ p1 1 1000000 r5_1 hc2) mw_187 kb_X11_isWithin (by decide) rfl rfl hl.1 rfl (Nat.le_of_ble_eq_true rfl) dX11_isBeat_5 (by decide)) X hV [] [] rfl rfl rfl (by decide) (fun u H locs hV4 => ?_)
  have hV4 : kV E A s.heap H locs [] := hV4.sub [] rfl rfl
  clear hV
  obtain ⟨hb6, h7⟩ := bo_s h3
  clear h3
  have q8 := tup1_s h7
  clear h7
  exact hret _ () _ _ _ _ q8 hb6 hV4 dX11_isBeat_8
abbrev r_X11_isNightError : Room := { frames := 1, cells := 0, slots := 0, locals := 22 }
set_option maxHeartbeats 4000000 in
set_option maxRecDepth 100000 in
theorem c_X11_isNightError (l : Launch) (E : kE) (sz : Nat) (p1 : Int32) (r : Int32) (h : f_X11_isNightError p1 = some (r)) : kMi l yX11_isNightError cX11_isNightError 1 (some .boolean) r_X11_isNightError [.int p1] E [] sz 0 0 (fun x (_ : Unit) => x = r) (fun _ => []) := by
  refine kmeti rfl (Nat.le_of_ble_eq_true rfl) ?_
  intro p e s m args below meth c ls A Q X hV hret hl
  have X : kC p s m c cX11_isNightError 1 RX11 args E A := X
  have hx := X.1
  have hb := X.2.1
  have hl : lv_has ls 1 [(0, .int p1)] := hl
  rw [f_X11_isNightError] at h
  refine lv_iload_n hx hb dX11_isNightError_0 rfl (lv_at hl 0 rfl) ?_
  refine lv_iconst (v := 0) hx hb dX11_isNightError_1 (by decide) ?_
  refine lv_ldc (v := 100000) hx hb X.2.2.2.1 (X.2.2.2.2.1 _ mw_1097) dX11_isNightError_2 ?_
  obtain ⟨r4_1, hc2, h3⟩ := cb1_s h
  clear h
  refine kgoiE (krunS (rest := []) X hV [] (c_X11_isWithin l E _ p1 0 100000 r4_1 hc2) mw_187 kb_X11_isWithin (by decide) rfl rfl hl.1 rfl (Nat.le_of_ble_eq_true rfl) dX11_isNightError_4 (by decide)) X hV [] [] rfl rfl rfl (by decide) (fun u H locs hV4 => ?_)
  have hV4 : kV E A s.heap H locs [] := hV4.sub [] rfl rfl
  clear hV
  obtain ⟨hb6, h7⟩ := bo_s h3
  clear h3
  have q8 := tup1_s h7
  clear h7
  exact hret _ () _ _ _ _ q8 hb6 hV4 dX11_isNightError_7
abbrev r_X11_isLook : Room := { frames := 1, cells := 0, slots := 0, locals := 23 }
set_option maxHeartbeats 4000000 in
set_option maxRecDepth 100000 in
theorem c_X11_isLook (l : Launch) (E : kE) (sz : Nat) (p1 : Int32) (p2 : Int32) (p3 : Int32) (r : Int32) (h : f_X11_isLook p1 p2 p3 = some (r)) : kMi l yX11_isLook cX11_isLook 3 (some .boolean) r_X11_isLook [.int p1, .int p2, .int p3] E [] sz 0 0 (fun x (_ : Unit) => x = r) (fun _ => []) := by
  refine kmeti rfl (Nat.le_of_ble_eq_true rfl) ?_
  intro p e s m args below meth c ls A Q X hV hret hl
  have X : kC p s m c cX11_isLook 3 RX11 args E A := X
  have hx := X.1
  have hb := X.2.1
  have hl : lv_has ls 3 [(0, .int p1), (1, .int p2), (2, .int p3)] := hl
  rw [f_X11_isLook] at h
  refine lv_iload_n hx hb dX11_isLook_0 rfl (lv_at hl 0 rfl) ?_
  refine lv_iconst (v := 0) hx hb dX11_isLook_1 (by decide) ?_
  refine lv_bipush (v := 20) hx hb dX11_isLook_2 (by decide) ?_
  obtain ⟨r4_1, hc2, h3⟩ := cb1_s h
  clear h
  refine kgoiE (krunS (rest := []) X hV [] (c_X11_isWithin l E _ p1 0 20 r4_1 hc2) mw_187 kb_X11_isWithin (by decide) rfl rfl hl.1 rfl (Nat.le_of_ble_eq_true rfl) dX11_isLook_4 (by decide)) X hV [] [] rfl rfl rfl (by decide) (fun u H locs hV4 => ?_)
  have hV4 : kV E A s.heap H locs [] := hV4.sub [] rfl rfl
  clear hV
  refine lv_if_eq (tgt := 37) hx hb dX11_isLook_7 (by decide) (fun c6 => ?_) (fun c6 => ?_)
  · have h7 := itS c6 h3
    clear h3 c6
    refine lv_iconst (v := 0) hx hb dX11_isLook_37 (by decide) ?_
    have q9 := tup1_s h7
    clear h7
    exact hret _ () _ _ _ _ q9 rfl hV4 dX11_isLook_38
  · have h8 := ieS c6 h3
    clear h3 c6
    refine lv_iload_n hx hb dX11_isLook_10 rfl (lv_at hl 1 rfl) ?_
    refine lv_iconst (v := 0) hx hb dX11_isLook_11 (by decide) ?_
    refine lv_bipush (v := 20) hx hb dX11_isLook_12 (by decide) ?_
    obtain ⟨r14_10, hc11, h12⟩ := cb1_s h8
    clear h8
    refine kgoiE (krunS (rest := []) X hV4 [] (c_X11_isWithin l E _ p2 0 20 r14_10 hc11) mw_187 kb_X11_isWithin (by decide) rfl rfl hl.1 rfl (Nat.le_of_ble_eq_true rfl) dX11_isLook_14 (by decide)) X hV4 [] [] rfl rfl rfl (by decide) (fun u H locs hV13 => ?_)
    have hV13 : kV E A s.heap H locs [] := hV13.sub [] rfl rfl
    clear hV4
    refine lv_if_eq (tgt := 37) hx hb dX11_isLook_17 (by decide) (fun c15 => ?_) (fun c15 => ?_)
    · have h16 := itS c15 h12
      clear h12 c15
      refine lv_iconst (v := 0) hx hb dX11_isLook_37 (by decide) ?_
      have q18 := tup1_s h16
      clear h16
      exact hret _ () _ _ _ _ q18 rfl hV13 dX11_isLook_38
    · have h17 := ieS c15 h12
      clear h12 c15
      refine lv_iload_n hx hb dX11_isLook_20 rfl (lv_at hl 2 rfl) ?_
      refine lv_iconst (v := 0) hx hb dX11_isLook_21 (by decide) ?_
      refine lv_iload_n hx hb dX11_isLook_22 rfl (lv_at hl 0 rfl) ?_
      refine lv_iload_n hx hb dX11_isLook_23 rfl (lv_at hl 1 rfl) ?_
      refine va_mmin hx hb (X.2.2.1.trans hl.1.symm) X.2.2.2.1 (X.2.2.2.2.1 _ mw_660) (X.2.2.2.2.1 _ mw_280) (X.2.2.2.2.1 _ mw_281) (X.2.2.2.2.1 _ mw_282) (by decide) (Nat.le_of_ble_eq_true rfl) (by decide) (by decide) dX11_isLook_24 ?_
      obtain ⟨r27_19, hc20, h21⟩ := cb1_s h17
      clear h17
      refine kgoiE (krunS (rest := []) X hV13 [] (c_X11_isWithin l E _ p3 0 (jmin p1 p2) r27_19 hc20) mw_187 kb_X11_isWithin (by decide) rfl rfl hl.1 rfl (Nat.le_of_ble_eq_true rfl) dX11_isLook_27 (by decide)) X hV13 [] [] rfl rfl rfl (by decide) (fun u H locs hV22 => ?_)
      have hV22 : kV E A s.heap H locs [] := hV22.sub [] rfl rfl
      clear hV13
      refine lv_if_eq (tgt := 37) hx hb dX11_isLook_30 (by decide) (fun c24 => ?_) (fun c24 => ?_)
      · have h25 := itS c24 h21
        clear h21 c24
        refine lv_iconst (v := 0) hx hb dX11_isLook_37 (by decide) ?_
        have q27 := tup1_s h25
        clear h25
        exact hret _ () _ _ _ _ q27 rfl hV22 dX11_isLook_38
      · have h26 := ieS c24 h21
        clear h21 c24
        refine lv_iconst (v := 1) hx hb dX11_isLook_33 (by decide) ?_
        refine lv_goto (tgt := 38) hx hb dX11_isLook_34 (by decide) ?_
        have q28 := tup1_s h26
        clear h26
        exact hret _ () _ _ _ _ q28 rfl hV22 dX11_isLook_38
abbrev r_X11_starMinute : Room := { frames := 0, cells := 0, slots := 0, locals := 0 }
set_option maxHeartbeats 4000000 in
set_option maxRecDepth 100000 in
theorem c_X11_starMinute (l : Launch) (E : kE) (sz : Nat) (p1 : Int32) (p2 : Int32) (r : Int32) (h : f_X11_starMinute p1 p2 = some (r)) : kMi l yX11_starMinute cX11_starMinute 2 (some .int) r_X11_starMinute [.int p1, .int p2] E [] sz 0 0 (fun x (_ : Unit) => x = r) (fun _ => []) := by
  refine kmeti rfl (Nat.le_of_ble_eq_true rfl) ?_
  intro p e s m args below meth c ls A Q X hV hret hl
  have X : kC p s m c cX11_starMinute 2 RX11 args E A := X
  have hx := X.1
  have hb := X.2.1
  have hl : lv_has ls 2 [(0, .int p1), (1, .int p2)] := hl
  rw [f_X11_starMinute] at h
  refine lv_iload_n hx hb dX11_starMinute_0 rfl (lv_at hl 1 rfl) ?_
  refine lv_iconst (v := 4) hx hb dX11_starMinute_1 (by decide) ?_
  refine lv_iload_n hx hb dX11_starMinute_2 rfl (lv_at hl 0 rfl) ?_
  refine lv_imul hx hb dX11_starMinute_3 ?_
  refine lv_iadd hx hb dX11_starMinute_4 ?_
  refine lv_sipush (v := 1440) hx hb dX11_starMinute_5 (by decide) ?_
  refine lv_irem hx hb dX11_starMinute_8 (by decide) ?_
  have q1 := tup1_s h
  clear h
  exact hret _ () _ _ _ _ q1 rfl hV dX11_starMinute_9
abbrev r_X9_put : Room := { frames := 0, cells := 0, slots := 0, locals := 0 }
set_option maxHeartbeats 4000000 in
set_option maxRecDepth 100000 in
theorem c_X9_put (l : Launch) (E : kE) (sz : Nat) (a0 a1 : Nat) (s_length : Int32) (s_bytes : Nat → Int32) (p1 : Int32) (o_length : Int32) (o_bytes : Nat → Int32) (h : f_X9_put s_length s_bytes p1 = some (o_length, o_bytes)) : kMv l yX9_put cX9_put 3 r_X9_put [.ref a0, .int p1] E [(a0, .inr (9, [.ref a1, .int s_length])), (a1, .inl (E.2 0, 200, .inl s_bytes))] sz 0 0 (fun (_ : Unit) => True) (fun _ => [(a0, .inr (9, [.ref a1, .int o_length])), (a1, .inl (E.2 0, 200, .inl o_bytes))]) := by
  refine kmetv rfl (Nat.le_of_ble_eq_true rfl) ?_
  intro p e s m args below meth c ls A Q X hnm hV hret hl
  have X : kC p s m c cX9_put 3 RX9 args E A := X
  have hx := X.1
  have hb := X.2.1
  have hl : lv_has ls 3 [(0, .ref a0), (1, .int p1)] := hl
  rw [f_X9_put] at h
  refine lv_bipush (v := 24) hx hb dX9_put_0 (by decide) ?_
  refine lv_istore_n (lv' := [(2, .int 24), (0, .ref a0), (1, .int p1)]) hx hb dX9_put_2 rfl hl (by decide) rfl (fun ls hl1 => ?_)
  clear hl
  have L3 : ∀ (n3 : Nat) (x2_2 : Int32) (length__3 : Int32) (bytes__4 : Nat → Int32) (H : Heap) (locs : List Loc) (ls : Array Slot), (f_X9_put_L3 p1  n3) x2_2 length__3 bytes__4 = some (o_length, o_bytes) → kV E A s.heap H locs [(a0, .inr (9, [.ref a1, .int length__3])), (a1, .inl (E.2 0, 200, .inl bytes__4))] → lv_has ls 3 [(0, .ref a0), (1, .int p1), (2, .int x2_2)] → W p l e r_X9_put s m args below meth c H locs 0 0 Q (F0 m 3 ls []) := by
    intro n3
    induction n3 with
    | zero =>
      intro x2_2 length__3 bytes__4 H locs ls hB3 hVB3 hlB3
      rw [f_X9_put_L3] at hB3
      exact nomatch hB3
    | succ n3 ih3 =>
      intro x2_2 length__3 bytes__4 H locs ls hB3 hVB3 hlB3
      rw [f_X9_put_L3] at hB3
      refine lv_iload_n hx hb dX9_put_3 rfl (lv_at hlB3 2 rfl) ?_
      refine lv_if_lt (tgt := 51) hx hb dX9_put_4 (by decide) (fun c5 => ?_) (fun c5 => ?_)
      · have h6 := itS c5 hB3
        clear hB3 c5
        obtain ⟨q8, q9⟩ := tup2_s h6
        clear h6
        exact hret () _ _ _ _ trivial (by rw [← q8, ← q9]; exact hVB3) dX9_put_51
      · have h7 := ieS c5 hB3
        clear hB3 c5
        refine lv_aload_n hx hb dX9_put_7 rfl (lv_at hlB3 0 rfl) ?_
        refine kget X hVB3 (ci := 9) inlX9 rfl 0 rfl 1 (by decide) mw_52 rfl dX9_put_8 ?_
        refine lv_aload_n hx hb dX9_put_11 rfl (lv_at hlB3 0 rfl) ?_
        refine kget X hVB3 (ci := 9) inlX9 rfl 0 rfl 0 (by decide) mw_51 rfl dX9_put_12 ?_
        refine kalen X hVB3 1 0 rfl rfl (v := 200) rfl dX9_put_15 ?_
        refine lv_icmp_ge (tgt := 51) hx hb dX9_put_16 (by decide) (fun c10 => ?_) (fun c10 => ?_)
        · have h11 := itS c10 h7
          clear h7 c10
          obtain ⟨q13, q14⟩ := tup2_s h11
          clear h11
          exact hret () _ _ _ _ trivial (by rw [← q13, ← q14]; exact hVB3) dX9_put_51
        · have h12 := ieS c10 h7
          clear h7 c10
          refine lv_aload_n hx hb dX9_put_19 rfl (lv_at hlB3 0 rfl) ?_
          refine kget X hVB3 (ci := 9) inlX9 rfl 0 rfl 0 (by decide) mw_51 rfl dX9_put_20 ?_
          refine lv_aload_n hx hb dX9_put_23 rfl (lv_at hlB3 0 rfl) ?_
          refine kget X hVB3 (ci := 9) inlX9 rfl 0 rfl 1 (by decide) mw_52 rfl dX9_put_24 ?_
          refine lv_iload_n hx hb dX9_put_27 rfl (lv_at hlB3 1 rfl) ?_
          refine lv_iload_n hx hb dX9_put_28 rfl (lv_at hlB3 2 rfl) ?_
          refine lv_iushr (v := jushr p1 x2_2) hx hb dX9_put_29 rfl ?_
          refine lv_sipush (v := 255) hx hb dX9_put_30 (by decide) ?_
          refine lv_iand hx hb dX9_put_33 ?_
          obtain ⟨v34_15, e16, h17⟩ := nmI_s h12
          clear h12
          refine ktopi e16 ?_
          clear e16
          obtain ⟨hi19, g34_18, e20, h21⟩ := wrI_s h17
          clear h17
          refine kiast X hVB3 1 rfl hi19 e20 dX9_put_34 (fun H locs hV22 => ?_)
          have hV22 : kV E A s.heap H locs [(a0, .inr (9, [.ref a1, .int length__3])), (a1, .inl (E.2 0, 200, .inl g34_18))] := hV22
          clear hVB3 hi19 e20
          refine lv_aload_n hx hb dX9_put_35 rfl (lv_at hlB3 0 rfl) ?_
          refine lv_dup hx hb dX9_put_36 rfl ?_
          refine kget X hV22 (ci := 9) inlX9 rfl 0 rfl 1 (by decide) mw_52 rfl dX9_put_37 ?_
          refine lv_iconst (v := 1) hx hb dX9_put_40 (by decide) ?_
          refine lv_iadd hx hb dX9_put_41 ?_
          obtain ⟨v42_23, e24, h25⟩ := nmI_s h21
          clear h21
          refine ktopi e24 ?_
          clear e24
          refine kput X hV22 (ci := 9) inlX9 rfl tyX9 tyX9_ok nmX9 0 rfl 1 (by decide) mw_52 rfl rfl rfl (Nat.le_of_ble_eq_true rfl) dX9_put_42 (fun H locs hV26 => ?_)
          have hV26 : kV E A s.heap H locs [(a0, .inr (9, [.ref a1, .int v42_23])), (a1, .inl (E.2 0, 200, .inl g34_18))] := hV26
          clear hV22
          obtain ⟨v45_27, e28, h29⟩ := nmI_s h25
          clear h25
          refine lv_iinc (v := v45_27) (lv' := [(2, .int v45_27), (0, .ref a0), (1, .int p1)]) hx hb dX9_put_45 hlB3 (k := 2) rfl (by rw [e28]; rfl) (by decide) rfl (fun ls hl30 => ?_)
          clear hlB3 e28
          refine lv_goto (tgt := 3) hx hb dX9_put_48 (by decide) ?_
          exact ih3 v45_27 v42_23 g34_18 _ _ _ h29 hV26 (lv_sub hl30 [1, 2, 0] rfl)
  exact L3 FU 24 s_length s_bytes _ _ _ h hV (lv_sub hl1 [1, 2, 0] rfl)
abbrev r_X9_clear : Room := { frames := 0, cells := 0, slots := 0, locals := 0 }
set_option maxHeartbeats 4000000 in
set_option maxRecDepth 100000 in
theorem c_X9_clear (l : Launch) (E : kE) (sz : Nat) (a0 : Nat) (w0_0 : Value) (s_length : Int32) (o_length : Int32) (h : f_X9_clear s_length = some (o_length)) : kMv l yX9_clear cX9_clear 1 r_X9_clear [.ref a0] E [(a0, .inr (9, [w0_0, .int s_length]))] sz 0 0 (fun (_ : Unit) => True) (fun _ => [(a0, .inr (9, [w0_0, .int o_length]))]) := by
  refine kmetv rfl (Nat.le_of_ble_eq_true rfl) ?_
  intro p e s m args below meth c ls A Q X hnm hV hret hl
  have X : kC p s m c cX9_clear 1 RX9 args E A := X
  have hx := X.1
  have hb := X.2.1
  have hl : lv_has ls 1 [(0, .ref a0)] := hl
  rw [f_X9_clear] at h
  refine lv_aload_n hx hb dX9_clear_0 rfl (lv_at hl 0 rfl) ?_
  refine lv_iconst (v := 0) hx hb dX9_clear_1 (by decide) ?_
  refine kput X hV (ci := 9) inlX9 rfl tyX9 tyX9_ok nmX9 0 rfl 1 (by decide) mw_52 rfl rfl rfl (Nat.le_of_ble_eq_true rfl) dX9_clear_2 (fun H locs hV1 => ?_)
  have hV1 : kV E A s.heap H locs [(a0, .inr (9, [w0_0, .int 0]))] := hV1
  clear hV
  have q2 := tup1_s h
  clear h
  exact hret () _ _ _ _ trivial (by rw [← q2]; exact hV1) dX9_clear_5
abbrev r_X0_add : Room := { frames := 0, cells := 0, slots := 0, locals := 0 }
set_option maxHeartbeats 4000000 in
set_option maxRecDepth 100000 in
theorem c_X0_add (l : Launch) (E : kE) (sz : Nat) (a0 a1 : Nat) (w0_1 w0_3 w0_4 w0_5 : Value) (s_many : Int32) (s_times : Nat → Int32) (p1 : Int32) (r : Int32) (o_many : Int32) (o_times : Nat → Int32) (h : f_X0_add s_many s_times p1 = some (r, o_many, o_times)) : kMi l yX0_add cX0_add 2 (some .int) r_X0_add [.ref a0, .int p1] E [(a0, .inr (0, [.ref a1, w0_1, .int s_many, w0_3, w0_4, w0_5])), (a1, .inl (E.2 0, 40, .inl s_times))] sz 0 0 (fun x (_ : Unit) => x = r) (fun _ => [(a0, .inr (0, [.ref a1, w0_1, .int o_many, w0_3, w0_4, w0_5])), (a1, .inl (E.2 0, 40, .inl o_times))]) := by
  refine kmeti rfl (Nat.le_of_ble_eq_true rfl) ?_
  intro p e s m args below meth c ls A Q X hV hret hl
  have X : kC p s m c cX0_add 2 RX0 args E A := X
  have hx := X.1
  have hb := X.2.1
  have hl : lv_has ls 2 [(0, .ref a0), (1, .int p1)] := hl
  rw [f_X0_add] at h
  refine lv_aload_n hx hb dX0_add_0 rfl (lv_at hl 0 rfl) ?_
  refine kget X hV (ci := 0) inlX0 rfl 0 rfl 2 (by decide) mw_111 rfl dX0_add_1 ?_
  refine lv_bipush (v := 40) hx hb dX0_add_4 (by decide) ?_
  refine lv_icmp_ge (tgt := 31) hx hb dX0_add_6 (by decide) (fun c1 => ?_) (fun c1 => ?_)
  · have h2 := itS c1 h
    clear h c1
    refine lv_iconst (v := (-1)) hx hb dX0_add_31 (by decide) ?_
    obtain ⟨q4, q5, q6⟩ := tup3_s h2
    clear h2
    exact hret _ () _ _ _ _ q4 rfl (by rw [← q5, ← q6]; exact hV) dX0_add_32
  · have h3 := ieS c1 h
    clear h c1
    refine lv_aload_n hx hb dX0_add_9 rfl (lv_at hl 0 rfl) ?_
    refine kget X hV (ci := 0) inlX0 rfl 0 rfl 2 (by decide) mw_111 rfl dX0_add_10 ?_
    have J33 : ∀  (H : Heap) (locs : List Loc) (ls : Array Slot), (f_X0_add_J33 s_many s_times p1 ) = some (r, o_many, o_times) → kV E A s.heap H locs [(a0, .inr (0, [.ref a1, w0_1, .int s_many, w0_3, w0_4, w0_5])), (a1, .inl (E.2 0, 40, .inl s_times))] → lv_has ls 2 [(0, .ref a0), (1, .int p1)] → W p l e r_X0_add s m args below meth c H locs 0 0 Q (F0 m 33 ls []) := by
      intro  H locs ls hB33 hVB33 hlB33
      rw [f_X0_add_J33] at hB33
      refine lv_aload_n hx hb dX0_add_33 rfl (lv_at hlB33 0 rfl) ?_
      refine kget X hVB33 (ci := 0) inlX0 rfl 0 rfl 0 (by decide) mw_109 rfl dX0_add_34 ?_
      refine lv_aload_n hx hb dX0_add_37 rfl (lv_at hlB33 0 rfl) ?_
      refine kget X hVB33 (ci := 0) inlX0 rfl 0 rfl 2 (by decide) mw_111 rfl dX0_add_38 ?_
      refine lv_iload_n hx hb dX0_add_41 rfl (lv_at hlB33 1 rfl) ?_
      obtain ⟨hi8, g42_7, e9, h10⟩ := wrI_s hB33
      clear hB33
      refine kiast X hVB33 1 rfl hi8 e9 dX0_add_42 (fun H locs hV11 => ?_)
      have hV11 : kV E A s.heap H locs [(a0, .inr (0, [.ref a1, w0_1, .int s_many, w0_3, w0_4, w0_5])), (a1, .inl (E.2 0, 40, .inl g42_7))] := hV11
      clear hVB33 hi8 e9
      refine lv_aload_n hx hb dX0_add_43 rfl (lv_at hlB33 0 rfl) ?_
      refine lv_dup hx hb dX0_add_44 rfl ?_
      refine kget X hV11 (ci := 0) inlX0 rfl 0 rfl 2 (by decide) mw_111 rfl dX0_add_45 ?_
      refine lv_iconst (v := 1) hx hb dX0_add_48 (by decide) ?_
      refine lv_iadd hx hb dX0_add_49 ?_
      obtain ⟨v50_12, e13, h14⟩ := nmI_s h10
      clear h10
      refine ktopi e13 ?_
      clear e13
      refine kput X hV11 (ci := 0) inlX0 rfl tyX0 tyX0_ok nmX0 0 rfl 2 (by decide) mw_111 rfl rfl rfl (Nat.le_of_ble_eq_true rfl) dX0_add_50 (fun H locs hV15 => ?_)
      have hV15 : kV E A s.heap H locs [(a0, .inr (0, [.ref a1, w0_1, .int v50_12, w0_3, w0_4, w0_5])), (a1, .inl (E.2 0, 40, .inl g42_7))] := hV15
      clear hV11
      refine lv_aload_n hx hb dX0_add_53 rfl (lv_at hlB33 0 rfl) ?_
      refine kget X hV15 (ci := 0) inlX0 rfl 0 rfl 2 (by decide) mw_111 rfl dX0_add_54 ?_
      refine lv_iconst (v := 1) hx hb dX0_add_57 (by decide) ?_
      refine lv_isub hx hb dX0_add_58 ?_
      obtain ⟨q16, q17, q18⟩ := tup3_s h14
      clear h14
      exact hret _ () _ _ _ _ q16 rfl (by rw [← q17, ← q18]; exact hV15) dX0_add_59
    refine lv_if_le (tgt := 33) hx hb dX0_add_13 (by decide) (fun c19 => ?_) (fun c19 => ?_)
    · have h20 := itS c19 h3
      clear h3 c19
      exact J33  _ _ _ h20 hV (lv_sub hl [0, 1] rfl)
    · have h21 := ieS c19 h3
      clear h3 c19
      refine lv_iload_n hx hb dX0_add_16 rfl (lv_at hl 1 rfl) ?_
      refine lv_aload_n hx hb dX0_add_17 rfl (lv_at hl 0 rfl) ?_
      refine kget X hV (ci := 0) inlX0 rfl 0 rfl 0 (by decide) mw_109 rfl dX0_add_18 ?_
      refine lv_aload_n hx hb dX0_add_21 rfl (lv_at hl 0 rfl) ?_
      refine kget X hV (ci := 0) inlX0 rfl 0 rfl 2 (by decide) mw_111 rfl dX0_add_22 ?_
      refine lv_iconst (v := 1) hx hb dX0_add_25 (by decide) ?_
      refine lv_isub hx hb dX0_add_26 ?_
      obtain ⟨hi23, v27_22, e24, h25⟩ := rdI_s h21
      clear h21
      refine kiald X hV 1 rfl hi23 e24 dX0_add_27 ?_
      clear hi23 e24
      refine lv_icmp_gt (tgt := 33) hx hb dX0_add_28 (by decide) (fun c26 => ?_) (fun c26 => ?_)
      · have h27 := itS c26 h25
        clear h25 c26
        exact J33  _ _ _ h27 hV (lv_sub hl [0, 1] rfl)
      · have h28 := ieS c26 h25
        clear h25 c26
        refine lv_iconst (v := (-1)) hx hb dX0_add_31 (by decide) ?_
        obtain ⟨q29, q30, q31⟩ := tup3_s h28
        clear h28
        exact hret _ () _ _ _ _ q29 rfl (by rw [← q30, ← q31]; exact hV) dX0_add_32
abbrev r_X3_add : Room := { frames := 0, cells := 0, slots := 0, locals := 0 }
set_option maxHeartbeats 4000000 in
set_option maxRecDepth 100000 in
theorem c_X3_add (l : Launch) (E : kE) (sz : Nat) (a0 a1 a2 a3 : Nat) (w0_3 : Value) (s_many : Int32) (s_days : Nat → Int32) (s_minutes : Nat → Int32) (s_shapes : Nat → Int32) (p1 : Int32) (p2 : Int32) (p3 : Int32) (r : Int32) (o_many : Int32) (o_days : Nat → Int32) (o_minutes : Nat → Int32) (o_shapes : Nat → Int32) (h : f_X3_add s_many s_days s_minutes s_shapes p1 p2 p3 = some (r, o_many, o_days, o_minutes, o_shapes)) : kMi l yX3_add cX3_add 4 (some .int) r_X3_add [.ref a0, .int p1, .int p2, .int p3] E [(a0, .inr (3, [.ref a1, .ref a2, .ref a3, w0_3, .int s_many])), (a1, .inl (E.2 0, 40, .inl s_days)), (a2, .inl (E.2 0, 40, .inl s_minutes)), (a3, .inl (E.2 0, 40, .inl s_shapes))] sz 0 0 (fun x (_ : Unit) => x = r) (fun _ => [(a0, .inr (3, [.ref a1, .ref a2, .ref a3, w0_3, .int o_many])), (a1, .inl (E.2 0, 40, .inl o_days)), (a2, .inl (E.2 0, 40, .inl o_minutes)), (a3, .inl (E.2 0, 40, .inl o_shapes))]) := by
  refine kmeti rfl (Nat.le_of_ble_eq_true rfl) ?_
  intro p e s m args below meth c ls A Q X hV hret hl
  have X : kC p s m c cX3_add 4 RX3 args E A := X
  have hx := X.1
  have hb := X.2.1
  have hl : lv_has ls 4 [(0, .ref a0), (1, .int p1), (2, .int p2), (3, .int p3)] := hl
  rw [f_X3_add] at h
  refine lv_aload_n hx hb dX3_add_0 rfl (lv_at hl 0 rfl) ?_
  refine kget X hV (ci := 3) inlX3 rfl 0 rfl 4 (by decide) mw_104 rfl dX3_add_1 ?_
  refine lv_bipush (v := 40) hx hb dX3_add_4 (by decide) ?_
  refine lv_icmp_ge (tgt := 31) hx hb dX3_add_6 (by decide) (fun c1 => ?_) (fun c1 => ?_)
  · have h2 := itS c1 h
    clear h c1
    refine lv_iconst (v := (-1)) hx hb dX3_add_31 (by decide) ?_
    obtain ⟨q4, q5, q6, q7, q8⟩ := tup5_s h2
    clear h2
    exact hret _ () _ _ _ _ q4 rfl (by rw [← q5, ← q6, ← q7, ← q8]; exact hV) dX3_add_32
  · have h3 := ieS c1 h
    clear h c1
    refine lv_aload_n hx hb dX3_add_9 rfl (lv_at hl 0 rfl) ?_
    refine kget X hV (ci := 3) inlX3 rfl 0 rfl 4 (by decide) mw_104 rfl dX3_add_10 ?_
    have J33 : ∀  (H : Heap) (locs : List Loc) (ls : Array Slot), (f_X3_add_J33 s_many s_days s_minutes s_shapes p1 p2 p3 ) = some (r, o_many, o_days, o_minutes, o_shapes) → kV E A s.heap H locs [(a0, .inr (3, [.ref a1, .ref a2, .ref a3, w0_3, .int s_many])), (a1, .inl (E.2 0, 40, .inl s_days)), (a2, .inl (E.2 0, 40, .inl s_minutes)), (a3, .inl (E.2 0, 40, .inl s_shapes))] → lv_has ls 4 [(0, .ref a0), (1, .int p1), (2, .int p2), (3, .int p3)] → W p l e r_X3_add s m args below meth c H locs 0 0 Q (F0 m 33 ls []) := by
      intro  H locs ls hB33 hVB33 hlB33
      rw [f_X3_add_J33] at hB33
      refine lv_aload_n hx hb dX3_add_33 rfl (lv_at hlB33 0 rfl) ?_
      refine kget X hVB33 (ci := 3) inlX3 rfl 0 rfl 0 (by decide) mw_100 rfl dX3_add_34 ?_
      refine lv_aload_n hx hb dX3_add_37 rfl (lv_at hlB33 0 rfl) ?_
      refine kget X hVB33 (ci := 3) inlX3 rfl 0 rfl 4 (by decide) mw_104 rfl dX3_add_38 ?_
      refine lv_iload_n hx hb dX3_add_41 rfl (lv_at hlB33 1 rfl) ?_
      obtain ⟨hi10, g42_9, e11, h12⟩ := wrI_s hB33
      clear hB33
      refine kiast X hVB33 1 rfl hi10 e11 dX3_add_42 (fun H locs hV13 => ?_)
      have hV13 : kV E A s.heap H locs [(a0, .inr (3, [.ref a1, .ref a2, .ref a3, w0_3, .int s_many])), (a1, .inl (E.2 0, 40, .inl g42_9)), (a2, .inl (E.2 0, 40, .inl s_minutes)), (a3, .inl (E.2 0, 40, .inl s_shapes))] := hV13
      clear hVB33 hi10 e11
      refine lv_aload_n hx hb dX3_add_43 rfl (lv_at hlB33 0 rfl) ?_
      refine kget X hV13 (ci := 3) inlX3 rfl 0 rfl 1 (by decide) mw_101 rfl dX3_add_44 ?_
      refine lv_aload_n hx hb dX3_add_47 rfl (lv_at hlB33 0 rfl) ?_
      refine kget X hV13 (ci := 3) inlX3 rfl 0 rfl 4 (by decide) mw_104 rfl dX3_add_48 ?_
      refine lv_iload_n hx hb dX3_add_51 rfl (lv_at hlB33 2 rfl) ?_
      obtain ⟨hi15, g52_14, e16, h17⟩ := wrI_s h12
      clear h12
      refine kiast X hV13 2 rfl hi15 e16 dX3_add_52 (fun H locs hV18 => ?_)
      have hV18 : kV E A s.heap H locs [(a0, .inr (3, [.ref a1, .ref a2, .ref a3, w0_3, .int s_many])), (a1, .inl (E.2 0, 40, .inl g42_9)), (a2, .inl (E.2 0, 40, .inl g52_14)), (a3, .inl (E.2 0, 40, .inl s_shapes))] := hV18
      clear hV13 hi15 e16
      refine lv_aload_n hx hb dX3_add_53 rfl (lv_at hlB33 0 rfl) ?_
      refine kget X hV18 (ci := 3) inlX3 rfl 0 rfl 2 (by decide) mw_102 rfl dX3_add_54 ?_
      refine lv_aload_n hx hb dX3_add_57 rfl (lv_at hlB33 0 rfl) ?_
      refine kget X hV18 (ci := 3) inlX3 rfl 0 rfl 4 (by decide) mw_104 rfl dX3_add_58 ?_
      refine lv_iload_n hx hb dX3_add_61 rfl (lv_at hlB33 3 rfl) ?_
      obtain ⟨hi20, g62_19, e21, h22⟩ := wrI_s h17
      clear h17
      refine kiast X hV18 3 rfl hi20 e21 dX3_add_62 (fun H locs hV23 => ?_)
      have hV23 : kV E A s.heap H locs [(a0, .inr (3, [.ref a1, .ref a2, .ref a3, w0_3, .int s_many])), (a1, .inl (E.2 0, 40, .inl g42_9)), (a2, .inl (E.2 0, 40, .inl g52_14)), (a3, .inl (E.2 0, 40, .inl g62_19))] := hV23
      clear hV18 hi20 e21
      refine lv_aload_n hx hb dX3_add_63 rfl (lv_at hlB33 0 rfl) ?_
      refine lv_dup hx hb dX3_add_64 rfl ?_
      refine kget X hV23 (ci := 3) inlX3 rfl 0 rfl 4 (by decide) mw_104 rfl dX3_add_65 ?_
      refine lv_iconst (v := 1) hx hb dX3_add_68 (by decide) ?_
      refine lv_iadd hx hb dX3_add_69 ?_
      obtain ⟨v70_24, e25, h26⟩ := nmI_s h22
      clear h22
      refine ktopi e25 ?_
      clear e25
      refine kput X hV23 (ci := 3) inlX3 rfl tyX3 tyX3_ok nmX3 0 rfl 4 (by decide) mw_104 rfl rfl rfl (Nat.le_of_ble_eq_true rfl) dX3_add_70 (fun H locs hV27 => ?_)
      have hV27 : kV E A s.heap H locs [(a0, .inr (3, [.ref a1, .ref a2, .ref a3, w0_3, .int v70_24])), (a1, .inl (E.2 0, 40, .inl g42_9)), (a2, .inl (E.2 0, 40, .inl g52_14)), (a3, .inl (E.2 0, 40, .inl g62_19))] := hV27
      clear hV23
      refine lv_aload_n hx hb dX3_add_73 rfl (lv_at hlB33 0 rfl) ?_
      refine kget X hV27 (ci := 3) inlX3 rfl 0 rfl 4 (by decide) mw_104 rfl dX3_add_74 ?_
      refine lv_iconst (v := 1) hx hb dX3_add_77 (by decide) ?_
      refine lv_isub hx hb dX3_add_78 ?_
      obtain ⟨q28, q29, q30, q31, q32⟩ := tup5_s h26
      clear h26
      exact hret _ () _ _ _ _ q28 rfl (by rw [← q29, ← q30, ← q31, ← q32]; exact hV27) dX3_add_79
    refine lv_if_le (tgt := 33) hx hb dX3_add_13 (by decide) (fun c33 => ?_) (fun c33 => ?_)
    · have h34 := itS c33 h3
      clear h3 c33
      exact J33  _ _ _ h34 hV (lv_sub hl [0, 1, 2, 3] rfl)
    · have h35 := ieS c33 h3
      clear h3 c33
      refine lv_iload_n hx hb dX3_add_16 rfl (lv_at hl 1 rfl) ?_
      refine lv_aload_n hx hb dX3_add_17 rfl (lv_at hl 0 rfl) ?_
      refine kget X hV (ci := 3) inlX3 rfl 0 rfl 0 (by decide) mw_100 rfl dX3_add_18 ?_
      refine lv_aload_n hx hb dX3_add_21 rfl (lv_at hl 0 rfl) ?_
      refine kget X hV (ci := 3) inlX3 rfl 0 rfl 4 (by decide) mw_104 rfl dX3_add_22 ?_
      refine lv_iconst (v := 1) hx hb dX3_add_25 (by decide) ?_
      refine lv_isub hx hb dX3_add_26 ?_
      obtain ⟨hi37, v27_36, e38, h39⟩ := rdI_s h35
      clear h35
      refine kiald X hV 1 rfl hi37 e38 dX3_add_27 ?_
      clear hi37 e38
      refine lv_icmp_ge (tgt := 33) hx hb dX3_add_28 (by decide) (fun c40 => ?_) (fun c40 => ?_)
      · have h41 := itS c40 h39
        clear h39 c40
        exact J33  _ _ _ h41 hV (lv_sub hl [0, 1, 2, 3] rfl)
      · have h42 := ieS c40 h39
        clear h39 c40
        refine lv_iconst (v := (-1)) hx hb dX3_add_31 (by decide) ?_
        obtain ⟨q43, q44, q45, q46, q47⟩ := tup5_s h42
        clear h42
        exact hret _ () _ _ _ _ q43 rfl (by rw [← q44, ← q45, ← q46, ← q47]; exact hV) dX3_add_32
abbrev r_X3_gather : Room := { frames := 1, cells := 0, slots := 0, locals := 21 }
set_option maxHeartbeats 4000000 in
set_option maxRecDepth 100000 in
theorem c_X3_gather (l : Launch) (E : kE) (sz : Nat) (a0 a1 a2 a3 a4 : Nat) (s_many : Int32) (s_days : Nat → Int32) (s_gathered : Nat → Int32) (s_minutes : Nat → Int32) (s_shapes : Nat → Int32) (p1 : Int32) (p2 : Int32) (p3 : Int32) (r : Int32) (o_gathered : Nat → Int32) (h : f_X3_gather s_many s_days s_gathered s_minutes s_shapes p1 p2 p3 = some (r, o_gathered)) : kMi l yX3_gather cX3_gather 6 (some .int) r_X3_gather [.ref a0, .int p1, .int p2, .int p3] E [(a0, .inr (3, [.ref a1, .ref a3, .ref a4, .ref a2, .int s_many])), (a1, .inl (E.2 0, 40, .inl s_days)), (a2, .inl (E.2 0, 40, .inl s_gathered)), (a3, .inl (E.2 0, 40, .inl s_minutes)), (a4, .inl (E.2 0, 40, .inl s_shapes))] sz 0 0 (fun x (_ : Unit) => x = r) (fun _ => [(a0, .inr (3, [.ref a1, .ref a3, .ref a4, .ref a2, .int s_many])), (a1, .inl (E.2 0, 40, .inl s_days)), (a2, .inl (E.2 0, 40, .inl o_gathered)), (a3, .inl (E.2 0, 40, .inl s_minutes)), (a4, .inl (E.2 0, 40, .inl s_shapes))]) := by
  refine kmeti rfl (Nat.le_of_ble_eq_true rfl) ?_
  intro p e s m args below meth c ls A Q X hV hret hl
  have X : kC p s m c cX3_gather 6 RX3 args E A := X
  have hx := X.1
  have hb := X.2.1
  have hl : lv_has ls 6 [(0, .ref a0), (1, .int p1), (2, .int p2), (3, .int p3)] := hl
  rw [f_X3_gather] at h
  refine lv_iconst (v := 0) hx hb dX3_gather_0 (by decide) ?_
  refine lv_istore (lv' := [(4, .int 0), (0, .ref a0), (1, .int p1), (2, .int p2), (3, .int p3)]) hx hb dX3_gather_1 hl (by decide) rfl (fun ls hl1 => ?_)
  clear hl
  refine lv_iconst (v := 0) hx hb dX3_gather_3 (by decide) ?_
  refine lv_istore (lv' := [(5, .int 0), (4, .int 0), (0, .ref a0), (1, .int p1), (2, .int p2), (3, .int p3)]) hx hb dX3_gather_4 hl1 (by decide) rfl (fun ls hl2 => ?_)
  clear hl1
  have L6 : ∀ (n6 : Nat) (x4_3 : Int32) (x5_4 : Int32) (gathered__5 : Nat → Int32) (H : Heap) (locs : List Loc) (ls : Array Slot), (f_X3_gather_L6 s_many s_days s_minutes s_shapes p1 p2 p3  n6) x4_3 x5_4 gathered__5 = some (r, o_gathered) → kV E A s.heap H locs [(a0, .inr (3, [.ref a1, .ref a3, .ref a4, .ref a2, .int s_many])), (a1, .inl (E.2 0, 40, .inl s_days)), (a2, .inl (E.2 0, 40, .inl gathered__5)), (a3, .inl (E.2 0, 40, .inl s_minutes)), (a4, .inl (E.2 0, 40, .inl s_shapes))] → lv_has ls 6 [(0, .ref a0), (1, .int p1), (2, .int p2), (3, .int p3), (4, .int x4_3), (5, .int x5_4)] → W p l e r_X3_gather s m args below meth c H locs 0 0 Q (F0 m 6 ls []) := by
    intro n6
    induction n6 with
    | zero =>
      intro x4_3 x5_4 gathered__5 H locs ls hB6 hVB6 hlB6
      rw [f_X3_gather_L6] at hB6
      exact nomatch hB6
    | succ n6 ih6 =>
      intro x4_3 x5_4 gathered__5 H locs ls hB6 hVB6 hlB6
      rw [f_X3_gather_L6] at hB6
      refine lv_iload hx hb dX3_gather_6 (lv_at hlB6 5 rfl) ?_
      refine lv_aload_n hx hb dX3_gather_8 rfl (lv_at hlB6 0 rfl) ?_
      refine kget X hVB6 (ci := 3) inlX3 rfl 0 rfl 4 (by decide) mw_104 rfl dX3_gather_9 ?_
      refine lv_icmp_ge (tgt := 84) hx hb dX3_gather_12 (by decide) (fun c6 => ?_) (fun c6 => ?_)
      · have h7 := itS c6 hB6
        clear hB6 c6
        refine lv_iload hx hb dX3_gather_84 (lv_at hlB6 4 rfl) ?_
        obtain ⟨q9, q10⟩ := tup2_s h7
        clear h7
        exact hret _ () _ _ _ _ q9 rfl (by rw [← q10]; exact hVB6) dX3_gather_86
      · have h8 := ieS c6 hB6
        clear hB6 c6
        refine lv_aload_n hx hb dX3_gather_15 rfl (lv_at hlB6 0 rfl) ?_
        refine kget X hVB6 (ci := 3) inlX3 rfl 0 rfl 2 (by decide) mw_102 rfl dX3_gather_16 ?_
        refine lv_iload hx hb dX3_gather_19 (lv_at hlB6 5 rfl) ?_
        obtain ⟨hi12, v21_11, e13, h14⟩ := rdI_s h8
        clear h8
        refine kiald X hVB6 4 rfl hi12 e13 dX3_gather_21 ?_
        clear hi12 e13
        refine lv_iload_n hx hb dX3_gather_22 rfl (lv_at hlB6 1 rfl) ?_
        refine lv_icmp_ne (tgt := 78) hx hb dX3_gather_23 (by decide) (fun c15 => ?_) (fun c15 => ?_)
        · have h16 := ieS c15 h14
          clear h14 c15
          obtain ⟨v78_18, e19, h20⟩ := nmI_s h16
          clear h16
          refine lv_iinc (v := v78_18) (lv' := [(5, .int v78_18), (0, .ref a0), (1, .int p1), (2, .int p2), (3, .int p3), (4, .int x4_3)]) hx hb dX3_gather_78 hlB6 (k := 5) rfl (by rw [e19]; rfl) (by decide) rfl (fun ls hl21 => ?_)
          clear hlB6 e19
          refine lv_goto (tgt := 6) hx hb dX3_gather_81 (by decide) ?_
          exact ih6 x4_3 v78_18 gathered__5 _ _ _ h20 hVB6 (lv_sub hl21 [1, 2, 3, 4, 5, 0] rfl)
        · have h17 := itS c15 h14
          clear h14 c15
          refine lv_aload_n hx hb dX3_gather_26 rfl (lv_at hlB6 0 rfl) ?_
          refine kget X hVB6 (ci := 3) inlX3 rfl 0 rfl 0 (by decide) mw_100 rfl dX3_gather_27 ?_
          refine lv_iload hx hb dX3_gather_30 (lv_at hlB6 5 rfl) ?_
          obtain ⟨hi23, v32_22, e24, h25⟩ := rdI_s h17
          clear h17
          refine kiald X hVB6 1 rfl hi23 e24 dX3_gather_32 ?_
          clear hi23 e24
          refine lv_iload_n hx hb dX3_gather_33 rfl (lv_at hlB6 2 rfl) ?_
          refine lv_icmp_gt (tgt := 78) hx hb dX3_gather_34 (by decide) (fun c26 => ?_) (fun c26 => ?_)
          · have h27 := itS c26 h25
            clear h25 c26
            obtain ⟨v78_29, e30, h31⟩ := nmI_s h27
            clear h27
            refine lv_iinc (v := v78_29) (lv' := [(5, .int v78_29), (0, .ref a0), (1, .int p1), (2, .int p2), (3, .int p3), (4, .int x4_3)]) hx hb dX3_gather_78 hlB6 (k := 5) rfl (by rw [e30]; rfl) (by decide) rfl (fun ls hl32 => ?_)
            clear hlB6 e30
            refine lv_goto (tgt := 6) hx hb dX3_gather_81 (by decide) ?_
            exact ih6 x4_3 v78_29 gathered__5 _ _ _ h31 hVB6 (lv_sub hl32 [1, 2, 3, 4, 5, 0] rfl)
          · have h28 := ieS c26 h25
            clear h25 c26
            refine lv_aload_n hx hb dX3_gather_37 rfl (lv_at hlB6 0 rfl) ?_
            refine kget X hVB6 (ci := 3) inlX3 rfl 0 rfl 3 (by decide) mw_103 rfl dX3_gather_38 ?_
            refine lv_iload hx hb dX3_gather_41 (lv_at hlB6 4 rfl) ?_
            refine lv_iload_n hx hb dX3_gather_43 rfl (lv_at hlB6 3 rfl) ?_
            refine lv_if_eq (tgt := 67) hx hb dX3_gather_44 (by decide) (fun c33 => ?_) (fun c33 => ?_)
            · have h34 := itS c33 h28
              clear h28 c33
              refine lv_aload_n hx hb dX3_gather_67 rfl (lv_at hlB6 0 rfl) ?_
              refine kget X hVB6 (ci := 3) inlX3 rfl 0 rfl 1 (by decide) mw_101 rfl dX3_gather_68 ?_
              refine lv_iload hx hb dX3_gather_71 (lv_at hlB6 5 rfl) ?_
              obtain ⟨hi37, v73_36, e38, h39⟩ := rdI_s h34
              clear h34
              refine kiald X hVB6 3 rfl hi37 e38 dX3_gather_73 ?_
              clear hi37 e38
              obtain ⟨hi41, g74_40, e42, h43⟩ := wrI_s h39
              clear h39
              refine kiast X hVB6 2 rfl hi41 e42 dX3_gather_74 (fun H locs hV44 => ?_)
              have hV44 : kV E A s.heap H locs [(a0, .inr (3, [.ref a1, .ref a3, .ref a4, .ref a2, .int s_many])), (a1, .inl (E.2 0, 40, .inl s_days)), (a2, .inl (E.2 0, 40, .inl g74_40)), (a3, .inl (E.2 0, 40, .inl s_minutes)), (a4, .inl (E.2 0, 40, .inl s_shapes))] := hV44
              clear hVB6 hi41 e42
              obtain ⟨v75_45, e46, h47⟩ := nmI_s h43
              clear h43
              refine lv_iinc (v := v75_45) (lv' := [(4, .int v75_45), (0, .ref a0), (1, .int p1), (2, .int p2), (3, .int p3), (5, .int x5_4)]) hx hb dX3_gather_75 hlB6 (k := 4) rfl (by rw [e46]; rfl) (by decide) rfl (fun ls hl48 => ?_)
              clear hlB6 e46
              obtain ⟨v78_49, e50, h51⟩ := nmI_s h47
              clear h47
              refine lv_iinc (v := v78_49) (lv' := [(5, .int v78_49), (4, .int v75_45), (0, .ref a0), (1, .int p1), (2, .int p2), (3, .int p3)]) hx hb dX3_gather_78 hl48 (k := 5) rfl (by rw [e50]; rfl) (by decide) rfl (fun ls hl52 => ?_)
              clear hl48 e50
              refine lv_goto (tgt := 6) hx hb dX3_gather_81 (by decide) ?_
              exact ih6 v75_45 v78_49 g74_40 _ _ _ h51 hV44 (lv_sub hl52 [2, 3, 4, 5, 1, 0] rfl)
            · have h35 := ieS c33 h28
              clear h28 c33
              refine lv_aload_n hx hb dX3_gather_47 rfl (lv_at hlB6 0 rfl) ?_
              refine kget X hVB6 (ci := 3) inlX3 rfl 0 rfl 0 (by decide) mw_100 rfl dX3_gather_48 ?_
              refine lv_iload hx hb dX3_gather_51 (lv_at hlB6 5 rfl) ?_
              obtain ⟨hi54, v53_53, e55, h56⟩ := rdI_s h35
              clear h35
              refine kiald X hVB6 1 rfl hi54 e55 dX3_gather_53 ?_
              clear hi54 e55
              refine lv_aload_n hx hb dX3_gather_54 rfl (lv_at hlB6 0 rfl) ?_
              refine kget X hVB6 (ci := 3) inlX3 rfl 0 rfl 1 (by decide) mw_101 rfl dX3_gather_55 ?_
              refine lv_iload hx hb dX3_gather_58 (lv_at hlB6 5 rfl) ?_
              obtain ⟨hi58, v60_57, e59, h60⟩ := rdI_s h56
              clear h56
              refine kiald X hVB6 3 rfl hi58 e59 dX3_gather_60 ?_
              clear hi58 e59
              obtain ⟨r61_61, hc62, h63⟩ := cb1_s h60
              clear h60
              refine kgoiE (krunSN (rest := [.int x4_3, .ref a2]) X hVB6 [] (c_X11_starMinute l E _ v53_53 v60_57 r61_61 hc62) (List.mem_of_getElem? (i := 6) rfl) kb_X11_starMinute (by decide) rfl rfl hlB6.1 rfl (Nat.le_of_ble_eq_true rfl) dX3_gather_61 (by decide)) X hVB6 [] [0, 1, 2, 3, 4] rfl rfl rfl (by decide) (fun u H locs hV64 => ?_)
              have hV64 : kV E A s.heap H locs [(a0, .inr (3, [.ref a1, .ref a3, .ref a4, .ref a2, .int s_many])), (a1, .inl (E.2 0, 40, .inl s_days)), (a2, .inl (E.2 0, 40, .inl gathered__5)), (a3, .inl (E.2 0, 40, .inl s_minutes)), (a4, .inl (E.2 0, 40, .inl s_shapes))] := hV64.sub [0, 1, 2, 3, 4] rfl rfl
              clear hVB6
              refine lv_goto (tgt := 74) hx hb dX3_gather_64 (by decide) ?_
              obtain ⟨hi67, g74_66, e68, h69⟩ := wrI_s h63
              clear h63
              refine kiast X hV64 2 rfl hi67 e68 dX3_gather_74 (fun H locs hV70 => ?_)
              have hV70 : kV E A s.heap H locs [(a0, .inr (3, [.ref a1, .ref a3, .ref a4, .ref a2, .int s_many])), (a1, .inl (E.2 0, 40, .inl s_days)), (a2, .inl (E.2 0, 40, .inl g74_66)), (a3, .inl (E.2 0, 40, .inl s_minutes)), (a4, .inl (E.2 0, 40, .inl s_shapes))] := hV70
              clear hV64 hi67 e68
              obtain ⟨v75_71, e72, h73⟩ := nmI_s h69
              clear h69
              refine lv_iinc (v := v75_71) (lv' := [(4, .int v75_71), (0, .ref a0), (1, .int p1), (2, .int p2), (3, .int p3), (5, .int x5_4)]) hx hb dX3_gather_75 hlB6 (k := 4) rfl (by rw [e72]; rfl) (by decide) rfl (fun ls hl74 => ?_)
              clear hlB6 e72
              obtain ⟨v78_75, e76, h77⟩ := nmI_s h73
              clear h73
              refine lv_iinc (v := v78_75) (lv' := [(5, .int v78_75), (4, .int v75_71), (0, .ref a0), (1, .int p1), (2, .int p2), (3, .int p3)]) hx hb dX3_gather_78 hl74 (k := 5) rfl (by rw [e76]; rfl) (by decide) rfl (fun ls hl78 => ?_)
              clear hl74 e76
              refine lv_goto (tgt := 6) hx hb dX3_gather_81 (by decide) ?_
              exact ih6 v75_71 v78_75 g74_66 _ _ _ h77 hV70 (lv_sub hl78 [2, 3, 4, 5, 1, 0] rfl)
  exact L6 FU 0 0 s_gathered _ _ _ h hV (lv_sub hl2 [2, 3, 4, 5, 1, 0] rfl)
abbrev r_X3_oneBy : Room := { frames := 2, cells := 0, slots := 0, locals := 46 }
set_option maxHeartbeats 4000000 in
set_option maxRecDepth 100000 in
theorem c_X3_oneBy (l : Launch) (E : kE) (sz : Nat) (a0 a1 a2 a3 a4 : Nat) (s_many : Int32) (s_days : Nat → Int32) (s_gathered : Nat → Int32) (s_minutes : Nat → Int32) (s_shapes : Nat → Int32) (p1 : Int32) (p2 : Int32) (p3 : Int32) (r : Int32) (o_gathered : Nat → Int32) (h : f_X3_oneBy s_many s_days s_gathered s_minutes s_shapes p1 p2 p3 = some (r, o_gathered)) : kMi l yX3_oneBy cX3_oneBy 6 (some .int) r_X3_oneBy [.ref a0, .int p1, .int p2, .int p3] E [(a0, .inr (3, [.ref a1, .ref a3, .ref a4, .ref a2, .int s_many])), (a1, .inl (E.2 0, 40, .inl s_days)), (a2, .inl (E.2 0, 40, .inl s_gathered)), (a3, .inl (E.2 0, 40, .inl s_minutes)), (a4, .inl (E.2 0, 40, .inl s_shapes))] sz 0 0 (fun x (_ : Unit) => x = r) (fun _ => [(a0, .inr (3, [.ref a1, .ref a3, .ref a4, .ref a2, .int s_many])), (a1, .inl (E.2 0, 40, .inl s_days)), (a2, .inl (E.2 0, 40, .inl o_gathered)), (a3, .inl (E.2 0, 40, .inl s_minutes)), (a4, .inl (E.2 0, 40, .inl s_shapes))]) := by
  refine kmeti rfl (Nat.le_of_ble_eq_true rfl) ?_
  intro p e s m args below meth c ls A Q X hV hret hl
  have X : kC p s m c cX3_oneBy 6 RX3 args E A := X
  have hx := X.1
  have hb := X.2.1
  have hl : lv_has ls 6 [(0, .ref a0), (1, .int p1), (2, .int p2), (3, .int p3)] := hl
  rw [f_X3_oneBy] at h
  refine lv_aload_n hx hb dX3_oneBy_0 rfl (lv_at hl 0 rfl) ?_
  refine lv_iload_n hx hb dX3_oneBy_1 rfl (lv_at hl 1 rfl) ?_
  refine lv_iload_n hx hb dX3_oneBy_2 rfl (lv_at hl 3 rfl) ?_
  refine lv_iconst (v := 1) hx hb dX3_oneBy_3 (by decide) ?_
  obtain ⟨r4_1, o_gathered4_2, hc3, h4⟩ := cb2_s h
  clear h
  refine kgoiE (krunV (rest := []) X hV [0, 1, 2, 3, 4] (c_X3_gather l E _ a0 a1 a2 a3 a4 s_many s_days s_gathered s_minutes s_shapes p1 p3 1 r4_1 o_gathered4_2 hc3) mw_908 kb_X3_gather (ci := 3) rfl rfl (by decide) rfl rfl hl.1 rfl (Nat.le_of_ble_eq_true rfl) dX3_oneBy_4 (by decide)) X hV [0, 1, 2, 3, 4] [] rfl rfl rfl (by decide) (fun u H locs hV5 => ?_)
  have hV5 : kV E A s.heap H locs [(a0, .inr (3, [.ref a1, .ref a3, .ref a4, .ref a2, .int s_many])), (a1, .inl (E.2 0, 40, .inl s_days)), (a2, .inl (E.2 0, 40, .inl o_gathered4_2)), (a3, .inl (E.2 0, 40, .inl s_minutes)), (a4, .inl (E.2 0, 40, .inl s_shapes))] := hV5.sub [0, 1, 2, 3, 4] rfl rfl
  clear hV
  refine lv_istore (lv' := [(4, .int r4_1), (0, .ref a0), (1, .int p1), (2, .int p2), (3, .int p3)]) hx hb dX3_oneBy_7 hl (by decide) rfl (fun ls hl7 => ?_)
  clear hl
  refine lv_iload hx hb dX3_oneBy_9 (lv_at hl7 0 rfl) ?_
  refine lv_iconst (v := 2) hx hb dX3_oneBy_11 (by decide) ?_
  refine lv_icmp_ge (tgt := 17) hx hb dX3_oneBy_12 (by decide) (fun c8 => ?_) (fun c8 => ?_)
  · have h9 := itS c8 h4
    clear h4 c8
    refine lv_aload_n hx hb dX3_oneBy_17 rfl (lv_at hl7 1 rfl) ?_
    refine kget X hV5 (ci := 3) inlX3 rfl 0 rfl 3 (by decide) mw_103 rfl dX3_oneBy_18 ?_
    refine lv_iload hx hb dX3_oneBy_21 (lv_at hl7 0 rfl) ?_
    refine lv_sipush (v := 1440) hx hb dX3_oneBy_23 (by decide) ?_
    refine lv_iload_n hx hb dX3_oneBy_26 rfl (lv_at hl7 3 rfl) ?_
    exact nomatch h9
  · have h10 := ieS c8 h4
    clear h4 c8
    refine lv_iconst (v := (-1)) hx hb dX3_oneBy_15 (by decide) ?_
    obtain ⟨q11, q12⟩ := tup2_s h10
    clear h10
    exact hret _ () _ _ _ _ q11 rfl (by rw [← q12]; exact hV5) dX3_oneBy_16
abbrev r_X3_knownDay : Room := { frames := 3, cells := 0, slots := 0, locals := 71 }
set_option maxHeartbeats 4000000 in
set_option maxRecDepth 100000 in
theorem c_X3_knownDay (l : Launch) (E : kE) (sz : Nat) (a0 a1 a2 a3 a4 : Nat) (s_many : Int32) (s_days : Nat → Int32) (s_gathered : Nat → Int32) (s_minutes : Nat → Int32) (s_shapes : Nat → Int32) (p1 : Int32) (p2 : Int32) (r : Int32) (o_gathered : Nat → Int32) (h : f_X3_knownDay s_many s_days s_gathered s_minutes s_shapes p1 p2 = some (r, o_gathered)) : kMi l yX3_knownDay cX3_knownDay 5 (some .int) r_X3_knownDay [.ref a0, .int p1, .int p2] E [(a0, .inr (3, [.ref a1, .ref a3, .ref a4, .ref a2, .int s_many])), (a1, .inl (E.2 0, 40, .inl s_days)), (a2, .inl (E.2 0, 40, .inl s_gathered)), (a3, .inl (E.2 0, 40, .inl s_minutes)), (a4, .inl (E.2 0, 40, .inl s_shapes))] sz 0 0 (fun x (_ : Unit) => x = r) (fun _ => [(a0, .inr (3, [.ref a1, .ref a3, .ref a4, .ref a2, .int s_many])), (a1, .inl (E.2 0, 40, .inl s_days)), (a2, .inl (E.2 0, 40, .inl o_gathered)), (a3, .inl (E.2 0, 40, .inl s_minutes)), (a4, .inl (E.2 0, 40, .inl s_shapes))]) := by
  refine kmeti rfl (Nat.le_of_ble_eq_true rfl) ?_
  intro p e s m args below meth c ls A Q X hV hret hl
  have X : kC p s m c cX3_knownDay 5 RX3 args E A := X
  have hx := X.1
  have hb := X.2.1
  have hl : lv_has ls 5 [(0, .ref a0), (1, .int p1), (2, .int p2)] := hl
  rw [f_X3_knownDay] at h
  refine lv_iconst (v := 0) hx hb dX3_knownDay_0 (by decide) ?_
  refine lv_istore_n (lv' := [(3, .int 0), (0, .ref a0), (1, .int p1), (2, .int p2)]) hx hb dX3_knownDay_1 rfl hl (by decide) rfl (fun ls hl1 => ?_)
  clear hl
  have L2 : ∀ (n2 : Nat) (x3_2 : Int32) (gathered__3 : Nat → Int32) (H : Heap) (locs : List Loc) (ls : Array Slot), (f_X3_knownDay_L2 s_many s_days s_minutes s_shapes p1 p2  n2) x3_2 gathered__3 = some (r, o_gathered) → kV E A s.heap H locs [(a0, .inr (3, [.ref a1, .ref a3, .ref a4, .ref a2, .int s_many])), (a1, .inl (E.2 0, 40, .inl s_days)), (a2, .inl (E.2 0, 40, .inl gathered__3)), (a3, .inl (E.2 0, 40, .inl s_minutes)), (a4, .inl (E.2 0, 40, .inl s_shapes))] → lv_has ls 5 [(0, .ref a0), (1, .int p1), (2, .int p2), (3, .int x3_2)] → W p l e r_X3_knownDay s m args below meth c H locs 0 0 Q (F0 m 2 ls []) := by
    intro n2
    induction n2 with
    | zero =>
      intro x3_2 gathered__3 H locs ls hB2 hVB2 hlB2
      rw [f_X3_knownDay_L2] at hB2
      exact nomatch hB2
    | succ n2 ih2 =>
      intro x3_2 gathered__3 H locs ls hB2 hVB2 hlB2
      rw [f_X3_knownDay_L2] at hB2
      refine lv_iload_n hx hb dX3_knownDay_2 rfl (lv_at hlB2 3 rfl) ?_
      refine lv_aload_n hx hb dX3_knownDay_3 rfl (lv_at hlB2 0 rfl) ?_
      refine kget X hVB2 (ci := 3) inlX3 rfl 0 rfl 4 (by decide) mw_104 rfl dX3_knownDay_4 ?_
      refine lv_icmp_ge (tgt := 59) hx hb dX3_knownDay_7 (by decide) (fun c4 => ?_) (fun c4 => ?_)
      · have h5 := itS c4 hB2
        clear hB2 c4
        refine lv_iconst (v := (-1)) hx hb dX3_knownDay_59 (by decide) ?_
        obtain ⟨q7, q8⟩ := tup2_s h5
        clear h5
        exact hret _ () _ _ _ _ q7 rfl (by rw [← q8]; exact hVB2) dX3_knownDay_60
      · have h6 := ieS c4 hB2
        clear hB2 c4
        refine lv_aload_n hx hb dX3_knownDay_10 rfl (lv_at hlB2 0 rfl) ?_
        refine kget X hVB2 (ci := 3) inlX3 rfl 0 rfl 2 (by decide) mw_102 rfl dX3_knownDay_11 ?_
        refine lv_iload_n hx hb dX3_knownDay_14 rfl (lv_at hlB2 3 rfl) ?_
        obtain ⟨hi10, v15_9, e11, h12⟩ := rdI_s h6
        clear h6
        refine kiald X hVB2 4 rfl hi10 e11 dX3_knownDay_15 ?_
        clear hi10 e11
        refine lv_iload_n hx hb dX3_knownDay_16 rfl (lv_at hlB2 1 rfl) ?_
        refine lv_icmp_ne (tgt := 53) hx hb dX3_knownDay_17 (by decide) (fun c13 => ?_) (fun c13 => ?_)
        · have h14 := ieS c13 h12
          clear h12 c13
          obtain ⟨v53_16, e17, h18⟩ := nmI_s h14
          clear h14
          refine lv_iinc (v := v53_16) (lv' := [(3, .int v53_16), (0, .ref a0), (1, .int p1), (2, .int p2)]) hx hb dX3_knownDay_53 hlB2 (k := 3) rfl (by rw [e17]; rfl) (by decide) rfl (fun ls hl19 => ?_)
          clear hlB2 e17
          refine lv_goto (tgt := 2) hx hb dX3_knownDay_56 (by decide) ?_
          exact ih2 v53_16 gathered__3 _ _ _ h18 hVB2 (lv_sub hl19 [1, 2, 3, 0] rfl)
        · have h15 := itS c13 h12
          clear h12 c13
          refine lv_aload_n hx hb dX3_knownDay_20 rfl (lv_at hlB2 0 rfl) ?_
          refine lv_iload_n hx hb dX3_knownDay_21 rfl (lv_at hlB2 1 rfl) ?_
          refine lv_iload_n hx hb dX3_knownDay_22 rfl (lv_at hlB2 2 rfl) ?_
          refine lv_aload_n hx hb dX3_knownDay_23 rfl (lv_at hlB2 0 rfl) ?_
          refine kget X hVB2 (ci := 3) inlX3 rfl 0 rfl 0 (by decide) mw_100 rfl dX3_knownDay_24 ?_
          refine lv_iload_n hx hb dX3_knownDay_27 rfl (lv_at hlB2 3 rfl) ?_
          obtain ⟨hi21, v28_20, e22, h23⟩ := rdI_s h15
          clear h15
          refine kiald X hVB2 1 rfl hi21 e22 dX3_knownDay_28 ?_
          clear hi21 e22
          obtain ⟨r29_24, o_gathered29_25, hc26, h27⟩ := cb2_s h23
          clear h23
          refine kgoiE (krunV (rest := []) X hVB2 [0, 1, 2, 3, 4] (c_X3_oneBy l E _ a0 a1 a2 a3 a4 s_many s_days gathered__3 s_minutes s_shapes p1 p2 v28_20 r29_24 o_gathered29_25 hc26) mw_956 kb_X3_oneBy (ci := 3) rfl rfl (by decide) rfl rfl hlB2.1 rfl (Nat.le_of_ble_eq_true rfl) dX3_knownDay_29 (by decide)) X hVB2 [0, 1, 2, 3, 4] [] rfl rfl rfl (by decide) (fun u H locs hV28 => ?_)
          have hV28 : kV E A s.heap H locs [(a0, .inr (3, [.ref a1, .ref a3, .ref a4, .ref a2, .int s_many])), (a1, .inl (E.2 0, 40, .inl s_days)), (a2, .inl (E.2 0, 40, .inl o_gathered29_25)), (a3, .inl (E.2 0, 40, .inl s_minutes)), (a4, .inl (E.2 0, 40, .inl s_shapes))] := hV28.sub [0, 1, 2, 3, 4] rfl rfl
          clear hVB2
          refine lv_istore (lv' := [(4, .int r29_24), (0, .ref a0), (1, .int p1), (2, .int p2), (3, .int x3_2)]) hx hb dX3_knownDay_32 hlB2 (by decide) rfl (fun ls hl30 => ?_)
          clear hlB2
          refine lv_iload hx hb dX3_knownDay_34 (lv_at hl30 0 rfl) ?_
          refine lv_iconst (v := 1) hx hb dX3_knownDay_36 (by decide) ?_
          refine lv_icmp_eq (tgt := 46) hx hb dX3_knownDay_37 (by decide) (fun c31 => ?_) (fun c31 => ?_)
          · have h32 := itS c31 h27
            clear h27 c31
            refine lv_aload_n hx hb dX3_knownDay_46 rfl (lv_at hl30 1 rfl) ?_
            refine kget X hV28 (ci := 3) inlX3 rfl 0 rfl 0 (by decide) mw_100 rfl dX3_knownDay_47 ?_
            refine lv_iload_n hx hb dX3_knownDay_50 rfl (lv_at hl30 4 rfl) ?_
            obtain ⟨hi35, v51_34, e36, h37⟩ := rdI_s h32
            clear h32
            refine kiald X hV28 1 rfl hi35 e36 dX3_knownDay_51 ?_
            clear hi35 e36
            obtain ⟨q38, q39⟩ := tup2_s h37
            clear h37
            exact hret _ () _ _ _ _ q38 rfl (by rw [← q39]; exact hV28) dX3_knownDay_52
          · have h33 := ieS c31 h27
            clear h27 c31
            refine lv_iload hx hb dX3_knownDay_40 (lv_at hl30 0 rfl) ?_
            refine lv_iconst (v := 2) hx hb dX3_knownDay_42 (by decide) ?_
            refine lv_icmp_ne (tgt := 53) hx hb dX3_knownDay_43 (by decide) (fun c40 => ?_) (fun c40 => ?_)
            · have h41 := ieS c40 h33
              clear h33 c40
              obtain ⟨v53_43, e44, h45⟩ := nmI_s h41
              clear h41
              refine lv_iinc (v := v53_43) (lv' := [(3, .int v53_43), (4, .int r29_24), (0, .ref a0), (1, .int p1), (2, .int p2)]) hx hb dX3_knownDay_53 hl30 (k := 4) rfl (by rw [e44]; rfl) (by decide) rfl (fun ls hl46 => ?_)
              clear hl30 e44
              refine lv_goto (tgt := 2) hx hb dX3_knownDay_56 (by decide) ?_
              exact ih2 v53_43 o_gathered29_25 _ _ _ h45 hV28 (lv_sub hl46 [2, 3, 4, 0] rfl)
            · have h42 := itS c40 h33
              clear h33 c40
              refine lv_aload_n hx hb dX3_knownDay_46 rfl (lv_at hl30 1 rfl) ?_
              refine kget X hV28 (ci := 3) inlX3 rfl 0 rfl 0 (by decide) mw_100 rfl dX3_knownDay_47 ?_
              refine lv_iload_n hx hb dX3_knownDay_50 rfl (lv_at hl30 4 rfl) ?_
              obtain ⟨hi48, v51_47, e49, h50⟩ := rdI_s h42
              clear h42
              refine kiald X hV28 1 rfl hi48 e49 dX3_knownDay_51 ?_
              clear hi48 e49
              obtain ⟨q51, q52⟩ := tup2_s h50
              clear h50
              exact hret _ () _ _ _ _ q51 rfl (by rw [← q52]; exact hV28) dX3_knownDay_52
  exact L2 FU 0 s_gathered _ _ _ h hV (lv_sub hl1 [1, 2, 3, 0] rfl)
abbrev r_X3_longestRow : Room := { frames := 2, cells := 0, slots := 0, locals := 46 }
set_option maxHeartbeats 4000000 in
set_option maxRecDepth 100000 in
theorem c_X3_longestRow (l : Launch) (E : kE) (sz : Nat) (a0 a1 a2 a3 a4 : Nat) (s_many : Int32) (s_days : Nat → Int32) (s_gathered : Nat → Int32) (s_minutes : Nat → Int32) (s_shapes : Nat → Int32) (p1 : Int32) (p2 : Int32) (p3 : Int32) (r : Int32) (o_gathered : Nat → Int32) (h : f_X3_longestRow s_many s_days s_gathered s_minutes s_shapes p1 p2 p3 = some (r, o_gathered)) : kMi l yX3_longestRow cX3_longestRow 9 (some .int) r_X3_longestRow [.ref a0, .int p1, .int p2, .int p3] E [(a0, .inr (3, [.ref a1, .ref a3, .ref a4, .ref a2, .int s_many])), (a1, .inl (E.2 0, 40, .inl s_days)), (a2, .inl (E.2 0, 40, .inl s_gathered)), (a3, .inl (E.2 0, 40, .inl s_minutes)), (a4, .inl (E.2 0, 40, .inl s_shapes))] sz 0 0 (fun x (_ : Unit) => x = r) (fun _ => [(a0, .inr (3, [.ref a1, .ref a3, .ref a4, .ref a2, .int s_many])), (a1, .inl (E.2 0, 40, .inl s_days)), (a2, .inl (E.2 0, 40, .inl o_gathered)), (a3, .inl (E.2 0, 40, .inl s_minutes)), (a4, .inl (E.2 0, 40, .inl s_shapes))]) := by
  refine kmeti rfl (Nat.le_of_ble_eq_true rfl) ?_
  intro p e s m args below meth c ls A Q X hV hret hl
  have X : kC p s m c cX3_longestRow 9 RX3 args E A := X
  have hx := X.1
  have hb := X.2.1
  have hl : lv_has ls 9 [(0, .ref a0), (1, .int p1), (2, .int p2), (3, .int p3)] := hl
  rw [f_X3_longestRow] at h
  refine lv_aload_n hx hb dX3_longestRow_0 rfl (lv_at hl 0 rfl) ?_
  refine lv_iload_n hx hb dX3_longestRow_1 rfl (lv_at hl 1 rfl) ?_
  refine lv_sipush (v := 400) hx hb dX3_longestRow_2 (by decide) ?_
  refine lv_iconst (v := 1) hx hb dX3_longestRow_5 (by decide) ?_
  obtain ⟨r6_1, o_gathered6_2, hc3, h4⟩ := cb2_s h
  clear h
  refine kgoiE (krunV (rest := []) X hV [0, 1, 2, 3, 4] (c_X3_gather l E _ a0 a1 a2 a3 a4 s_many s_days s_gathered s_minutes s_shapes p1 400 1 r6_1 o_gathered6_2 hc3) mw_908 kb_X3_gather (ci := 3) rfl rfl (by decide) rfl rfl hl.1 rfl (Nat.le_of_ble_eq_true rfl) dX3_longestRow_6 (by decide)) X hV [0, 1, 2, 3, 4] [] rfl rfl rfl (by decide) (fun u H locs hV5 => ?_)
  have hV5 : kV E A s.heap H locs [(a0, .inr (3, [.ref a1, .ref a3, .ref a4, .ref a2, .int s_many])), (a1, .inl (E.2 0, 40, .inl s_days)), (a2, .inl (E.2 0, 40, .inl o_gathered6_2)), (a3, .inl (E.2 0, 40, .inl s_minutes)), (a4, .inl (E.2 0, 40, .inl s_shapes))] := hV5.sub [0, 1, 2, 3, 4] rfl rfl
  clear hV
  refine lv_istore (lv' := [(4, .int r6_1), (0, .ref a0), (1, .int p1), (2, .int p2), (3, .int p3)]) hx hb dX3_longestRow_9 hl (by decide) rfl (fun ls hl7 => ?_)
  clear hl
  refine lv_iconst (v := 0) hx hb dX3_longestRow_11 (by decide) ?_
  refine lv_istore (lv' := [(5, .int 0), (4, .int r6_1), (0, .ref a0), (1, .int p1), (2, .int p2), (3, .int p3)]) hx hb dX3_longestRow_12 hl7 (by decide) rfl (fun ls hl8 => ?_)
  clear hl7
  refine lv_iconst (v := (-1)) hx hb dX3_longestRow_14 (by decide) ?_
  refine lv_istore (lv' := [(6, .int (-1)), (5, .int 0), (4, .int r6_1), (0, .ref a0), (1, .int p1), (2, .int p2), (3, .int p3)]) hx hb dX3_longestRow_15 hl8 (by decide) rfl (fun ls hl9 => ?_)
  clear hl8
  refine lv_iconst (v := 0) hx hb dX3_longestRow_17 (by decide) ?_
  refine lv_istore (lv' := [(7, .int 0), (6, .int (-1)), (5, .int 0), (4, .int r6_1), (0, .ref a0), (1, .int p1), (2, .int p2), (3, .int p3)]) hx hb dX3_longestRow_18 hl9 (by decide) rfl (fun ls hl10 => ?_)
  clear hl9
  refine lv_iload hx hb dX3_longestRow_20 (lv_at hl10 0 rfl) ?_
  refine lv_iload hx hb dX3_longestRow_22 (lv_at hl10 3 rfl) ?_
  refine lv_icmp_ge (tgt := 88) hx hb dX3_longestRow_24 (by decide) (fun c11 => ?_) (fun c11 => ?_)
  · have h12 := itS c11 h4
    clear h4 c11
    refine lv_iload_n hx hb dX3_longestRow_88 rfl (lv_at hl10 7 rfl) ?_
    refine lv_if_ne (tgt := 102) hx hb dX3_longestRow_89 (by decide) (fun c14 => ?_) (fun c14 => ?_)
    · have h15 := ieS c14 h12
      clear h12 c14
      refine lv_iload hx hb dX3_longestRow_102 (lv_at hl10 1 rfl) ?_
      obtain ⟨q17, q18⟩ := tup2_s h15
      clear h15
      exact hret _ () _ _ _ _ q17 rfl (by rw [← q18]; exact hV5) dX3_longestRow_104
    · have h16 := itS c14 h12
      clear h12 c14
      refine lv_iload hx hb dX3_longestRow_92 (lv_at hl10 3 rfl) ?_
      refine lv_if_le (tgt := 102) hx hb dX3_longestRow_94 (by decide) (fun c19 => ?_) (fun c19 => ?_)
      · have h20 := itS c19 h16
        clear h16 c19
        refine lv_iload hx hb dX3_longestRow_102 (lv_at hl10 1 rfl) ?_
        obtain ⟨q22, q23⟩ := tup2_s h20
        clear h20
        exact hret _ () _ _ _ _ q22 rfl (by rw [← q23]; exact hV5) dX3_longestRow_104
      · have h21 := ieS c19 h16
        clear h16 c19
        refine lv_iload hx hb dX3_longestRow_97 (lv_at hl10 2 rfl) ?_
        refine lv_goto (tgt := 104) hx hb dX3_longestRow_99 (by decide) ?_
        obtain ⟨q24, q25⟩ := tup2_s h21
        clear h21
        exact hret _ () _ _ _ _ q24 rfl (by rw [← q25]; exact hV5) dX3_longestRow_104
  · have h13 := ieS c11 h4
    clear h4 c11
    refine lv_aload_n hx hb dX3_longestRow_27 rfl (lv_at hl10 4 rfl) ?_
    refine lv_aload_n hx hb dX3_longestRow_28 rfl (lv_at hl10 4 rfl) ?_
    refine kget X hV5 (ci := 3) inlX3 rfl 0 rfl 3 (by decide) mw_103 rfl dX3_longestRow_29 ?_
    refine lv_iload hx hb dX3_longestRow_32 (lv_at hl10 0 rfl) ?_
    obtain ⟨hi27, v34_26, e28, h29⟩ := rdI_s h13
    clear h13
    refine kiald X hV5 2 rfl hi27 e28 dX3_longestRow_34 ?_
    clear hi27 e28
    refine lv_iload hx hb dX3_longestRow_35 (lv_at hl10 3 rfl) ?_
    refine lv_iload_n hx hb dX3_longestRow_37 rfl (lv_at hl10 6 rfl) ?_
    exact nomatch h29
abbrev r_X2_add : Room := { frames := 0, cells := 0, slots := 0, locals := 0 }
set_option maxHeartbeats 4000000 in
set_option maxRecDepth 100000 in
theorem c_X2_add (l : Launch) (E : kE) (sz : Nat) (a0 a1 a2 : Nat) (w0_2 w0_3 w0_4 : Value) (s_many : Int32) (s_days : Nat → Int32) (s_shifts : Nat → Int32) (p1 : Int32) (p2 : Int32) (r : Int32) (o_many : Int32) (o_days : Nat → Int32) (o_shifts : Nat → Int32) (h : f_X2_add s_many s_days s_shifts p1 p2 = some (r, o_many, o_days, o_shifts)) : kMi l yX2_add cX2_add 3 (some .int) r_X2_add [.ref a0, .int p1, .int p2] E [(a0, .inr (2, [.ref a1, .ref a2, w0_2, w0_3, w0_4, .int s_many])), (a1, .inl (E.2 0, 30, .inl s_days)), (a2, .inl (E.2 0, 30, .inl s_shifts))] sz 0 0 (fun x (_ : Unit) => x = r) (fun _ => [(a0, .inr (2, [.ref a1, .ref a2, w0_2, w0_3, w0_4, .int o_many])), (a1, .inl (E.2 0, 30, .inl o_days)), (a2, .inl (E.2 0, 30, .inl o_shifts))]) := by
  refine kmeti rfl (Nat.le_of_ble_eq_true rfl) ?_
  intro p e s m args below meth c ls A Q X hV hret hl
  have X : kC p s m c cX2_add 3 RX2 args E A := X
  have hx := X.1
  have hb := X.2.1
  have hl : lv_has ls 3 [(0, .ref a0), (1, .int p1), (2, .int p2)] := hl
  rw [f_X2_add] at h
  refine lv_aload_n hx hb dX2_add_0 rfl (lv_at hl 0 rfl) ?_
  refine kget X hV (ci := 2) inlX2 rfl 0 rfl 5 (by decide) mw_126 rfl dX2_add_1 ?_
  refine lv_bipush (v := 30) hx hb dX2_add_4 (by decide) ?_
  refine lv_icmp_lt (tgt := 11) hx hb dX2_add_6 (by decide) (fun c1 => ?_) (fun c1 => ?_)
  · have h2 := itS c1 h
    clear h c1
    refine lv_aload_n hx hb dX2_add_11 rfl (lv_at hl 0 rfl) ?_
    refine kget X hV (ci := 2) inlX2 rfl 0 rfl 0 (by decide) mw_119 rfl dX2_add_12 ?_
    refine lv_aload_n hx hb dX2_add_15 rfl (lv_at hl 0 rfl) ?_
    refine kget X hV (ci := 2) inlX2 rfl 0 rfl 5 (by decide) mw_126 rfl dX2_add_16 ?_
    refine lv_iload_n hx hb dX2_add_19 rfl (lv_at hl 1 rfl) ?_
    obtain ⟨hi5, g20_4, e6, h7⟩ := wrI_s h2
    clear h2
    refine kiast X hV 1 rfl hi5 e6 dX2_add_20 (fun H locs hV8 => ?_)
    have hV8 : kV E A s.heap H locs [(a0, .inr (2, [.ref a1, .ref a2, w0_2, w0_3, w0_4, .int s_many])), (a1, .inl (E.2 0, 30, .inl g20_4)), (a2, .inl (E.2 0, 30, .inl s_shifts))] := hV8
    clear hV hi5 e6
    refine lv_aload_n hx hb dX2_add_21 rfl (lv_at hl 0 rfl) ?_
    refine kget X hV8 (ci := 2) inlX2 rfl 0 rfl 1 (by decide) mw_120 rfl dX2_add_22 ?_
    refine lv_aload_n hx hb dX2_add_25 rfl (lv_at hl 0 rfl) ?_
    refine kget X hV8 (ci := 2) inlX2 rfl 0 rfl 5 (by decide) mw_126 rfl dX2_add_26 ?_
    refine lv_iload_n hx hb dX2_add_29 rfl (lv_at hl 2 rfl) ?_
    obtain ⟨hi10, g30_9, e11, h12⟩ := wrI_s h7
    clear h7
    refine kiast X hV8 2 rfl hi10 e11 dX2_add_30 (fun H locs hV13 => ?_)
    have hV13 : kV E A s.heap H locs [(a0, .inr (2, [.ref a1, .ref a2, w0_2, w0_3, w0_4, .int s_many])), (a1, .inl (E.2 0, 30, .inl g20_4)), (a2, .inl (E.2 0, 30, .inl g30_9))] := hV13
    clear hV8 hi10 e11
    refine lv_aload_n hx hb dX2_add_31 rfl (lv_at hl 0 rfl) ?_
    refine lv_dup hx hb dX2_add_32 rfl ?_
    refine kget X hV13 (ci := 2) inlX2 rfl 0 rfl 5 (by decide) mw_126 rfl dX2_add_33 ?_
    refine lv_iconst (v := 1) hx hb dX2_add_36 (by decide) ?_
    refine lv_iadd hx hb dX2_add_37 ?_
    obtain ⟨v38_14, e15, h16⟩ := nmI_s h12
    clear h12
    refine ktopi e15 ?_
    clear e15
    refine kput X hV13 (ci := 2) inlX2 rfl tyX2 tyX2_ok nmX2 0 rfl 5 (by decide) mw_126 rfl rfl rfl (Nat.le_of_ble_eq_true rfl) dX2_add_38 (fun H locs hV17 => ?_)
    have hV17 : kV E A s.heap H locs [(a0, .inr (2, [.ref a1, .ref a2, w0_2, w0_3, w0_4, .int v38_14])), (a1, .inl (E.2 0, 30, .inl g20_4)), (a2, .inl (E.2 0, 30, .inl g30_9))] := hV17
    clear hV13
    refine lv_aload_n hx hb dX2_add_41 rfl (lv_at hl 0 rfl) ?_
    refine kget X hV17 (ci := 2) inlX2 rfl 0 rfl 5 (by decide) mw_126 rfl dX2_add_42 ?_
    refine lv_iconst (v := 1) hx hb dX2_add_45 (by decide) ?_
    refine lv_isub hx hb dX2_add_46 ?_
    obtain ⟨q18, q19, q20, q21⟩ := tup4_s h16
    clear h16
    exact hret _ () _ _ _ _ q18 rfl (by rw [← q19, ← q20, ← q21]; exact hV17) dX2_add_47
  · have h3 := ieS c1 h
    clear h c1
    refine lv_iconst (v := (-1)) hx hb dX2_add_9 (by decide) ?_
    obtain ⟨q22, q23, q24, q25⟩ := tup4_s h3
    clear h3
    exact hret _ () _ _ _ _ q22 rfl (by rw [← q23, ← q24, ← q25]; exact hV) dX2_add_10
abbrev r_X2_storyAt : Room := { frames := 2, cells := 0, slots := 0, locals := 42 }
set_option maxHeartbeats 4000000 in
set_option maxRecDepth 100000 in
theorem c_X2_storyAt (l : Launch) (E : kE) (sz : Nat) (a0 a1 : Nat) (w0_0 w0_1 w0_2 w0_3 w0_5 : Value) (s_stories : Nat → Option Nat) (p1 : Int32) (h : f_X2_storyAt s_stories p1 = some ()) : kMq l yX2_storyAt cX2_storyAt 2 (some (.object "ScruffPaper$Text")) r_X2_storyAt [.ref a0, .int p1] E [(a0, .inr (2, [w0_0, w0_1, w0_2, w0_3, .ref a1, w0_5])), (a1, .inl (E.2 4, 6, .inr (.inr (.inr (.inr s_stories)))))] sz 0 0 (fun x (_ : Unit) => x = none) (fun _ => [(a0, .inr (2, [w0_0, w0_1, w0_2, w0_3, .ref a1, w0_5])), (a1, .inl (E.2 4, 6, .inr (.inr (.inr (.inr s_stories)))))]) := by
  refine kmetq (Or.inl ⟨_, rfl⟩) rfl (Nat.le_of_ble_eq_true rfl) ?_
  intro p e s m args below meth c ls A Q X hV hret hl
  have X : kC p s m c cX2_storyAt 2 RX2 args E A := X
  have hx := X.1
  have hb := X.2.1
  have hl : lv_has ls 2 [(0, .ref a0), (1, .int p1)] := hl
  rw [f_X2_storyAt] at h
  refine lv_iload_n hx hb dX2_storyAt_0 rfl (lv_at hl 1 rfl) ?_
  obtain ⟨r1_1, hc2, h3⟩ := cb1_s h
  clear h
  refine kgoiE (krunSN (rest := []) X hV [] (c_X11_isStory l E _ p1 r1_1 hc2) (List.mem_of_getElem? (i := 7) rfl) kb_X11_isStory (by decide) rfl rfl hl.1 rfl (Nat.le_of_ble_eq_true rfl) dX2_storyAt_1 (by decide)) X hV [] [0, 1] rfl rfl rfl (by decide) (fun u H locs hV4 => ?_)
  have hV4 : kV E A s.heap H locs [(a0, .inr (2, [w0_0, w0_1, w0_2, w0_3, .ref a1, w0_5])), (a1, .inl (E.2 4, 6, .inr (.inr (.inr (.inr s_stories)))))] := hV4.sub [0, 1] rfl rfl
  clear hV
  refine lv_if_eq (tgt := 16) hx hb dX2_storyAt_4 (by decide) (fun c6 => ?_) (fun c6 => ?_)
  · have h7 := itS c6 h3
    clear h3 c6
    refine lv_null hx hb dX2_storyAt_16 ?_
    exact hret none () _ _ _ _ rfl hV4 dX2_storyAt_17
  · have h8 := ieS c6 h3
    clear h3 c6
    refine lv_aload_n hx hb dX2_storyAt_7 rfl (lv_at hl 0 rfl) ?_
    refine kget X hV4 (ci := 2) inlX2 rfl 0 rfl 4 (by decide) mw_125 rfl dX2_storyAt_8 ?_
    refine lv_iload_n hx hb dX2_storyAt_11 rfl (lv_at hl 1 rfl) ?_
    obtain ⟨hi9, e10, h11⟩ := rdN_s h8
    clear h8
    refine kaald X hV4 1 4 rfl rfl hi9 e10 dX2_storyAt_12 ?_
    clear hi9 e10
    refine W.eq (g2 := F0 m 13 ls [.null]) rfl ?_
    refine lv_goto (tgt := 17) hx hb dX2_storyAt_13 (by decide) ?_
    exact hret none () _ _ _ _ rfl hV4 dX2_storyAt_17
abbrev r_X2_alone : Room := { frames := 0, cells := 0, slots := 0, locals := 0 }
set_option maxHeartbeats 4000000 in
set_option maxRecDepth 100000 in
theorem c_X2_alone (l : Launch) (E : kE) (sz : Nat) (a0 a1 a2 : Nat) (w0_0 w0_1 w0_3 : Value) (s_many : Int32) (s_fallen : Nat → Int32) (s_stories : Nat → Option Nat) (p1 : Int32) (p2 : Int32) (r : Int32) (o_fallen : Nat → Int32) (h : f_X2_alone s_many s_fallen s_stories p1 p2 = some (r, o_fallen)) : kMi l yX2_alone cX2_alone 7 (some .int) r_X2_alone [.ref a0, .int p1, .int p2] E [(a0, .inr (2, [w0_0, w0_1, .ref a1, w0_3, .ref a2, .int s_many])), (a1, .inl (E.2 0, 6, .inl s_fallen)), (a2, .inl (E.2 4, 6, .inr (.inr (.inr (.inr s_stories)))))] sz 0 0 (fun x (_ : Unit) => x = r) (fun _ => [(a0, .inr (2, [w0_0, w0_1, .ref a1, w0_3, .ref a2, .int s_many])), (a1, .inl (E.2 0, 6, .inl o_fallen)), (a2, .inl (E.2 4, 6, .inr (.inr (.inr (.inr s_stories)))))]) := by
  refine kmeti rfl (Nat.le_of_ble_eq_true rfl) ?_
  intro p e s m args below meth c ls A Q X hV hret hl
  have X : kC p s m c cX2_alone 7 RX2 args E A := X
  have hx := X.1
  have hb := X.2.1
  have hl : lv_has ls 7 [(0, .ref a0), (1, .int p1), (2, .int p2)] := hl
  rw [f_X2_alone] at h
  refine lv_iconst (v := 0) hx hb dX2_alone_0 (by decide) ?_
  refine lv_istore_n (lv' := [(3, .int 0), (0, .ref a0), (1, .int p1), (2, .int p2)]) hx hb dX2_alone_1 rfl hl (by decide) rfl (fun ls hl1 => ?_)
  clear hl
  have J44 : ∀ (fallen__2 : Nat → Int32) (H : Heap) (locs : List Loc) (ls : Array Slot), (f_X2_alone_J44 s_many p2 ) fallen__2 = some (r, o_fallen) → kV E A s.heap H locs [(a0, .inr (2, [w0_0, w0_1, .ref a1, w0_3, .ref a2, .int s_many])), (a1, .inl (E.2 0, 6, .inl fallen__2)), (a2, .inl (E.2 4, 6, .inr (.inr (.inr (.inr s_stories)))))] → lv_has ls 7 [(0, .ref a0), (2, .int p2)] → W p l e r_X2_alone s m args below meth c H locs 0 0 Q (F0 m 44 ls []) := by
    intro fallen__2 H locs ls hB44 hVB44 hlB44
    rw [f_X2_alone_J44] at hB44
    refine lv_iconst (v := 0) hx hb dX2_alone_44 (by decide) ?_
    refine lv_istore_n (lv' := [(3, .int 0), (0, .ref a0), (2, .int p2)]) hx hb dX2_alone_45 rfl hlB44 (by decide) rfl (fun ls hl3 => ?_)
    clear hlB44
    have J112 : ∀ (x3_4 : Int32) (x5_5 : Int32) (H : Heap) (locs : List Loc) (ls : Array Slot), (f_X2_alone_J112 p2 fallen__2 ) x3_4 x5_5 = some (r, o_fallen) → kV E A s.heap H locs [(a0, .inr (2, [w0_0, w0_1, .ref a1, w0_3, .ref a2, .int s_many])), (a1, .inl (E.2 0, 6, .inl fallen__2)), (a2, .inl (E.2 4, 6, .inr (.inr (.inr (.inr s_stories)))))] → lv_has ls 7 [(2, .int p2), (3, .int x3_4), (5, .int x5_5)] → W p l e r_X2_alone s m args below meth c H locs 0 0 Q (F0 m 112 ls []) := by
      intro x3_4 x5_5 H locs ls hB112 hVB112 hlB112
      rw [f_X2_alone_J112] at hB112
      refine lv_iload_n hx hb dX2_alone_112 rfl (lv_at hlB112 0 rfl) ?_
      refine lv_if_ne (tgt := 120) hx hb dX2_alone_113 (by decide) (fun c6 => ?_) (fun c6 => ?_)
      · have h7 := ieS c6 hB112
        clear hB112 c6
        refine lv_iload hx hb dX2_alone_120 (lv_at hlB112 2 rfl) ?_
        obtain ⟨q9, q10⟩ := tup2_s h7
        clear h7
        exact hret _ () _ _ _ _ q9 rfl (by rw [← q10]; exact hVB112) dX2_alone_122
      · have h8 := itS c6 hB112
        clear hB112 c6
        refine lv_iload_n hx hb dX2_alone_116 rfl (lv_at hlB112 1 rfl) ?_
        refine lv_goto (tgt := 122) hx hb dX2_alone_117 (by decide) ?_
        obtain ⟨q11, q12⟩ := tup2_s h8
        clear h8
        exact hret _ () _ _ _ _ q11 rfl (by rw [← q12]; exact hVB112) dX2_alone_122
    have L46 : ∀ (n46 : Nat) (x3_13 : Int32) (H : Heap) (locs : List Loc) (ls : Array Slot), (f_X2_alone_L46 s_many fallen__2 (f_X2_alone_J112 p2 fallen__2 ) n46) x3_13 = some (r, o_fallen) → kV E A s.heap H locs [(a0, .inr (2, [w0_0, w0_1, .ref a1, w0_3, .ref a2, .int s_many])), (a1, .inl (E.2 0, 6, .inl fallen__2)), (a2, .inl (E.2 4, 6, .inr (.inr (.inr (.inr s_stories)))))] → lv_has ls 7 [(0, .ref a0), (2, .int p2), (3, .int x3_13)] → W p l e r_X2_alone s m args below meth c H locs 0 0 Q (F0 m 46 ls []) := by
      intro n46
      induction n46 with
      | zero =>
        intro x3_13 H locs ls hB46 hVB46 hlB46
        rw [f_X2_alone_L46] at hB46
        exact nomatch hB46
      | succ n46 ih46 =>
        intro x3_13 H locs ls hB46 hVB46 hlB46
        rw [f_X2_alone_L46] at hB46
        refine lv_iload_n hx hb dX2_alone_46 rfl (lv_at hlB46 2 rfl) ?_
        refine lv_aload_n hx hb dX2_alone_47 rfl (lv_at hlB46 0 rfl) ?_
        refine kget X hVB46 (ci := 2) inlX2 rfl 0 rfl 5 (by decide) mw_126 rfl dX2_alone_48 ?_
        refine lv_icmp_ge (tgt := 129) hx hb dX2_alone_51 (by decide) (fun c14 => ?_) (fun c14 => ?_)
        · have h15 := itS c14 hB46
          clear hB46 c14
          refine lv_iconst (v := (-1)) hx hb dX2_alone_129 (by decide) ?_
          obtain ⟨q17, q18⟩ := tup2_s h15
          clear h15
          exact hret _ () _ _ _ _ q17 rfl (by rw [← q18]; exact hVB46) dX2_alone_130
        · have h16 := ieS c14 hB46
          clear hB46 c14
          refine lv_iconst (v := 0) hx hb dX2_alone_54 (by decide) ?_
          refine lv_istore (lv' := [(4, .int 0), (0, .ref a0), (2, .int p2), (3, .int x3_13)]) hx hb dX2_alone_55 hlB46 (by decide) rfl (fun ls hl19 => ?_)
          clear hlB46
          refine lv_iconst (v := (-1)) hx hb dX2_alone_57 (by decide) ?_
          refine lv_istore (lv' := [(5, .int (-1)), (4, .int 0), (0, .ref a0), (2, .int p2), (3, .int x3_13)]) hx hb dX2_alone_58 hl19 (by decide) rfl (fun ls hl20 => ?_)
          clear hl19
          refine lv_iconst (v := 0) hx hb dX2_alone_60 (by decide) ?_
          refine lv_istore (lv' := [(6, .int 0), (5, .int (-1)), (4, .int 0), (0, .ref a0), (2, .int p2), (3, .int x3_13)]) hx hb dX2_alone_61 hl20 (by decide) rfl (fun ls hl21 => ?_)
          clear hl20
          have J106 : ∀ (x4_22 : Int32) (x5_23 : Int32) (H : Heap) (locs : List Loc) (ls : Array Slot), (f_X2_alone_J106 x3_13 (f_X2_alone_L46 s_many fallen__2 (f_X2_alone_J112 p2 fallen__2 ) n46) (f_X2_alone_J112 p2 fallen__2 )) x4_22 x5_23 = some (r, o_fallen) → kV E A s.heap H locs [(a0, .inr (2, [w0_0, w0_1, .ref a1, w0_3, .ref a2, .int s_many])), (a1, .inl (E.2 0, 6, .inl fallen__2)), (a2, .inl (E.2 4, 6, .inr (.inr (.inr (.inr s_stories)))))] → lv_has ls 7 [(0, .ref a0), (2, .int p2), (3, .int x3_13), (4, .int x4_22), (5, .int x5_23)] → W p l e r_X2_alone s m args below meth c H locs 0 0 Q (F0 m 106 ls []) := by
            intro x4_22 x5_23 H locs ls hB106 hVB106 hlB106
            rw [f_X2_alone_J106] at hB106
            refine lv_iload hx hb dX2_alone_106 (lv_at hlB106 3 rfl) ?_
            refine lv_iconst (v := 1) hx hb dX2_alone_108 (by decide) ?_
            refine lv_icmp_ne (tgt := 123) hx hb dX2_alone_109 (by decide) (fun c24 => ?_) (fun c24 => ?_)
            · have h25 := ieS c24 hB106
              clear hB106 c24
              obtain ⟨v123_27, e28, h29⟩ := nmI_s h25
              clear h25
              refine lv_iinc (v := v123_27) (lv' := [(3, .int v123_27), (0, .ref a0), (2, .int p2), (4, .int x4_22), (5, .int x5_23)]) hx hb dX2_alone_123 hlB106 (k := 2) rfl (by rw [e28]; rfl) (by decide) rfl (fun ls hl30 => ?_)
              clear hlB106 e28
              refine lv_goto (tgt := 46) hx hb dX2_alone_126 (by decide) ?_
              exact ih46 v123_27 _ _ _ h29 hVB106 (lv_sub hl30 [1, 2, 0] rfl)
            · have h26 := itS c24 hB106
              clear hB106 c24
              exact J112 x3_13 x5_23 _ _ _ h26 hVB106 (lv_sub hlB106 [1, 2, 4] rfl)
          have L63 : ∀ (n63 : Nat) (x4_31 : Int32) (x5_32 : Int32) (x6_33 : Int32) (H : Heap) (locs : List Loc) (ls : Array Slot), (f_X2_alone_L63 fallen__2 x3_13 (f_X2_alone_J106 x3_13 (f_X2_alone_L46 s_many fallen__2 (f_X2_alone_J112 p2 fallen__2 ) n46) (f_X2_alone_J112 p2 fallen__2 )) n63) x4_31 x5_32 x6_33 = some (r, o_fallen) → kV E A s.heap H locs [(a0, .inr (2, [w0_0, w0_1, .ref a1, w0_3, .ref a2, .int s_many])), (a1, .inl (E.2 0, 6, .inl fallen__2)), (a2, .inl (E.2 4, 6, .inr (.inr (.inr (.inr s_stories)))))] → lv_has ls 7 [(0, .ref a0), (2, .int p2), (3, .int x3_13), (4, .int x4_31), (5, .int x5_32), (6, .int x6_33)] → W p l e r_X2_alone s m args below meth c H locs 0 0 Q (F0 m 63 ls []) := by
            intro n63
            induction n63 with
            | zero =>
              intro x4_31 x5_32 x6_33 H locs ls hB63 hVB63 hlB63
              rw [f_X2_alone_L63] at hB63
              exact nomatch hB63
            | succ n63 ih63 =>
              intro x4_31 x5_32 x6_33 H locs ls hB63 hVB63 hlB63
              rw [f_X2_alone_L63] at hB63
              refine lv_iload hx hb dX2_alone_63 (lv_at hlB63 5 rfl) ?_
              refine lv_bipush (v := 6) hx hb dX2_alone_65 (by decide) ?_
              refine lv_icmp_ge (tgt := 106) hx hb dX2_alone_67 (by decide) (fun c34 => ?_) (fun c34 => ?_)
              · have h35 := itS c34 hB63
                clear hB63 c34
                exact J106 x4_31 x5_32 _ _ _ h35 hVB63 (lv_sub hlB63 [0, 1, 2, 3, 4] rfl)
              · have h36 := ieS c34 hB63
                clear hB63 c34
                refine lv_aload_n hx hb dX2_alone_70 rfl (lv_at hlB63 0 rfl) ?_
                refine kget X hVB63 (ci := 2) inlX2 rfl 0 rfl 2 (by decide) mw_121 rfl dX2_alone_71 ?_
                refine lv_iload hx hb dX2_alone_74 (lv_at hlB63 5 rfl) ?_
                obtain ⟨hi38, v76_37, e39, h40⟩ := rdI_s h36
                clear h36
                refine kiald X hVB63 1 rfl hi38 e39 dX2_alone_76 ?_
                clear hi38 e39
                refine lv_bipush (v := (-2)) hx hb dX2_alone_77 (by decide) ?_
                have J93 : ∀ (x6_41 : Int32) (H : Heap) (locs : List Loc) (ls : Array Slot), (f_X2_alone_J93 x4_31 (f_X2_alone_L63 fallen__2 x3_13 (f_X2_alone_J106 x3_13 (f_X2_alone_L46 s_many fallen__2 (f_X2_alone_J112 p2 fallen__2 ) n46) (f_X2_alone_J112 p2 fallen__2 )) n63)) x6_41 = some (r, o_fallen) → kV E A s.heap H locs [(a0, .inr (2, [w0_0, w0_1, .ref a1, w0_3, .ref a2, .int s_many])), (a1, .inl (E.2 0, 6, .inl fallen__2)), (a2, .inl (E.2 4, 6, .inr (.inr (.inr (.inr s_stories)))))] → lv_has ls 7 [(0, .ref a0), (2, .int p2), (3, .int x3_13), (4, .int x4_31), (6, .int x6_41)] → W p l e r_X2_alone s m args below meth c H locs 0 0 Q (F0 m 93 ls []) := by
                  intro x6_41 H locs ls hB93 hVB93 hlB93
                  rw [f_X2_alone_J93] at hB93
                  obtain ⟨v93_42, e43, h44⟩ := nmI_s hB93
                  clear hB93
                  refine lv_iinc (v := v93_42) (lv' := [(4, .int v93_42), (0, .ref a0), (2, .int p2), (3, .int x3_13), (6, .int x6_41)]) hx hb dX2_alone_93 hlB93 (k := 3) rfl (by rw [e43]; rfl) (by decide) rfl (fun ls hl45 => ?_)
                  clear hlB93 e43
                  refine lv_iload hx hb dX2_alone_96 (lv_at hl45 4 rfl) ?_
                  refine lv_istore (lv' := [(5, .int x6_41), (4, .int v93_42), (0, .ref a0), (2, .int p2), (3, .int x3_13), (6, .int x6_41)]) hx hb dX2_alone_98 hl45 (by decide) rfl (fun ls hl46 => ?_)
                  clear hl45
                  obtain ⟨v100_47, e48, h49⟩ := nmI_s h44
                  clear h44
                  refine lv_iinc (v := v100_47) (lv' := [(6, .int v100_47), (5, .int x6_41), (4, .int v93_42), (0, .ref a0), (2, .int p2), (3, .int x3_13)]) hx hb dX2_alone_100 hl46 (k := 5) rfl (by rw [e48]; rfl) (by decide) rfl (fun ls hl50 => ?_)
                  clear hl46 e48
                  refine lv_goto (tgt := 63) hx hb dX2_alone_103 (by decide) ?_
                  exact ih63 v93_42 x6_41 v100_47 _ _ _ h49 hVB93 (lv_sub hl50 [3, 4, 5, 2, 1, 0] rfl)
                refine lv_icmp_eq (tgt := 93) hx hb dX2_alone_79 (by decide) (fun c51 => ?_) (fun c51 => ?_)
                · have h52 := itS c51 h40
                  clear h40 c51
                  exact J93 x6_33 _ _ _ h52 hVB63 (lv_sub hlB63 [0, 1, 2, 3, 5] rfl)
                · have h53 := ieS c51 h40
                  clear h40 c51
                  refine lv_aload_n hx hb dX2_alone_82 rfl (lv_at hlB63 0 rfl) ?_
                  refine kget X hVB63 (ci := 2) inlX2 rfl 0 rfl 2 (by decide) mw_121 rfl dX2_alone_83 ?_
                  refine lv_iload hx hb dX2_alone_86 (lv_at hlB63 5 rfl) ?_
                  obtain ⟨hi55, v88_54, e56, h57⟩ := rdI_s h53
                  clear h53
                  refine kiald X hVB63 1 rfl hi55 e56 dX2_alone_88 ?_
                  clear hi55 e56
                  refine lv_iload_n hx hb dX2_alone_89 rfl (lv_at hlB63 2 rfl) ?_
                  refine lv_icmp_le (tgt := 100) hx hb dX2_alone_90 (by decide) (fun c58 => ?_) (fun c58 => ?_)
                  · have h59 := itS c58 h57
                    clear h57 c58
                    obtain ⟨v100_61, e62, h63⟩ := nmI_s h59
                    clear h59
                    refine lv_iinc (v := v100_61) (lv' := [(6, .int v100_61), (0, .ref a0), (2, .int p2), (3, .int x3_13), (4, .int x4_31), (5, .int x5_32)]) hx hb dX2_alone_100 hlB63 (k := 5) rfl (by rw [e62]; rfl) (by decide) rfl (fun ls hl64 => ?_)
                    clear hlB63 e62
                    refine lv_goto (tgt := 63) hx hb dX2_alone_103 (by decide) ?_
                    exact ih63 x4_31 x5_32 v100_61 _ _ _ h63 hVB63 (lv_sub hl64 [1, 2, 3, 4, 5, 0] rfl)
                  · have h60 := ieS c58 h57
                    clear h57 c58
                    exact J93 x6_33 _ _ _ h60 hVB63 (lv_sub hlB63 [0, 1, 2, 3, 5] rfl)
          exact L63 FU 0 (-1) 0 _ _ _ h16 hVB46 (lv_sub hl21 [3, 4, 5, 2, 1, 0] rfl)
    exact L46 FU 0 _ _ _ hB44 hVB44 (lv_sub hl3 [1, 2, 0] rfl)
  have L2 : ∀ (n2 : Nat) (x3_65 : Int32) (fallen__66 : Nat → Int32) (H : Heap) (locs : List Loc) (ls : Array Slot), (f_X2_alone_L2 s_stories (f_X2_alone_J44 s_many p2 ) n2) x3_65 fallen__66 = some (r, o_fallen) → kV E A s.heap H locs [(a0, .inr (2, [w0_0, w0_1, .ref a1, w0_3, .ref a2, .int s_many])), (a1, .inl (E.2 0, 6, .inl fallen__66)), (a2, .inl (E.2 4, 6, .inr (.inr (.inr (.inr s_stories)))))] → lv_has ls 7 [(0, .ref a0), (2, .int p2), (3, .int x3_65)] → W p l e r_X2_alone s m args below meth c H locs 0 0 Q (F0 m 2 ls []) := by
    intro n2
    induction n2 with
    | zero =>
      intro x3_65 fallen__66 H locs ls hB2 hVB2 hlB2
      rw [f_X2_alone_L2] at hB2
      exact nomatch hB2
    | succ n2 ih2 =>
      intro x3_65 fallen__66 H locs ls hB2 hVB2 hlB2
      rw [f_X2_alone_L2] at hB2
      refine lv_iload_n hx hb dX2_alone_2 rfl (lv_at hlB2 2 rfl) ?_
      refine lv_bipush (v := 6) hx hb dX2_alone_3 (by decide) ?_
      refine lv_icmp_ge (tgt := 44) hx hb dX2_alone_5 (by decide) (fun c67 => ?_) (fun c67 => ?_)
      · have h68 := itS c67 hB2
        clear hB2 c67
        exact J44 fallen__66 _ _ _ h68 hVB2 (lv_sub hlB2 [0, 1] rfl)
      · have h69 := ieS c67 hB2
        clear hB2 c67
        refine lv_aload_n hx hb dX2_alone_8 rfl (lv_at hlB2 0 rfl) ?_
        refine kget X hVB2 (ci := 2) inlX2 rfl 0 rfl 2 (by decide) mw_121 rfl dX2_alone_9 ?_
        refine lv_iload_n hx hb dX2_alone_12 rfl (lv_at hlB2 2 rfl) ?_
        refine lv_aload_n hx hb dX2_alone_13 rfl (lv_at hlB2 0 rfl) ?_
        refine kget X hVB2 (ci := 2) inlX2 rfl 0 rfl 4 (by decide) mw_125 rfl dX2_alone_14 ?_
        refine lv_iload_n hx hb dX2_alone_17 rfl (lv_at hlB2 2 rfl) ?_
        obtain ⟨hi70, e71, h72⟩ := rdN_s h69
        clear h69
        refine kaald X hVB2 2 4 rfl rfl hi70 e71 dX2_alone_18 ?_
        clear hi70 e71
        refine W.eq (g2 := F0 m 19 ls [.null, .int x3_65, .ref a1]) rfl ?_
        refine lv_ifnonnullN hx hb dX2_alone_19 ?_
        refine lv_iconst (v := 0) hx hb dX2_alone_22 (by decide) ?_
        refine lv_goto (tgt := 37) hx hb dX2_alone_23 (by decide) ?_
        obtain ⟨hi74, g37_73, e75, h76⟩ := wrI_s h72
        clear h72
        refine kiast X hVB2 1 rfl hi74 e75 dX2_alone_37 (fun H locs hV77 => ?_)
        have hV77 : kV E A s.heap H locs [(a0, .inr (2, [w0_0, w0_1, .ref a1, w0_3, .ref a2, .int s_many])), (a1, .inl (E.2 0, 6, .inl g37_73)), (a2, .inl (E.2 4, 6, .inr (.inr (.inr (.inr s_stories)))))] := hV77
        clear hVB2 hi74 e75
        obtain ⟨v38_78, e79, h80⟩ := nmI_s h76
        clear h76
        refine lv_iinc (v := v38_78) (lv' := [(3, .int v38_78), (0, .ref a0), (2, .int p2)]) hx hb dX2_alone_38 hlB2 (k := 2) rfl (by rw [e79]; rfl) (by decide) rfl (fun ls hl81 => ?_)
        clear hlB2 e79
        refine lv_goto (tgt := 2) hx hb dX2_alone_41 (by decide) ?_
        exact ih2 v38_78 g37_73 _ _ _ h80 hV77 (lv_sub hl81 [1, 2, 0] rfl)
  exact L2 FU 0 s_fallen _ _ _ h hV (lv_sub hl1 [1, 3, 0] rfl)
abbrev r_X2_greatestSize : Room := { frames := 0, cells := 0, slots := 0, locals := 0 }
set_option maxHeartbeats 4000000 in
set_option maxRecDepth 100000 in
theorem c_X2_greatestSize (l : Launch) (E : kE) (sz : Nat) (a0 a1 : Nat) (w0_1 w0_2 w0_3 w0_4 : Value) (s_many : Int32) (s_days : Nat → Int32) (p1 : Int32) (p2 : Int32) (p3 : Int32) (r : Int32) (h : f_X2_greatestSize s_many s_days p1 p2 p3 = some (r)) : kMi l yX2_greatestSize cX2_greatestSize 12 (some .int) r_X2_greatestSize [.ref a0, .int p1, .int p2, .int p3] E [(a0, .inr (2, [.ref a1, w0_1, w0_2, w0_3, w0_4, .int s_many])), (a1, .inl (E.2 0, 30, .inl s_days))] sz 0 0 (fun x (_ : Unit) => x = r) (fun _ => [(a0, .inr (2, [.ref a1, w0_1, w0_2, w0_3, w0_4, .int s_many])), (a1, .inl (E.2 0, 30, .inl s_days))]) := by
  refine kmeti rfl (Nat.le_of_ble_eq_true rfl) ?_
  intro p e s m args below meth c ls A Q X hV hret hl
  have X : kC p s m c cX2_greatestSize 12 RX2 args E A := X
  have hx := X.1
  have hb := X.2.1
  have hl : lv_has ls 12 [(0, .ref a0), (1, .int p1), (2, .int p2), (3, .int p3)] := hl
  rw [f_X2_greatestSize] at h
  refine lv_iconst (v := 0) hx hb dX2_greatestSize_0 (by decide) ?_
  refine lv_istore (lv' := [(4, .int 0), (0, .ref a0), (1, .int p1), (2, .int p2), (3, .int p3)]) hx hb dX2_greatestSize_1 hl (by decide) rfl (fun ls hl1 => ?_)
  clear hl
  refine lv_sipush (v := 2000) hx hb dX2_greatestSize_3 (by decide) ?_
  refine lv_istore (lv' := [(5, .int 2000), (4, .int 0), (0, .ref a0), (1, .int p1), (2, .int p2), (3, .int p3)]) hx hb dX2_greatestSize_6 hl1 (by decide) rfl (fun ls hl2 => ?_)
  clear hl1
  refine lv_iconst (v := 0) hx hb dX2_greatestSize_8 (by decide) ?_
  refine lv_istore (lv' := [(6, .int 0), (5, .int 2000), (4, .int 0), (0, .ref a0), (1, .int p1), (2, .int p2), (3, .int p3)]) hx hb dX2_greatestSize_9 hl2 (by decide) rfl (fun ls hl3 => ?_)
  clear hl2
  refine lv_iload hx hb dX2_greatestSize_11 (lv_at hl3 0 rfl) ?_
  refine lv_aload_n hx hb dX2_greatestSize_13 rfl (lv_at hl3 3 rfl) ?_
  refine kget X hV (ci := 2) inlX2 rfl 0 rfl 5 (by decide) mw_126 rfl dX2_greatestSize_14 ?_
  have J165 : ∀  (H : Heap) (locs : List Loc) (ls : Array Slot), (f_X2_greatestSize_J165  ) = some (r) → kV E A s.heap H locs [(a0, .inr (2, [.ref a1, w0_1, w0_2, w0_3, w0_4, .int s_many])), (a1, .inl (E.2 0, 30, .inl s_days))] → lv_has ls 12 [(4, .int 0), (5, .int 2000)] → W p l e r_X2_greatestSize s m args below meth c H locs 0 0 Q (F0 m 165 ls []) := by
    intro  H locs ls hB165 hVB165 hlB165
    rw [f_X2_greatestSize_J165] at hB165
    refine lv_iload hx hb dX2_greatestSize_165 (lv_at hlB165 0 rfl) ?_
    refine lv_iload hx hb dX2_greatestSize_167 (lv_at hlB165 1 rfl) ?_
    refine lv_icmp_gt (tgt := 177) hx hb dX2_greatestSize_169 (by decide) (fun c4 => by exact absurd c4 (by decide)) (fun c4 => ?_)
    clear c4
    refine lv_iload hx hb dX2_greatestSize_172 (lv_at hlB165 1 rfl) ?_
    refine lv_goto (tgt := 179) hx hb dX2_greatestSize_174 (by decide) ?_
    have q5 := tup1_s hB165
    clear hB165
    exact hret _ () _ _ _ _ q5 rfl hVB165 dX2_greatestSize_179
  refine lv_icmp_ge (tgt := 165) hx hb dX2_greatestSize_17 (by decide) (fun c6 => ?_) (fun c6 => ?_)
  · have h7 := itS c6 h
    clear h c6
    exact J165  _ _ _ h7 hV (lv_sub hl3 [2, 1] rfl)
  · have h8 := ieS c6 h
    clear h c6
    refine lv_iload_n hx hb dX2_greatestSize_20 rfl (lv_at hl3 4 rfl) ?_
    refine lv_if_le (tgt := 165) hx hb dX2_greatestSize_21 (by decide) (fun c9 => ?_) (fun c9 => ?_)
    · have h10 := itS c9 h8
      clear h8 c9
      exact J165  _ _ _ h10 hV (lv_sub hl3 [2, 1] rfl)
    · have h11 := ieS c9 h8
      clear h8 c9
      refine lv_aload_n hx hb dX2_greatestSize_24 rfl (lv_at hl3 3 rfl) ?_
      refine kget X hV (ci := 2) inlX2 rfl 0 rfl 0 (by decide) mw_119 rfl dX2_greatestSize_25 ?_
      refine lv_iload hx hb dX2_greatestSize_28 (lv_at hl3 0 rfl) ?_
      obtain ⟨hi13, v30_12, e14, h15⟩ := rdI_s h11
      clear h11
      refine kiald X hV 1 rfl hi13 e14 dX2_greatestSize_30 ?_
      clear hi13 e14
      refine lv_iload_n hx hb dX2_greatestSize_31 rfl (lv_at hl3 5 rfl) ?_
      refine lv_iadd hx hb dX2_greatestSize_32 ?_
      refine lv_iload_n hx hb dX2_greatestSize_33 rfl (lv_at hl3 4 rfl) ?_
      obtain ⟨hn16, h17⟩ := dvI_s h15
      clear h15
      refine lv_irem hx hb dX2_greatestSize_34 hn16 ?_
      refine lv_iload_n hx hb dX2_greatestSize_35 rfl (lv_at hl3 4 rfl) ?_
      exact nomatch h17
abbrev r_X2_greatestOrbit : Room := { frames := 1, cells := 0, slots := 0, locals := 31 }
set_option maxHeartbeats 4000000 in
set_option maxRecDepth 100000 in
theorem c_X2_greatestOrbit (l : Launch) (E : kE) (sz : Nat) (a0 a1 : Nat) (w0_1 w0_2 w0_3 w0_4 : Value) (s_many : Int32) (s_days : Nat → Int32) (p1 : Int32) (p2 : Int32) (r : Int32) (h : f_X2_greatestOrbit s_many s_days p1 p2 = some (r)) : kMi l yX2_greatestOrbit cX2_greatestOrbit 5 (some .int) r_X2_greatestOrbit [.ref a0, .int p1, .int p2] E [(a0, .inr (2, [.ref a1, w0_1, w0_2, w0_3, w0_4, .int s_many])), (a1, .inl (E.2 0, 30, .inl s_days))] sz 0 0 (fun x (_ : Unit) => x = r) (fun _ => [(a0, .inr (2, [.ref a1, w0_1, w0_2, w0_3, w0_4, .int s_many])), (a1, .inl (E.2 0, 30, .inl s_days))]) := by
  refine kmeti rfl (Nat.le_of_ble_eq_true rfl) ?_
  intro p e s m args below meth c ls A Q X hV hret hl
  have X : kC p s m c cX2_greatestOrbit 5 RX2 args E A := X
  have hx := X.1
  have hb := X.2.1
  have hl : lv_has ls 5 [(0, .ref a0), (1, .int p1), (2, .int p2)] := hl
  rw [f_X2_greatestOrbit] at h
  refine lv_bipush (v := (-2)) hx hb dX2_greatestOrbit_0 (by decide) ?_
  refine lv_istore_n (lv' := [(3, .int (-2)), (0, .ref a0), (1, .int p1), (2, .int p2)]) hx hb dX2_greatestOrbit_2 rfl hl (by decide) rfl (fun ls hl1 => ?_)
  clear hl
  refine lv_iconst (v := 0) hx hb dX2_greatestOrbit_3 (by decide) ?_
  refine lv_istore (lv' := [(4, .int 0), (3, .int (-2)), (0, .ref a0), (1, .int p1), (2, .int p2)]) hx hb dX2_greatestOrbit_4 hl1 (by decide) rfl (fun ls hl2 => ?_)
  clear hl1
  have L6 : ∀ (n6 : Nat) (x3_3 : Int32) (x4_4 : Int32) (H : Heap) (locs : List Loc) (ls : Array Slot), (f_X2_greatestOrbit_L6 s_many s_days p1 p2  n6) x3_3 x4_4 = some (r) → kV E A s.heap H locs [(a0, .inr (2, [.ref a1, w0_1, w0_2, w0_3, w0_4, .int s_many])), (a1, .inl (E.2 0, 30, .inl s_days))] → lv_has ls 5 [(0, .ref a0), (1, .int p1), (2, .int p2), (3, .int x3_3), (4, .int x4_4)] → W p l e r_X2_greatestOrbit s m args below meth c H locs 0 0 Q (F0 m 6 ls []) := by
    intro n6
    induction n6 with
    | zero =>
      intro x3_3 x4_4 H locs ls hB6 hVB6 hlB6
      rw [f_X2_greatestOrbit_L6] at hB6
      exact nomatch hB6
    | succ n6 ih6 =>
      intro x3_3 x4_4 H locs ls hB6 hVB6 hlB6
      rw [f_X2_greatestOrbit_L6] at hB6
      refine lv_iload hx hb dX2_greatestOrbit_6 (lv_at hlB6 4 rfl) ?_
      refine lv_iload_n hx hb dX2_greatestOrbit_8 rfl (lv_at hlB6 1 rfl) ?_
      refine lv_icmp_ge (tgt := 31) hx hb dX2_greatestOrbit_9 (by decide) (fun c5 => ?_) (fun c5 => ?_)
      · have h6 := itS c5 hB6
        clear hB6 c5
        refine lv_iload_n hx hb dX2_greatestOrbit_31 rfl (lv_at hlB6 3 rfl) ?_
        have q8 := tup1_s h6
        clear h6
        exact hret _ () _ _ _ _ q8 rfl hVB6 dX2_greatestOrbit_32
      · have h7 := ieS c5 hB6
        clear hB6 c5
        refine lv_iload_n hx hb dX2_greatestOrbit_12 rfl (lv_at hlB6 3 rfl) ?_
        refine lv_aload_n hx hb dX2_greatestOrbit_13 rfl (lv_at hlB6 0 rfl) ?_
        refine lv_iload_n hx hb dX2_greatestOrbit_14 rfl (lv_at hlB6 1 rfl) ?_
        refine lv_iload hx hb dX2_greatestOrbit_15 (lv_at hlB6 4 rfl) ?_
        refine lv_iload_n hx hb dX2_greatestOrbit_17 rfl (lv_at hlB6 2 rfl) ?_
        obtain ⟨r18_9, hc10, h11⟩ := cb1_s h7
        clear h7
        refine kgoiE (krunV (rest := [.int x3_3]) X hVB6 [0, 1] (c_X2_greatestSize l E _ a0 a1 (w0_1) (w0_2) (w0_3) (w0_4) s_many s_days p1 x4_4 p2 r18_9 hc10) mw_1190 kb_X2_greatestSize (ci := 2) rfl rfl (by decide) rfl rfl hlB6.1 rfl (Nat.le_of_ble_eq_true rfl) dX2_greatestOrbit_18 (by decide)) X hVB6 [0, 1] [] rfl rfl rfl (by decide) (fun u H locs hV12 => ?_)
        have hV12 : kV E A s.heap H locs [(a0, .inr (2, [.ref a1, w0_1, w0_2, w0_3, w0_4, .int s_many])), (a1, .inl (E.2 0, 30, .inl s_days))] := hV12.sub [0, 1] rfl rfl
        clear hVB6
        refine va_mmax hx hb (X.2.2.1.trans hlB6.1.symm) X.2.2.2.1 (X.2.2.2.2.1 _ mw_1189) (X.2.2.2.2.1 _ mw_354) (X.2.2.2.2.1 _ mw_281) (X.2.2.2.2.1 _ mw_355) (by decide) (Nat.le_of_ble_eq_true rfl) (by decide) (by decide) dX2_greatestOrbit_21 ?_
        obtain ⟨v24_14, e15, h16⟩ := nmI_s h11
        clear h11
        refine ktopi e15 ?_
        clear e15
        refine lv_istore_n (lv' := [(3, .int v24_14), (0, .ref a0), (1, .int p1), (2, .int p2), (4, .int x4_4)]) hx hb dX2_greatestOrbit_24 rfl hlB6 (by decide) rfl (fun ls hl17 => ?_)
        clear hlB6
        obtain ⟨v25_18, e19, h20⟩ := nmI_s h16
        clear h16
        refine lv_iinc (v := v25_18) (lv' := [(4, .int v25_18), (3, .int v24_14), (0, .ref a0), (1, .int p1), (2, .int p2)]) hx hb dX2_greatestOrbit_25 hl17 (k := 4) rfl (by rw [e19]; rfl) (by decide) rfl (fun ls hl21 => ?_)
        clear hl17 e19
        refine lv_goto (tgt := 6) hx hb dX2_greatestOrbit_28 (by decide) ?_
        exact ih6 v24_14 v25_18 _ _ _ h20 hV12 (lv_sub hl21 [2, 3, 4, 1, 0] rfl)
  exact L6 FU (-2) 0 _ _ _ h hV (lv_sub hl2 [2, 3, 4, 1, 0] rfl)
abbrev r_X1_missesFrom : Room := { frames := 1, cells := 0, slots := 0, locals := 23 }
set_option maxHeartbeats 4000000 in
set_option maxRecDepth 100000 in
theorem c_X1_missesFrom (l : Launch) (E : kE) (sz : Nat) (a0 a1 a2 : Nat) (w0_1 w0_3 : Value) (s_best : Nat → Int32) (s_tens : Nat → Int32) (p1 : Int32) (p2 : Int32) (p3 : Int32) (r : Int32) (h : f_X1_missesFrom s_best s_tens p1 p2 p3 = some (r)) : kMi l yX1_missesFrom cX1_missesFrom 5 (some .int) r_X1_missesFrom [.ref a0, .int p1, .int p2, .int p3] E [(a0, .inr (1, [.ref a2, w0_1, .ref a1, w0_3])), (a1, .inl (E.2 0, 287, .inl s_best)), (a2, .inl (E.2 0, 40, .inl s_tens))] sz 0 0 (fun x (_ : Unit) => x = r) (fun _ => [(a0, .inr (1, [.ref a2, w0_1, .ref a1, w0_3])), (a1, .inl (E.2 0, 287, .inl s_best)), (a2, .inl (E.2 0, 40, .inl s_tens))]) := by
  refine kmeti rfl (Nat.le_of_ble_eq_true rfl) ?_
  intro p e s m args below meth c ls A Q X hV hret hl
  have X : kC p s m c cX1_missesFrom 5 RX1 args E A := X
  have hx := X.1
  have hb := X.2.1
  have hl : lv_has ls 5 [(0, .ref a0), (1, .int p1), (2, .int p2), (3, .int p3)] := hl
  rw [f_X1_missesFrom] at h
  refine lv_aload_n hx hb dX1_missesFrom_0 rfl (lv_at hl 0 rfl) ?_
  refine kget X hV (ci := 1) inlX1 rfl 0 rfl 2 (by decide) mw_134 rfl dX1_missesFrom_1 ?_
  refine lv_iload_n hx hb dX1_missesFrom_4 rfl (lv_at hl 2 rfl) ?_
  refine lv_bipush (v := 41) hx hb dX1_missesFrom_5 (by decide) ?_
  refine lv_imul hx hb dX1_missesFrom_7 ?_
  refine lv_bipush (v := 40) hx hb dX1_missesFrom_8 (by decide) ?_
  refine lv_iload_n hx hb dX1_missesFrom_10 rfl (lv_at hl 1 rfl) ?_
  refine lv_iload_n hx hb dX1_missesFrom_11 rfl (lv_at hl 3 rfl) ?_
  refine lv_iadd hx hb dX1_missesFrom_12 ?_
  refine va_mmin hx hb (X.2.2.1.trans hl.1.symm) X.2.2.2.1 (X.2.2.2.2.1 _ mw_1233) (X.2.2.2.2.1 _ mw_280) (X.2.2.2.2.1 _ mw_281) (X.2.2.2.2.1 _ mw_282) (by decide) (Nat.le_of_ble_eq_true rfl) (by decide) (by decide) dX1_missesFrom_13 ?_
  refine lv_iadd hx hb dX1_missesFrom_16 ?_
  obtain ⟨hi2, v17_1, e3, h4⟩ := rdI_s h
  clear h
  refine kiald X hV 1 rfl hi2 e3 dX1_missesFrom_17 ?_
  clear hi2 e3
  refine lv_istore (lv' := [(4, .int v17_1), (0, .ref a0), (1, .int p1), (2, .int p2), (3, .int p3)]) hx hb dX1_missesFrom_18 hl (by decide) rfl (fun ls hl5 => ?_)
  clear hl
  refine lv_iload hx hb dX1_missesFrom_20 (lv_at hl5 0 rfl) ?_
  refine lv_iconst (v := (-1)) hx hb dX1_missesFrom_22 (by decide) ?_
  refine lv_icmp_ne (tgt := 30) hx hb dX1_missesFrom_23 (by decide) (fun c6 => ?_) (fun c6 => ?_)
  · have h7 := ieS c6 h4
    clear h4 c6
    refine lv_bipush (v := 10) hx hb dX1_missesFrom_30 (by decide) ?_
    refine lv_aload_n hx hb dX1_missesFrom_32 rfl (lv_at hl5 1 rfl) ?_
    refine kget X hV (ci := 1) inlX1 rfl 0 rfl 0 (by decide) mw_132 rfl dX1_missesFrom_33 ?_
    refine lv_iload_n hx hb dX1_missesFrom_36 rfl (lv_at hl5 2 rfl) ?_
    obtain ⟨hi10, v37_9, e11, h12⟩ := rdI_s h7
    clear h7
    refine kiald X hV 2 rfl hi10 e11 dX1_missesFrom_37 ?_
    clear hi10 e11
    refine lv_isub hx hb dX1_missesFrom_38 ?_
    refine lv_iload hx hb dX1_missesFrom_39 (lv_at hl5 0 rfl) ?_
    refine lv_imul hx hb dX1_missesFrom_41 ?_
    have q13 := tup1_s h12
    clear h12
    exact hret _ () _ _ _ _ q13 rfl hV dX1_missesFrom_42
  · have h8 := itS c6 h4
    clear h4 c6
    refine lv_iconst (v := (-1)) hx hb dX1_missesFrom_26 (by decide) ?_
    refine lv_goto (tgt := 42) hx hb dX1_missesFrom_27 (by decide) ?_
    have q14 := tup1_s h8
    clear h8
    exact hret _ () _ _ _ _ q14 rfl hV dX1_missesFrom_42
abbrev r_X1_weigh : Room := { frames := 2, cells := 0, slots := 0, locals := 47 }
set_option maxHeartbeats 4000000 in
set_option maxRecDepth 100000 in
theorem c_X1_weigh (l : Launch) (E : kE) (sz : Nat) (a0 a1 a2 : Nat) (w0_1 w0_3 : Value) (s_best : Nat → Int32) (s_tens : Nat → Int32) (p1 : Int32) (p2 : Int32) (o_best : Nat → Int32) (h : f_X1_weigh s_best s_tens p1 p2 = some (o_best)) : kMv l yX1_weigh cX1_weigh 8 r_X1_weigh [.ref a0, .int p1, .int p2] E [(a0, .inr (1, [.ref a2, w0_1, .ref a1, w0_3])), (a1, .inl (E.2 0, 287, .inl s_best)), (a2, .inl (E.2 0, 40, .inl s_tens))] sz 0 0 (fun (_ : Unit) => True) (fun _ => [(a0, .inr (1, [.ref a2, w0_1, .ref a1, w0_3])), (a1, .inl (E.2 0, 287, .inl o_best)), (a2, .inl (E.2 0, 40, .inl s_tens))]) := by
  refine kmetv rfl (Nat.le_of_ble_eq_true rfl) ?_
  intro p e s m args below meth c ls A Q X hnm hV hret hl
  have X : kC p s m c cX1_weigh 8 RX1 args E A := X
  have hx := X.1
  have hb := X.2.1
  have hl : lv_has ls 8 [(0, .ref a0), (1, .int p1), (2, .int p2)] := hl
  rw [f_X1_weigh] at h
  refine lv_iconst (v := 0) hx hb dX1_weigh_0 (by decide) ?_
  refine lv_istore_n (lv' := [(3, .int 0), (0, .ref a0), (1, .int p1), (2, .int p2)]) hx hb dX1_weigh_1 rfl hl (by decide) rfl (fun ls hl1 => ?_)
  clear hl
  have L2 : ∀ (n2 : Nat) (x3_2 : Int32) (best__3 : Nat → Int32) (H : Heap) (locs : List Loc) (ls : Array Slot), (f_X1_weigh_L2 s_tens p1 p2  n2) x3_2 best__3 = some (o_best) → kV E A s.heap H locs [(a0, .inr (1, [.ref a2, w0_1, .ref a1, w0_3])), (a1, .inl (E.2 0, 287, .inl best__3)), (a2, .inl (E.2 0, 40, .inl s_tens))] → lv_has ls 8 [(0, .ref a0), (1, .int p1), (2, .int p2), (3, .int x3_2)] → W p l e r_X1_weigh s m args below meth c H locs 0 0 Q (F0 m 2 ls []) := by
    intro n2
    induction n2 with
    | zero =>
      intro x3_2 best__3 H locs ls hB2 hVB2 hlB2
      rw [f_X1_weigh_L2] at hB2
      exact nomatch hB2
    | succ n2 ih2 =>
      intro x3_2 best__3 H locs ls hB2 hVB2 hlB2
      rw [f_X1_weigh_L2] at hB2
      refine lv_iload_n hx hb dX1_weigh_2 rfl (lv_at hlB2 3 rfl) ?_
      refine lv_iload_n hx hb dX1_weigh_3 rfl (lv_at hlB2 1 rfl) ?_
      refine lv_icmp_gt (tgt := 135) hx hb dX1_weigh_4 (by decide) (fun c4 => ?_) (fun c4 => ?_)
      · have h5 := itS c4 hB2
        clear hB2 c4
        have q7 := tup1_s h5
        clear h5
        exact hret () _ _ _ _ trivial (by rw [← q7]; exact hVB2) dX1_weigh_135
      · have h6 := ieS c4 hB2
        clear hB2 c4
        refine lv_aload_n hx hb dX1_weigh_7 rfl (lv_at hlB2 0 rfl) ?_
        refine kget X hVB2 (ci := 1) inlX1 rfl 0 rfl 2 (by decide) mw_134 rfl dX1_weigh_8 ?_
        refine lv_iload_n hx hb dX1_weigh_11 rfl (lv_at hlB2 3 rfl) ?_
        refine lv_bipush (v := 41) hx hb dX1_weigh_12 (by decide) ?_
        refine lv_imul hx hb dX1_weigh_14 ?_
        refine lv_bipush (v := 40) hx hb dX1_weigh_15 (by decide) ?_
        refine lv_iadd hx hb dX1_weigh_17 ?_
        refine lv_iload_n hx hb dX1_weigh_18 rfl (lv_at hlB2 3 rfl) ?_
        have J27 : ∀ (t2_8 : Int32) (H : Heap) (locs : List Loc) (ls : Array Slot), (f_X1_weigh_J27 s_tens p2 x3_2 best__3 (f_X1_weigh_L2 s_tens p1 p2  n2)) t2_8 = some (o_best) → kV E A s.heap H locs [(a0, .inr (1, [.ref a2, w0_1, .ref a1, w0_3])), (a1, .inl (E.2 0, 287, .inl best__3)), (a2, .inl (E.2 0, 40, .inl s_tens))] → lv_has ls 8 [(0, .ref a0), (1, .int p1), (2, .int p2), (3, .int x3_2)] → W p l e r_X1_weigh s m args below meth c H locs 0 0 Q (F0 m 27 ls [.int t2_8, .int ((x3_2 * 41) + 40), .ref a1]) := by
          intro t2_8 H locs ls hB27 hVB27 hlB27
          rw [f_X1_weigh_J27] at hB27
          obtain ⟨hi10, g27_9, e11, h12⟩ := wrI_s hB27
          clear hB27
          refine kiast X hVB27 1 rfl hi10 e11 dX1_weigh_27 (fun H locs hV13 => ?_)
          have hV13 : kV E A s.heap H locs [(a0, .inr (1, [.ref a2, w0_1, .ref a1, w0_3])), (a1, .inl (E.2 0, 287, .inl g27_9)), (a2, .inl (E.2 0, 40, .inl s_tens))] := hV13
          clear hVB27 hi10 e11
          refine lv_bipush (v := 39) hx hb dX1_weigh_28 (by decide) ?_
          refine lv_istore (lv' := [(4, .int 39), (0, .ref a0), (1, .int p1), (2, .int p2), (3, .int x3_2)]) hx hb dX1_weigh_30 hlB27 (by decide) rfl (fun ls hl14 => ?_)
          clear hlB27
          have L32 : ∀ (n32 : Nat) (x4_15 : Int32) (best__16 : Nat → Int32) (H : Heap) (locs : List Loc) (ls : Array Slot), (f_X1_weigh_L32 s_tens p2 x3_2 (f_X1_weigh_L2 s_tens p1 p2  n2) n32) x4_15 best__16 = some (o_best) → kV E A s.heap H locs [(a0, .inr (1, [.ref a2, w0_1, .ref a1, w0_3])), (a1, .inl (E.2 0, 287, .inl best__16)), (a2, .inl (E.2 0, 40, .inl s_tens))] → lv_has ls 8 [(0, .ref a0), (1, .int p1), (2, .int p2), (3, .int x3_2), (4, .int x4_15)] → W p l e r_X1_weigh s m args below meth c H locs 0 0 Q (F0 m 32 ls []) := by
            intro n32
            induction n32 with
            | zero =>
              intro x4_15 best__16 H locs ls hB32 hVB32 hlB32
              rw [f_X1_weigh_L32] at hB32
              exact nomatch hB32
            | succ n32 ih32 =>
              intro x4_15 best__16 H locs ls hB32 hVB32 hlB32
              rw [f_X1_weigh_L32] at hB32
              refine lv_iload hx hb dX1_weigh_32 (lv_at hlB32 4 rfl) ?_
              refine lv_if_lt (tgt := 129) hx hb dX1_weigh_34 (by decide) (fun c17 => ?_) (fun c17 => ?_)
              · have h18 := itS c17 hB32
                clear hB32 c17
                obtain ⟨v129_20, e21, h22⟩ := nmI_s h18
                clear h18
                refine lv_iinc (v := v129_20) (lv' := [(3, .int v129_20), (0, .ref a0), (1, .int p1), (2, .int p2), (4, .int x4_15)]) hx hb dX1_weigh_129 hlB32 (k := 3) rfl (by rw [e21]; rfl) (by decide) rfl (fun ls hl23 => ?_)
                clear hlB32 e21
                refine lv_goto (tgt := 2) hx hb dX1_weigh_132 (by decide) ?_
                exact ih2 v129_20 best__16 _ _ _ h22 hVB32 (lv_sub hl23 [1, 2, 3, 0] rfl)
              · have h19 := ieS c17 hB32
                clear hB32 c17
                refine lv_aload_n hx hb dX1_weigh_37 rfl (lv_at hlB32 0 rfl) ?_
                refine kget X hVB32 (ci := 1) inlX1 rfl 0 rfl 2 (by decide) mw_134 rfl dX1_weigh_38 ?_
                refine lv_iload_n hx hb dX1_weigh_41 rfl (lv_at hlB32 3 rfl) ?_
                refine lv_bipush (v := 41) hx hb dX1_weigh_42 (by decide) ?_
                refine lv_imul hx hb dX1_weigh_44 ?_
                refine lv_iload hx hb dX1_weigh_45 (lv_at hlB32 4 rfl) ?_
                refine lv_iadd hx hb dX1_weigh_47 ?_
                refine lv_iconst (v := 1) hx hb dX1_weigh_48 (by decide) ?_
                refine lv_iadd hx hb dX1_weigh_49 ?_
                obtain ⟨hi25, v50_24, e26, h27⟩ := rdI_s h19
                clear h19
                refine kiald X hVB32 1 rfl hi25 e26 dX1_weigh_50 ?_
                clear hi25 e26
                refine lv_istore (lv' := [(5, .int v50_24), (0, .ref a0), (1, .int p1), (2, .int p2), (3, .int x3_2), (4, .int x4_15)]) hx hb dX1_weigh_51 hlB32 (by decide) rfl (fun ls hl28 => ?_)
                clear hlB32
                refine lv_iload_n hx hb dX1_weigh_53 rfl (lv_at hl28 4 rfl) ?_
                have J71 : ∀ (t0_29 : Int32) (H : Heap) (locs : List Loc) (ls : Array Slot), (f_X1_weigh_J71 x3_2 x4_15 best__16 v50_24 (f_X1_weigh_L32 s_tens p2 x3_2 (f_X1_weigh_L2 s_tens p1 p2  n2) n32)) t0_29 = some (o_best) → kV E A s.heap H locs [(a0, .inr (1, [.ref a2, w0_1, .ref a1, w0_3])), (a1, .inl (E.2 0, 287, .inl best__16)), (a2, .inl (E.2 0, 40, .inl s_tens))] → lv_has ls 8 [(0, .ref a0), (1, .int p1), (2, .int p2), (3, .int x3_2), (4, .int x4_15), (5, .int v50_24)] → W p l e r_X1_weigh s m args below meth c H locs 0 0 Q (F0 m 71 ls [.int t0_29]) := by
                  intro t0_29 H locs ls hB71 hVB71 hlB71
                  rw [f_X1_weigh_J71] at hB71
                  refine lv_istore (lv' := [(6, .int t0_29), (0, .ref a0), (1, .int p1), (2, .int p2), (3, .int x3_2), (4, .int x4_15), (5, .int v50_24)]) hx hb dX1_weigh_71 hlB71 (by decide) rfl (fun ls hl30 => ?_)
                  clear hlB71
                  refine lv_iload hx hb dX1_weigh_73 (lv_at hl30 0 rfl) ?_
                  refine lv_iconst (v := (-1)) hx hb dX1_weigh_75 (by decide) ?_
                  have J97 : ∀ (t0_31 : Int32) (H : Heap) (locs : List Loc) (ls : Array Slot), (f_X1_weigh_J97 x3_2 x4_15 best__16 v50_24 t0_29 (f_X1_weigh_L32 s_tens p2 x3_2 (f_X1_weigh_L2 s_tens p1 p2  n2) n32)) t0_31 = some (o_best) → kV E A s.heap H locs [(a0, .inr (1, [.ref a2, w0_1, .ref a1, w0_3])), (a1, .inl (E.2 0, 287, .inl best__16)), (a2, .inl (E.2 0, 40, .inl s_tens))] → lv_has ls 8 [(0, .ref a0), (1, .int p1), (2, .int p2), (3, .int x3_2), (4, .int x4_15), (5, .int v50_24), (6, .int t0_29)] → W p l e r_X1_weigh s m args below meth c H locs 0 0 Q (F0 m 97 ls [.int t0_31]) := by
                    intro t0_31 H locs ls hB97 hVB97 hlB97
                    rw [f_X1_weigh_J97] at hB97
                    refine lv_istore (lv' := [(7, .int t0_31), (0, .ref a0), (1, .int p1), (2, .int p2), (3, .int x3_2), (4, .int x4_15), (5, .int v50_24), (6, .int t0_29)]) hx hb dX1_weigh_97 hlB97 (by decide) rfl (fun ls hl32 => ?_)
                    clear hlB97
                    refine lv_aload_n hx hb dX1_weigh_99 rfl (lv_at hl32 1 rfl) ?_
                    refine kget X hVB97 (ci := 1) inlX1 rfl 0 rfl 2 (by decide) mw_134 rfl dX1_weigh_100 ?_
                    refine lv_iload_n hx hb dX1_weigh_103 rfl (lv_at hl32 4 rfl) ?_
                    refine lv_bipush (v := 41) hx hb dX1_weigh_104 (by decide) ?_
                    refine lv_imul hx hb dX1_weigh_106 ?_
                    refine lv_iload hx hb dX1_weigh_107 (lv_at hl32 5 rfl) ?_
                    refine lv_iadd hx hb dX1_weigh_109 ?_
                    refine lv_iload hx hb dX1_weigh_110 (lv_at hl32 0 rfl) ?_
                    refine lv_if_eq (tgt := 120) hx hb dX1_weigh_112 (by decide) (fun c33 => ?_) (fun c33 => ?_)
                    · have h34 := itS c33 hB97
                      clear hB97 c33
                      refine lv_iload hx hb dX1_weigh_120 (lv_at hl32 6 rfl) ?_
                      obtain ⟨hi37, g122_36, e38, h39⟩ := wrI_s h34
                      clear h34
                      refine kiast X hVB97 1 rfl hi37 e38 dX1_weigh_122 (fun H locs hV40 => ?_)
                      have hV40 : kV E A s.heap H locs [(a0, .inr (1, [.ref a2, w0_1, .ref a1, w0_3])), (a1, .inl (E.2 0, 287, .inl g122_36)), (a2, .inl (E.2 0, 40, .inl s_tens))] := hV40
                      clear hVB97 hi37 e38
                      obtain ⟨v123_41, e42, h43⟩ := nmI_s h39
                      clear h39
                      refine lv_iinc (v := v123_41) (lv' := [(4, .int v123_41), (7, .int t0_31), (0, .ref a0), (1, .int p1), (2, .int p2), (3, .int x3_2), (5, .int v50_24), (6, .int t0_29)]) hx hb dX1_weigh_123 hl32 (k := 5) rfl (by rw [e42]; rfl) (by decide) rfl (fun ls hl44 => ?_)
                      clear hl32 e42
                      refine lv_goto (tgt := 32) hx hb dX1_weigh_126 (by decide) ?_
                      exact ih32 v123_41 g122_36 _ _ _ h43 hV40 (lv_sub hl44 [2, 3, 4, 5, 0] rfl)
                    · have h35 := ieS c33 hB97
                      clear hB97 c33
                      refine lv_iload hx hb dX1_weigh_115 (lv_at hl32 7 rfl) ?_
                      refine lv_goto (tgt := 122) hx hb dX1_weigh_117 (by decide) ?_
                      obtain ⟨hi46, g122_45, e47, h48⟩ := wrI_s h35
                      clear h35
                      refine kiast X hVB97 1 rfl hi46 e47 dX1_weigh_122 (fun H locs hV49 => ?_)
                      have hV49 : kV E A s.heap H locs [(a0, .inr (1, [.ref a2, w0_1, .ref a1, w0_3])), (a1, .inl (E.2 0, 287, .inl g122_45)), (a2, .inl (E.2 0, 40, .inl s_tens))] := hV49
                      clear hVB97 hi46 e47
                      obtain ⟨v123_50, e51, h52⟩ := nmI_s h48
                      clear h48
                      refine lv_iinc (v := v123_50) (lv' := [(4, .int v123_50), (7, .int t0_31), (0, .ref a0), (1, .int p1), (2, .int p2), (3, .int x3_2), (5, .int v50_24), (6, .int t0_29)]) hx hb dX1_weigh_123 hl32 (k := 5) rfl (by rw [e51]; rfl) (by decide) rfl (fun ls hl53 => ?_)
                      clear hl32 e51
                      refine lv_goto (tgt := 32) hx hb dX1_weigh_126 (by decide) ?_
                      exact ih32 v123_50 g122_45 _ _ _ h52 hV49 (lv_sub hl53 [2, 3, 4, 5, 0] rfl)
                  refine lv_icmp_eq (tgt := 96) hx hb dX1_weigh_76 (by decide) (fun c54 => ?_) (fun c54 => ?_)
                  · have h55 := itS c54 hB71
                    clear hB71 c54
                    refine lv_iconst (v := 0) hx hb dX1_weigh_96 (by decide) ?_
                    exact J97 0 _ _ _ h55 hVB71 (lv_sub hl30 [1, 2, 3, 4, 5, 6, 0] rfl)
                  · have h56 := ieS c54 hB71
                    clear hB71 c54
                    refine lv_iload hx hb dX1_weigh_79 (lv_at hl30 6 rfl) ?_
                    refine lv_iconst (v := (-1)) hx hb dX1_weigh_81 (by decide) ?_
                    refine lv_icmp_eq (tgt := 92) hx hb dX1_weigh_82 (by decide) (fun c57 => ?_) (fun c57 => ?_)
                    · have h58 := itS c57 h56
                      clear h56 c57
                      refine lv_iconst (v := 1) hx hb dX1_weigh_92 (by decide) ?_
                      refine lv_goto (tgt := 97) hx hb dX1_weigh_93 (by decide) ?_
                      exact J97 1 _ _ _ h58 hVB71 (lv_sub hl30 [1, 2, 3, 4, 5, 6, 0] rfl)
                    · have h59 := ieS c57 h56
                      clear h56 c57
                      refine lv_iload hx hb dX1_weigh_85 (lv_at hl30 0 rfl) ?_
                      refine lv_iload hx hb dX1_weigh_87 (lv_at hl30 6 rfl) ?_
                      refine lv_icmp_ge (tgt := 96) hx hb dX1_weigh_89 (by decide) (fun c60 => ?_) (fun c60 => ?_)
                      · have h61 := itS c60 h59
                        clear h59 c60
                        refine lv_iconst (v := 0) hx hb dX1_weigh_96 (by decide) ?_
                        exact J97 0 _ _ _ h61 hVB71 (lv_sub hl30 [1, 2, 3, 4, 5, 6, 0] rfl)
                      · have h62 := ieS c60 h59
                        clear h59 c60
                        refine lv_iconst (v := 1) hx hb dX1_weigh_92 (by decide) ?_
                        refine lv_goto (tgt := 97) hx hb dX1_weigh_93 (by decide) ?_
                        exact J97 1 _ _ _ h62 hVB71 (lv_sub hl30 [1, 2, 3, 4, 5, 6, 0] rfl)
                refine lv_if_ne (tgt := 61) hx hb dX1_weigh_54 (by decide) (fun c63 => ?_) (fun c63 => ?_)
                · have h64 := ieS c63 h27
                  clear h27 c63
                  refine lv_aload_n hx hb dX1_weigh_61 rfl (lv_at hl28 1 rfl) ?_
                  refine lv_iload hx hb dX1_weigh_62 (lv_at hl28 5 rfl) ?_
                  refine lv_iload_n hx hb dX1_weigh_64 rfl (lv_at hl28 4 rfl) ?_
                  refine lv_iconst (v := 1) hx hb dX1_weigh_65 (by decide) ?_
                  refine lv_isub hx hb dX1_weigh_66 ?_
                  refine lv_iload_n hx hb dX1_weigh_67 rfl (lv_at hl28 3 rfl) ?_
                  obtain ⟨r68_66, hc67, h68⟩ := cb1_s h64
                  clear h64
                  refine kgoiE (krunV (rest := []) X hVB32 [0, 1, 2] (c_X1_missesFrom l E _ a0 a1 a2 (w0_1) (w0_3) best__16 s_tens x4_15 (x3_2 - 1) p2 r68_66 hc67) mw_1238 kb_X1_missesFrom (ci := 1) rfl rfl (by decide) rfl rfl hl28.1 rfl (Nat.le_of_ble_eq_true rfl) dX1_weigh_68 (by decide)) X hVB32 [0, 1, 2] [] rfl rfl rfl (by decide) (fun u H locs hV69 => ?_)
                  have hV69 : kV E A s.heap H locs [(a0, .inr (1, [.ref a2, w0_1, .ref a1, w0_3])), (a1, .inl (E.2 0, 287, .inl best__16)), (a2, .inl (E.2 0, 40, .inl s_tens))] := hV69.sub [0, 1, 2] rfl rfl
                  clear hVB32
                  exact J71 r68_66 _ _ _ h68 hV69 (lv_sub hl28 [1, 2, 3, 4, 5, 0] rfl)
                · have h65 := itS c63 h27
                  clear h27 c63
                  refine lv_iconst (v := 1) hx hb dX1_weigh_57 (by decide) ?_
                  refine lv_goto (tgt := 71) hx hb dX1_weigh_58 (by decide) ?_
                  exact J71 1 _ _ _ h65 hVB32 (lv_sub hl28 [1, 2, 3, 4, 5, 0] rfl)
          exact L32 FU 39 g27_9 _ _ _ h12 hV13 (lv_sub hl14 [1, 2, 3, 4, 0] rfl)
        refine lv_if_ne (tgt := 26) hx hb dX1_weigh_19 (by decide) (fun c71 => ?_) (fun c71 => ?_)
        · have h72 := ieS c71 h6
          clear h6 c71
          refine lv_iconst (v := (-1)) hx hb dX1_weigh_26 (by decide) ?_
          exact J27 (-1) _ _ _ h72 hVB2 (lv_sub hlB2 [0, 1, 2, 3] rfl)
        · have h73 := itS c71 h6
          clear h6 c71
          refine lv_iconst (v := 1) hx hb dX1_weigh_22 (by decide) ?_
          refine lv_goto (tgt := 27) hx hb dX1_weigh_23 (by decide) ?_
          exact J27 1 _ _ _ h73 hVB2 (lv_sub hlB2 [0, 1, 2, 3] rfl)
  exact L2 FU 0 s_best _ _ _ h hV (lv_sub hl1 [1, 2, 3, 0] rfl)
abbrev r_X1_goesOn : Room := { frames := 2, cells := 0, slots := 0, locals := 47 }
set_option maxHeartbeats 4000000 in
set_option maxRecDepth 100000 in
theorem c_X1_goesOn (l : Launch) (E : kE) (sz : Nat) (a0 a1 a2 : Nat) (w0_1 : Value) (s_unseen : Int32) (s_best : Nat → Int32) (s_tens : Nat → Int32) (p1 : Int32) (p2 : Int32) (p3 : Int32) (p4 : Int32) (r : Int32) (h : f_X1_goesOn s_unseen s_best s_tens p1 p2 p3 p4 = some (r)) : kMi l yX1_goesOn cX1_goesOn 6 (some .boolean) r_X1_goesOn [.ref a0, .int p1, .int p2, .int p3, .int p4] E [(a0, .inr (1, [.ref a2, w0_1, .ref a1, .int s_unseen])), (a1, .inl (E.2 0, 287, .inl s_best)), (a2, .inl (E.2 0, 40, .inl s_tens))] sz 0 0 (fun x (_ : Unit) => x = r) (fun _ => [(a0, .inr (1, [.ref a2, w0_1, .ref a1, .int s_unseen])), (a1, .inl (E.2 0, 287, .inl s_best)), (a2, .inl (E.2 0, 40, .inl s_tens))]) := by
  refine kmeti rfl (Nat.le_of_ble_eq_true rfl) ?_
  intro p e s m args below meth c ls A Q X hV hret hl
  have X : kC p s m c cX1_goesOn 6 RX1 args E A := X
  have hx := X.1
  have hb := X.2.1
  have hl : lv_has ls 6 [(0, .ref a0), (1, .int p1), (2, .int p2), (3, .int p3), (4, .int p4)] := hl
  rw [f_X1_goesOn] at h
  refine lv_aload_n hx hb dX1_goesOn_0 rfl (lv_at hl 0 rfl) ?_
  refine lv_iload_n hx hb dX1_goesOn_1 rfl (lv_at hl 2 rfl) ?_
  refine lv_iload_n hx hb dX1_goesOn_2 rfl (lv_at hl 3 rfl) ?_
  refine lv_iload hx hb dX1_goesOn_3 (lv_at hl 4 rfl) ?_
  obtain ⟨r5_1, hc2, h3⟩ := cb1_s h
  clear h
  refine kgoiE (krunV (rest := []) X hV [0, 1, 2] (c_X1_missesFrom l E _ a0 a1 a2 (w0_1) (.int s_unseen) s_best s_tens p2 p3 p4 r5_1 hc2) mw_1238 kb_X1_missesFrom (ci := 1) rfl rfl (by decide) rfl rfl hl.1 rfl (Nat.le_of_ble_eq_true rfl) dX1_goesOn_5 (by decide)) X hV [0, 1, 2] [] rfl rfl rfl (by decide) (fun u H locs hV4 => ?_)
  have hV4 : kV E A s.heap H locs [(a0, .inr (1, [.ref a2, w0_1, .ref a1, .int s_unseen])), (a1, .inl (E.2 0, 287, .inl s_best)), (a2, .inl (E.2 0, 40, .inl s_tens))] := hV4.sub [0, 1, 2] rfl rfl
  clear hV
  refine lv_istore (lv' := [(5, .int r5_1), (0, .ref a0), (1, .int p1), (2, .int p2), (3, .int p3), (4, .int p4)]) hx hb dX1_goesOn_8 hl (by decide) rfl (fun ls hl6 => ?_)
  clear hl
  refine lv_iload hx hb dX1_goesOn_10 (lv_at hl6 0 rfl) ?_
  refine lv_iconst (v := (-1)) hx hb dX1_goesOn_12 (by decide) ?_
  refine lv_icmp_eq (tgt := 31) hx hb dX1_goesOn_13 (by decide) (fun c7 => ?_) (fun c7 => ?_)
  · have h8 := itS c7 h3
    clear h3 c7
    refine lv_iconst (v := 0) hx hb dX1_goesOn_31 (by decide) ?_
    have q10 := tup1_s h8
    clear h8
    exact hret _ () _ _ _ _ q10 rfl hV4 dX1_goesOn_32
  · have h9 := ieS c7 h3
    clear h3 c7
    refine lv_iload_n hx hb dX1_goesOn_16 rfl (lv_at hl6 2 rfl) ?_
    refine lv_iload hx hb dX1_goesOn_17 (lv_at hl6 0 rfl) ?_
    refine lv_imul hx hb dX1_goesOn_19 ?_
    refine lv_aload_n hx hb dX1_goesOn_20 rfl (lv_at hl6 1 rfl) ?_
    refine kget X hV4 (ci := 1) inlX1 rfl 0 rfl 3 (by decide) mw_135 rfl dX1_goesOn_21 ?_
    refine lv_icmp_ne (tgt := 31) hx hb dX1_goesOn_24 (by decide) (fun c11 => ?_) (fun c11 => ?_)
    · have h12 := ieS c11 h9
      clear h9 c11
      refine lv_iconst (v := 0) hx hb dX1_goesOn_31 (by decide) ?_
      have q14 := tup1_s h12
      clear h12
      exact hret _ () _ _ _ _ q14 rfl hV4 dX1_goesOn_32
    · have h13 := itS c11 h9
      clear h9 c11
      refine lv_iconst (v := 1) hx hb dX1_goesOn_27 (by decide) ?_
      refine lv_goto (tgt := 32) hx hb dX1_goesOn_28 (by decide) ?_
      have q15 := tup1_s h13
      clear h13
      exact hret _ () _ _ _ _ q15 rfl hV4 dX1_goesOn_32
abbrev r_X1_choose : Room := { frames := 3, cells := 0, slots := 0, locals := 74 }
set_option maxHeartbeats 4000000 in
set_option maxRecDepth 100000 in
theorem c_X1_choose (l : Launch) (E : kE) (sz : Nat) (a0 a1 a2 a3 : Nat) (s_unseen : Int32) (s_best : Nat → Int32) (s_chosen : Nat → Int32) (s_tens : Nat → Int32) (p1 : Int32) (p2 : Int32) (o_unseen : Int32) (o_best : Nat → Int32) (o_chosen : Nat → Int32) (h : f_X1_choose s_unseen s_best s_chosen s_tens p1 p2 = some (o_unseen, o_best, o_chosen)) : kMv l yX1_choose cX1_choose 7 r_X1_choose [.ref a0, .int p1, .int p2] E [(a0, .inr (1, [.ref a3, .ref a2, .ref a1, .int s_unseen])), (a1, .inl (E.2 0, 287, .inl s_best)), (a2, .inl (E.2 0, 6, .inl s_chosen)), (a3, .inl (E.2 0, 40, .inl s_tens))] sz 0 0 (fun (_ : Unit) => True) (fun _ => [(a0, .inr (1, [.ref a3, .ref a2, .ref a1, .int o_unseen])), (a1, .inl (E.2 0, 287, .inl o_best)), (a2, .inl (E.2 0, 6, .inl o_chosen)), (a3, .inl (E.2 0, 40, .inl s_tens))]) := by
  refine kmetv rfl (Nat.le_of_ble_eq_true rfl) ?_
  intro p e s m args below meth c ls A Q X hnm hV hret hl
  have X : kC p s m c cX1_choose 7 RX1 args E A := X
  have hx := X.1
  have hb := X.2.1
  have hl : lv_has ls 7 [(0, .ref a0), (1, .int p1), (2, .int p2)] := hl
  rw [f_X1_choose] at h
  refine lv_aload_n hx hb dX1_choose_0 rfl (lv_at hl 0 rfl) ?_
  refine lv_iload_n hx hb dX1_choose_1 rfl (lv_at hl 1 rfl) ?_
  refine lv_iload_n hx hb dX1_choose_2 rfl (lv_at hl 2 rfl) ?_
  obtain ⟨o_best3_1, hc2, h3⟩ := cb1_s h
  clear h
  refine kgov (krunV (rest := []) X hV [0, 1, 3] (c_X1_weigh l E _ a0 a1 a3 (.ref a2) (.int s_unseen) s_best s_tens p1 p2 o_best3_1 hc2) mw_1234 kb_X1_weigh (ci := 1) rfl rfl (by decide) rfl rfl hl.1 rfl (Nat.le_of_ble_eq_true rfl) dX1_choose_3 (by decide)) X hV [0, 1, 3] [2] rfl rfl rfl (by decide) (fun u H locs hp5 hV4 => ?_)
  have hV4 : kV E A s.heap H locs [(a0, .inr (1, [.ref a3, .ref a2, .ref a1, .int s_unseen])), (a1, .inl (E.2 0, 287, .inl o_best3_1)), (a2, .inl (E.2 0, 6, .inl s_chosen)), (a3, .inl (E.2 0, 40, .inl s_tens))] := hV4.sub [1, 2, 0, 3] rfl rfl
  clear hV
  refine lv_aload_n hx hb dX1_choose_6 rfl (lv_at hl 0 rfl) ?_
  refine lv_aload_n hx hb dX1_choose_7 rfl (lv_at hl 0 rfl) ?_
  refine kget X hV4 (ci := 1) inlX1 rfl 0 rfl 2 (by decide) mw_134 rfl dX1_choose_8 ?_
  refine lv_iload_n hx hb dX1_choose_11 rfl (lv_at hl 1 rfl) ?_
  refine lv_bipush (v := 41) hx hb dX1_choose_12 (by decide) ?_
  refine lv_imul hx hb dX1_choose_14 ?_
  obtain ⟨hi7, v15_6, e8, h9⟩ := rdI_s h3
  clear h3
  refine kiald X hV4 1 rfl hi7 e8 dX1_choose_15 ?_
  clear hi7 e8
  refine kput X hV4 (ci := 1) inlX1 rfl tyX1 tyX1_ok nmX1 0 rfl 3 (by decide) mw_135 rfl rfl rfl (Nat.le_of_ble_eq_true rfl) dX1_choose_16 (fun H locs hV10 => ?_)
  have hV10 : kV E A s.heap H locs [(a0, .inr (1, [.ref a3, .ref a2, .ref a1, .int v15_6])), (a1, .inl (E.2 0, 287, .inl o_best3_1)), (a2, .inl (E.2 0, 6, .inl s_chosen)), (a3, .inl (E.2 0, 40, .inl s_tens))] := hV10
  clear hV4
  refine lv_iconst (v := 1) hx hb dX1_choose_19 (by decide) ?_
  refine lv_istore_n (lv' := [(3, .int 1), (0, .ref a0), (1, .int p1), (2, .int p2)]) hx hb dX1_choose_20 rfl hl (by decide) rfl (fun ls hl11 => ?_)
  clear hl
  refine lv_iconst (v := 0) hx hb dX1_choose_21 (by decide) ?_
  refine lv_istore (lv' := [(4, .int 0), (3, .int 1), (0, .ref a0), (1, .int p1), (2, .int p2)]) hx hb dX1_choose_22 hl11 (by decide) rfl (fun ls hl12 => ?_)
  clear hl11
  refine lv_iconst (v := 0) hx hb dX1_choose_24 (by decide) ?_
  refine lv_istore (lv' := [(5, .int 0), (4, .int 0), (3, .int 1), (0, .ref a0), (1, .int p1), (2, .int p2)]) hx hb dX1_choose_25 hl12 (by decide) rfl (fun ls hl13 => ?_)
  clear hl12
  have L27 : ∀ (n27 : Nat) (x3_14 : Int32) (x4_15 : Int32) (x5_16 : Int32) (chosen__17 : Nat → Int32) (H : Heap) (locs : List Loc) (ls : Array Slot), (f_X1_choose_L27 s_tens p1 p2 o_best3_1 v15_6  n27) x3_14 x4_15 x5_16 chosen__17 = some (o_unseen, o_best, o_chosen) → kV E A s.heap H locs [(a0, .inr (1, [.ref a3, .ref a2, .ref a1, .int v15_6])), (a1, .inl (E.2 0, 287, .inl o_best3_1)), (a2, .inl (E.2 0, 6, .inl chosen__17)), (a3, .inl (E.2 0, 40, .inl s_tens))] → lv_has ls 7 [(0, .ref a0), (1, .int p1), (2, .int p2), (3, .int x3_14), (4, .int x4_15), (5, .int x5_16)] → W p l e r_X1_choose s m args below meth c H locs 0 0 Q (F0 m 27 ls []) := by
    intro n27
    induction n27 with
    | zero =>
      intro x3_14 x4_15 x5_16 chosen__17 H locs ls hB27 hVB27 hlB27
      rw [f_X1_choose_L27] at hB27
      exact nomatch hB27
    | succ n27 ih27 =>
      intro x3_14 x4_15 x5_16 chosen__17 H locs ls hB27 hVB27 hlB27
      rw [f_X1_choose_L27] at hB27
      refine lv_iload hx hb dX1_choose_27 (lv_at hlB27 5 rfl) ?_
      refine lv_iload_n hx hb dX1_choose_29 rfl (lv_at hlB27 1 rfl) ?_
      refine lv_icmp_ge (tgt := 106) hx hb dX1_choose_30 (by decide) (fun c18 => ?_) (fun c18 => ?_)
      · have h19 := itS c18 hB27
        clear hB27 c18
        obtain ⟨q21, q22, q23⟩ := tup3_s h19
        clear h19
        exact hret () _ _ _ _ trivial (by rw [← q21, ← q22, ← q23]; exact hVB27) dX1_choose_106
      · have h20 := ieS c18 hB27
        clear hB27 c18
        refine lv_iload_n hx hb dX1_choose_33 rfl (lv_at hlB27 1 rfl) ?_
        refine lv_iload hx hb dX1_choose_34 (lv_at hlB27 5 rfl) ?_
        refine lv_isub hx hb dX1_choose_36 ?_
        refine lv_iconst (v := 1) hx hb dX1_choose_37 (by decide) ?_
        refine lv_isub hx hb dX1_choose_38 ?_
        obtain ⟨v39_24, e25, h26⟩ := nmI_s h20
        clear h20
        refine ktopi e25 ?_
        clear e25
        refine lv_istore (lv' := [(6, .int v39_24), (0, .ref a0), (1, .int p1), (2, .int p2), (3, .int x3_14), (4, .int x4_15), (5, .int x5_16)]) hx hb dX1_choose_39 hlB27 (by decide) rfl (fun ls hl27 => ?_)
        clear hlB27
        have J67 : ∀ (x4_28 : Int32) (H : Heap) (locs : List Loc) (ls : Array Slot), (f_X1_choose_J67 s_tens p2 x3_14 x5_16 chosen__17 (f_X1_choose_L27 s_tens p1 p2 o_best3_1 v15_6  n27)) x4_28 = some (o_unseen, o_best, o_chosen) → kV E A s.heap H locs [(a0, .inr (1, [.ref a3, .ref a2, .ref a1, .int v15_6])), (a1, .inl (E.2 0, 287, .inl o_best3_1)), (a2, .inl (E.2 0, 6, .inl chosen__17)), (a3, .inl (E.2 0, 40, .inl s_tens))] → lv_has ls 7 [(0, .ref a0), (1, .int p1), (2, .int p2), (3, .int x3_14), (4, .int x4_28), (5, .int x5_16)] → W p l e r_X1_choose s m args below meth c H locs 0 0 Q (F0 m 67 ls []) := by
          intro x4_28 H locs ls hB67 hVB67 hlB67
          rw [f_X1_choose_J67] at hB67
          refine lv_aload_n hx hb dX1_choose_67 rfl (lv_at hlB67 0 rfl) ?_
          refine kget X hVB67 (ci := 1) inlX1 rfl 0 rfl 1 (by decide) mw_133 rfl dX1_choose_68 ?_
          refine lv_iload hx hb dX1_choose_71 (lv_at hlB67 5 rfl) ?_
          refine lv_iload hx hb dX1_choose_73 (lv_at hlB67 4 rfl) ?_
          obtain ⟨hi30, g75_29, e31, h32⟩ := wrI_s hB67
          clear hB67
          refine kiast X hVB67 2 rfl hi30 e31 dX1_choose_75 (fun H locs hV33 => ?_)
          have hV33 : kV E A s.heap H locs [(a0, .inr (1, [.ref a3, .ref a2, .ref a1, .int v15_6])), (a1, .inl (E.2 0, 287, .inl o_best3_1)), (a2, .inl (E.2 0, 6, .inl g75_29)), (a3, .inl (E.2 0, 40, .inl s_tens))] := hV33
          clear hVB67 hi30 e31
          refine lv_iload_n hx hb dX1_choose_76 rfl (lv_at hlB67 3 rfl) ?_
          refine lv_bipush (v := 10) hx hb dX1_choose_77 (by decide) ?_
          refine lv_aload_n hx hb dX1_choose_79 rfl (lv_at hlB67 0 rfl) ?_
          refine kget X hV33 (ci := 1) inlX1 rfl 0 rfl 0 (by decide) mw_132 rfl dX1_choose_80 ?_
          refine lv_iload hx hb dX1_choose_83 (lv_at hlB67 4 rfl) ?_
          obtain ⟨hi35, v85_34, e36, h37⟩ := rdI_s h32
          clear h32
          refine kiald X hV33 3 rfl hi35 e36 dX1_choose_85 ?_
          clear hi35 e36
          refine lv_isub hx hb dX1_choose_86 ?_
          refine lv_imul hx hb dX1_choose_87 ?_
          obtain ⟨v88_38, e39, h40⟩ := nmI_s h37
          clear h37
          refine ktopi e39 ?_
          clear e39
          refine lv_istore_n (lv' := [(3, .int v88_38), (0, .ref a0), (1, .int p1), (2, .int p2), (4, .int x4_28), (5, .int x5_16)]) hx hb dX1_choose_88 rfl hlB67 (by decide) rfl (fun ls hl41 => ?_)
          clear hlB67
          refine lv_bipush (v := 39) hx hb dX1_choose_89 (by decide) ?_
          refine lv_iload hx hb dX1_choose_91 (lv_at hl41 4 rfl) ?_
          refine lv_iload_n hx hb dX1_choose_93 rfl (lv_at hl41 3 rfl) ?_
          refine lv_iadd hx hb dX1_choose_94 ?_
          refine va_mmin hx hb (X.2.2.1.trans hl41.1.symm) X.2.2.2.1 (X.2.2.2.2.1 _ mw_1233) (X.2.2.2.2.1 _ mw_280) (X.2.2.2.2.1 _ mw_281) (X.2.2.2.2.1 _ mw_282) (by decide) (Nat.le_of_ble_eq_true rfl) (by decide) (by decide) dX1_choose_95 ?_
          obtain ⟨v98_42, e43, h44⟩ := nmI_s h40
          clear h40
          refine ktopi e43 ?_
          clear e43
          refine lv_istore (lv' := [(4, .int v98_42), (3, .int v88_38), (0, .ref a0), (1, .int p1), (2, .int p2), (5, .int x5_16)]) hx hb dX1_choose_98 hl41 (by decide) rfl (fun ls hl45 => ?_)
          clear hl41
          obtain ⟨v100_46, e47, h48⟩ := nmI_s h44
          clear h44
          refine lv_iinc (v := v100_46) (lv' := [(5, .int v100_46), (4, .int v98_42), (3, .int v88_38), (0, .ref a0), (1, .int p1), (2, .int p2)]) hx hb dX1_choose_100 hl45 (k := 5) rfl (by rw [e47]; rfl) (by decide) rfl (fun ls hl49 => ?_)
          clear hl45 e47
          refine lv_goto (tgt := 27) hx hb dX1_choose_103 (by decide) ?_
          exact ih27 v88_38 v98_42 v100_46 g75_29 _ _ _ h48 hV33 (lv_sub hl49 [3, 4, 5, 2, 1, 0] rfl)
        have L41 : ∀ (n41 : Nat) (x4_50 : Int32) (H : Heap) (locs : List Loc) (ls : Array Slot), (f_X1_choose_L41 s_tens p2 o_best3_1 v15_6 x3_14 v39_24 (f_X1_choose_J67 s_tens p2 x3_14 x5_16 chosen__17 (f_X1_choose_L27 s_tens p1 p2 o_best3_1 v15_6  n27)) n41) x4_50 = some (o_unseen, o_best, o_chosen) → kV E A s.heap H locs [(a0, .inr (1, [.ref a3, .ref a2, .ref a1, .int v15_6])), (a1, .inl (E.2 0, 287, .inl o_best3_1)), (a2, .inl (E.2 0, 6, .inl chosen__17)), (a3, .inl (E.2 0, 40, .inl s_tens))] → lv_has ls 7 [(0, .ref a0), (1, .int p1), (2, .int p2), (3, .int x3_14), (4, .int x4_50), (5, .int x5_16), (6, .int v39_24)] → W p l e r_X1_choose s m args below meth c H locs 0 0 Q (F0 m 41 ls []) := by
          intro n41
          induction n41 with
          | zero =>
            intro x4_50 H locs ls hB41 hVB41 hlB41
            rw [f_X1_choose_L41] at hB41
            exact nomatch hB41
          | succ n41 ih41 =>
            intro x4_50 H locs ls hB41 hVB41 hlB41
            rw [f_X1_choose_L41] at hB41
            refine lv_iload hx hb dX1_choose_41 (lv_at hlB41 4 rfl) ?_
            refine lv_bipush (v := 39) hx hb dX1_choose_43 (by decide) ?_
            refine lv_icmp_ge (tgt := 67) hx hb dX1_choose_45 (by decide) (fun c51 => ?_) (fun c51 => ?_)
            · have h52 := itS c51 hB41
              clear hB41 c51
              exact J67 x4_50 _ _ _ h52 hVB41 (lv_sub hlB41 [0, 1, 2, 3, 4, 5] rfl)
            · have h53 := ieS c51 hB41
              clear hB41 c51
              refine lv_aload_n hx hb dX1_choose_48 rfl (lv_at hlB41 0 rfl) ?_
              refine lv_iload_n hx hb dX1_choose_49 rfl (lv_at hlB41 3 rfl) ?_
              refine lv_iload hx hb dX1_choose_50 (lv_at hlB41 4 rfl) ?_
              refine lv_iload hx hb dX1_choose_52 (lv_at hlB41 6 rfl) ?_
              refine lv_iload_n hx hb dX1_choose_54 rfl (lv_at hlB41 2 rfl) ?_
              obtain ⟨r55_54, hc55, h56⟩ := cb1_s h53
              clear h53
              refine kgoiE (krunV (rest := []) X hVB41 [0, 1, 3] (c_X1_goesOn l E _ a0 a1 a3 (.ref a2) v15_6 o_best3_1 s_tens x3_14 x4_50 v39_24 p2 r55_54 hc55) mw_1242 kb_X1_goesOn (ci := 1) rfl rfl (by decide) rfl rfl hlB41.1 rfl (Nat.le_of_ble_eq_true rfl) dX1_choose_55 (by decide)) X hVB41 [0, 1, 3] [2] rfl rfl rfl (by decide) (fun u H locs hV57 => ?_)
              have hV57 : kV E A s.heap H locs [(a0, .inr (1, [.ref a3, .ref a2, .ref a1, .int v15_6])), (a1, .inl (E.2 0, 287, .inl o_best3_1)), (a2, .inl (E.2 0, 6, .inl chosen__17)), (a3, .inl (E.2 0, 40, .inl s_tens))] := hV57.sub [1, 2, 0, 3] rfl rfl
              clear hVB41
              refine lv_if_ne (tgt := 67) hx hb dX1_choose_58 (by decide) (fun c59 => ?_) (fun c59 => ?_)
              · have h60 := ieS c59 h56
                clear h56 c59
                exact J67 x4_50 _ _ _ h60 hV57 (lv_sub hlB41 [0, 1, 2, 3, 4, 5] rfl)
              · have h61 := itS c59 h56
                clear h56 c59
                obtain ⟨v61_62, e63, h64⟩ := nmI_s h61
                clear h61
                refine lv_iinc (v := v61_62) (lv' := [(4, .int v61_62), (0, .ref a0), (1, .int p1), (2, .int p2), (3, .int x3_14), (5, .int x5_16), (6, .int v39_24)]) hx hb dX1_choose_61 hlB41 (k := 4) rfl (by rw [e63]; rfl) (by decide) rfl (fun ls hl65 => ?_)
                clear hlB41 e63
                refine lv_goto (tgt := 41) hx hb dX1_choose_64 (by decide) ?_
                exact ih41 v61_62 _ _ _ h64 hV57 (lv_sub hl65 [1, 2, 3, 4, 0, 5, 6] rfl)
        exact L41 FU x4_15 _ _ _ h26 hVB27 (lv_sub hl27 [1, 2, 3, 4, 5, 6, 0] rfl)
  exact L27 FU 1 0 0 s_chosen _ _ _ h9 hV10 (lv_sub hl13 [3, 4, 5, 2, 1, 0] rfl)
