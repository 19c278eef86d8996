abbrev r_X11_source : Room := { frames := 2, cells := 1, slots := 7, locals := 48 }
set_option maxHeartbeats 4000000 in
set_option maxRecDepth 100000 in
theorem c_X11_source (l : Launch) (E : kE) (sz : Nat) (a0 a1 a2 a3 : Nat) (w0_0 w0_1 w0_4 w0_5 w0_6 w0_7 w0_8 w1_0 w1_1 w1_2 w1_3 w1_4 w1_5 w2_1 w2_3 : Value) (s_page_day : Int32) (s_sky_many : Int32) (s_sky_sources : Nat → Option Nat) (p1 : Int32) (p2 : Int32) (p3 : Int32) (p4 : Int32) (p5 : Int32) (r : Int32) (o_page_day : Int32) (o_sky_many : Int32) (h : f_X11_source s_page_day s_sky_many p1 p2 p3 p4 p5 = some (r, o_page_day, o_sky_many)) : kMi l yX11_source cX11_source 7 (some .int) r_X11_source [.ref a0, .int p1, .int p2, .int p3, .int p4, .int p5] E [(a0, .inr (11, [w0_0, w0_1, .ref a2, .ref a1, w0_4, w0_5, w0_6, w0_7, w0_8])), (a1, .inr (4, [w1_0, w1_1, w1_2, w1_3, w1_4, w1_5, .int s_page_day])), (a2, .inr (7, [.ref a3, w2_1, .int s_sky_many, w2_3])), (a3, .inl (E.2 3, 10, .inr (.inr (.inr (.inr s_sky_sources)))))] sz 1 7 (fun x (_ : Nat → Option Nat) => x = r) (fun u => [(a0, .inr (11, [w0_0, w0_1, .ref a2, .ref a1, w0_4, w0_5, w0_6, w0_7, w0_8])), (a1, .inr (4, [w1_0, w1_1, w1_2, w1_3, w1_4, w1_5, .int o_page_day])), (a2, .inr (7, [.ref a3, w2_1, .int o_sky_many, w2_3])), (a3, .inl (E.2 3, 10, .inr (.inr (.inr (.inr u)))))]) := by
  refine kmeti rfl (Nat.le_of_ble_eq_true rfl) ?_
  intro p e s m args below meth c ls A Q X hV hret hl
  have X : kC p s m c cX11_source 7 RX11 args E A := X
  have hx := X.1
  have hb := X.2.1
  have hl : lv_has ls 7 [(0, .ref a0), (1, .int p1), (2, .int p2), (3, .int p3), (4, .int p4), (5, .int p5)] := hl
  rw [f_X11_source] at h
  refine lv_iload_n hx hb dX11_source_0 rfl (lv_at hl 2 rfl) ?_
  obtain ⟨r1_1, hc2, h3⟩ := cb1_s h
  clear h
  refine kgoiE (krunS (rest := []) X hV [] (c_X11_isMinute l E _ p2 r1_1 hc2) mw_184 kb_X11_isMinute (by decide) rfl rfl hl.1 rfl (Nat.le_of_ble_eq_true rfl) dX11_source_1 (by decide)) X hV [] [0, 1, 2, 3] rfl rfl rfl (by decide) (fun u H locs hV4 => ?_)
  have hV4 : kV E A s.heap H locs [(a0, .inr (11, [w0_0, w0_1, .ref a2, .ref a1, w0_4, w0_5, w0_6, w0_7, w0_8])), (a1, .inr (4, [w1_0, w1_1, w1_2, w1_3, w1_4, w1_5, .int s_page_day])), (a2, .inr (7, [.ref a3, w2_1, .int s_sky_many, w2_3])), (a3, .inl (E.2 3, 10, .inr (.inr (.inr (.inr s_sky_sources)))))] := hV4.sub [0, 1, 2, 3] rfl rfl
  clear hV
  have J41 : ∀ (t0_6 : Int32) (H : Heap) (locs : List Loc) (ls : Array Slot), (f_X11_source_J41 s_page_day s_sky_many p1 ) t0_6 = some (r, o_page_day, o_sky_many) → kV E A s.heap H locs [(a0, .inr (11, [w0_0, w0_1, .ref a2, .ref a1, w0_4, w0_5, w0_6, w0_7, w0_8])), (a1, .inr (4, [w1_0, w1_1, w1_2, w1_3, w1_4, w1_5, .int s_page_day])), (a2, .inr (7, [.ref a3, w2_1, .int s_sky_many, w2_3])), (a3, .inl (E.2 3, 10, .inr (.inr (.inr (.inr s_sky_sources)))))] → lv_has ls 7 [(0, .ref a0), (1, .int p1), (2, .int p2), (3, .int p3), (4, .int p4), (5, .int p5)] → W p l e r_X11_source s m args below meth c H locs 0 0 Q (F0 m 41 ls [.int t0_6]) := by
    intro t0_6 H locs ls hB41 hVB41 hlB41
    rw [f_X11_source_J41] at hB41
    refine lv_istore (lv' := [(6, .int t0_6), (0, .ref a0), (1, .int p1), (2, .int p2), (3, .int p3), (4, .int p4), (5, .int p5)]) hx hb dX11_source_41 hlB41 (by decide) rfl (fun ls hl7 => ?_)
    clear hlB41
    refine lv_iload hx hb dX11_source_43 (lv_at hl7 0 rfl) ?_
    refine lv_if_eq (tgt := 60) hx hb dX11_source_45 (by decide) (fun c8 => ?_) (fun c8 => ?_)
    · have h9 := itS c8 hB41
      clear hB41 c8
      refine lv_iconst (v := (-1)) hx hb dX11_source_60 (by decide) ?_
      obtain ⟨q11, q12, q13⟩ := tup3_s h9
      clear h9
      refine W.widen (k := 1) (n := 7) (by decide) (by decide) ?_
      exact hret _ s_sky_sources _ _ _ _ q11 rfl (by rw [← q12, ← q13]; exact hVB41) dX11_source_61
    · have h10 := ieS c8 hB41
      clear hB41 c8
      refine lv_aload_n hx hb dX11_source_48 rfl (lv_at hl7 1 rfl) ?_
      refine kget X hVB41 (ci := 11) inlX11 rfl 0 rfl 2 (by decide) mw_23 rfl dX11_source_49 ?_
      refine kget X hVB41 (ci := 7) inlX7 rfl 2 rfl 2 (by decide) mw_180 rfl dX11_source_52 ?_
      refine lv_bipush (v := 10) hx hb dX11_source_55 (by decide) ?_
      refine lv_icmp_lt (tgt := 62) hx hb dX11_source_57 (by decide) (fun c14 => ?_) (fun c14 => ?_)
      · have h15 := itS c14 h10
        clear h10 c14
        refine lv_aload_n hx hb dX11_source_62 rfl (lv_at hl7 1 rfl) ?_
        refine kget X hVB41 (ci := 11) inlX11 rfl 0 rfl 3 (by decide) mw_27 rfl dX11_source_63 ?_
        obtain ⟨o_day66_17, hc18, h19⟩ := cb1_s h15
        clear h15
        refine kgov (krunV (rest := []) X hVB41 [1] (c_X4_forget l E _ a1 (w1_0) (w1_1) (w1_2) (w1_3) (w1_4) (w1_5) s_page_day o_day66_17 hc18) mw_193 kb_X4_forget (ci := 4) rfl rfl (by decide) rfl rfl hl7.1 rfl (Nat.le_of_ble_eq_true rfl) dX11_source_66 (by decide)) X hVB41 [1] [0, 2, 3] rfl rfl rfl (by decide) (fun u H locs hp21 hV20 => ?_)
        have hV20 : kV E A s.heap H locs [(a0, .inr (11, [w0_0, w0_1, .ref a2, .ref a1, w0_4, w0_5, w0_6, w0_7, w0_8])), (a1, .inr (4, [w1_0, w1_1, w1_2, w1_3, w1_4, w1_5, .int o_day66_17])), (a2, .inr (7, [.ref a3, w2_1, .int s_sky_many, w2_3])), (a3, .inl (E.2 3, 10, .inr (.inr (.inr (.inr s_sky_sources)))))] := hV20.sub [0, 3, 1, 2] rfl rfl
        clear hVB41
        refine lv_aload_n hx hb dX11_source_69 rfl (lv_at hl7 1 rfl) ?_
        refine kget X hV20 (ci := 11) inlX11 rfl 0 rfl 2 (by decide) mw_23 rfl dX11_source_70 ?_
        refine knew X hV20 (ci := 8) (fs := [.int 0, .int 0, .int 0, .int 0, .int 0, .int 0, .null]) inlX8 rfl tyX8 tyX8_ok mw_181 mw_182 mw_183 (fun j hj => by rcases (show j = 0 ∨ j = 1 ∨ j = 2 ∨ j = 3 ∨ j = 4 ∨ j = 5 ∨ j = 6 by omega) with rfl | rfl | rfl | rfl | rfl | rfl | rfl <;> rfl) (by decide) (by decide) dX11_source_73 (fun q73 H hV22 => ?_)
        have hV22 : kV E A s.heap H _ [(a0, .inr (11, [w0_0, w0_1, .ref a2, .ref a1, w0_4, w0_5, w0_6, w0_7, w0_8])), (a1, .inr (4, [w1_0, w1_1, w1_2, w1_3, w1_4, w1_5, .int o_day66_17])), (a2, .inr (7, [.ref a3, w2_1, .int s_sky_many, w2_3])), (a3, .inl (E.2 3, 10, .inr (.inr (.inr (.inr s_sky_sources))))), (q73, .inr (8, [.int 0, .int 0, .int 0, .int 0, .int 0, .int 0, .null]))] := hV22
        clear hV20
        refine W.widen (k := 1) (n := 7) (by decide) (by decide) ?_
        refine lv_dup hx hb dX11_source_76 rfl ?_
        refine lv_aload_n hx hb dX11_source_77 rfl (lv_at hl7 1 rfl) ?_
        refine kget X hV22 (ci := 11) inlX11 rfl 0 rfl 2 (by decide) mw_23 rfl dX11_source_78 ?_
        refine kget X hV22 (ci := 7) inlX7 rfl 2 rfl 2 (by decide) mw_180 rfl dX11_source_81 ?_
        refine lv_iload_n hx hb dX11_source_84 rfl (lv_at hl7 2 rfl) ?_
        refine lv_iload_n hx hb dX11_source_85 rfl (lv_at hl7 3 rfl) ?_
        refine lv_iload_n hx hb dX11_source_86 rfl (lv_at hl7 4 rfl) ?_
        refine lv_iload hx hb dX11_source_87 (lv_at hl7 5 rfl) ?_
        refine lv_iload hx hb dX11_source_89 (lv_at hl7 6 rfl) ?_
        obtain ⟨hb23, h24⟩ := bo_z h19
        clear h19
        refine kgov (krunI (rest := [.ref q73, .ref a2]) X hV22 [4] (c_X8_init l E _ q73 s_sky_many p1 p2 p3 p4 p5 hb23) mw_197 kb_X8_init (by decide) rfl rfl hl7.1 rfl (Nat.le_of_ble_eq_true rfl) dX11_source_91 (by decide)) X hV22 [4] [0, 1, 2, 3] rfl rfl rfl (by decide) (fun u H locs hp26 hV25 => ?_)
        have hV25 : kV E A s.heap H locs [(a0, .inr (11, [w0_0, w0_1, .ref a2, .ref a1, w0_4, w0_5, w0_6, w0_7, w0_8])), (a1, .inr (4, [w1_0, w1_1, w1_2, w1_3, w1_4, w1_5, .int o_day66_17])), (a2, .inr (7, [.ref a3, w2_1, .int s_sky_many, w2_3])), (a3, .inl (E.2 3, 10, .inr (.inr (.inr (.inr s_sky_sources))))), (q73, .inr (8, [.int s_sky_many, .int p1, .int p2, .int p3, .int p4, .int p5, .null]))] := hV25.sub [0, 1, 2, 3, 4] rfl rfl
        clear hV22
        obtain ⟨r94_27, o_many94_28, hc29, h30⟩ := cb2_s h24
        clear h24
        refine kgoiE (krunV (rest := []) X hV25 [2, 4, 3] (c_X7_add l E _ a2 q73 a3 (w2_1) (w2_3) (.int s_sky_many) (.int p1) (.int p2) (.int p3) (.int p4) (.int p5) (.null) s_sky_many s_sky_sources r94_27 o_many94_28 hc29) mw_208 kb_X7_add (ci := 7) rfl rfl (by decide) rfl rfl hl7.1 rfl (Nat.le_of_ble_eq_true rfl) dX11_source_94 (by decide)) X hV25 [2, 4, 3] [0, 1] rfl rfl rfl (by decide) (fun u33 H locs hV31 => ?_)
        have hV31 : kV E A s.heap H locs [(a0, .inr (11, [w0_0, w0_1, .ref a2, .ref a1, w0_4, w0_5, w0_6, w0_7, w0_8])), (a1, .inr (4, [w1_0, w1_1, w1_2, w1_3, w1_4, w1_5, .int o_day66_17])), (a2, .inr (7, [.ref a3, w2_1, .int o_many94_28, w2_3])), (a3, .inl (E.2 3, 10, .inr (.inr (.inr (.inr u33))))), (q73, .inr (8, [.int s_sky_many, .int p1, .int p2, .int p3, .int p4, .int p5, .null]))] := hV31.sub [0, 1, 2, 4, 3] rfl rfl
        clear hV25
        obtain ⟨q34, q35, q36⟩ := tup3_s h30
        clear h30
        exact hret _ u33 _ _ _ _ q34 rfl (by rw [← q35, ← q36]; exact (hV31.sub [0, 1, 2, 3] rfl rfl)) dX11_source_97
      · have h16 := ieS c14 h10
        clear h10 c14
        refine lv_iconst (v := (-1)) hx hb dX11_source_60 (by decide) ?_
        obtain ⟨q37, q38, q39⟩ := tup3_s h16
        clear h16
        refine W.widen (k := 1) (n := 7) (by decide) (by decide) ?_
        exact hret _ s_sky_sources _ _ _ _ q37 rfl (by rw [← q38, ← q39]; exact hVB41) dX11_source_61
  refine lv_if_eq (tgt := 40) hx hb dX11_source_4 (by decide) (fun c40 => ?_) (fun c40 => ?_)
  · have h41 := itS c40 h3
    clear h3 c40
    refine lv_iconst (v := 0) hx hb dX11_source_40 (by decide) ?_
    exact J41 0 _ _ _ h41 hV4 (lv_sub hl [0, 1, 2, 3, 4, 5] rfl)
  · have h42 := ieS c40 h3
    clear h3 c40
    refine lv_iload_n hx hb dX11_source_7 rfl (lv_at hl 3 rfl) ?_
    refine lv_iconst (v := 0) hx hb dX11_source_8 (by decide) ?_
    refine lv_bipush (v := 30) hx hb dX11_source_9 (by decide) ?_
    obtain ⟨r11_43, hc44, h45⟩ := cb1_s h42
    clear h42
    refine kgoiE (krunS (rest := []) X hV4 [] (c_X11_isWithin l E _ p3 0 30 r11_43 hc44) mw_187 kb_X11_isWithin (by decide) rfl rfl hl.1 rfl (Nat.le_of_ble_eq_true rfl) dX11_source_11 (by decide)) X hV4 [] [0, 1, 2, 3] rfl rfl rfl (by decide) (fun u H locs hV46 => ?_)
    have hV46 : kV E A s.heap H locs [(a0, .inr (11, [w0_0, w0_1, .ref a2, .ref a1, w0_4, w0_5, w0_6, w0_7, w0_8])), (a1, .inr (4, [w1_0, w1_1, w1_2, w1_3, w1_4, w1_5, .int s_page_day])), (a2, .inr (7, [.ref a3, w2_1, .int s_sky_many, w2_3])), (a3, .inl (E.2 3, 10, .inr (.inr (.inr (.inr s_sky_sources)))))] := hV46.sub [0, 1, 2, 3] rfl rfl
    clear hV4
    refine lv_if_eq (tgt := 40) hx hb dX11_source_14 (by decide) (fun c48 => ?_) (fun c48 => ?_)
    · have h49 := itS c48 h45
      clear h45 c48
      refine lv_iconst (v := 0) hx hb dX11_source_40 (by decide) ?_
      exact J41 0 _ _ _ h49 hV46 (lv_sub hl [0, 1, 2, 3, 4, 5] rfl)
    · have h50 := ieS c48 h45
      clear h45 c48
      refine lv_iload hx hb dX11_source_17 (lv_at hl 4 rfl) ?_
      obtain ⟨r19_51, hc52, h53⟩ := cb1_s h50
      clear h50
      refine kgoiE (krunS (rest := []) X hV46 [] (c_X11_isShape l E _ p4 r19_51 hc52) mw_190 kb_X11_isShape (by decide) rfl rfl hl.1 rfl (Nat.le_of_ble_eq_true rfl) dX11_source_19 (by decide)) X hV46 [] [0, 1, 2, 3] rfl rfl rfl (by decide) (fun u H locs hV54 => ?_)
      have hV54 : kV E A s.heap H locs [(a0, .inr (11, [w0_0, w0_1, .ref a2, .ref a1, w0_4, w0_5, w0_6, w0_7, w0_8])), (a1, .inr (4, [w1_0, w1_1, w1_2, w1_3, w1_4, w1_5, .int s_page_day])), (a2, .inr (7, [.ref a3, w2_1, .int s_sky_many, w2_3])), (a3, .inl (E.2 3, 10, .inr (.inr (.inr (.inr s_sky_sources)))))] := hV54.sub [0, 1, 2, 3] rfl rfl
      clear hV46
      refine lv_if_eq (tgt := 40) hx hb dX11_source_22 (by decide) (fun c56 => ?_) (fun c56 => ?_)
      · have h57 := itS c56 h53
        clear h53 c56
        refine lv_iconst (v := 0) hx hb dX11_source_40 (by decide) ?_
        exact J41 0 _ _ _ h57 hV54 (lv_sub hl [0, 1, 2, 3, 4, 5] rfl)
      · have h58 := ieS c56 h53
        clear h53 c56
        refine lv_iload hx hb dX11_source_25 (lv_at hl 5 rfl) ?_
        refine lv_iconst (v := 0) hx hb dX11_source_27 (by decide) ?_
        refine lv_bipush (v := 127) hx hb dX11_source_28 (by decide) ?_
        obtain ⟨r30_59, hc60, h61⟩ := cb1_s h58
        clear h58
        refine kgoiE (krunS (rest := []) X hV54 [] (c_X11_isWithin l E _ p5 0 127 r30_59 hc60) mw_187 kb_X11_isWithin (by decide) rfl rfl hl.1 rfl (Nat.le_of_ble_eq_true rfl) dX11_source_30 (by decide)) X hV54 [] [0, 1, 2, 3] rfl rfl rfl (by decide) (fun u H locs hV62 => ?_)
        have hV62 : kV E A s.heap H locs [(a0, .inr (11, [w0_0, w0_1, .ref a2, .ref a1, w0_4, w0_5, w0_6, w0_7, w0_8])), (a1, .inr (4, [w1_0, w1_1, w1_2, w1_3, w1_4, w1_5, .int s_page_day])), (a2, .inr (7, [.ref a3, w2_1, .int s_sky_many, w2_3])), (a3, .inl (E.2 3, 10, .inr (.inr (.inr (.inr s_sky_sources)))))] := hV62.sub [0, 1, 2, 3] rfl rfl
        clear hV54
        refine lv_if_eq (tgt := 40) hx hb dX11_source_33 (by decide) (fun c64 => ?_) (fun c64 => ?_)
        · have h65 := itS c64 h61
          clear h61 c64
          refine lv_iconst (v := 0) hx hb dX11_source_40 (by decide) ?_
          exact J41 0 _ _ _ h65 hV62 (lv_sub hl [0, 1, 2, 3, 4, 5] rfl)
        · have h66 := ieS c64 h61
          clear h61 c64
          refine lv_iconst (v := 1) hx hb dX11_source_36 (by decide) ?_
          refine lv_goto (tgt := 41) hx hb dX11_source_37 (by decide) ?_
          exact J41 1 _ _ _ h66 hV62 (lv_sub hl [0, 1, 2, 3, 4, 5] rfl)
