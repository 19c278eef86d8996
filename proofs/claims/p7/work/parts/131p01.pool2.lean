noncomputable def f_X11_count (G : kG) (s_blips_many : Int32) (s_nights_many : Int32) (s_notes_many : Int32) (s_sky_many : Int32) (s_sky_seed : Int32) (s_tape_length : Int32) (p1 : Int32) : Option (Int32) :=
    if p1 = 0 then (some (s_sky_many))
    else if p1 = 1 then (some (s_notes_many))
    else if p1 = 2 then (some (s_blips_many))
    else if p1 = 3 then (some (s_nights_many))
    else if p1 = 4 then (some (s_sky_seed))
    else if p1 = 5 then (some (s_tape_length))
    else (cb1 (f_X11_textCount G s_sky_many p1) fun r90_25 =>
      some (r90_25))
abbrev r_X11_count : Room := { frames := 3, cells := 0, slots := 0, locals := 65 }
set_option maxHeartbeats 4000000 in
set_option maxRecDepth 100000 in
theorem c_X11_count (l : Launch) (E : kE) (sz : Nat) (a0 a1 a2 a3 a4 a5 a6 a7 a8 : Nat) (w0_1 w0_3 w0_8 w1_0 w1_1 w1_3 w1_4 w1_5 w2_0 w2_1 w2_2 w2_3 w3_0 w3_1 w3_2 w3_3 w4_1 w5_0 : Value) (G : kG) (s_blips_many : Int32) (s_nights_many : Int32) (s_notes_many : Int32) (s_sky_many : Int32) (s_sky_seed : Int32) (s_tape_length : Int32) (p1 : Int32) (r : Int32) (h : f_X11_count G s_blips_many s_nights_many s_notes_many s_sky_many s_sky_seed s_tape_length p1 = some (r)) : kMi l yX11_count cX11_count 2 (some .int) r_X11_count [.ref a0, .int p1] E (([(a0, .inr (11, [.ref a5, w0_1, .ref a4, w0_3, .ref a6, .ref a3, .ref a1, .ref a2, w0_8])), (a1, .inr (0, [w1_0, w1_1, .int s_blips_many, w1_3, w1_4, w1_5])), (a2, .inr (2, [w2_0, w2_1, w2_2, w2_3, .ref a7, .int s_nights_many])), (a3, .inr (3, [w3_0, w3_1, w3_2, w3_3, .int s_notes_many])), (a4, .inr (7, [.ref a8, w4_1, .int s_sky_many, .int s_sky_seed])), (a5, .inr (9, [w5_0, .int s_tape_length])), (a6, .inl (E.2 4, 4, .inr (.inr (.inr (.inr ((kgW G))))))), (a7, .inl (E.2 4, 6, .inr (.inr (.inr (.inr ((kgT G))))))), (a8, .inl (E.2 3, 10, .inr (.inr (.inr (.inr ((kgA G)))))))] : va_W) ++ kpool E G) sz 0 0 (fun x (_ : Unit) => x = r) (fun _ => (([(a0, .inr (11, [.ref a5, w0_1, .ref a4, w0_3, .ref a6, .ref a3, .ref a1, .ref a2, w0_8])), (a1, .inr (0, [w1_0, w1_1, .int s_blips_many, w1_3, w1_4, w1_5])), (a2, .inr (2, [w2_0, w2_1, w2_2, w2_3, .ref a7, .int s_nights_many])), (a3, .inr (3, [w3_0, w3_1, w3_2, w3_3, .int s_notes_many])), (a4, .inr (7, [.ref a8, w4_1, .int s_sky_many, .int s_sky_seed])), (a5, .inr (9, [w5_0, .int s_tape_length])), (a6, .inl (E.2 4, 4, .inr (.inr (.inr (.inr ((kgW G))))))), (a7, .inl (E.2 4, 6, .inr (.inr (.inr (.inr ((kgT G))))))), (a8, .inl (E.2 3, 10, .inr (.inr (.inr (.inr ((kgA G)))))))] : va_W) ++ kpool E G)) := by
  refine kmeti rfl (Nat.le_of_ble_eq_true rfl) ?_
  intro p e s m args below meth c ls A Q X hV hret hl
  have X : kC p s m c cX11_count 2 RX11 args E A := X
  have hx := X.1
  have hb := X.2.1
  have hl : lv_has ls 2 [(0, .ref a0), (1, .int p1)] := hl
  rw [f_X11_count] at h
  refine lv_iload_n hx hb dX11_count_0 rfl (lv_at hl 1 rfl) ?_
  by_cases c1 : p1 = 0
  · have h2 := itS c1 h
    refine lv_tableIn (tgt := 40) (off := 39) hx hb dX11_count_1 (by rw [c1]; decide) (by rw [c1]; decide) (by rw [c1]; decide) (by decide) ?_
    clear h
    refine lv_aload_n hx hb dX11_count_40 rfl (lv_at hl 0 rfl) ?_
    refine kget X hV (ci := 11) inlX11 rfl 0 rfl 2 (by decide) mw_23 rfl dX11_count_41 ?_
    refine kget X hV (ci := 7) inlX7 rfl 4 rfl 2 (by decide) mw_180 rfl dX11_count_44 ?_
    have q3 := tup1_s h2
    clear h2
    exact hret _ () _ _ _ _ q3 rfl hV dX11_count_47
  · have h4 := ieS c1 h
    clear h
    by_cases c5 : p1 = 1
    · have h6 := itS c5 h4
      refine lv_tableIn (tgt := 48) (off := 47) hx hb dX11_count_1 (by rw [c5]; decide) (by rw [c5]; decide) (by rw [c5]; decide) (by decide) ?_
      clear h4
      refine lv_aload_n hx hb dX11_count_48 rfl (lv_at hl 0 rfl) ?_
      refine kget X hV (ci := 11) inlX11 rfl 0 rfl 5 (by decide) mw_33 rfl dX11_count_49 ?_
      refine kget X hV (ci := 3) inlX3 rfl 3 rfl 4 (by decide) mw_1328 rfl dX11_count_52 ?_
      have q7 := tup1_s h6
      clear h6
      exact hret _ () _ _ _ _ q7 rfl hV dX11_count_55
    · have h8 := ieS c5 h4
      clear h4
      by_cases c9 : p1 = 2
      · have h10 := itS c9 h8
        refine lv_tableIn (tgt := 56) (off := 55) hx hb dX11_count_1 (by rw [c9]; decide) (by rw [c9]; decide) (by rw [c9]; decide) (by decide) ?_
        clear h8
        refine lv_aload_n hx hb dX11_count_56 rfl (lv_at hl 0 rfl) ?_
        refine kget X hV (ci := 11) inlX11 rfl 0 rfl 6 (by decide) mw_37 rfl dX11_count_57 ?_
        refine kget X hV (ci := 0) inlX0 rfl 1 rfl 2 (by decide) mw_997 rfl dX11_count_60 ?_
        have q11 := tup1_s h10
        clear h10
        exact hret _ () _ _ _ _ q11 rfl hV dX11_count_63
      · have h12 := ieS c9 h8
        clear h8
        by_cases c13 : p1 = 3
        · have h14 := itS c13 h12
          refine lv_tableIn (tgt := 64) (off := 63) hx hb dX11_count_1 (by rw [c13]; decide) (by rw [c13]; decide) (by rw [c13]; decide) (by decide) ?_
          clear h12
          refine lv_aload_n hx hb dX11_count_64 rfl (lv_at hl 0 rfl) ?_
          refine kget X hV (ci := 11) inlX11 rfl 0 rfl 7 (by decide) mw_41 rfl dX11_count_65 ?_
          refine kget X hV (ci := 2) inlX2 rfl 2 rfl 5 (by decide) mw_1113 rfl dX11_count_68 ?_
          have q15 := tup1_s h14
          clear h14
          exact hret _ () _ _ _ _ q15 rfl hV dX11_count_71
        · have h16 := ieS c13 h12
          clear h12
          by_cases c17 : p1 = 4
          · have h18 := itS c17 h16
            refine lv_tableIn (tgt := 72) (off := 71) hx hb dX11_count_1 (by rw [c17]; decide) (by rw [c17]; decide) (by rw [c17]; decide) (by decide) ?_
            clear h16
            refine lv_aload_n hx hb dX11_count_72 rfl (lv_at hl 0 rfl) ?_
            refine kget X hV (ci := 11) inlX11 rfl 0 rfl 2 (by decide) mw_23 rfl dX11_count_73 ?_
            refine kget X hV (ci := 7) inlX7 rfl 4 rfl 3 (by decide) mw_231 rfl dX11_count_76 ?_
            have q19 := tup1_s h18
            clear h18
            exact hret _ () _ _ _ _ q19 rfl hV dX11_count_79
          · have h20 := ieS c17 h16
            clear h16
            by_cases c21 : p1 = 5
            · have h22 := itS c21 h20
              refine lv_tableIn (tgt := 80) (off := 79) hx hb dX11_count_1 (by rw [c21]; decide) (by rw [c21]; decide) (by rw [c21]; decide) (by decide) ?_
              clear h20
              refine lv_aload_n hx hb dX11_count_80 rfl (lv_at hl 0 rfl) ?_
              refine kget X hV (ci := 11) inlX11 rfl 0 rfl 0 (by decide) mw_15 rfl dX11_count_81 ?_
              refine kget X hV (ci := 9) inlX9 rfl 5 rfl 1 (by decide) mw_242 rfl dX11_count_84 ?_
              have q23 := tup1_s h22
              clear h22
              exact hret _ () _ _ _ _ q23 rfl hV dX11_count_87
            · have h24 := ieS c21 h20
              clear h20
              refine lv_tableOut (tgt := 88) hx hb dX11_count_1 (by have ec1 : ¬ p1.toInt = 0 := fun q => c1 (Int32.toInt_inj.mp (q.trans (by decide))); have ec5 : ¬ p1.toInt = 1 := fun q => c5 (Int32.toInt_inj.mp (q.trans (by decide))); have ec9 : ¬ p1.toInt = 2 := fun q => c9 (Int32.toInt_inj.mp (q.trans (by decide))); have ec13 : ¬ p1.toInt = 3 := fun q => c13 (Int32.toInt_inj.mp (q.trans (by decide))); have ec17 : ¬ p1.toInt = 4 := fun q => c17 (Int32.toInt_inj.mp (q.trans (by decide))); have ec21 : ¬ p1.toInt = 5 := fun q => c21 (Int32.toInt_inj.mp (q.trans (by decide))); omega) (by decide) ?_
              refine lv_aload_n hx hb dX11_count_88 rfl (lv_at hl 0 rfl) ?_
              refine lv_iload_n hx hb dX11_count_89 rfl (lv_at hl 1 rfl) ?_
              obtain ⟨r90_25, hc26, h27⟩ := cb1_s h24
              clear h24
              have hY28 : kV E A s.heap _ _ ((([(a0, .inr (11, [.ref a5, w0_1, .ref a4, w0_3, .ref a6, .ref a3, .ref a1, .ref a2, w0_8])), (a2, .inr (2, [w2_0, w2_1, w2_2, w2_3, .ref a7, .int s_nights_many])), (a4, .inr (7, [.ref a8, w4_1, .int s_sky_many, .int s_sky_seed])), (a6, .inl (E.2 4, 4, .inr (.inr (.inr (.inr ((kgW G))))))), (a7, .inl (E.2 4, 6, .inr (.inr (.inr (.inr ((kgT G))))))), (a8, .inl (E.2 3, 10, .inr (.inr (.inr (.inr ((kgA G)))))))] : va_W) ++ ([(a1, .inr (0, [w1_0, w1_1, .int s_blips_many, w1_3, w1_4, w1_5])), (a3, .inr (3, [w3_0, w3_1, w3_2, w3_3, .int s_notes_many])), (a5, .inr (9, [w5_0, .int s_tape_length]))] : va_W)) ++ kpool E G) := hV.subP [0, 2, 4, 6, 7, 8, 1, 3, 5] rfl rfl
              have hY29 := hY28.swap
              clear hY28
              refine kgoiP (krunV (rest := []) X hY29 (List.range _) (c_X11_textCount l E _ a0 a2 a4 a6 a7 a8 (.ref a5) (w0_1) (w0_3) (.ref a3) (.ref a1) (w0_8) (w2_0) (w2_1) (w2_2) (w2_3) (.int s_nights_many) (w4_1) (.int s_sky_seed) G s_sky_many p1 r90_25 hc26) mw_1329 kb_X11_textCount (ci := 11) rfl rfl (kndR _) (krg _ _) rfl hl.1 rfl (Nat.le_of_ble_eq_true rfl) dX11_count_90 (by decide)) X hY29 (fun u33 H locs hV30 => ?_)
              clear hY29 hV
              have hV34 : kV E A s.heap H locs (([(a0, .inr (11, [.ref a5, w0_1, .ref a4, w0_3, .ref a6, .ref a3, .ref a1, .ref a2, w0_8])), (a1, .inr (0, [w1_0, w1_1, .int s_blips_many, w1_3, w1_4, w1_5])), (a2, .inr (2, [w2_0, w2_1, w2_2, w2_3, .ref a7, .int s_nights_many])), (a3, .inr (3, [w3_0, w3_1, w3_2, w3_3, .int s_notes_many])), (a4, .inr (7, [.ref a8, w4_1, .int s_sky_many, .int s_sky_seed])), (a5, .inr (9, [w5_0, .int s_tape_length])), (a6, .inl (E.2 4, 4, .inr (.inr (.inr (.inr ((kgW G))))))), (a7, .inl (E.2 4, 6, .inr (.inr (.inr (.inr ((kgT G))))))), (a8, .inl (E.2 3, 10, .inr (.inr (.inr (.inr ((kgA G)))))))] : va_W) ++ kpool E G) := kV.subP (X := (([(a1, .inr (0, [w1_0, w1_1, .int s_blips_many, w1_3, w1_4, w1_5])), (a3, .inr (3, [w3_0, w3_1, w3_2, w3_3, .int s_notes_many])), (a5, .inr (9, [w5_0, .int s_tape_length]))] : va_W) ++ ([(a0, .inr (11, [.ref a5, w0_1, .ref a4, w0_3, .ref a6, .ref a3, .ref a1, .ref a2, w0_8])), (a2, .inr (2, [w2_0, w2_1, w2_2, w2_3, .ref a7, .int s_nights_many])), (a4, .inr (7, [.ref a8, w4_1, .int s_sky_many, .int s_sky_seed])), (a6, .inl (E.2 4, 4, .inr (.inr (.inr (.inr ((kgW G))))))), (a7, .inl (E.2 4, 6, .inr (.inr (.inr (.inr ((kgT G))))))), (a8, .inl (E.2 3, 10, .inr (.inr (.inr (.inr ((kgA G)))))))] : va_W))) (P := kpool E G) hV30 [3, 0, 4, 1, 5, 2, 6, 7, 8] rfl rfl
              clear hV30
              have q35 := tup1_s h27
              clear h27
              exact hret _ () _ _ _ _ q35 rfl hV34 dX11_count_93
noncomputable def f_X11_height (G : kG) (s_sky_many : Int32) (s_sky_seed : Int32) (s_sky_reckoner_letters : Nat → Int32) (s_sky_reckoner_values : Nat → Int32) (p1 : Int32) (p2 : Int32) (p3 : Int32) : Option (Int32 × (Nat → Int32) × (Nat → Int32)) :=
    cb1 (f_X7_sourceAt G s_sky_many p1) fun r5_1 =>
    oS G r5_1
    (some ((-1), s_sky_reckoner_letters, s_sky_reckoner_values))
    fun k_11 s_12 =>
    (cb1 (f_X11_isDay p2) fun r16_24 =>
      if r16_24 = 0 then
      (some ((-1), s_sky_reckoner_letters, s_sky_reckoner_values))
      else
      (cb1 (f_X11_isMinute p3) fun r23_40 =>
        if r23_40 = 0 then
        (some ((-1), s_sky_reckoner_letters, s_sky_reckoner_values))
        else
        (oT G (some k_11)
          (cb1 (f_X7_heightOf_N (s_12.2.2.1) (s_12.2.2.2.1) (s_12.2.2.2.2.1) (s_12.2.2.2.2.2.2) p2 p3) fun r39_63 =>
            some (r39_63, s_sky_reckoner_letters, s_sky_reckoner_values))
          fun _ t_54 =>
          (cb3 (f_X7_heightOf (t_54.2.2.1.1) (t_54.2.2.2.2.1) (t_54.2.2.2.1.1) s_sky_seed (s_12.2.1) (s_12.2.2.1) (s_12.2.2.2.1) (s_12.2.2.2.2.1) (s_12.2.2.2.2.2.2) (t_54.2.1) (t_54.2.2.1.2) (t_54.2.2.2.2.2) (t_54.2.2.2.1.2) s_sky_reckoner_letters s_sky_reckoner_values p2 p3) fun r39_78 o_reckoner_letters39_79 o_reckoner_values39_80 =>
            some (r39_78, o_reckoner_letters39_79, o_reckoner_values39_80)))))
abbrev r_X11_height : Room := { frames := 4, cells := 0, slots := 0, locals := 99 }
set_option maxHeartbeats 4000000 in
set_option maxRecDepth 100000 in
theorem c_X11_height (l : Launch) (E : kE) (sz : Nat) (a0 a1 a2 a3 a4 a5 : Nat) (w0_0 w0_1 w0_3 w0_4 w0_5 w0_6 w0_7 w0_8 : Value) (G : kG) (s_sky_many : Int32) (s_sky_seed : Int32) (s_sky_reckoner_letters : Nat → Int32) (s_sky_reckoner_values : Nat → Int32) (p1 : Int32) (p2 : Int32) (p3 : Int32) (r : Int32) (o_sky_reckoner_letters : Nat → Int32) (o_sky_reckoner_values : Nat → Int32) (h : f_X11_height G s_sky_many s_sky_seed s_sky_reckoner_letters s_sky_reckoner_values p1 p2 p3 = some (r, o_sky_reckoner_letters, o_sky_reckoner_values)) : kMi l yX11_height cX11_height 5 (some .int) r_X11_height [.ref a0, .int p1, .int p2, .int p3] E (([(a0, .inr (11, [w0_0, w0_1, .ref a1, w0_3, w0_4, w0_5, w0_6, w0_7, w0_8])), (a1, .inr (7, [.ref a3, .ref a2, .int s_sky_many, .int s_sky_seed])), (a2, .inr (5, [.ref a4, .ref a5])), (a3, .inl (E.2 3, 10, .inr (.inr (.inr (.inr ((kgA G))))))), (a4, .inl (E.2 0, 128, .inl s_sky_reckoner_letters)), (a5, .inl (E.2 0, 32, .inl s_sky_reckoner_values))] : va_W) ++ kpool E G) sz 0 0 (fun x (_ : Unit) => x = r) (fun _ => (([(a0, .inr (11, [w0_0, w0_1, .ref a1, w0_3, w0_4, w0_5, w0_6, w0_7, w0_8])), (a1, .inr (7, [.ref a3, .ref a2, .int s_sky_many, .int s_sky_seed])), (a2, .inr (5, [.ref a4, .ref a5])), (a3, .inl (E.2 3, 10, .inr (.inr (.inr (.inr ((kgA G))))))), (a4, .inl (E.2 0, 128, .inl o_sky_reckoner_letters)), (a5, .inl (E.2 0, 32, .inl o_sky_reckoner_values))] : va_W) ++ kpool E G)) := by
  refine kmeti rfl (Nat.le_of_ble_eq_true rfl) ?_
  intro p e s m args below meth c ls A Q X hV hret hl
  have X : kC p s m c cX11_height 5 RX11 args E A := X
  have hx := X.1
  have hb := X.2.1
  have hl : lv_has ls 5 [(0, .ref a0), (1, .int p1), (2, .int p2), (3, .int p3)] := hl
  rw [f_X11_height] at h
  refine lv_aload_n hx hb dX11_height_0 rfl (lv_at hl 0 rfl) ?_
  refine kget X hV (ci := 11) inlX11 rfl 0 rfl 2 (by decide) mw_23 rfl dX11_height_1 ?_
  refine lv_iload_n hx hb dX11_height_4 rfl (lv_at hl 1 rfl) ?_
  obtain ⟨r5_1, hc2, h3⟩ := cb1_s h
  clear h
  have hY4 : kV E A s.heap _ _ ((([(a1, .inr (7, [.ref a3, .ref a2, .int s_sky_many, .int s_sky_seed])), (a3, .inl (E.2 3, 10, .inr (.inr (.inr (.inr ((kgA G)))))))] : va_W) ++ ([(a0, .inr (11, [w0_0, w0_1, .ref a1, w0_3, w0_4, w0_5, w0_6, w0_7, w0_8])), (a2, .inr (5, [.ref a4, .ref a5])), (a4, .inl (E.2 0, 128, .inl s_sky_reckoner_letters)), (a5, .inl (E.2 0, 32, .inl s_sky_reckoner_values))] : va_W)) ++ kpool E G) := hV.subP [1, 3, 0, 2, 4, 5] rfl rfl
  have hY5 := hY4.swap
  clear hY4
  refine kgoq2 (krunV (rest := []) X hY5 (List.range _) (c_X7_sourceAt l E _ a1 a3 (.ref a2) (.int s_sky_seed) G s_sky_many p1 r5_1 hc2) mw_263 kb_X7_sourceAt (ci := 7) rfl rfl (kndR _) (krg _ _) rfl hl.1 rfl (Nat.le_of_ble_eq_true rfl) dX11_height_5 (by decide)) X hY5 (fun x8 u9 H locs hp7 hV6 => ?_)
  clear hY5 hV
  have hV10 : kV E A s.heap H locs (([(a0, .inr (11, [w0_0, w0_1, .ref a1, w0_3, w0_4, w0_5, w0_6, w0_7, w0_8])), (a1, .inr (7, [.ref a3, .ref a2, .int s_sky_many, .int s_sky_seed])), (a2, .inr (5, [.ref a4, .ref a5])), (a3, .inl (E.2 3, 10, .inr (.inr (.inr (.inr ((kgA G))))))), (a4, .inl (E.2 0, 128, .inl s_sky_reckoner_letters)), (a5, .inl (E.2 0, 32, .inl s_sky_reckoner_values))] : va_W) ++ kpool E G) := kV.subP (X := (([(a0, .inr (11, [w0_0, w0_1, .ref a1, w0_3, w0_4, w0_5, w0_6, w0_7, w0_8])), (a2, .inr (5, [.ref a4, .ref a5])), (a4, .inl (E.2 0, 128, .inl s_sky_reckoner_letters)), (a5, .inl (E.2 0, 32, .inl s_sky_reckoner_values))] : va_W) ++ ([(a1, .inr (7, [.ref a3, .ref a2, .int s_sky_many, .int s_sky_seed])), (a3, .inl (E.2 3, 10, .inr (.inr (.inr (.inr ((kgA G)))))))] : va_W))) (P := kpool E G) hV6 [0, 4, 1, 5, 2, 3] rfl rfl
  clear hV6
  subst hp7
  refine W.eq (g2 := F0 m 8 ls [va_rf (r5_1.bind (kgA G))]) rfl ?_
  rcases oS_s h3 with ⟨hq13, h14⟩ | ⟨k_11, s_12, hr15, hq13, hk16, ht17, h18⟩
  · skip
    refine ktopq hq13.symm ?_
    refine W.eq (g2 := F0 m 8 ls [.null]) rfl ?_
    refine lv_astoreN (lv' := [(4, .null), (0, .ref a0), (1, .int p1), (2, .int p2), (3, .int p3)]) hx hb dX11_height_8 hl (by decide) rfl (fun ls hl19 => ?_)
    clear hl
    refine lv_aloadN hx hb dX11_height_10 (lv_at hl19 0 rfl) ?_
    refine lv_ifnullN (tgt := 29) hx hb dX11_height_12 (by decide) ?_
    refine lv_iconst (v := (-1)) hx hb dX11_height_29 (by decide) ?_
    obtain ⟨q20, q21, q22⟩ := tup3_s h14
    clear h14
    exact hret _ () _ _ _ _ q20 rfl (by rw [← q21, ← q22]; exact hV10) dX11_height_30
  · skip
    subst hr15
    refine ktopq hq13.symm ?_
    refine W.eq (g2 := F0 m 8 ls [.ref s_12.1]) rfl ?_
    refine lv_astore (lv' := [(4, .ref s_12.1), (0, .ref a0), (1, .int p1), (2, .int p2), (3, .int p3)]) hx hb dX11_height_8 hl (by decide) rfl (fun ls hl23 => ?_)
    clear hl
    refine lv_aload hx hb dX11_height_10 (lv_at hl23 0 rfl) ?_
    refine lv_ifnull hx hb dX11_height_12 ?_
    refine lv_iload_n hx hb dX11_height_15 rfl (lv_at hl23 3 rfl) ?_
    obtain ⟨r16_24, hc25, h26⟩ := cb1_s h18
    clear h18
    have hY27 : kV E A s.heap _ _ (([] ++ ([(a0, .inr (11, [w0_0, w0_1, .ref a1, w0_3, w0_4, w0_5, w0_6, w0_7, w0_8])), (a1, .inr (7, [.ref a3, .ref a2, .int s_sky_many, .int s_sky_seed])), (a2, .inr (5, [.ref a4, .ref a5])), (a3, .inl (E.2 3, 10, .inr (.inr (.inr (.inr ((kgA G))))))), (a4, .inl (E.2 0, 128, .inl s_sky_reckoner_letters)), (a5, .inl (E.2 0, 32, .inl s_sky_reckoner_values))] : va_W)) ++ kpool E G) := hV10.subP [0, 1, 2, 3, 4, 5] rfl rfl
    have hY28 := hY27.swapT
    clear hY27
    refine kgoiT (krunS (rest := []) X hY28 (List.range _) (c_X11_isDay l E _ p2 r16_24 hc25) mw_622 kb_X11_isDay (kndR _) (krg _ _) rfl hl23.1 rfl (Nat.le_of_ble_eq_true rfl) dX11_height_16 (by decide)) X hY28 (fun u32 H locs hV29 => ?_)
    clear hY28 hV10
    have hV33 : kV E A s.heap H locs (([(a0, .inr (11, [w0_0, w0_1, .ref a1, w0_3, w0_4, w0_5, w0_6, w0_7, w0_8])), (a1, .inr (7, [.ref a3, .ref a2, .int s_sky_many, .int s_sky_seed])), (a2, .inr (5, [.ref a4, .ref a5])), (a3, .inl (E.2 3, 10, .inr (.inr (.inr (.inr ((kgA G))))))), (a4, .inl (E.2 0, 128, .inl s_sky_reckoner_letters)), (a5, .inl (E.2 0, 32, .inl s_sky_reckoner_values))] : va_W) ++ kpool E G) := hV29.subP [0, 1, 2, 3, 4, 5] rfl rfl
    clear hV29
    refine lv_if_eq (tgt := 29) hx hb dX11_height_19 (by decide) (fun c34 => ?_) (fun c34 => ?_)
    · have h35 := itS c34 h26
      clear h26 c34
      refine lv_iconst (v := (-1)) hx hb dX11_height_29 (by decide) ?_
      obtain ⟨q37, q38, q39⟩ := tup3_s h35
      clear h35
      exact hret _ () _ _ _ _ q37 rfl (by rw [← q38, ← q39]; exact hV33) dX11_height_30
    · have h36 := ieS c34 h26
      clear h26 c34
      refine lv_iload_n hx hb dX11_height_22 rfl (lv_at hl23 4 rfl) ?_
      obtain ⟨r23_40, hc41, h42⟩ := cb1_s h36
      clear h36
      have hY43 : kV E A s.heap _ _ (([] ++ ([(a0, .inr (11, [w0_0, w0_1, .ref a1, w0_3, w0_4, w0_5, w0_6, w0_7, w0_8])), (a1, .inr (7, [.ref a3, .ref a2, .int s_sky_many, .int s_sky_seed])), (a2, .inr (5, [.ref a4, .ref a5])), (a3, .inl (E.2 3, 10, .inr (.inr (.inr (.inr ((kgA G))))))), (a4, .inl (E.2 0, 128, .inl s_sky_reckoner_letters)), (a5, .inl (E.2 0, 32, .inl s_sky_reckoner_values))] : va_W)) ++ kpool E G) := hV33.subP [0, 1, 2, 3, 4, 5] rfl rfl
      have hY44 := hY43.swapT
      clear hY43
      refine kgoiT (krunS (rest := []) X hY44 (List.range _) (c_X11_isMinute l E _ p3 r23_40 hc41) mw_184 kb_X11_isMinute (kndR _) (krg _ _) rfl hl23.1 rfl (Nat.le_of_ble_eq_true rfl) dX11_height_23 (by decide)) X hY44 (fun u48 H locs hV45 => ?_)
      clear hY44 hV33
      have hV49 : kV E A s.heap H locs (([(a0, .inr (11, [w0_0, w0_1, .ref a1, w0_3, w0_4, w0_5, w0_6, w0_7, w0_8])), (a1, .inr (7, [.ref a3, .ref a2, .int s_sky_many, .int s_sky_seed])), (a2, .inr (5, [.ref a4, .ref a5])), (a3, .inl (E.2 3, 10, .inr (.inr (.inr (.inr ((kgA G))))))), (a4, .inl (E.2 0, 128, .inl s_sky_reckoner_letters)), (a5, .inl (E.2 0, 32, .inl s_sky_reckoner_values))] : va_W) ++ kpool E G) := hV45.subP [0, 1, 2, 3, 4, 5] rfl rfl
      clear hV45
      refine lv_if_ne (tgt := 31) hx hb dX11_height_26 (by decide) (fun c50 => ?_) (fun c50 => ?_)
      · have h51 := ieS c50 h42
        clear h42 c50
        refine lv_aload_n hx hb dX11_height_31 rfl (lv_at hl23 1 rfl) ?_
        refine kget X hV49 (ci := 11) inlX11 rfl 0 rfl 2 (by decide) mw_23 rfl dX11_height_32 ?_
        refine lv_aload hx hb dX11_height_35 (lv_at hl23 0 rfl) ?_
        refine lv_iload_n hx hb dX11_height_37 rfl (lv_at hl23 3 rfl) ?_
        refine lv_iload_n hx hb dX11_height_38 rfl (lv_at hl23 4 rfl) ?_
        rcases oT_s h51 with ⟨hq55, h56⟩ | ⟨k53, t_54, hr57, hq55, hk58, ht59, h60⟩
        · skip
          have hn61 := kgXn hq55
          have hV62 := kopS (X := [(a0, .inr (11, [w0_0, w0_1, .ref a1, w0_3, w0_4, w0_5, w0_6, w0_7, w0_8])), (a1, .inr (7, [.ref a3, .ref a2, .int s_sky_many, .int s_sky_seed])), (a2, .inr (5, [.ref a4, .ref a5])), (a3, .inl (E.2 3, 10, .inr (.inr (.inr (.inr ((kgA G))))))), (a4, .inl (E.2 0, 128, .inl s_sky_reckoner_letters)), (a5, .inl (E.2 0, 32, .inl s_sky_reckoner_values))]) hk16 ht17 hn61 hV49
          have hV62 : kV E A s.heap _ _ (([(a0, .inr (11, [w0_0, w0_1, .ref a1, w0_3, w0_4, w0_5, w0_6, w0_7, w0_8])), (a1, .inr (7, [.ref a3, .ref a2, .int s_sky_many, .int s_sky_seed])), (a2, .inr (5, [.ref a4, .ref a5])), (a3, .inl (E.2 3, 10, .inr (.inr (.inr (.inr ((kgA G))))))), (a4, .inl (E.2 0, 128, .inl s_sky_reckoner_letters)), (a5, .inl (E.2 0, 32, .inl s_sky_reckoner_values)), ((s_12.1), .inr (8, [.int (s_12.2.1), .int (s_12.2.2.1), .int (s_12.2.2.2.1), .int (s_12.2.2.2.2.1), .int (s_12.2.2.2.2.2.1), .int (s_12.2.2.2.2.2.2), .null]))] : va_W) ++ kpoolS E G k_11) := hV62
          clear hV49
          obtain ⟨r39_63, hc64, h65⟩ := cb1_s h56
          clear h56
          have hY66 : kV E A s.heap _ _ ((([(a1, .inr (7, [.ref a3, .ref a2, .int s_sky_many, .int s_sky_seed])), ((s_12.1), .inr (8, [.int (s_12.2.1), .int (s_12.2.2.1), .int (s_12.2.2.2.1), .int (s_12.2.2.2.2.1), .int (s_12.2.2.2.2.2.1), .int (s_12.2.2.2.2.2.2), .null]))] : va_W) ++ ([(a0, .inr (11, [w0_0, w0_1, .ref a1, w0_3, w0_4, w0_5, w0_6, w0_7, w0_8])), (a2, .inr (5, [.ref a4, .ref a5])), (a3, .inl (E.2 3, 10, .inr (.inr (.inr (.inr ((kgA G))))))), (a4, .inl (E.2 0, 128, .inl s_sky_reckoner_letters)), (a5, .inl (E.2 0, 32, .inl s_sky_reckoner_values))] : va_W)) ++ kpoolS E G k_11) := hV62.subP [1, 6, 0, 2, 3, 4, 5] rfl rfl
          have hY67 := hY66.swapT
          clear hY66
          refine kgoiT (krunV (rest := []) X hY67 (List.range _) (c_X7_heightOf_N l E _ a1 (s_12.1) (.ref a3) (.ref a2) (.int s_sky_many) (.int s_sky_seed) (.int (s_12.2.1)) (.int (s_12.2.2.2.2.2.1)) (s_12.2.2.1) (s_12.2.2.2.1) (s_12.2.2.2.2.1) (s_12.2.2.2.2.2.2) p2 p3 r39_63 hc64) mw_643 kb_X7_heightOf (ci := 7) rfl rfl (kndR _) (krg _ _) rfl hl23.1 rfl (Nat.le_of_ble_eq_true rfl) dX11_height_39 (by decide)) X hY67 (fun u71 H locs hV68 => ?_)
          clear hY67 hV62
          have hV73 : kV E A s.heap H locs ((([(a0, .inr (11, [w0_0, w0_1, .ref a1, w0_3, w0_4, w0_5, w0_6, w0_7, w0_8])), (a1, .inr (7, [.ref a3, .ref a2, .int s_sky_many, .int s_sky_seed])), (a2, .inr (5, [.ref a4, .ref a5])), (a3, .inl (E.2 3, 10, .inr (.inr (.inr (.inr ((kgA G))))))), (a4, .inl (E.2 0, 128, .inl s_sky_reckoner_letters)), (a5, .inl (E.2 0, 32, .inl s_sky_reckoner_values))] : va_W) ++ [ksc s_12 none]) ++ kpoolS E G k_11) := hV68.subP [0, 5, 1, 2, 3, 4, 6] rfl rfl
          have hV72 : kV E A s.heap H locs (([(a0, .inr (11, [w0_0, w0_1, .ref a1, w0_3, w0_4, w0_5, w0_6, w0_7, w0_8])), (a1, .inr (7, [.ref a3, .ref a2, .int s_sky_many, .int s_sky_seed])), (a2, .inr (5, [.ref a4, .ref a5])), (a3, .inl (E.2 3, 10, .inr (.inr (.inr (.inr ((kgA G))))))), (a4, .inl (E.2 0, 128, .inl s_sky_reckoner_letters)), (a5, .inl (E.2 0, 32, .inl s_sky_reckoner_values))] : va_W) ++ kpool E G) := kclS hk16 ht17 hn61 hV73
          clear hV73
          clear hV68
          obtain ⟨q74, q75, q76⟩ := tup3_s h65
          clear h65
          exact hret _ () _ _ _ _ q74 rfl (by rw [← q75, ← q76]; exact hV72) dX11_height_42
        · skip
          obtain rfl := Option.some.inj hr57
          have hV77 := kopL (X := [(a0, .inr (11, [w0_0, w0_1, .ref a1, w0_3, w0_4, w0_5, w0_6, w0_7, w0_8])), (a1, .inr (7, [.ref a3, .ref a2, .int s_sky_many, .int s_sky_seed])), (a2, .inr (5, [.ref a4, .ref a5])), (a3, .inl (E.2 3, 10, .inr (.inr (.inr (.inr ((kgA G))))))), (a4, .inl (E.2 0, 128, .inl s_sky_reckoner_letters)), (a5, .inl (E.2 0, 32, .inl s_sky_reckoner_values))]) hk16 ht17 ht59 hV49
          have hV77 : kV E A s.heap _ _ (([(a0, .inr (11, [w0_0, w0_1, .ref a1, w0_3, w0_4, w0_5, w0_6, w0_7, w0_8])), (a1, .inr (7, [.ref a3, .ref a2, .int s_sky_many, .int s_sky_seed])), (a2, .inr (5, [.ref a4, .ref a5])), (a3, .inl (E.2 3, 10, .inr (.inr (.inr (.inr ((kgA G))))))), (a4, .inl (E.2 0, 128, .inl s_sky_reckoner_letters)), (a5, .inl (E.2 0, 32, .inl s_sky_reckoner_values)), ((s_12.1), .inr (8, [.int (s_12.2.1), .int (s_12.2.2.1), .int (s_12.2.2.2.1), .int (s_12.2.2.2.2.1), .int (s_12.2.2.2.2.2.1), .int (s_12.2.2.2.2.2.2), .ref (t_54.1.1)])), ((t_54.1.1), .inr (10, [.int (t_54.2.1), .ref (t_54.1.2.1), .ref (t_54.1.2.2.1), .ref (t_54.1.2.2.2)])), ((t_54.1.2.1), .inl (E.2 0, (t_54.2.2.1.1), .inl ((t_54.2.2.1.2)))), ((t_54.1.2.2.1), .inl (E.2 0, (t_54.2.2.2.1.1), .inl ((t_54.2.2.2.1.2)))), ((t_54.1.2.2.2), .inl (E.2 0, (t_54.2.2.2.2.1), .inl ((t_54.2.2.2.2.2))))] : va_W) ++ kpoolS E G k_11) := hV77
          clear hV49
          obtain ⟨r39_78, o_reckoner_letters39_79, o_reckoner_values39_80, hc81, h82⟩ := cb3_s h60
          clear h60
          have hY83 : kV E A s.heap _ _ ((([(a1, .inr (7, [.ref a3, .ref a2, .int s_sky_many, .int s_sky_seed])), ((s_12.1), .inr (8, [.int (s_12.2.1), .int (s_12.2.2.1), .int (s_12.2.2.2.1), .int (s_12.2.2.2.2.1), .int (s_12.2.2.2.2.2.1), .int (s_12.2.2.2.2.2.2), .ref (t_54.1.1)])), ((t_54.1.1), .inr (10, [.int (t_54.2.1), .ref (t_54.1.2.1), .ref (t_54.1.2.2.1), .ref (t_54.1.2.2.2)])), (a2, .inr (5, [.ref a4, .ref a5])), ((t_54.1.2.1), .inl (E.2 0, (t_54.2.2.1.1), .inl ((t_54.2.2.1.2)))), ((t_54.1.2.2.2), .inl (E.2 0, (t_54.2.2.2.2.1), .inl ((t_54.2.2.2.2.2)))), ((t_54.1.2.2.1), .inl (E.2 0, (t_54.2.2.2.1.1), .inl ((t_54.2.2.2.1.2)))), (a4, .inl (E.2 0, 128, .inl s_sky_reckoner_letters)), (a5, .inl (E.2 0, 32, .inl s_sky_reckoner_values))] : va_W) ++ ([(a0, .inr (11, [w0_0, w0_1, .ref a1, w0_3, w0_4, w0_5, w0_6, w0_7, w0_8])), (a3, .inl (E.2 3, 10, .inr (.inr (.inr (.inr ((kgA G)))))))] : va_W)) ++ kpoolS E G k_11) := hV77.subP [1, 6, 7, 2, 8, 10, 9, 4, 5, 0, 3] rfl rfl
          have hY84 := hY83.swapT
          clear hY83
          refine kgoiT (krunV (rest := []) X hY84 (List.range _) (c_X7_heightOf l E _ a1 (s_12.1) (t_54.1.1) a2 (t_54.1.2.1) (t_54.1.2.2.2) (t_54.1.2.2.1) a4 a5 (.ref a3) (.int s_sky_many) (.int (s_12.2.2.2.2.2.1)) (t_54.2.2.1.1) (t_54.2.2.2.2.1) (t_54.2.2.2.1.1) s_sky_seed (s_12.2.1) (s_12.2.2.1) (s_12.2.2.2.1) (s_12.2.2.2.2.1) (s_12.2.2.2.2.2.2) (t_54.2.1) (t_54.2.2.1.2) (t_54.2.2.2.2.2) (t_54.2.2.2.1.2) s_sky_reckoner_letters s_sky_reckoner_values p2 p3 r39_78 o_reckoner_letters39_79 o_reckoner_values39_80 hc81) mw_643 kb_X7_heightOf (ci := 7) rfl rfl (kndR _) (krg _ _) rfl hl23.1 rfl (Nat.le_of_ble_eq_true rfl) dX11_height_39 (by decide)) X hY84 (fun u88 H locs hV85 => ?_)
          clear hY84 hV77
          have hV90 : kV E A s.heap H locs ((([(a0, .inr (11, [w0_0, w0_1, .ref a1, w0_3, w0_4, w0_5, w0_6, w0_7, w0_8])), (a1, .inr (7, [.ref a3, .ref a2, .int s_sky_many, .int s_sky_seed])), (a2, .inr (5, [.ref a4, .ref a5])), (a3, .inl (E.2 3, 10, .inr (.inr (.inr (.inr ((kgA G))))))), (a4, .inl (E.2 0, 128, .inl o_reckoner_letters39_79)), (a5, .inl (E.2 0, 32, .inl o_reckoner_values39_80))] : va_W) ++ (ksc s_12 (some (kta t_54)) :: ktc E t_54)) ++ kpoolS E G k_11) := hV85.subP [0, 2, 5, 1, 9, 10, 3, 4, 6, 8, 7] rfl rfl
          have hV89 : kV E A s.heap H locs (([(a0, .inr (11, [w0_0, w0_1, .ref a1, w0_3, w0_4, w0_5, w0_6, w0_7, w0_8])), (a1, .inr (7, [.ref a3, .ref a2, .int s_sky_many, .int s_sky_seed])), (a2, .inr (5, [.ref a4, .ref a5])), (a3, .inl (E.2 3, 10, .inr (.inr (.inr (.inr ((kgA G))))))), (a4, .inl (E.2 0, 128, .inl o_reckoner_letters39_79)), (a5, .inl (E.2 0, 32, .inl o_reckoner_values39_80))] : va_W) ++ kpool E G) := kclL hk16 ht17 ht59 hV90
          clear hV90
          clear hV85
          obtain ⟨q91, q92, q93⟩ := tup3_s h82
          clear h82
          exact hret _ () _ _ _ _ q91 rfl (by rw [← q92, ← q93]; exact hV89) dX11_height_42
      · have h52 := itS c50 h42
        clear h42 c50
        refine lv_iconst (v := (-1)) hx hb dX11_height_29 (by decide) ?_
        obtain ⟨q94, q95, q96⟩ := tup3_s h52
        clear h52
        exact hret _ () _ _ _ _ q94 rfl (by rw [← q95, ← q96]; exact hV49) dX11_height_30
noncomputable def f_X11_paper (G : kG) (s_page_readers : Int32) (s_page_day : Int32) (s_sky_many : Int32) (s_sky_seed : Int32) (s_page_heights : Nat → Int32) (s_page_highest : Nat → Int32) (s_page_shapes : Nat → Int32) (s_sky_reckoner_letters : Nat → Int32) (s_sky_reckoner_values : Nat → Int32) (p1 : Int32) (p2 : Int32) (p3 : Int32) : Option (Int32 × Int32 × Int32 × (Nat → Int32) × (Nat → Int32) × (Nat → Int32) × (Nat → Int32) × (Nat → Int32)) :=
    cb1 (f_X11_isDay p1) fun r1_1 =>
    if r1_1 = 0 then
    (some ((-1), s_page_readers, s_page_day, s_page_heights, s_page_highest, s_page_shapes, s_sky_reckoner_letters, s_sky_reckoner_values))
    else
    (cb1 (f_X11_isMinute p2) fun r8_22 =>
      if r8_22 = 0 then
      (some ((-1), s_page_readers, s_page_day, s_page_heights, s_page_highest, s_page_shapes, s_sky_reckoner_letters, s_sky_reckoner_values))
      else
      (cb1 (f_X11_isWithin p3 0 1) fun r17_43 =>
        if r17_43 = 0 then
        (some ((-1), s_page_readers, s_page_day, s_page_heights, s_page_highest, s_page_shapes, s_sky_reckoner_letters, s_sky_reckoner_values))
        else
        (cb7 (f_X7_lay G s_sky_many s_sky_seed s_page_readers s_page_day s_page_heights s_page_highest s_page_shapes s_sky_reckoner_letters s_sky_reckoner_values p1) fun o_p1_readers34_56 o_p1_day34_57 o_p1_heights34_58 o_p1_highest34_59 o_p1_shapes34_60 o_reckoner_letters34_61 o_reckoner_values34_62 =>
          if p3 = 0 then
          (rdI o_p1_heights34_58 1440 p2 fun v49_87 =>
            some (v49_87, o_p1_readers34_56, o_p1_day34_57, o_p1_heights34_58, o_p1_highest34_59, o_p1_shapes34_60, o_reckoner_letters34_61, o_reckoner_values34_62))
          else
          (rdI o_p1_shapes34_60 1440 p2 fun v61_75 =>
            some (v61_75, o_p1_readers34_56, o_p1_day34_57, o_p1_heights34_58, o_p1_highest34_59, o_p1_shapes34_60, o_reckoner_letters34_61, o_reckoner_values34_62)))))
abbrev r_X11_paper : Room := { frames := 6, cells := 0, slots := 0, locals := 148 }
set_option maxHeartbeats 4000000 in
set_option maxRecDepth 100000 in
theorem c_X11_paper (l : Launch) (E : kE) (sz : Nat) (a0 a1 a2 a3 a4 a5 a6 a7 a8 a9 : Nat) (w0_0 w0_1 w0_4 w0_5 w0_6 w0_7 w0_8 w1_3 w1_4 : Value) (G : kG) (s_page_readers : Int32) (s_page_day : Int32) (s_sky_many : Int32) (s_sky_seed : Int32) (s_page_heights : Nat → Int32) (s_page_highest : Nat → Int32) (s_page_shapes : Nat → Int32) (s_sky_reckoner_letters : Nat → Int32) (s_sky_reckoner_values : Nat → Int32) (p1 : Int32) (p2 : Int32) (p3 : Int32) (r : Int32) (o_page_readers : Int32) (o_page_day : Int32) (o_page_heights : Nat → Int32) (o_page_highest : Nat → Int32) (o_page_shapes : Nat → Int32) (o_sky_reckoner_letters : Nat → Int32) (o_sky_reckoner_values : Nat → Int32) (h : f_X11_paper G s_page_readers s_page_day s_sky_many s_sky_seed s_page_heights s_page_highest s_page_shapes s_sky_reckoner_letters s_sky_reckoner_values p1 p2 p3 = some (r, o_page_readers, o_page_day, o_page_heights, o_page_highest, o_page_shapes, o_sky_reckoner_letters, o_sky_reckoner_values)) : kMi l yX11_paper cX11_paper 4 (some .int) r_X11_paper [.ref a0, .int p1, .int p2, .int p3] E (([(a0, .inr (11, [w0_0, w0_1, .ref a2, .ref a1, w0_4, w0_5, w0_6, w0_7, w0_8])), (a1, .inr (4, [.ref a3, .ref a5, .ref a4, w1_3, w1_4, .int s_page_readers, .int s_page_day])), (a2, .inr (7, [.ref a7, .ref a6, .int s_sky_many, .int s_sky_seed])), (a3, .inl (E.2 0, 1440, .inl s_page_heights)), (a4, .inl (E.2 0, 1440, .inl s_page_highest)), (a5, .inl (E.2 0, 1440, .inl s_page_shapes)), (a6, .inr (5, [.ref a8, .ref a9])), (a7, .inl (E.2 3, 10, .inr (.inr (.inr (.inr ((kgA G))))))), (a8, .inl (E.2 0, 128, .inl s_sky_reckoner_letters)), (a9, .inl (E.2 0, 32, .inl s_sky_reckoner_values))] : va_W) ++ kpool E G) sz 0 0 (fun x (_ : Unit) => x = r) (fun _ => (([(a0, .inr (11, [w0_0, w0_1, .ref a2, .ref a1, w0_4, w0_5, w0_6, w0_7, w0_8])), (a1, .inr (4, [.ref a3, .ref a5, .ref a4, w1_3, w1_4, .int o_page_readers, .int o_page_day])), (a2, .inr (7, [.ref a7, .ref a6, .int s_sky_many, .int s_sky_seed])), (a3, .inl (E.2 0, 1440, .inl o_page_heights)), (a4, .inl (E.2 0, 1440, .inl o_page_highest)), (a5, .inl (E.2 0, 1440, .inl o_page_shapes)), (a6, .inr (5, [.ref a8, .ref a9])), (a7, .inl (E.2 3, 10, .inr (.inr (.inr (.inr ((kgA G))))))), (a8, .inl (E.2 0, 128, .inl o_sky_reckoner_letters)), (a9, .inl (E.2 0, 32, .inl o_sky_reckoner_values))] : va_W) ++ kpool E G)) := by
  refine kmeti rfl (Nat.le_of_ble_eq_true rfl) ?_
  intro p e s m args below meth c ls A Q X hV hret hl
  have X : kC p s m c cX11_paper 4 RX11 args E A := X
  have hx := X.1
  have hb := X.2.1
  have hl : lv_has ls 4 [(0, .ref a0), (1, .int p1), (2, .int p2), (3, .int p3)] := hl
  rw [f_X11_paper] at h
  refine lv_iload_n hx hb dX11_paper_0 rfl (lv_at hl 1 rfl) ?_
  obtain ⟨r1_1, hc2, h3⟩ := cb1_s h
  clear h
  have hY4 : kV E A s.heap _ _ (([] ++ ([(a0, .inr (11, [w0_0, w0_1, .ref a2, .ref a1, w0_4, w0_5, w0_6, w0_7, w0_8])), (a1, .inr (4, [.ref a3, .ref a5, .ref a4, w1_3, w1_4, .int s_page_readers, .int s_page_day])), (a2, .inr (7, [.ref a7, .ref a6, .int s_sky_many, .int s_sky_seed])), (a3, .inl (E.2 0, 1440, .inl s_page_heights)), (a4, .inl (E.2 0, 1440, .inl s_page_highest)), (a5, .inl (E.2 0, 1440, .inl s_page_shapes)), (a6, .inr (5, [.ref a8, .ref a9])), (a7, .inl (E.2 3, 10, .inr (.inr (.inr (.inr ((kgA G))))))), (a8, .inl (E.2 0, 128, .inl s_sky_reckoner_letters)), (a9, .inl (E.2 0, 32, .inl s_sky_reckoner_values))] : va_W)) ++ kpool E G) := hV.subP [0, 1, 2, 3, 4, 5, 6, 7, 8, 9] rfl rfl
  have hY5 := hY4.swapT
  clear hY4
  refine kgoiT (krunS (rest := []) X hY5 (List.range _) (c_X11_isDay l E _ p1 r1_1 hc2) mw_622 kb_X11_isDay (kndR _) (krg _ _) rfl hl.1 rfl (Nat.le_of_ble_eq_true rfl) dX11_paper_1 (by decide)) X hY5 (fun u9 H locs hV6 => ?_)
  clear hY5 hV
  have hV10 : kV E A s.heap H locs (([(a0, .inr (11, [w0_0, w0_1, .ref a2, .ref a1, w0_4, w0_5, w0_6, w0_7, w0_8])), (a1, .inr (4, [.ref a3, .ref a5, .ref a4, w1_3, w1_4, .int s_page_readers, .int s_page_day])), (a2, .inr (7, [.ref a7, .ref a6, .int s_sky_many, .int s_sky_seed])), (a3, .inl (E.2 0, 1440, .inl s_page_heights)), (a4, .inl (E.2 0, 1440, .inl s_page_highest)), (a5, .inl (E.2 0, 1440, .inl s_page_shapes)), (a6, .inr (5, [.ref a8, .ref a9])), (a7, .inl (E.2 3, 10, .inr (.inr (.inr (.inr ((kgA G))))))), (a8, .inl (E.2 0, 128, .inl s_sky_reckoner_letters)), (a9, .inl (E.2 0, 32, .inl s_sky_reckoner_values))] : va_W) ++ kpool E G) := hV6.subP [0, 1, 2, 3, 4, 5, 6, 7, 8, 9] rfl rfl
  clear hV6
  refine lv_if_eq (tgt := 23) hx hb dX11_paper_4 (by decide) (fun c11 => ?_) (fun c11 => ?_)
  · have h12 := itS c11 h3
    clear h3 c11
    refine lv_iconst (v := (-1)) hx hb dX11_paper_23 (by decide) ?_
    obtain ⟨q14, q15, q16, q17, q18, q19, q20, q21⟩ := tup8_s h12
    clear h12
    exact hret _ () _ _ _ _ q14 rfl (by rw [← q15, ← q16, ← q17, ← q18, ← q19, ← q20, ← q21]; exact hV10) dX11_paper_24
  · have h13 := ieS c11 h3
    clear h3 c11
    refine lv_iload_n hx hb dX11_paper_7 rfl (lv_at hl 2 rfl) ?_
    obtain ⟨r8_22, hc23, h24⟩ := cb1_s h13
    clear h13
    have hY25 : kV E A s.heap _ _ (([] ++ ([(a0, .inr (11, [w0_0, w0_1, .ref a2, .ref a1, w0_4, w0_5, w0_6, w0_7, w0_8])), (a1, .inr (4, [.ref a3, .ref a5, .ref a4, w1_3, w1_4, .int s_page_readers, .int s_page_day])), (a2, .inr (7, [.ref a7, .ref a6, .int s_sky_many, .int s_sky_seed])), (a3, .inl (E.2 0, 1440, .inl s_page_heights)), (a4, .inl (E.2 0, 1440, .inl s_page_highest)), (a5, .inl (E.2 0, 1440, .inl s_page_shapes)), (a6, .inr (5, [.ref a8, .ref a9])), (a7, .inl (E.2 3, 10, .inr (.inr (.inr (.inr ((kgA G))))))), (a8, .inl (E.2 0, 128, .inl s_sky_reckoner_letters)), (a9, .inl (E.2 0, 32, .inl s_sky_reckoner_values))] : va_W)) ++ kpool E G) := hV10.subP [0, 1, 2, 3, 4, 5, 6, 7, 8, 9] rfl rfl
    have hY26 := hY25.swapT
    clear hY25
    refine kgoiT (krunS (rest := []) X hY26 (List.range _) (c_X11_isMinute l E _ p2 r8_22 hc23) mw_184 kb_X11_isMinute (kndR _) (krg _ _) rfl hl.1 rfl (Nat.le_of_ble_eq_true rfl) dX11_paper_8 (by decide)) X hY26 (fun u30 H locs hV27 => ?_)
    clear hY26 hV10
    have hV31 : kV E A s.heap H locs (([(a0, .inr (11, [w0_0, w0_1, .ref a2, .ref a1, w0_4, w0_5, w0_6, w0_7, w0_8])), (a1, .inr (4, [.ref a3, .ref a5, .ref a4, w1_3, w1_4, .int s_page_readers, .int s_page_day])), (a2, .inr (7, [.ref a7, .ref a6, .int s_sky_many, .int s_sky_seed])), (a3, .inl (E.2 0, 1440, .inl s_page_heights)), (a4, .inl (E.2 0, 1440, .inl s_page_highest)), (a5, .inl (E.2 0, 1440, .inl s_page_shapes)), (a6, .inr (5, [.ref a8, .ref a9])), (a7, .inl (E.2 3, 10, .inr (.inr (.inr (.inr ((kgA G))))))), (a8, .inl (E.2 0, 128, .inl s_sky_reckoner_letters)), (a9, .inl (E.2 0, 32, .inl s_sky_reckoner_values))] : va_W) ++ kpool E G) := hV27.subP [0, 1, 2, 3, 4, 5, 6, 7, 8, 9] rfl rfl
    clear hV27
    refine lv_if_eq (tgt := 23) hx hb dX11_paper_11 (by decide) (fun c32 => ?_) (fun c32 => ?_)
    · have h33 := itS c32 h24
      clear h24 c32
      refine lv_iconst (v := (-1)) hx hb dX11_paper_23 (by decide) ?_
      obtain ⟨q35, q36, q37, q38, q39, q40, q41, q42⟩ := tup8_s h33
      clear h33
      exact hret _ () _ _ _ _ q35 rfl (by rw [← q36, ← q37, ← q38, ← q39, ← q40, ← q41, ← q42]; exact hV31) dX11_paper_24
    · have h34 := ieS c32 h24
      clear h24 c32
      refine lv_iload_n hx hb dX11_paper_14 rfl (lv_at hl 3 rfl) ?_
      refine lv_iconst (v := 0) hx hb dX11_paper_15 (by decide) ?_
      refine lv_iconst (v := 1) hx hb dX11_paper_16 (by decide) ?_
      obtain ⟨r17_43, hc44, h45⟩ := cb1_s h34
      clear h34
      have hY46 : kV E A s.heap _ _ (([] ++ ([(a0, .inr (11, [w0_0, w0_1, .ref a2, .ref a1, w0_4, w0_5, w0_6, w0_7, w0_8])), (a1, .inr (4, [.ref a3, .ref a5, .ref a4, w1_3, w1_4, .int s_page_readers, .int s_page_day])), (a2, .inr (7, [.ref a7, .ref a6, .int s_sky_many, .int s_sky_seed])), (a3, .inl (E.2 0, 1440, .inl s_page_heights)), (a4, .inl (E.2 0, 1440, .inl s_page_highest)), (a5, .inl (E.2 0, 1440, .inl s_page_shapes)), (a6, .inr (5, [.ref a8, .ref a9])), (a7, .inl (E.2 3, 10, .inr (.inr (.inr (.inr ((kgA G))))))), (a8, .inl (E.2 0, 128, .inl s_sky_reckoner_letters)), (a9, .inl (E.2 0, 32, .inl s_sky_reckoner_values))] : va_W)) ++ kpool E G) := hV31.subP [0, 1, 2, 3, 4, 5, 6, 7, 8, 9] rfl rfl
      have hY47 := hY46.swapT
      clear hY46
      refine kgoiT (krunS (rest := []) X hY47 (List.range _) (c_X11_isWithin l E _ p3 0 1 r17_43 hc44) mw_187 kb_X11_isWithin (kndR _) (krg _ _) rfl hl.1 rfl (Nat.le_of_ble_eq_true rfl) dX11_paper_17 (by decide)) X hY47 (fun u51 H locs hV48 => ?_)
      clear hY47 hV31
      have hV52 : kV E A s.heap H locs (([(a0, .inr (11, [w0_0, w0_1, .ref a2, .ref a1, w0_4, w0_5, w0_6, w0_7, w0_8])), (a1, .inr (4, [.ref a3, .ref a5, .ref a4, w1_3, w1_4, .int s_page_readers, .int s_page_day])), (a2, .inr (7, [.ref a7, .ref a6, .int s_sky_many, .int s_sky_seed])), (a3, .inl (E.2 0, 1440, .inl s_page_heights)), (a4, .inl (E.2 0, 1440, .inl s_page_highest)), (a5, .inl (E.2 0, 1440, .inl s_page_shapes)), (a6, .inr (5, [.ref a8, .ref a9])), (a7, .inl (E.2 3, 10, .inr (.inr (.inr (.inr ((kgA G))))))), (a8, .inl (E.2 0, 128, .inl s_sky_reckoner_letters)), (a9, .inl (E.2 0, 32, .inl s_sky_reckoner_values))] : va_W) ++ kpool E G) := hV48.subP [0, 1, 2, 3, 4, 5, 6, 7, 8, 9] rfl rfl
      clear hV48
      refine lv_if_ne (tgt := 25) hx hb dX11_paper_20 (by decide) (fun c53 => ?_) (fun c53 => ?_)
      · have h54 := ieS c53 h45
        clear h45 c53
        refine lv_aload_n hx hb dX11_paper_25 rfl (lv_at hl 0 rfl) ?_
        refine kget X hV52 (ci := 11) inlX11 rfl 0 rfl 2 (by decide) mw_23 rfl dX11_paper_26 ?_
        refine lv_aload_n hx hb dX11_paper_29 rfl (lv_at hl 0 rfl) ?_
        refine kget X hV52 (ci := 11) inlX11 rfl 0 rfl 3 (by decide) mw_27 rfl dX11_paper_30 ?_
        refine lv_iload_n hx hb dX11_paper_33 rfl (lv_at hl 1 rfl) ?_
        obtain ⟨o_p1_readers34_56, o_p1_day34_57, o_p1_heights34_58, o_p1_highest34_59, o_p1_shapes34_60, o_reckoner_letters34_61, o_reckoner_values34_62, hc63, h64⟩ := cb7_s h54
        clear h54
        have hY65 : kV E A s.heap _ _ ((([(a2, .inr (7, [.ref a7, .ref a6, .int s_sky_many, .int s_sky_seed])), (a1, .inr (4, [.ref a3, .ref a5, .ref a4, w1_3, w1_4, .int s_page_readers, .int s_page_day])), (a3, .inl (E.2 0, 1440, .inl s_page_heights)), (a4, .inl (E.2 0, 1440, .inl s_page_highest)), (a5, .inl (E.2 0, 1440, .inl s_page_shapes)), (a6, .inr (5, [.ref a8, .ref a9])), (a7, .inl (E.2 3, 10, .inr (.inr (.inr (.inr ((kgA G))))))), (a8, .inl (E.2 0, 128, .inl s_sky_reckoner_letters)), (a9, .inl (E.2 0, 32, .inl s_sky_reckoner_values))] : va_W) ++ ([(a0, .inr (11, [w0_0, w0_1, .ref a2, .ref a1, w0_4, w0_5, w0_6, w0_7, w0_8]))] : va_W)) ++ kpool E G) := hV52.subP [2, 1, 3, 4, 5, 6, 7, 8, 9, 0] rfl rfl
        have hY66 := hY65.swap
        clear hY65
        refine kgovP (krunV (rest := []) X hY66 (List.range _) (c_X7_lay l E _ a2 a1 a3 a4 a5 a6 a7 a8 a9 (w1_3) (w1_4) G s_sky_many s_sky_seed s_page_readers s_page_day s_page_heights s_page_highest s_page_shapes s_sky_reckoner_letters s_sky_reckoner_values p1 o_p1_readers34_56 o_p1_day34_57 o_p1_heights34_58 o_p1_highest34_59 o_p1_shapes34_60 o_reckoner_letters34_61 o_reckoner_values34_62 hc63) mw_767 kb_X7_lay (ci := 7) rfl rfl (kndR _) (krg _ _) rfl hl.1 rfl (Nat.le_of_ble_eq_true rfl) dX11_paper_34 (by decide)) X hY66 (fun u70 H locs hV67 => ?_)
        clear hY66 hV52
        have hV71 : kV E A s.heap H locs (([(a0, .inr (11, [w0_0, w0_1, .ref a2, .ref a1, w0_4, w0_5, w0_6, w0_7, w0_8])), (a1, .inr (4, [.ref a3, .ref a5, .ref a4, w1_3, w1_4, .int o_p1_readers34_56, .int o_p1_day34_57])), (a2, .inr (7, [.ref a7, .ref a6, .int s_sky_many, .int s_sky_seed])), (a3, .inl (E.2 0, 1440, .inl o_p1_heights34_58)), (a4, .inl (E.2 0, 1440, .inl o_p1_highest34_59)), (a5, .inl (E.2 0, 1440, .inl o_p1_shapes34_60)), (a6, .inr (5, [.ref a8, .ref a9])), (a7, .inl (E.2 3, 10, .inr (.inr (.inr (.inr ((kgA G))))))), (a8, .inl (E.2 0, 128, .inl o_reckoner_letters34_61)), (a9, .inl (E.2 0, 32, .inl o_reckoner_values34_62))] : va_W) ++ kpool E G) := kV.subP (X := (([(a0, .inr (11, [w0_0, w0_1, .ref a2, .ref a1, w0_4, w0_5, w0_6, w0_7, w0_8]))] : va_W) ++ ([(a2, .inr (7, [.ref a7, .ref a6, .int s_sky_many, .int s_sky_seed])), (a1, .inr (4, [.ref a3, .ref a5, .ref a4, w1_3, w1_4, .int o_p1_readers34_56, .int o_p1_day34_57])), (a3, .inl (E.2 0, 1440, .inl o_p1_heights34_58)), (a4, .inl (E.2 0, 1440, .inl o_p1_highest34_59)), (a5, .inl (E.2 0, 1440, .inl o_p1_shapes34_60)), (a6, .inr (5, [.ref a8, .ref a9])), (a7, .inl (E.2 3, 10, .inr (.inr (.inr (.inr ((kgA G))))))), (a8, .inl (E.2 0, 128, .inl o_reckoner_letters34_61)), (a9, .inl (E.2 0, 32, .inl o_reckoner_values34_62))] : va_W))) (P := kpool E G) hV67 [0, 2, 1, 3, 4, 5, 6, 7, 8, 9] rfl rfl
        clear hV67
        refine lv_iload_n hx hb dX11_paper_37 rfl (lv_at hl 3 rfl) ?_
        refine lv_if_ne (tgt := 53) hx hb dX11_paper_38 (by decide) (fun c72 => ?_) (fun c72 => ?_)
        · have h73 := ieS c72 h64
          clear h64 c72
          refine lv_aload_n hx hb dX11_paper_53 rfl (lv_at hl 0 rfl) ?_
          refine kget X hV71 (ci := 11) inlX11 rfl 0 rfl 3 (by decide) mw_27 rfl dX11_paper_54 ?_
          refine kget X hV71 (ci := 4) inlX4 rfl 1 rfl 1 (by decide) mw_766 rfl dX11_paper_57 ?_
          refine lv_iload_n hx hb dX11_paper_60 rfl (lv_at hl 2 rfl) ?_
          obtain ⟨hi76, v61_75, e77, h78⟩ := rdI_s h73
          clear h73
          refine kiald X hV71 5 rfl hi76 e77 dX11_paper_61 ?_
          clear hi76 e77
          obtain ⟨q79, q80, q81, q82, q83, q84, q85, q86⟩ := tup8_s h78
          clear h78
          exact hret _ () _ _ _ _ q79 rfl (by rw [← q80, ← q81, ← q82, ← q83, ← q84, ← q85, ← q86]; exact hV71) dX11_paper_62
        · have h74 := itS c72 h64
          clear h64 c72
          refine lv_aload_n hx hb dX11_paper_41 rfl (lv_at hl 0 rfl) ?_
          refine kget X hV71 (ci := 11) inlX11 rfl 0 rfl 3 (by decide) mw_27 rfl dX11_paper_42 ?_
          refine kget X hV71 (ci := 4) inlX4 rfl 1 rfl 0 (by decide) mw_765 rfl dX11_paper_45 ?_
          refine lv_iload_n hx hb dX11_paper_48 rfl (lv_at hl 2 rfl) ?_
          obtain ⟨hi88, v49_87, e89, h90⟩ := rdI_s h74
          clear h74
          refine kiald X hV71 3 rfl hi88 e89 dX11_paper_49 ?_
          clear hi88 e89
          refine lv_goto (tgt := 62) hx hb dX11_paper_50 (by decide) ?_
          obtain ⟨q91, q92, q93, q94, q95, q96, q97, q98⟩ := tup8_s h90
          clear h90
          exact hret _ () _ _ _ _ q91 rfl (by rw [← q92, ← q93, ← q94, ← q95, ← q96, ← q97, ← q98]; exact hV71) dX11_paper_62
      · have h55 := itS c53 h45
        clear h45 c53
        refine lv_iconst (v := (-1)) hx hb dX11_paper_23 (by decide) ?_
        obtain ⟨q99, q100, q101, q102, q103, q104, q105, q106⟩ := tup8_s h55
        clear h55
        exact hret _ () _ _ _ _ q99 rfl (by rw [← q100, ← q101, ← q102, ← q103, ← q104, ← q105, ← q106]; exact hV52) dX11_paper_24
noncomputable def f_X11_marks_J47 (p1 : Int32) (p3 : Int32) (o_p1_day30_53 : Int32) (o_p1_heights30_54 : Nat → Int32) (o_p1_highest30_55 : Nat → Int32) (o_p1_shapes30_56 : Nat → Int32) (o_reckoner_letters30_57 : Nat → Int32) (o_reckoner_values30_58 : Nat → Int32)  (page_readers__70 : Int32) (page_marked__71 : Nat → Int32) (page_reckoner_letters__72 : Nat → Int32) (page_reckoner_values__73 : Nat → Int32) : Option (Int32 × Int32 × Int32 × (Nat → Int32) × (Nat → Int32) × (Nat → Int32) × (Nat → Int32) × (Nat → Int32) × (Nat → Int32) × (Nat → Int32) × (Nat → Int32)) :=
    if p3 = (-1) then
    (cb1 (f_X4_marksOf page_marked__71 p1) fun r57_98 =>
      some (r57_98, page_readers__70, o_p1_day30_53, o_p1_heights30_54, o_p1_highest30_55, page_marked__71, o_p1_shapes30_56, page_reckoner_letters__72, page_reckoner_values__73, o_reckoner_letters30_57, o_reckoner_values30_58))
    else
    (cb1 (f_X4_markNumber o_p1_heights30_54 page_marked__71 p1 p3) fun r69_77 =>
      some (r69_77, page_readers__70, o_p1_day30_53, o_p1_heights30_54, o_p1_highest30_55, page_marked__71, o_p1_shapes30_56, page_reckoner_letters__72, page_reckoner_values__73, o_reckoner_letters30_57, o_reckoner_values30_58))
noncomputable def f_X11_marks (G : kG) (s_page_readers : Int32) (s_page_day : Int32) (s_sky_many : Int32) (s_sky_seed : Int32) (s_page_heights : Nat → Int32) (s_page_highest : Nat → Int32) (s_page_marked : Nat → Int32) (s_page_shapes : Nat → Int32) (s_page_reckoner_letters : Nat → Int32) (s_page_reckoner_values : Nat → Int32) (s_sky_reckoner_letters : Nat → Int32) (s_sky_reckoner_values : Nat → Int32) (p1 : Int32) (p2 : Int32) (p3 : Int32) : Option (Int32 × Int32 × Int32 × (Nat → Int32) × (Nat → Int32) × (Nat → Int32) × (Nat → Int32) × (Nat → Int32) × (Nat → Int32) × (Nat → Int32) × (Nat → Int32)) :=
    cb1 (f_X11_isReader p1) fun r1_1 =>
    if r1_1 = 0 then
    (some ((-1), s_page_readers, s_page_day, s_page_heights, s_page_highest, s_page_marked, s_page_shapes, s_page_reckoner_letters, s_page_reckoner_values, s_sky_reckoner_letters, s_sky_reckoner_values))
    else
    (cb1 (f_X11_isDay p2) fun r8_25 =>
      if r8_25 = 0 then
      (some ((-1), s_page_readers, s_page_day, s_page_heights, s_page_highest, s_page_marked, s_page_shapes, s_page_reckoner_letters, s_page_reckoner_values, s_sky_reckoner_letters, s_sky_reckoner_values))
      else
      (if (-1) ≤ p3 then
        (cb7 (f_X7_lay G s_sky_many s_sky_seed s_page_readers s_page_day s_page_heights s_page_highest s_page_shapes s_sky_reckoner_letters s_sky_reckoner_values p2) fun o_p1_readers30_52 o_p1_day30_53 o_p1_heights30_54 o_p1_highest30_55 o_p1_shapes30_56 o_reckoner_letters30_57 o_reckoner_values30_58 =>
          gdN 4 p1 <|
          oT G (some (10 + (Int32.toNatClampNeg p1)))
          (cb3 (f_X4_read_N o_p1_readers30_52 o_p1_day30_53 o_p1_heights30_54 s_page_marked o_p1_shapes30_56 s_page_reckoner_letters p1) fun o_readers44_128 o_marked44_129 o_reckoner_letters44_130 =>
            (f_X11_marks_J47 p1 p3 o_p1_day30_53 o_p1_heights30_54 o_p1_highest30_55 o_p1_shapes30_56 o_reckoner_letters30_57 o_reckoner_values30_58 ) o_readers44_128 o_marked44_129 o_reckoner_letters44_130 s_page_reckoner_values)
          fun _ t_120 =>
          (cb4 (f_X4_read (t_120.2.2.1.1) (t_120.2.2.2.2.1) (t_120.2.2.2.1.1) o_p1_readers30_52 o_p1_day30_53 (t_120.2.1) (t_120.2.2.1.2) (t_120.2.2.2.2.2) (t_120.2.2.2.1.2) o_p1_heights30_54 s_page_marked o_p1_shapes30_56 s_page_reckoner_letters s_page_reckoner_values p1) fun o_readers44_141 o_marked44_142 o_reckoner_letters44_143 o_reckoner_values44_144 =>
            (f_X11_marks_J47 p1 p3 o_p1_day30_53 o_p1_heights30_54 o_p1_highest30_55 o_p1_shapes30_56 o_reckoner_letters30_57 o_reckoner_values30_58 ) o_readers44_141 o_marked44_142 o_reckoner_letters44_143 o_reckoner_values44_144))
        else
        (some ((-1), s_page_readers, s_page_day, s_page_heights, s_page_highest, s_page_marked, s_page_shapes, s_page_reckoner_letters, s_page_reckoner_values, s_sky_reckoner_letters, s_sky_reckoner_values))))
abbrev r_X11_marks : Room := { frames := 6, cells := 0, slots := 0, locals := 148 }
set_option maxHeartbeats 4000000 in
set_option maxRecDepth 100000 in
theorem c_X11_marks (l : Launch) (E : kE) (sz : Nat) (a0 a1 a2 a3 a4 a5 a6 a7 a8 a9 a10 a11 a12 a13 a14 : Nat) (w0_0 w0_1 w0_5 w0_6 w0_7 w0_8 : Value) (G : kG) (s_page_readers : Int32) (s_page_day : Int32) (s_sky_many : Int32) (s_sky_seed : Int32) (s_page_heights : Nat → Int32) (s_page_highest : Nat → Int32) (s_page_marked : Nat → Int32) (s_page_shapes : Nat → Int32) (s_page_reckoner_letters : Nat → Int32) (s_page_reckoner_values : Nat → Int32) (s_sky_reckoner_letters : Nat → Int32) (s_sky_reckoner_values : Nat → Int32) (p1 : Int32) (p2 : Int32) (p3 : Int32) (r : Int32) (o_page_readers : Int32) (o_page_day : Int32) (o_page_heights : Nat → Int32) (o_page_highest : Nat → Int32) (o_page_marked : Nat → Int32) (o_page_shapes : Nat → Int32) (o_page_reckoner_letters : Nat → Int32) (o_page_reckoner_values : Nat → Int32) (o_sky_reckoner_letters : Nat → Int32) (o_sky_reckoner_values : Nat → Int32) (h : f_X11_marks G s_page_readers s_page_day s_sky_many s_sky_seed s_page_heights s_page_highest s_page_marked s_page_shapes s_page_reckoner_letters s_page_reckoner_values s_sky_reckoner_letters s_sky_reckoner_values p1 p2 p3 = some (r, o_page_readers, o_page_day, o_page_heights, o_page_highest, o_page_marked, o_page_shapes, o_page_reckoner_letters, o_page_reckoner_values, o_sky_reckoner_letters, o_sky_reckoner_values)) : kMi l yX11_marks cX11_marks 4 (some .int) r_X11_marks [.ref a0, .int p1, .int p2, .int p3] E (([(a0, .inr (11, [w0_0, w0_1, .ref a2, .ref a1, .ref a3, w0_5, w0_6, w0_7, w0_8])), (a1, .inr (4, [.ref a4, .ref a8, .ref a5, .ref a6, .ref a7, .int s_page_readers, .int s_page_day])), (a2, .inr (7, [.ref a10, .ref a9, .int s_sky_many, .int s_sky_seed])), (a3, .inl (E.2 4, 4, .inr (.inr (.inr (.inr ((kgW G))))))), (a4, .inl (E.2 0, 1440, .inl s_page_heights)), (a5, .inl (E.2 0, 1440, .inl s_page_highest)), (a6, .inl (E.2 0, 1440, .inl s_page_marked)), (a7, .inr (5, [.ref a11, .ref a12])), (a8, .inl (E.2 0, 1440, .inl s_page_shapes)), (a9, .inr (5, [.ref a13, .ref a14])), (a10, .inl (E.2 3, 10, .inr (.inr (.inr (.inr ((kgA G))))))), (a11, .inl (E.2 0, 128, .inl s_page_reckoner_letters)), (a12, .inl (E.2 0, 32, .inl s_page_reckoner_values)), (a13, .inl (E.2 0, 128, .inl s_sky_reckoner_letters)), (a14, .inl (E.2 0, 32, .inl s_sky_reckoner_values))] : va_W) ++ kpool E G) sz 0 0 (fun x (_ : Unit) => x = r) (fun _ => (([(a0, .inr (11, [w0_0, w0_1, .ref a2, .ref a1, .ref a3, w0_5, w0_6, w0_7, w0_8])), (a1, .inr (4, [.ref a4, .ref a8, .ref a5, .ref a6, .ref a7, .int o_page_readers, .int o_page_day])), (a2, .inr (7, [.ref a10, .ref a9, .int s_sky_many, .int s_sky_seed])), (a3, .inl (E.2 4, 4, .inr (.inr (.inr (.inr ((kgW G))))))), (a4, .inl (E.2 0, 1440, .inl o_page_heights)), (a5, .inl (E.2 0, 1440, .inl o_page_highest)), (a6, .inl (E.2 0, 1440, .inl o_page_marked)), (a7, .inr (5, [.ref a11, .ref a12])), (a8, .inl (E.2 0, 1440, .inl o_page_shapes)), (a9, .inr (5, [.ref a13, .ref a14])), (a10, .inl (E.2 3, 10, .inr (.inr (.inr (.inr ((kgA G))))))), (a11, .inl (E.2 0, 128, .inl o_page_reckoner_letters)), (a12, .inl (E.2 0, 32, .inl o_page_reckoner_values)), (a13, .inl (E.2 0, 128, .inl o_sky_reckoner_letters)), (a14, .inl (E.2 0, 32, .inl o_sky_reckoner_values))] : va_W) ++ kpool E G)) := by
  refine kmeti rfl (Nat.le_of_ble_eq_true rfl) ?_
  intro p e s m args below meth c ls A Q X hV hret hl
  have X : kC p s m c cX11_marks 4 RX11 args E A := X
  have hx := X.1
  have hb := X.2.1
  have hl : lv_has ls 4 [(0, .ref a0), (1, .int p1), (2, .int p2), (3, .int p3)] := hl
  rw [f_X11_marks] at h
  refine lv_iload_n hx hb dX11_marks_0 rfl (lv_at hl 1 rfl) ?_
  obtain ⟨r1_1, hc2, h3⟩ := cb1_s h
  clear h
  have hY4 : kV E A s.heap _ _ (([] ++ ([(a0, .inr (11, [w0_0, w0_1, .ref a2, .ref a1, .ref a3, w0_5, w0_6, w0_7, w0_8])), (a1, .inr (4, [.ref a4, .ref a8, .ref a5, .ref a6, .ref a7, .int s_page_readers, .int s_page_day])), (a2, .inr (7, [.ref a10, .ref a9, .int s_sky_many, .int s_sky_seed])), (a3, .inl (E.2 4, 4, .inr (.inr (.inr (.inr ((kgW G))))))), (a4, .inl (E.2 0, 1440, .inl s_page_heights)), (a5, .inl (E.2 0, 1440, .inl s_page_highest)), (a6, .inl (E.2 0, 1440, .inl s_page_marked)), (a7, .inr (5, [.ref a11, .ref a12])), (a8, .inl (E.2 0, 1440, .inl s_page_shapes)), (a9, .inr (5, [.ref a13, .ref a14])), (a10, .inl (E.2 3, 10, .inr (.inr (.inr (.inr ((kgA G))))))), (a11, .inl (E.2 0, 128, .inl s_page_reckoner_letters)), (a12, .inl (E.2 0, 32, .inl s_page_reckoner_values)), (a13, .inl (E.2 0, 128, .inl s_sky_reckoner_letters)), (a14, .inl (E.2 0, 32, .inl s_sky_reckoner_values))] : va_W)) ++ kpool E G) := hV.subP [0, 1, 2, 3, 4, 5, 6, 7, 8, 9, 10, 11, 12, 13, 14] rfl rfl
  have hY5 := hY4.swapT
  clear hY4
  refine kgoiT (krunS (rest := []) X hY5 (List.range _) (c_X11_isReader l E _ p1 r1_1 hc2) mw_584 kb_X11_isReader (kndR _) (krg _ _) rfl hl.1 rfl (Nat.le_of_ble_eq_true rfl) dX11_marks_1 (by decide)) X hY5 (fun u9 H locs hV6 => ?_)
  clear hY5 hV
  have hV10 : kV E A s.heap H locs (([(a0, .inr (11, [w0_0, w0_1, .ref a2, .ref a1, .ref a3, w0_5, w0_6, w0_7, w0_8])), (a1, .inr (4, [.ref a4, .ref a8, .ref a5, .ref a6, .ref a7, .int s_page_readers, .int s_page_day])), (a2, .inr (7, [.ref a10, .ref a9, .int s_sky_many, .int s_sky_seed])), (a3, .inl (E.2 4, 4, .inr (.inr (.inr (.inr ((kgW G))))))), (a4, .inl (E.2 0, 1440, .inl s_page_heights)), (a5, .inl (E.2 0, 1440, .inl s_page_highest)), (a6, .inl (E.2 0, 1440, .inl s_page_marked)), (a7, .inr (5, [.ref a11, .ref a12])), (a8, .inl (E.2 0, 1440, .inl s_page_shapes)), (a9, .inr (5, [.ref a13, .ref a14])), (a10, .inl (E.2 3, 10, .inr (.inr (.inr (.inr ((kgA G))))))), (a11, .inl (E.2 0, 128, .inl s_page_reckoner_letters)), (a12, .inl (E.2 0, 32, .inl s_page_reckoner_values)), (a13, .inl (E.2 0, 128, .inl s_sky_reckoner_letters)), (a14, .inl (E.2 0, 32, .inl s_sky_reckoner_values))] : va_W) ++ kpool E G) := hV6.subP [0, 1, 2, 3, 4, 5, 6, 7, 8, 9, 10, 11, 12, 13, 14] rfl rfl
  clear hV6
  refine lv_if_eq (tgt := 19) hx hb dX11_marks_4 (by decide) (fun c11 => ?_) (fun c11 => ?_)
  · have h12 := itS c11 h3
    clear h3 c11
    refine lv_iconst (v := (-1)) hx hb dX11_marks_19 (by decide) ?_
    obtain ⟨q14, q15, q16, q17, q18, q19, q20, q21, q22, q23, q24⟩ := tup11_s h12
    clear h12
    exact hret _ () _ _ _ _ q14 rfl (by rw [← q15, ← q16, ← q17, ← q18, ← q19, ← q20, ← q21, ← q22, ← q23, ← q24]; exact hV10) dX11_marks_20
  · have h13 := ieS c11 h3
    clear h3 c11
    refine lv_iload_n hx hb dX11_marks_7 rfl (lv_at hl 2 rfl) ?_
    obtain ⟨r8_25, hc26, h27⟩ := cb1_s h13
    clear h13
    have hY28 : kV E A s.heap _ _ (([] ++ ([(a0, .inr (11, [w0_0, w0_1, .ref a2, .ref a1, .ref a3, w0_5, w0_6, w0_7, w0_8])), (a1, .inr (4, [.ref a4, .ref a8, .ref a5, .ref a6, .ref a7, .int s_page_readers, .int s_page_day])), (a2, .inr (7, [.ref a10, .ref a9, .int s_sky_many, .int s_sky_seed])), (a3, .inl (E.2 4, 4, .inr (.inr (.inr (.inr ((kgW G))))))), (a4, .inl (E.2 0, 1440, .inl s_page_heights)), (a5, .inl (E.2 0, 1440, .inl s_page_highest)), (a6, .inl (E.2 0, 1440, .inl s_page_marked)), (a7, .inr (5, [.ref a11, .ref a12])), (a8, .inl (E.2 0, 1440, .inl s_page_shapes)), (a9, .inr (5, [.ref a13, .ref a14])), (a10, .inl (E.2 3, 10, .inr (.inr (.inr (.inr ((kgA G))))))), (a11, .inl (E.2 0, 128, .inl s_page_reckoner_letters)), (a12, .inl (E.2 0, 32, .inl s_page_reckoner_values)), (a13, .inl (E.2 0, 128, .inl s_sky_reckoner_letters)), (a14, .inl (E.2 0, 32, .inl s_sky_reckoner_values))] : va_W)) ++ kpool E G) := hV10.subP [0, 1, 2, 3, 4, 5, 6, 7, 8, 9, 10, 11, 12, 13, 14] rfl rfl
    have hY29 := hY28.swapT
    clear hY28
    refine kgoiT (krunS (rest := []) X hY29 (List.range _) (c_X11_isDay l E _ p2 r8_25 hc26) mw_622 kb_X11_isDay (kndR _) (krg _ _) rfl hl.1 rfl (Nat.le_of_ble_eq_true rfl) dX11_marks_8 (by decide)) X hY29 (fun u33 H locs hV30 => ?_)
    clear hY29 hV10
    have hV34 : kV E A s.heap H locs (([(a0, .inr (11, [w0_0, w0_1, .ref a2, .ref a1, .ref a3, w0_5, w0_6, w0_7, w0_8])), (a1, .inr (4, [.ref a4, .ref a8, .ref a5, .ref a6, .ref a7, .int s_page_readers, .int s_page_day])), (a2, .inr (7, [.ref a10, .ref a9, .int s_sky_many, .int s_sky_seed])), (a3, .inl (E.2 4, 4, .inr (.inr (.inr (.inr ((kgW G))))))), (a4, .inl (E.2 0, 1440, .inl s_page_heights)), (a5, .inl (E.2 0, 1440, .inl s_page_highest)), (a6, .inl (E.2 0, 1440, .inl s_page_marked)), (a7, .inr (5, [.ref a11, .ref a12])), (a8, .inl (E.2 0, 1440, .inl s_page_shapes)), (a9, .inr (5, [.ref a13, .ref a14])), (a10, .inl (E.2 3, 10, .inr (.inr (.inr (.inr ((kgA G))))))), (a11, .inl (E.2 0, 128, .inl s_page_reckoner_letters)), (a12, .inl (E.2 0, 32, .inl s_page_reckoner_values)), (a13, .inl (E.2 0, 128, .inl s_sky_reckoner_letters)), (a14, .inl (E.2 0, 32, .inl s_sky_reckoner_values))] : va_W) ++ kpool E G) := hV30.subP [0, 1, 2, 3, 4, 5, 6, 7, 8, 9, 10, 11, 12, 13, 14] rfl rfl
    clear hV30
    refine lv_if_eq (tgt := 19) hx hb dX11_marks_11 (by decide) (fun c35 => ?_) (fun c35 => ?_)
    · have h36 := itS c35 h27
      clear h27 c35
      refine lv_iconst (v := (-1)) hx hb dX11_marks_19 (by decide) ?_
      obtain ⟨q38, q39, q40, q41, q42, q43, q44, q45, q46, q47, q48⟩ := tup11_s h36
      clear h36
      exact hret _ () _ _ _ _ q38 rfl (by rw [← q39, ← q40, ← q41, ← q42, ← q43, ← q44, ← q45, ← q46, ← q47, ← q48]; exact hV34) dX11_marks_20
    · have h37 := ieS c35 h27
      clear h27 c35
      refine lv_iload_n hx hb dX11_marks_14 rfl (lv_at hl 3 rfl) ?_
      refine lv_iconst (v := (-1)) hx hb dX11_marks_15 (by decide) ?_
      refine lv_icmp_ge (tgt := 21) hx hb dX11_marks_16 (by decide) (fun c49 => ?_) (fun c49 => ?_)
      · have h50 := itS c49 h37
        clear h37 c49
        refine lv_aload_n hx hb dX11_marks_21 rfl (lv_at hl 0 rfl) ?_
        refine kget X hV34 (ci := 11) inlX11 rfl 0 rfl 2 (by decide) mw_23 rfl dX11_marks_22 ?_
        refine lv_aload_n hx hb dX11_marks_25 rfl (lv_at hl 0 rfl) ?_
        refine kget X hV34 (ci := 11) inlX11 rfl 0 rfl 3 (by decide) mw_27 rfl dX11_marks_26 ?_
        refine lv_iload_n hx hb dX11_marks_29 rfl (lv_at hl 2 rfl) ?_
        obtain ⟨o_p1_readers30_52, o_p1_day30_53, o_p1_heights30_54, o_p1_highest30_55, o_p1_shapes30_56, o_reckoner_letters30_57, o_reckoner_values30_58, hc59, h60⟩ := cb7_s h50
        clear h50
        have hY61 : kV E A s.heap _ _ ((([(a2, .inr (7, [.ref a10, .ref a9, .int s_sky_many, .int s_sky_seed])), (a1, .inr (4, [.ref a4, .ref a8, .ref a5, .ref a6, .ref a7, .int s_page_readers, .int s_page_day])), (a4, .inl (E.2 0, 1440, .inl s_page_heights)), (a5, .inl (E.2 0, 1440, .inl s_page_highest)), (a8, .inl (E.2 0, 1440, .inl s_page_shapes)), (a9, .inr (5, [.ref a13, .ref a14])), (a10, .inl (E.2 3, 10, .inr (.inr (.inr (.inr ((kgA G))))))), (a13, .inl (E.2 0, 128, .inl s_sky_reckoner_letters)), (a14, .inl (E.2 0, 32, .inl s_sky_reckoner_values))] : va_W) ++ ([(a0, .inr (11, [w0_0, w0_1, .ref a2, .ref a1, .ref a3, w0_5, w0_6, w0_7, w0_8])), (a3, .inl (E.2 4, 4, .inr (.inr (.inr (.inr ((kgW G))))))), (a6, .inl (E.2 0, 1440, .inl s_page_marked)), (a7, .inr (5, [.ref a11, .ref a12])), (a11, .inl (E.2 0, 128, .inl s_page_reckoner_letters)), (a12, .inl (E.2 0, 32, .inl s_page_reckoner_values))] : va_W)) ++ kpool E G) := hV34.subP [2, 1, 4, 5, 8, 9, 10, 13, 14, 0, 3, 6, 7, 11, 12] rfl rfl
        have hY62 := hY61.swap
        clear hY61
        refine kgovP (krunV (rest := []) X hY62 (List.range _) (c_X7_lay l E _ a2 a1 a4 a5 a8 a9 a10 a13 a14 (.ref a6) (.ref a7) G s_sky_many s_sky_seed s_page_readers s_page_day s_page_heights s_page_highest s_page_shapes s_sky_reckoner_letters s_sky_reckoner_values p2 o_p1_readers30_52 o_p1_day30_53 o_p1_heights30_54 o_p1_highest30_55 o_p1_shapes30_56 o_reckoner_letters30_57 o_reckoner_values30_58 hc59) mw_767 kb_X7_lay (ci := 7) rfl rfl (kndR _) (krg _ _) rfl hl.1 rfl (Nat.le_of_ble_eq_true rfl) dX11_marks_30 (by decide)) X hY62 (fun u66 H locs hV63 => ?_)
        clear hY62 hV34
        have hV67 : kV E A s.heap H locs (([(a0, .inr (11, [w0_0, w0_1, .ref a2, .ref a1, .ref a3, w0_5, w0_6, w0_7, w0_8])), (a1, .inr (4, [.ref a4, .ref a8, .ref a5, .ref a6, .ref a7, .int o_p1_readers30_52, .int o_p1_day30_53])), (a2, .inr (7, [.ref a10, .ref a9, .int s_sky_many, .int s_sky_seed])), (a3, .inl (E.2 4, 4, .inr (.inr (.inr (.inr ((kgW G))))))), (a4, .inl (E.2 0, 1440, .inl o_p1_heights30_54)), (a5, .inl (E.2 0, 1440, .inl o_p1_highest30_55)), (a6, .inl (E.2 0, 1440, .inl s_page_marked)), (a7, .inr (5, [.ref a11, .ref a12])), (a8, .inl (E.2 0, 1440, .inl o_p1_shapes30_56)), (a9, .inr (5, [.ref a13, .ref a14])), (a10, .inl (E.2 3, 10, .inr (.inr (.inr (.inr ((kgA G))))))), (a11, .inl (E.2 0, 128, .inl s_page_reckoner_letters)), (a12, .inl (E.2 0, 32, .inl s_page_reckoner_values)), (a13, .inl (E.2 0, 128, .inl o_reckoner_letters30_57)), (a14, .inl (E.2 0, 32, .inl o_reckoner_values30_58))] : va_W) ++ kpool E G) := kV.subP (X := (([(a0, .inr (11, [w0_0, w0_1, .ref a2, .ref a1, .ref a3, w0_5, w0_6, w0_7, w0_8])), (a3, .inl (E.2 4, 4, .inr (.inr (.inr (.inr ((kgW G))))))), (a6, .inl (E.2 0, 1440, .inl s_page_marked)), (a7, .inr (5, [.ref a11, .ref a12])), (a11, .inl (E.2 0, 128, .inl s_page_reckoner_letters)), (a12, .inl (E.2 0, 32, .inl s_page_reckoner_values))] : va_W) ++ ([(a2, .inr (7, [.ref a10, .ref a9, .int s_sky_many, .int s_sky_seed])), (a1, .inr (4, [.ref a4, .ref a8, .ref a5, .ref a6, .ref a7, .int o_p1_readers30_52, .int o_p1_day30_53])), (a4, .inl (E.2 0, 1440, .inl o_p1_heights30_54)), (a5, .inl (E.2 0, 1440, .inl o_p1_highest30_55)), (a8, .inl (E.2 0, 1440, .inl o_p1_shapes30_56)), (a9, .inr (5, [.ref a13, .ref a14])), (a10, .inl (E.2 3, 10, .inr (.inr (.inr (.inr ((kgA G))))))), (a13, .inl (E.2 0, 128, .inl o_reckoner_letters30_57)), (a14, .inl (E.2 0, 32, .inl o_reckoner_values30_58))] : va_W))) (P := kpool E G) hV63 [0, 7, 6, 1, 8, 9, 2, 3, 10, 11, 12, 4, 5, 13, 14] rfl rfl
        clear hV63
        refine lv_aload_n hx hb dX11_marks_33 rfl (lv_at hl 0 rfl) ?_
        refine kget X hV67 (ci := 11) inlX11 rfl 0 rfl 3 (by decide) mw_27 rfl dX11_marks_34 ?_
        refine lv_iload_n hx hb dX11_marks_37 rfl (lv_at hl 1 rfl) ?_
        refine lv_aload_n hx hb dX11_marks_38 rfl (lv_at hl 0 rfl) ?_
        refine kget X hV67 (ci := 11) inlX11 rfl 0 rfl 4 (by decide) mw_29 rfl dX11_marks_39 ?_
        refine lv_iload_n hx hb dX11_marks_42 rfl (lv_at hl 1 rfl) ?_
        obtain ⟨hi68, h69⟩ := gdN_s h60
        clear h60
        refine kaald X hV67 3 4 rfl rfl hi68 rfl dX11_marks_43 ?_
        clear hi68
        refine W.eq (g2 := F0 m 44 ls [va_rf ((some (10 + (Int32.toNatClampNeg p1))).bind (kgX G)), .int p1, .ref a1]) rfl ?_
        have J47 : ∀ (page_readers__70 : Int32) (page_marked__71 : Nat → Int32) (page_reckoner_letters__72 : Nat → Int32) (page_reckoner_values__73 : Nat → Int32) (H : Heap) (locs : List Loc) (ls : Array Slot), (f_X11_marks_J47 p1 p3 o_p1_day30_53 o_p1_heights30_54 o_p1_highest30_55 o_p1_shapes30_56 o_reckoner_letters30_57 o_reckoner_values30_58 ) page_readers__70 page_marked__71 page_reckoner_letters__72 page_reckoner_values__73 = some (r, o_page_readers, o_page_day, o_page_heights, o_page_highest, o_page_marked, o_page_shapes, o_page_reckoner_letters, o_page_reckoner_values, o_sky_reckoner_letters, o_sky_reckoner_values) → kV E A s.heap H locs (([(a0, .inr (11, [w0_0, w0_1, .ref a2, .ref a1, .ref a3, w0_5, w0_6, w0_7, w0_8])), (a1, .inr (4, [.ref a4, .ref a8, .ref a5, .ref a6, .ref a7, .int page_readers__70, .int o_p1_day30_53])), (a2, .inr (7, [.ref a10, .ref a9, .int s_sky_many, .int s_sky_seed])), (a3, .inl (E.2 4, 4, .inr (.inr (.inr (.inr ((kgW G))))))), (a4, .inl (E.2 0, 1440, .inl o_p1_heights30_54)), (a5, .inl (E.2 0, 1440, .inl o_p1_highest30_55)), (a6, .inl (E.2 0, 1440, .inl page_marked__71)), (a7, .inr (5, [.ref a11, .ref a12])), (a8, .inl (E.2 0, 1440, .inl o_p1_shapes30_56)), (a9, .inr (5, [.ref a13, .ref a14])), (a10, .inl (E.2 3, 10, .inr (.inr (.inr (.inr ((kgA G))))))), (a11, .inl (E.2 0, 128, .inl page_reckoner_letters__72)), (a12, .inl (E.2 0, 32, .inl page_reckoner_values__73)), (a13, .inl (E.2 0, 128, .inl o_reckoner_letters30_57)), (a14, .inl (E.2 0, 32, .inl o_reckoner_values30_58))] : va_W) ++ kpool E G) → lv_has ls 4 [(0, .ref a0), (1, .int p1), (3, .int p3)] → W p l e r_X11_marks s m args below meth c H locs 0 0 Q (F0 m 47 ls []) := by
          intro page_readers__70 page_marked__71 page_reckoner_letters__72 page_reckoner_values__73 H locs ls hB47 hVB47 hlB47
          rw [f_X11_marks_J47] at hB47
          refine lv_iload_n hx hb dX11_marks_47 rfl (lv_at hlB47 2 rfl) ?_
          refine lv_iconst (v := (-1)) hx hb dX11_marks_48 (by decide) ?_
          refine lv_icmp_ne (tgt := 63) hx hb dX11_marks_49 (by decide) (fun c74 => ?_) (fun c74 => ?_)
          · have h75 := ieS c74 hB47
            clear hB47 c74
            refine lv_aload_n hx hb dX11_marks_63 rfl (lv_at hlB47 0 rfl) ?_
            refine kget X hVB47 (ci := 11) inlX11 rfl 0 rfl 3 (by decide) mw_27 rfl dX11_marks_64 ?_
            refine lv_iload_n hx hb dX11_marks_67 rfl (lv_at hlB47 1 rfl) ?_
            refine lv_iload_n hx hb dX11_marks_68 rfl (lv_at hlB47 2 rfl) ?_
            obtain ⟨r69_77, hc78, h79⟩ := cb1_s h75
            clear h75
            have hY80 : kV E A s.heap _ _ ((([(a1, .inr (4, [.ref a4, .ref a8, .ref a5, .ref a6, .ref a7, .int page_readers__70, .int o_p1_day30_53])), (a4, .inl (E.2 0, 1440, .inl o_p1_heights30_54)), (a6, .inl (E.2 0, 1440, .inl page_marked__71))] : va_W) ++ ([(a0, .inr (11, [w0_0, w0_1, .ref a2, .ref a1, .ref a3, w0_5, w0_6, w0_7, w0_8])), (a2, .inr (7, [.ref a10, .ref a9, .int s_sky_many, .int s_sky_seed])), (a3, .inl (E.2 4, 4, .inr (.inr (.inr (.inr ((kgW G))))))), (a5, .inl (E.2 0, 1440, .inl o_p1_highest30_55)), (a7, .inr (5, [.ref a11, .ref a12])), (a8, .inl (E.2 0, 1440, .inl o_p1_shapes30_56)), (a9, .inr (5, [.ref a13, .ref a14])), (a10, .inl (E.2 3, 10, .inr (.inr (.inr (.inr ((kgA G))))))), (a11, .inl (E.2 0, 128, .inl page_reckoner_letters__72)), (a12, .inl (E.2 0, 32, .inl page_reckoner_values__73)), (a13, .inl (E.2 0, 128, .inl o_reckoner_letters30_57)), (a14, .inl (E.2 0, 32, .inl o_reckoner_values30_58))] : va_W)) ++ kpool E G) := hVB47.subP [1, 4, 6, 0, 2, 3, 5, 7, 8, 9, 10, 11, 12, 13, 14] rfl rfl
            have hY81 := hY80.swapT
            clear hY80
            refine kgoiT (krunV (rest := []) X hY81 (List.range _) (c_X4_markNumber l E _ a1 a4 a6 (.ref a8) (.ref a5) (.ref a7) (.int page_readers__70) (.int o_p1_day30_53) o_p1_heights30_54 page_marked__71 p1 p3 r69_77 hc78) mw_834 kb_X4_markNumber (ci := 4) rfl rfl (kndR _) (krg _ _) rfl hlB47.1 rfl (Nat.le_of_ble_eq_true rfl) dX11_marks_69 (by decide)) X hY81 (fun u85 H locs hV82 => ?_)
            clear hY81 hVB47
            have hV86 : kV E A s.heap H locs (([(a0, .inr (11, [w0_0, w0_1, .ref a2, .ref a1, .ref a3, w0_5, w0_6, w0_7, w0_8])), (a1, .inr (4, [.ref a4, .ref a8, .ref a5, .ref a6, .ref a7, .int page_readers__70, .int o_p1_day30_53])), (a2, .inr (7, [.ref a10, .ref a9, .int s_sky_many, .int s_sky_seed])), (a3, .inl (E.2 4, 4, .inr (.inr (.inr (.inr ((kgW G))))))), (a4, .inl (E.2 0, 1440, .inl o_p1_heights30_54)), (a5, .inl (E.2 0, 1440, .inl o_p1_highest30_55)), (a6, .inl (E.2 0, 1440, .inl page_marked__71)), (a7, .inr (5, [.ref a11, .ref a12])), (a8, .inl (E.2 0, 1440, .inl o_p1_shapes30_56)), (a9, .inr (5, [.ref a13, .ref a14])), (a10, .inl (E.2 3, 10, .inr (.inr (.inr (.inr ((kgA G))))))), (a11, .inl (E.2 0, 128, .inl page_reckoner_letters__72)), (a12, .inl (E.2 0, 32, .inl page_reckoner_values__73)), (a13, .inl (E.2 0, 128, .inl o_reckoner_letters30_57)), (a14, .inl (E.2 0, 32, .inl o_reckoner_values30_58))] : va_W) ++ kpool E G) := hV82.subP [0, 12, 1, 2, 13, 3, 14, 4, 5, 6, 7, 8, 9, 10, 11] rfl rfl
            clear hV82
            obtain ⟨q87, q88, q89, q90, q91, q92, q93, q94, q95, q96, q97⟩ := tup11_s h79
            clear h79
            exact hret _ () _ _ _ _ q87 rfl (by rw [← q88, ← q89, ← q90, ← q91, ← q92, ← q93, ← q94, ← q95, ← q96, ← q97]; exact hV86) dX11_marks_72
          · have h76 := itS c74 hB47
            clear hB47 c74
            refine lv_aload_n hx hb dX11_marks_52 rfl (lv_at hlB47 0 rfl) ?_
            refine kget X hVB47 (ci := 11) inlX11 rfl 0 rfl 3 (by decide) mw_27 rfl dX11_marks_53 ?_
            refine lv_iload_n hx hb dX11_marks_56 rfl (lv_at hlB47 1 rfl) ?_
            obtain ⟨r57_98, hc99, h100⟩ := cb1_s h76
            clear h76
            have hY101 : kV E A s.heap _ _ ((([(a1, .inr (4, [.ref a4, .ref a8, .ref a5, .ref a6, .ref a7, .int page_readers__70, .int o_p1_day30_53])), (a6, .inl (E.2 0, 1440, .inl page_marked__71))] : va_W) ++ ([(a0, .inr (11, [w0_0, w0_1, .ref a2, .ref a1, .ref a3, w0_5, w0_6, w0_7, w0_8])), (a2, .inr (7, [.ref a10, .ref a9, .int s_sky_many, .int s_sky_seed])), (a3, .inl (E.2 4, 4, .inr (.inr (.inr (.inr ((kgW G))))))), (a4, .inl (E.2 0, 1440, .inl o_p1_heights30_54)), (a5, .inl (E.2 0, 1440, .inl o_p1_highest30_55)), (a7, .inr (5, [.ref a11, .ref a12])), (a8, .inl (E.2 0, 1440, .inl o_p1_shapes30_56)), (a9, .inr (5, [.ref a13, .ref a14])), (a10, .inl (E.2 3, 10, .inr (.inr (.inr (.inr ((kgA G))))))), (a11, .inl (E.2 0, 128, .inl page_reckoner_letters__72)), (a12, .inl (E.2 0, 32, .inl page_reckoner_values__73)), (a13, .inl (E.2 0, 128, .inl o_reckoner_letters30_57)), (a14, .inl (E.2 0, 32, .inl o_reckoner_values30_58))] : va_W)) ++ kpool E G) := hVB47.subP [1, 6, 0, 2, 3, 4, 5, 7, 8, 9, 10, 11, 12, 13, 14] rfl rfl
            have hY102 := hY101.swapT
            clear hY101
            refine kgoiT (krunV (rest := []) X hY102 (List.range _) (c_X4_marksOf l E _ a1 a6 (.ref a4) (.ref a8) (.ref a5) (.ref a7) (.int page_readers__70) (.int o_p1_day30_53) page_marked__71 p1 r57_98 hc99) mw_826 kb_X4_marksOf (ci := 4) rfl rfl (kndR _) (krg _ _) rfl hlB47.1 rfl (Nat.le_of_ble_eq_true rfl) dX11_marks_57 (by decide)) X hY102 (fun u106 H locs hV103 => ?_)
            clear hY102 hVB47
            have hV107 : kV E A s.heap H locs (([(a0, .inr (11, [w0_0, w0_1, .ref a2, .ref a1, .ref a3, w0_5, w0_6, w0_7, w0_8])), (a1, .inr (4, [.ref a4, .ref a8, .ref a5, .ref a6, .ref a7, .int page_readers__70, .int o_p1_day30_53])), (a2, .inr (7, [.ref a10, .ref a9, .int s_sky_many, .int s_sky_seed])), (a3, .inl (E.2 4, 4, .inr (.inr (.inr (.inr ((kgW G))))))), (a4, .inl (E.2 0, 1440, .inl o_p1_heights30_54)), (a5, .inl (E.2 0, 1440, .inl o_p1_highest30_55)), (a6, .inl (E.2 0, 1440, .inl page_marked__71)), (a7, .inr (5, [.ref a11, .ref a12])), (a8, .inl (E.2 0, 1440, .inl o_p1_shapes30_56)), (a9, .inr (5, [.ref a13, .ref a14])), (a10, .inl (E.2 3, 10, .inr (.inr (.inr (.inr ((kgA G))))))), (a11, .inl (E.2 0, 128, .inl page_reckoner_letters__72)), (a12, .inl (E.2 0, 32, .inl page_reckoner_values__73)), (a13, .inl (E.2 0, 128, .inl o_reckoner_letters30_57)), (a14, .inl (E.2 0, 32, .inl o_reckoner_values30_58))] : va_W) ++ kpool E G) := hV103.subP [0, 13, 1, 2, 3, 4, 14, 5, 6, 7, 8, 9, 10, 11, 12] rfl rfl
            clear hV103
            refine lv_goto (tgt := 72) hx hb dX11_marks_60 (by decide) ?_
            obtain ⟨q108, q109, q110, q111, q112, q113, q114, q115, q116, q117, q118⟩ := tup11_s h100
            clear h100
            exact hret _ () _ _ _ _ q108 rfl (by rw [← q109, ← q110, ← q111, ← q112, ← q113, ← q114, ← q115, ← q116, ← q117, ← q118]; exact hV107) dX11_marks_72
        rcases oT_s h69 with ⟨hq121, h122⟩ | ⟨k119, t_120, hr123, hq121, hk124, ht125, h126⟩
        · skip
          refine ktopq hq121.symm ?_
          refine W.eq (g2 := F0 m 44 ls [.null, .int p1, .ref a1]) rfl ?_
          have hn127 := kgXn hq121
          obtain ⟨o_readers44_128, o_marked44_129, o_reckoner_letters44_130, hc131, h132⟩ := cb3_s h122
          clear h122
          have hY133 : kV E A s.heap _ _ ((([(a1, .inr (4, [.ref a4, .ref a8, .ref a5, .ref a6, .ref a7, .int o_p1_readers30_52, .int o_p1_day30_53])), (a4, .inl (E.2 0, 1440, .inl o_p1_heights30_54)), (a6, .inl (E.2 0, 1440, .inl s_page_marked)), (a7, .inr (5, [.ref a11, .ref a12])), (a8, .inl (E.2 0, 1440, .inl o_p1_shapes30_56)), (a11, .inl (E.2 0, 128, .inl s_page_reckoner_letters))] : va_W) ++ ([(a0, .inr (11, [w0_0, w0_1, .ref a2, .ref a1, .ref a3, w0_5, w0_6, w0_7, w0_8])), (a2, .inr (7, [.ref a10, .ref a9, .int s_sky_many, .int s_sky_seed])), (a3, .inl (E.2 4, 4, .inr (.inr (.inr (.inr ((kgW G))))))), (a5, .inl (E.2 0, 1440, .inl o_p1_highest30_55)), (a9, .inr (5, [.ref a13, .ref a14])), (a10, .inl (E.2 3, 10, .inr (.inr (.inr (.inr ((kgA G))))))), (a12, .inl (E.2 0, 32, .inl s_page_reckoner_values)), (a13, .inl (E.2 0, 128, .inl o_reckoner_letters30_57)), (a14, .inl (E.2 0, 32, .inl o_reckoner_values30_58))] : va_W)) ++ kpool E G) := hV67.subP [1, 4, 6, 7, 8, 11, 0, 2, 3, 5, 9, 10, 12, 13, 14] rfl rfl
          have hY134 := hY133.swapT
          clear hY133
          refine kgovT (krunV (rest := []) X hY134 (List.range _) (c_X4_read_N l E _ a1 a4 a6 a7 a8 a11 (.ref a5) (.ref a12) o_p1_readers30_52 o_p1_day30_53 o_p1_heights30_54 s_page_marked o_p1_shapes30_56 s_page_reckoner_letters p1 o_readers44_128 o_marked44_129 o_reckoner_letters44_130 hc131) mw_807 kb_X4_read (ci := 4) rfl rfl (kndR _) (krg _ _) rfl hl.1 rfl (Nat.le_of_ble_eq_true rfl) dX11_marks_44 (by decide)) X hY134 (fun u138 H locs hV135 => ?_)
          clear hY134 hV67
          have hV139 : kV E A s.heap H locs (([(a0, .inr (11, [w0_0, w0_1, .ref a2, .ref a1, .ref a3, w0_5, w0_6, w0_7, w0_8])), (a1, .inr (4, [.ref a4, .ref a8, .ref a5, .ref a6, .ref a7, .int o_readers44_128, .int o_p1_day30_53])), (a2, .inr (7, [.ref a10, .ref a9, .int s_sky_many, .int s_sky_seed])), (a3, .inl (E.2 4, 4, .inr (.inr (.inr (.inr ((kgW G))))))), (a4, .inl (E.2 0, 1440, .inl o_p1_heights30_54)), (a5, .inl (E.2 0, 1440, .inl o_p1_highest30_55)), (a6, .inl (E.2 0, 1440, .inl o_marked44_129)), (a7, .inr (5, [.ref a11, .ref a12])), (a8, .inl (E.2 0, 1440, .inl o_p1_shapes30_56)), (a9, .inr (5, [.ref a13, .ref a14])), (a10, .inl (E.2 3, 10, .inr (.inr (.inr (.inr ((kgA G))))))), (a11, .inl (E.2 0, 128, .inl o_reckoner_letters44_130)), (a12, .inl (E.2 0, 32, .inl s_page_reckoner_values)), (a13, .inl (E.2 0, 128, .inl o_reckoner_letters30_57)), (a14, .inl (E.2 0, 32, .inl o_reckoner_values30_58))] : va_W) ++ kpool E G) := hV135.subP [0, 9, 1, 2, 10, 3, 11, 12, 13, 4, 5, 14, 6, 7, 8] rfl rfl
          clear hV135
          exact J47 o_readers44_128 o_marked44_129 o_reckoner_letters44_130 s_page_reckoner_values _ _ _ h132 hV139 (lv_sub hl [0, 1, 3] rfl)
        · skip
          obtain rfl := Option.some.inj hr123
          refine ktopq hq121.symm ?_
          refine W.eq (g2 := F0 m 44 ls [.ref t_120.1.1, .int p1, .ref a1]) rfl ?_
          have hV140 := kopT (X := [(a0, .inr (11, [w0_0, w0_1, .ref a2, .ref a1, .ref a3, w0_5, w0_6, w0_7, w0_8])), (a1, .inr (4, [.ref a4, .ref a8, .ref a5, .ref a6, .ref a7, .int o_p1_readers30_52, .int o_p1_day30_53])), (a2, .inr (7, [.ref a10, .ref a9, .int s_sky_many, .int s_sky_seed])), (a3, .inl (E.2 4, 4, .inr (.inr (.inr (.inr ((kgW G))))))), (a4, .inl (E.2 0, 1440, .inl o_p1_heights30_54)), (a5, .inl (E.2 0, 1440, .inl o_p1_highest30_55)), (a6, .inl (E.2 0, 1440, .inl s_page_marked)), (a7, .inr (5, [.ref a11, .ref a12])), (a8, .inl (E.2 0, 1440, .inl o_p1_shapes30_56)), (a9, .inr (5, [.ref a13, .ref a14])), (a10, .inl (E.2 3, 10, .inr (.inr (.inr (.inr ((kgA G))))))), (a11, .inl (E.2 0, 128, .inl s_page_reckoner_letters)), (a12, .inl (E.2 0, 32, .inl s_page_reckoner_values)), (a13, .inl (E.2 0, 128, .inl o_reckoner_letters30_57)), (a14, .inl (E.2 0, 32, .inl o_reckoner_values30_58))]) hk124 ht125 hV67
          have hV140 : kV E A s.heap _ _ (([(a0, .inr (11, [w0_0, w0_1, .ref a2, .ref a1, .ref a3, w0_5, w0_6, w0_7, w0_8])), (a1, .inr (4, [.ref a4, .ref a8, .ref a5, .ref a6, .ref a7, .int o_p1_readers30_52, .int o_p1_day30_53])), (a2, .inr (7, [.ref a10, .ref a9, .int s_sky_many, .int s_sky_seed])), (a3, .inl (E.2 4, 4, .inr (.inr (.inr (.inr ((kgW G))))))), (a4, .inl (E.2 0, 1440, .inl o_p1_heights30_54)), (a5, .inl (E.2 0, 1440, .inl o_p1_highest30_55)), (a6, .inl (E.2 0, 1440, .inl s_page_marked)), (a7, .inr (5, [.ref a11, .ref a12])), (a8, .inl (E.2 0, 1440, .inl o_p1_shapes30_56)), (a9, .inr (5, [.ref a13, .ref a14])), (a10, .inl (E.2 3, 10, .inr (.inr (.inr (.inr ((kgA G))))))), (a11, .inl (E.2 0, 128, .inl s_page_reckoner_letters)), (a12, .inl (E.2 0, 32, .inl s_page_reckoner_values)), (a13, .inl (E.2 0, 128, .inl o_reckoner_letters30_57)), (a14, .inl (E.2 0, 32, .inl o_reckoner_values30_58)), ((t_120.1.1), .inr (10, [.int (t_120.2.1), .ref (t_120.1.2.1), .ref (t_120.1.2.2.1), .ref (t_120.1.2.2.2)])), ((t_120.1.2.1), .inl (E.2 0, (t_120.2.2.1.1), .inl ((t_120.2.2.1.2)))), ((t_120.1.2.2.1), .inl (E.2 0, (t_120.2.2.2.1.1), .inl ((t_120.2.2.2.1.2)))), ((t_120.1.2.2.2), .inl (E.2 0, (t_120.2.2.2.2.1), .inl ((t_120.2.2.2.2.2))))] : va_W) ++ kpoolT E G (10 + (Int32.toNatClampNeg p1))) := hV140
          clear hV67
          obtain ⟨o_readers44_141, o_marked44_142, o_reckoner_letters44_143, o_reckoner_values44_144, hc145, h146⟩ := cb4_s h126
          clear h126
          have hY147 : kV E A s.heap _ _ ((([(a1, .inr (4, [.ref a4, .ref a8, .ref a5, .ref a6, .ref a7, .int o_p1_readers30_52, .int o_p1_day30_53])), ((t_120.1.1), .inr (10, [.int (t_120.2.1), .ref (t_120.1.2.1), .ref (t_120.1.2.2.1), .ref (t_120.1.2.2.2)])), ((t_120.1.2.1), .inl (E.2 0, (t_120.2.2.1.1), .inl ((t_120.2.2.1.2)))), ((t_120.1.2.2.2), .inl (E.2 0, (t_120.2.2.2.2.1), .inl ((t_120.2.2.2.2.2)))), ((t_120.1.2.2.1), .inl (E.2 0, (t_120.2.2.2.1.1), .inl ((t_120.2.2.2.1.2)))), (a4, .inl (E.2 0, 1440, .inl o_p1_heights30_54)), (a6, .inl (E.2 0, 1440, .inl s_page_marked)), (a7, .inr (5, [.ref a11, .ref a12])), (a8, .inl (E.2 0, 1440, .inl o_p1_shapes30_56)), (a11, .inl (E.2 0, 128, .inl s_page_reckoner_letters)), (a12, .inl (E.2 0, 32, .inl s_page_reckoner_values))] : va_W) ++ ([(a0, .inr (11, [w0_0, w0_1, .ref a2, .ref a1, .ref a3, w0_5, w0_6, w0_7, w0_8])), (a2, .inr (7, [.ref a10, .ref a9, .int s_sky_many, .int s_sky_seed])), (a3, .inl (E.2 4, 4, .inr (.inr (.inr (.inr ((kgW G))))))), (a5, .inl (E.2 0, 1440, .inl o_p1_highest30_55)), (a9, .inr (5, [.ref a13, .ref a14])), (a10, .inl (E.2 3, 10, .inr (.inr (.inr (.inr ((kgA G))))))), (a13, .inl (E.2 0, 128, .inl o_reckoner_letters30_57)), (a14, .inl (E.2 0, 32, .inl o_reckoner_values30_58))] : va_W)) ++ kpoolT E G (10 + (Int32.toNatClampNeg p1))) := hV140.subP [1, 15, 16, 18, 17, 4, 6, 7, 8, 11, 12, 0, 2, 3, 5, 9, 10, 13, 14] rfl rfl
          have hY148 := hY147.swapT
          clear hY147
          refine kgovT (krunV (rest := []) X hY148 (List.range _) (c_X4_read l E _ a1 (t_120.1.1) (t_120.1.2.1) (t_120.1.2.2.2) (t_120.1.2.2.1) a4 a6 a7 a8 a11 a12 (.ref a5) (t_120.2.2.1.1) (t_120.2.2.2.2.1) (t_120.2.2.2.1.1) o_p1_readers30_52 o_p1_day30_53 (t_120.2.1) (t_120.2.2.1.2) (t_120.2.2.2.2.2) (t_120.2.2.2.1.2) o_p1_heights30_54 s_page_marked o_p1_shapes30_56 s_page_reckoner_letters s_page_reckoner_values p1 o_readers44_141 o_marked44_142 o_reckoner_letters44_143 o_reckoner_values44_144 hc145) mw_807 kb_X4_read (ci := 4) rfl rfl (kndR _) (krg _ _) rfl hl.1 rfl (Nat.le_of_ble_eq_true rfl) dX11_marks_44 (by decide)) X hY148 (fun u152 H locs hV149 => ?_)
          clear hY148 hV140
          have hV154 : kV E A s.heap H locs ((([(a0, .inr (11, [w0_0, w0_1, .ref a2, .ref a1, .ref a3, w0_5, w0_6, w0_7, w0_8])), (a1, .inr (4, [.ref a4, .ref a8, .ref a5, .ref a6, .ref a7, .int o_readers44_141, .int o_p1_day30_53])), (a2, .inr (7, [.ref a10, .ref a9, .int s_sky_many, .int s_sky_seed])), (a3, .inl (E.2 4, 4, .inr (.inr (.inr (.inr ((kgW G))))))), (a4, .inl (E.2 0, 1440, .inl o_p1_heights30_54)), (a5, .inl (E.2 0, 1440, .inl o_p1_highest30_55)), (a6, .inl (E.2 0, 1440, .inl o_marked44_142)), (a7, .inr (5, [.ref a11, .ref a12])), (a8, .inl (E.2 0, 1440, .inl o_p1_shapes30_56)), (a9, .inr (5, [.ref a13, .ref a14])), (a10, .inl (E.2 3, 10, .inr (.inr (.inr (.inr ((kgA G))))))), (a11, .inl (E.2 0, 128, .inl o_reckoner_letters44_143)), (a12, .inl (E.2 0, 32, .inl o_reckoner_values44_144)), (a13, .inl (E.2 0, 128, .inl o_reckoner_letters30_57)), (a14, .inl (E.2 0, 32, .inl o_reckoner_values30_58))] : va_W) ++ (ktc E t_120)) ++ kpoolT E G (10 + (Int32.toNatClampNeg p1))) := hV149.subP [0, 8, 1, 2, 13, 3, 14, 15, 16, 4, 5, 17, 18, 6, 7, 9, 10, 12, 11] rfl rfl
          have hV153 : kV E A s.heap H locs (([(a0, .inr (11, [w0_0, w0_1, .ref a2, .ref a1, .ref a3, w0_5, w0_6, w0_7, w0_8])), (a1, .inr (4, [.ref a4, .ref a8, .ref a5, .ref a6, .ref a7, .int o_readers44_141, .int o_p1_day30_53])), (a2, .inr (7, [.ref a10, .ref a9, .int s_sky_many, .int s_sky_seed])), (a3, .inl (E.2 4, 4, .inr (.inr (.inr (.inr ((kgW G))))))), (a4, .inl (E.2 0, 1440, .inl o_p1_heights30_54)), (a5, .inl (E.2 0, 1440, .inl o_p1_highest30_55)), (a6, .inl (E.2 0, 1440, .inl o_marked44_142)), (a7, .inr (5, [.ref a11, .ref a12])), (a8, .inl (E.2 0, 1440, .inl o_p1_shapes30_56)), (a9, .inr (5, [.ref a13, .ref a14])), (a10, .inl (E.2 3, 10, .inr (.inr (.inr (.inr ((kgA G))))))), (a11, .inl (E.2 0, 128, .inl o_reckoner_letters44_143)), (a12, .inl (E.2 0, 32, .inl o_reckoner_values44_144)), (a13, .inl (E.2 0, 128, .inl o_reckoner_letters30_57)), (a14, .inl (E.2 0, 32, .inl o_reckoner_values30_58))] : va_W) ++ kpool E G) := kclT hk124 ht125 hV154
          clear hV154
          clear hV149
          exact J47 o_readers44_141 o_marked44_142 o_reckoner_letters44_143 o_reckoner_values44_144 _ _ _ h146 hV153 (lv_sub hl [0, 1, 3] rfl)
      · have h51 := ieS c49 h37
        clear h37 c49
        refine lv_iconst (v := (-1)) hx hb dX11_marks_19 (by decide) ?_
        obtain ⟨q155, q156, q157, q158, q159, q160, q161, q162, q163, q164, q165⟩ := tup11_s h51
        clear h51
        exact hret _ () _ _ _ _ q155 rfl (by rw [← q156, ← q157, ← q158, ← q159, ← q160, ← q161, ← q162, ← q163, ← q164, ← q165]; exact hV34) dX11_marks_20
