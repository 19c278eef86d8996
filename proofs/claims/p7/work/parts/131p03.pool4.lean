noncomputable def f_X11_says (G : kG) (s_nights_many : Int32) (s_nights_days : Nat → Int32) (s_nights_reckoner_letters : Nat → Int32) (s_nights_reckoner_values : Nat → Int32) (p1 : Int32) (p2 : Int32) : Option (Int32 × (Nat → Int32) × (Nat → Int32)) :=
    cb1 (f_X2_storyAt G p1) fun r5_1 =>
    oT G r5_1
    (some ((-1000000), s_nights_reckoner_letters, s_nights_reckoner_values))
    fun k_11 t_12 =>
    (cb1 (f_X11_isWithin p2 0 (s_nights_many - 1)) fun r24_24 =>
      if r24_24 = 0 then
      (some ((-1000000), s_nights_reckoner_letters, s_nights_reckoner_values))
      else
      (cb3 (f_X2_shiftBy (t_12.2.2.1.1) (t_12.2.2.2.2.1) (t_12.2.2.2.1.1) (t_12.2.2.1.2) (t_12.2.2.2.2.2) (t_12.2.2.2.1.2) s_nights_days s_nights_reckoner_letters s_nights_reckoner_values p2) fun r39_38 o_reckoner_letters39_39 o_reckoner_values39_40 =>
        some (r39_38, o_reckoner_letters39_39, o_reckoner_values39_40)))
abbrev r_X11_says : Room := { frames := 4, cells := 0, slots := 0, locals := 94 }
set_option maxHeartbeats 4000000 in
set_option maxRecDepth 100000 in
theorem c_X11_says (l : Launch) (E : kE) (sz : Nat) (a0 a1 a2 a3 a4 a5 a6 : Nat) (w0_0 w0_1 w0_2 w0_3 w0_4 w0_5 w0_6 w0_8 w1_1 w1_2 : Value) (G : kG) (s_nights_many : Int32) (s_nights_days : Nat → Int32) (s_nights_reckoner_letters : Nat → Int32) (s_nights_reckoner_values : Nat → Int32) (p1 : Int32) (p2 : Int32) (r : Int32) (o_nights_reckoner_letters : Nat → Int32) (o_nights_reckoner_values : Nat → Int32) (h : f_X11_says G s_nights_many s_nights_days s_nights_reckoner_letters s_nights_reckoner_values p1 p2 = some (r, o_nights_reckoner_letters, o_nights_reckoner_values)) : kMi l yX11_says cX11_says 4 (some .int) r_X11_says [.ref a0, .int p1, .int p2] E (([(a0, .inr (11, [w0_0, w0_1, w0_2, w0_3, w0_4, w0_5, w0_6, .ref a1, w0_8])), (a1, .inr (2, [.ref a2, w1_1, w1_2, .ref a3, .ref a4, .int s_nights_many])), (a2, .inl (E.2 0, 30, .inl s_nights_days)), (a3, .inr (5, [.ref a5, .ref a6])), (a4, .inl (E.2 4, 6, .inr (.inr (.inr (.inr ((kgT G))))))), (a5, .inl (E.2 0, 128, .inl s_nights_reckoner_letters)), (a6, .inl (E.2 0, 32, .inl s_nights_reckoner_values))] : va_W) ++ kpool E G) sz 0 0 (fun x (_ : Unit) => x = r) (fun _ => (([(a0, .inr (11, [w0_0, w0_1, w0_2, w0_3, w0_4, w0_5, w0_6, .ref a1, w0_8])), (a1, .inr (2, [.ref a2, w1_1, w1_2, .ref a3, .ref a4, .int s_nights_many])), (a2, .inl (E.2 0, 30, .inl s_nights_days)), (a3, .inr (5, [.ref a5, .ref a6])), (a4, .inl (E.2 4, 6, .inr (.inr (.inr (.inr ((kgT G))))))), (a5, .inl (E.2 0, 128, .inl o_nights_reckoner_letters)), (a6, .inl (E.2 0, 32, .inl o_nights_reckoner_values))] : va_W) ++ kpool E G)) := by
  refine kmeti rfl (Nat.le_of_ble_eq_true rfl) ?_
  intro p e s m args below meth c ls A Q X hV hret hl
  have X : kC p s m c cX11_says 4 RX11 args E A := X
  have hx := X.1
  have hb := X.2.1
  have hl : lv_has ls 4 [(0, .ref a0), (1, .int p1), (2, .int p2)] := hl
  rw [f_X11_says] at h
  refine lv_aload_n hx hb dX11_says_0 rfl (lv_at hl 0 rfl) ?_
  refine kget X hV (ci := 11) inlX11 rfl 0 rfl 7 (by decide) mw_41 rfl dX11_says_1 ?_
  refine lv_iload_n hx hb dX11_says_4 rfl (lv_at hl 1 rfl) ?_
  obtain ⟨r5_1, hc2, h3⟩ := cb1_s h
  clear h
  have hY4 : kV E A s.heap _ _ ((([(a1, .inr (2, [.ref a2, w1_1, w1_2, .ref a3, .ref a4, .int s_nights_many])), (a4, .inl (E.2 4, 6, .inr (.inr (.inr (.inr ((kgT G)))))))] : va_W) ++ ([(a0, .inr (11, [w0_0, w0_1, w0_2, w0_3, w0_4, w0_5, w0_6, .ref a1, w0_8])), (a2, .inl (E.2 0, 30, .inl s_nights_days)), (a3, .inr (5, [.ref a5, .ref a6])), (a5, .inl (E.2 0, 128, .inl s_nights_reckoner_letters)), (a6, .inl (E.2 0, 32, .inl s_nights_reckoner_values))] : va_W)) ++ kpool E G) := hV.subP [1, 4, 0, 2, 3, 5, 6] rfl rfl
  have hY5 := hY4.swap
  clear hY4
  refine kgoq2 (krunV (rest := []) X hY5 (List.range _) (c_X2_storyAt l E _ a1 a4 (.ref a2) (w1_1) (w1_2) (.ref a3) (.int s_nights_many) G p1 r5_1 hc2) mw_1115 kb_X2_storyAt (ci := 2) rfl rfl (kndR _) (krg _ _) rfl hl.1 rfl (Nat.le_of_ble_eq_true rfl) dX11_says_5 (by decide)) X hY5 (fun x8 u9 H locs hp7 hV6 => ?_)
  clear hY5 hV
  have hV10 : kV E A s.heap H locs (([(a0, .inr (11, [w0_0, w0_1, w0_2, w0_3, w0_4, w0_5, w0_6, .ref a1, w0_8])), (a1, .inr (2, [.ref a2, w1_1, w1_2, .ref a3, .ref a4, .int s_nights_many])), (a2, .inl (E.2 0, 30, .inl s_nights_days)), (a3, .inr (5, [.ref a5, .ref a6])), (a4, .inl (E.2 4, 6, .inr (.inr (.inr (.inr ((kgT G))))))), (a5, .inl (E.2 0, 128, .inl s_nights_reckoner_letters)), (a6, .inl (E.2 0, 32, .inl s_nights_reckoner_values))] : va_W) ++ kpool E G) := kV.subP (X := (([(a0, .inr (11, [w0_0, w0_1, w0_2, w0_3, w0_4, w0_5, w0_6, .ref a1, w0_8])), (a2, .inl (E.2 0, 30, .inl s_nights_days)), (a3, .inr (5, [.ref a5, .ref a6])), (a5, .inl (E.2 0, 128, .inl s_nights_reckoner_letters)), (a6, .inl (E.2 0, 32, .inl s_nights_reckoner_values))] : va_W) ++ ([(a1, .inr (2, [.ref a2, w1_1, w1_2, .ref a3, .ref a4, .int s_nights_many])), (a4, .inl (E.2 4, 6, .inr (.inr (.inr (.inr ((kgT G)))))))] : va_W))) (P := kpool E G) hV6 [0, 5, 1, 2, 6, 3, 4] rfl rfl
  clear hV6
  subst hp7
  refine W.eq (g2 := F0 m 8 ls [va_rf (r5_1.bind (kgX G))]) rfl ?_
  rcases oT_s h3 with ⟨hq13, h14⟩ | ⟨k_11, t_12, hr15, hq13, hk16, ht17, h18⟩
  · skip
    refine ktopq hq13.symm ?_
    refine W.eq (g2 := F0 m 8 ls [.null]) rfl ?_
    refine lv_astore_nN (lv' := [(3, .null), (0, .ref a0), (1, .int p1), (2, .int p2)]) hx hb dX11_says_8 rfl hl (by decide) rfl (fun ls hl19 => ?_)
    clear hl
    refine lv_aload_nN hx hb dX11_says_9 rfl (lv_at hl19 0 rfl) ?_
    refine lv_ifnullN (tgt := 30) hx hb dX11_says_10 (by decide) ?_
    refine lv_ldc (v := (-1000000)) hx hb X.2.2.2.1 (X.2.2.2.2.1 _ mw_1114) dX11_says_30 ?_
    obtain ⟨q20, q21, q22⟩ := tup3_s h14
    clear h14
    exact hret _ () _ _ _ _ q20 rfl (by rw [← q21, ← q22]; exact hV10) dX11_says_32
  · skip
    subst hr15
    refine ktopq hq13.symm ?_
    refine W.eq (g2 := F0 m 8 ls [.ref t_12.1.1]) rfl ?_
    refine lv_astore_n (lv' := [(3, .ref t_12.1.1), (0, .ref a0), (1, .int p1), (2, .int p2)]) hx hb dX11_says_8 rfl hl (by decide) rfl (fun ls hl23 => ?_)
    clear hl
    refine lv_aload_n hx hb dX11_says_9 rfl (lv_at hl23 0 rfl) ?_
    refine lv_ifnull hx hb dX11_says_10 ?_
    refine lv_iload_n hx hb dX11_says_13 rfl (lv_at hl23 3 rfl) ?_
    refine lv_iconst (v := 0) hx hb dX11_says_14 (by decide) ?_
    refine lv_aload_n hx hb dX11_says_15 rfl (lv_at hl23 1 rfl) ?_
    refine kget X hV10 (ci := 11) inlX11 rfl 0 rfl 7 (by decide) mw_41 rfl dX11_says_16 ?_
    refine kget X hV10 (ci := 2) inlX2 rfl 1 rfl 5 (by decide) mw_1113 rfl dX11_says_19 ?_
    refine lv_iconst (v := 1) hx hb dX11_says_22 (by decide) ?_
    refine lv_isub hx hb dX11_says_23 ?_
    obtain ⟨r24_24, hc25, h26⟩ := cb1_s h18
    clear h18
    have hY27 : kV E A s.heap _ _ (([] ++ ([(a0, .inr (11, [w0_0, w0_1, w0_2, w0_3, w0_4, w0_5, w0_6, .ref a1, w0_8])), (a1, .inr (2, [.ref a2, w1_1, w1_2, .ref a3, .ref a4, .int s_nights_many])), (a2, .inl (E.2 0, 30, .inl s_nights_days)), (a3, .inr (5, [.ref a5, .ref a6])), (a4, .inl (E.2 4, 6, .inr (.inr (.inr (.inr ((kgT G))))))), (a5, .inl (E.2 0, 128, .inl s_nights_reckoner_letters)), (a6, .inl (E.2 0, 32, .inl s_nights_reckoner_values))] : va_W)) ++ kpool E G) := hV10.subP [0, 1, 2, 3, 4, 5, 6] rfl rfl
    have hY28 := hY27.swapT
    clear hY27
    refine kgoiT (krunS (rest := []) X hY28 (List.range _) (c_X11_isWithin l E _ p2 0 (s_nights_many - 1) r24_24 hc25) mw_187 kb_X11_isWithin (kndR _) (krg _ _) rfl hl23.1 rfl (Nat.le_of_ble_eq_true rfl) dX11_says_24 (by decide)) X hY28 (fun u32 H locs hV29 => ?_)
    clear hY28 hV10
    have hV33 : kV E A s.heap H locs (([(a0, .inr (11, [w0_0, w0_1, w0_2, w0_3, w0_4, w0_5, w0_6, .ref a1, w0_8])), (a1, .inr (2, [.ref a2, w1_1, w1_2, .ref a3, .ref a4, .int s_nights_many])), (a2, .inl (E.2 0, 30, .inl s_nights_days)), (a3, .inr (5, [.ref a5, .ref a6])), (a4, .inl (E.2 4, 6, .inr (.inr (.inr (.inr ((kgT G))))))), (a5, .inl (E.2 0, 128, .inl s_nights_reckoner_letters)), (a6, .inl (E.2 0, 32, .inl s_nights_reckoner_values))] : va_W) ++ kpool E G) := hV29.subP [0, 1, 2, 3, 4, 5, 6] rfl rfl
    clear hV29
    refine lv_if_ne (tgt := 33) hx hb dX11_says_27 (by decide) (fun c34 => ?_) (fun c34 => ?_)
    · have h35 := ieS c34 h26
      clear h26 c34
      refine lv_aload_n hx hb dX11_says_33 rfl (lv_at hl23 1 rfl) ?_
      refine kget X hV33 (ci := 11) inlX11 rfl 0 rfl 7 (by decide) mw_41 rfl dX11_says_34 ?_
      refine lv_aload_n hx hb dX11_says_37 rfl (lv_at hl23 0 rfl) ?_
      refine lv_iload_n hx hb dX11_says_38 rfl (lv_at hl23 3 rfl) ?_
      have hV37 := kopT (X := [(a0, .inr (11, [w0_0, w0_1, w0_2, w0_3, w0_4, w0_5, w0_6, .ref a1, w0_8])), (a1, .inr (2, [.ref a2, w1_1, w1_2, .ref a3, .ref a4, .int s_nights_many])), (a2, .inl (E.2 0, 30, .inl s_nights_days)), (a3, .inr (5, [.ref a5, .ref a6])), (a4, .inl (E.2 4, 6, .inr (.inr (.inr (.inr ((kgT G))))))), (a5, .inl (E.2 0, 128, .inl s_nights_reckoner_letters)), (a6, .inl (E.2 0, 32, .inl s_nights_reckoner_values))]) hk16 ht17 hV33
      have hV37 : kV E A s.heap _ _ (([(a0, .inr (11, [w0_0, w0_1, w0_2, w0_3, w0_4, w0_5, w0_6, .ref a1, w0_8])), (a1, .inr (2, [.ref a2, w1_1, w1_2, .ref a3, .ref a4, .int s_nights_many])), (a2, .inl (E.2 0, 30, .inl s_nights_days)), (a3, .inr (5, [.ref a5, .ref a6])), (a4, .inl (E.2 4, 6, .inr (.inr (.inr (.inr ((kgT G))))))), (a5, .inl (E.2 0, 128, .inl s_nights_reckoner_letters)), (a6, .inl (E.2 0, 32, .inl s_nights_reckoner_values)), ((t_12.1.1), .inr (10, [.int (t_12.2.1), .ref (t_12.1.2.1), .ref (t_12.1.2.2.1), .ref (t_12.1.2.2.2)])), ((t_12.1.2.1), .inl (E.2 0, (t_12.2.2.1.1), .inl ((t_12.2.2.1.2)))), ((t_12.1.2.2.1), .inl (E.2 0, (t_12.2.2.2.1.1), .inl ((t_12.2.2.2.1.2)))), ((t_12.1.2.2.2), .inl (E.2 0, (t_12.2.2.2.2.1), .inl ((t_12.2.2.2.2.2))))] : va_W) ++ kpoolT E G k_11) := hV37
      clear hV33
      obtain ⟨r39_38, o_reckoner_letters39_39, o_reckoner_values39_40, hc41, h42⟩ := cb3_s h35
      clear h35
      have hY43 : kV E A s.heap _ _ ((([(a1, .inr (2, [.ref a2, w1_1, w1_2, .ref a3, .ref a4, .int s_nights_many])), ((t_12.1.1), .inr (10, [.int (t_12.2.1), .ref (t_12.1.2.1), .ref (t_12.1.2.2.1), .ref (t_12.1.2.2.2)])), ((t_12.1.2.1), .inl (E.2 0, (t_12.2.2.1.1), .inl ((t_12.2.2.1.2)))), ((t_12.1.2.2.2), .inl (E.2 0, (t_12.2.2.2.2.1), .inl ((t_12.2.2.2.2.2)))), ((t_12.1.2.2.1), .inl (E.2 0, (t_12.2.2.2.1.1), .inl ((t_12.2.2.2.1.2)))), (a2, .inl (E.2 0, 30, .inl s_nights_days)), (a3, .inr (5, [.ref a5, .ref a6])), (a5, .inl (E.2 0, 128, .inl s_nights_reckoner_letters)), (a6, .inl (E.2 0, 32, .inl s_nights_reckoner_values))] : va_W) ++ ([(a0, .inr (11, [w0_0, w0_1, w0_2, w0_3, w0_4, w0_5, w0_6, .ref a1, w0_8])), (a4, .inl (E.2 4, 6, .inr (.inr (.inr (.inr ((kgT G)))))))] : va_W)) ++ kpoolT E G k_11) := hV37.subP [1, 7, 8, 10, 9, 2, 3, 5, 6, 0, 4] rfl rfl
      have hY44 := hY43.swapT
      clear hY43
      refine kgoiT (krunV (rest := []) X hY44 (List.range _) (c_X2_shiftBy l E _ a1 (t_12.1.1) (t_12.1.2.1) (t_12.1.2.2.2) (t_12.1.2.2.1) a2 a3 a5 a6 (w1_1) (w1_2) (.ref a4) (.int s_nights_many) (.int (t_12.2.1)) (t_12.2.2.1.1) (t_12.2.2.2.2.1) (t_12.2.2.2.1.1) (t_12.2.2.1.2) (t_12.2.2.2.2.2) (t_12.2.2.2.1.2) s_nights_days s_nights_reckoner_letters s_nights_reckoner_values p2 r39_38 o_reckoner_letters39_39 o_reckoner_values39_40 hc41) mw_1119 kb_X2_shiftBy (ci := 2) rfl rfl (kndR _) (krg _ _) rfl hl23.1 rfl (Nat.le_of_ble_eq_true rfl) dX11_says_39 (by decide)) X hY44 (fun u48 H locs hV45 => ?_)
      clear hY44 hV37
      have hV50 : kV E A s.heap H locs ((([(a0, .inr (11, [w0_0, w0_1, w0_2, w0_3, w0_4, w0_5, w0_6, .ref a1, w0_8])), (a1, .inr (2, [.ref a2, w1_1, w1_2, .ref a3, .ref a4, .int s_nights_many])), (a2, .inl (E.2 0, 30, .inl s_nights_days)), (a3, .inr (5, [.ref a5, .ref a6])), (a4, .inl (E.2 4, 6, .inr (.inr (.inr (.inr ((kgT G))))))), (a5, .inl (E.2 0, 128, .inl o_reckoner_letters39_39)), (a6, .inl (E.2 0, 32, .inl o_reckoner_values39_40))] : va_W) ++ (ktc E t_12)) ++ kpoolT E G k_11) := hV45.subP [0, 2, 7, 8, 1, 9, 10, 3, 4, 6, 5] rfl rfl
      have hV49 : kV E A s.heap H locs (([(a0, .inr (11, [w0_0, w0_1, w0_2, w0_3, w0_4, w0_5, w0_6, .ref a1, w0_8])), (a1, .inr (2, [.ref a2, w1_1, w1_2, .ref a3, .ref a4, .int s_nights_many])), (a2, .inl (E.2 0, 30, .inl s_nights_days)), (a3, .inr (5, [.ref a5, .ref a6])), (a4, .inl (E.2 4, 6, .inr (.inr (.inr (.inr ((kgT G))))))), (a5, .inl (E.2 0, 128, .inl o_reckoner_letters39_39)), (a6, .inl (E.2 0, 32, .inl o_reckoner_values39_40))] : va_W) ++ kpool E G) := kclT hk16 ht17 hV50
      clear hV50
      clear hV45
      obtain ⟨q51, q52, q53⟩ := tup3_s h42
      clear h42
      exact hret _ () _ _ _ _ q51 rfl (by rw [← q52, ← q53]; exact hV49) dX11_says_42
    · have h36 := itS c34 h26
      clear h26 c34
      refine lv_ldc (v := (-1000000)) hx hb X.2.2.2.1 (X.2.2.2.2.1 _ mw_1114) dX11_says_30 ?_
      obtain ⟨q54, q55, q56⟩ := tup3_s h36
      clear h36
      exact hret _ () _ _ _ _ q54 rfl (by rw [← q55, ← q56]; exact hV33) dX11_says_32
noncomputable def f_X11_falls (G : kG) (s_nights_many : Int32) (s_nights_days : Nat → Int32) (s_nights_shifts : Nat → Int32) (s_nights_reckoner_letters : Nat → Int32) (s_nights_reckoner_values : Nat → Int32) (p1 : Int32) (p2 : Int32) : Option (Int32 × (Nat → Int32) × (Nat → Int32)) :=
    cb1 (f_X2_storyAt G p1) fun r5_1 =>
    oT G r5_1
    (some ((-1), s_nights_reckoner_letters, s_nights_reckoner_values))
    fun k_11 t_12 =>
    (cb1 (f_X11_isNightError p2) fun r14_24 =>
      if r14_24 = 0 then
      (some ((-1), s_nights_reckoner_letters, s_nights_reckoner_values))
      else
      (cb3 (f_X2_fallOf (t_12.2.2.1.1) (t_12.2.2.2.2.1) (t_12.2.2.2.1.1) s_nights_many (t_12.2.2.1.2) (t_12.2.2.2.2.2) (t_12.2.2.2.1.2) s_nights_days s_nights_shifts s_nights_reckoner_letters s_nights_reckoner_values p2) fun r30_38 o_reckoner_letters30_39 o_reckoner_values30_40 =>
        some (r30_38, o_reckoner_letters30_39, o_reckoner_values30_40)))
abbrev r_X11_falls : Room := { frames := 5, cells := 0, slots := 0, locals := 117 }
set_option maxHeartbeats 4000000 in
set_option maxRecDepth 100000 in
theorem c_X11_falls (l : Launch) (E : kE) (sz : Nat) (a0 a1 a2 a3 a4 a5 a6 a7 : Nat) (w0_0 w0_1 w0_2 w0_3 w0_4 w0_5 w0_6 w0_8 w1_2 : Value) (G : kG) (s_nights_many : Int32) (s_nights_days : Nat → Int32) (s_nights_shifts : Nat → Int32) (s_nights_reckoner_letters : Nat → Int32) (s_nights_reckoner_values : Nat → Int32) (p1 : Int32) (p2 : Int32) (r : Int32) (o_nights_reckoner_letters : Nat → Int32) (o_nights_reckoner_values : Nat → Int32) (h : f_X11_falls G s_nights_many s_nights_days s_nights_shifts s_nights_reckoner_letters s_nights_reckoner_values p1 p2 = some (r, o_nights_reckoner_letters, o_nights_reckoner_values)) : kMi l yX11_falls cX11_falls 4 (some .int) r_X11_falls [.ref a0, .int p1, .int p2] E (([(a0, .inr (11, [w0_0, w0_1, w0_2, w0_3, w0_4, w0_5, w0_6, .ref a1, w0_8])), (a1, .inr (2, [.ref a2, .ref a4, w1_2, .ref a3, .ref a5, .int s_nights_many])), (a2, .inl (E.2 0, 30, .inl s_nights_days)), (a3, .inr (5, [.ref a6, .ref a7])), (a4, .inl (E.2 0, 30, .inl s_nights_shifts)), (a5, .inl (E.2 4, 6, .inr (.inr (.inr (.inr ((kgT G))))))), (a6, .inl (E.2 0, 128, .inl s_nights_reckoner_letters)), (a7, .inl (E.2 0, 32, .inl s_nights_reckoner_values))] : va_W) ++ kpool E G) sz 0 0 (fun x (_ : Unit) => x = r) (fun _ => (([(a0, .inr (11, [w0_0, w0_1, w0_2, w0_3, w0_4, w0_5, w0_6, .ref a1, w0_8])), (a1, .inr (2, [.ref a2, .ref a4, w1_2, .ref a3, .ref a5, .int s_nights_many])), (a2, .inl (E.2 0, 30, .inl s_nights_days)), (a3, .inr (5, [.ref a6, .ref a7])), (a4, .inl (E.2 0, 30, .inl s_nights_shifts)), (a5, .inl (E.2 4, 6, .inr (.inr (.inr (.inr ((kgT G))))))), (a6, .inl (E.2 0, 128, .inl o_nights_reckoner_letters)), (a7, .inl (E.2 0, 32, .inl o_nights_reckoner_values))] : va_W) ++ kpool E G)) := by
  refine kmeti rfl (Nat.le_of_ble_eq_true rfl) ?_
  intro p e s m args below meth c ls A Q X hV hret hl
  have X : kC p s m c cX11_falls 4 RX11 args E A := X
  have hx := X.1
  have hb := X.2.1
  have hl : lv_has ls 4 [(0, .ref a0), (1, .int p1), (2, .int p2)] := hl
  rw [f_X11_falls] at h
  refine lv_aload_n hx hb dX11_falls_0 rfl (lv_at hl 0 rfl) ?_
  refine kget X hV (ci := 11) inlX11 rfl 0 rfl 7 (by decide) mw_41 rfl dX11_falls_1 ?_
  refine lv_iload_n hx hb dX11_falls_4 rfl (lv_at hl 1 rfl) ?_
  obtain ⟨r5_1, hc2, h3⟩ := cb1_s h
  clear h
  have hY4 : kV E A s.heap _ _ ((([(a1, .inr (2, [.ref a2, .ref a4, w1_2, .ref a3, .ref a5, .int s_nights_many])), (a5, .inl (E.2 4, 6, .inr (.inr (.inr (.inr ((kgT G)))))))] : va_W) ++ ([(a0, .inr (11, [w0_0, w0_1, w0_2, w0_3, w0_4, w0_5, w0_6, .ref a1, w0_8])), (a2, .inl (E.2 0, 30, .inl s_nights_days)), (a3, .inr (5, [.ref a6, .ref a7])), (a4, .inl (E.2 0, 30, .inl s_nights_shifts)), (a6, .inl (E.2 0, 128, .inl s_nights_reckoner_letters)), (a7, .inl (E.2 0, 32, .inl s_nights_reckoner_values))] : va_W)) ++ kpool E G) := hV.subP [1, 5, 0, 2, 3, 4, 6, 7] rfl rfl
  have hY5 := hY4.swap
  clear hY4
  refine kgoq2 (krunV (rest := []) X hY5 (List.range _) (c_X2_storyAt l E _ a1 a5 (.ref a2) (.ref a4) (w1_2) (.ref a3) (.int s_nights_many) G p1 r5_1 hc2) mw_1115 kb_X2_storyAt (ci := 2) rfl rfl (kndR _) (krg _ _) rfl hl.1 rfl (Nat.le_of_ble_eq_true rfl) dX11_falls_5 (by decide)) X hY5 (fun x8 u9 H locs hp7 hV6 => ?_)
  clear hY5 hV
  have hV10 : kV E A s.heap H locs (([(a0, .inr (11, [w0_0, w0_1, w0_2, w0_3, w0_4, w0_5, w0_6, .ref a1, w0_8])), (a1, .inr (2, [.ref a2, .ref a4, w1_2, .ref a3, .ref a5, .int s_nights_many])), (a2, .inl (E.2 0, 30, .inl s_nights_days)), (a3, .inr (5, [.ref a6, .ref a7])), (a4, .inl (E.2 0, 30, .inl s_nights_shifts)), (a5, .inl (E.2 4, 6, .inr (.inr (.inr (.inr ((kgT G))))))), (a6, .inl (E.2 0, 128, .inl s_nights_reckoner_letters)), (a7, .inl (E.2 0, 32, .inl s_nights_reckoner_values))] : va_W) ++ kpool E G) := kV.subP (X := (([(a0, .inr (11, [w0_0, w0_1, w0_2, w0_3, w0_4, w0_5, w0_6, .ref a1, w0_8])), (a2, .inl (E.2 0, 30, .inl s_nights_days)), (a3, .inr (5, [.ref a6, .ref a7])), (a4, .inl (E.2 0, 30, .inl s_nights_shifts)), (a6, .inl (E.2 0, 128, .inl s_nights_reckoner_letters)), (a7, .inl (E.2 0, 32, .inl s_nights_reckoner_values))] : va_W) ++ ([(a1, .inr (2, [.ref a2, .ref a4, w1_2, .ref a3, .ref a5, .int s_nights_many])), (a5, .inl (E.2 4, 6, .inr (.inr (.inr (.inr ((kgT G)))))))] : va_W))) (P := kpool E G) hV6 [0, 6, 1, 2, 3, 7, 4, 5] rfl rfl
  clear hV6
  subst hp7
  refine W.eq (g2 := F0 m 8 ls [va_rf (r5_1.bind (kgX G))]) rfl ?_
  rcases oT_s h3 with ⟨hq13, h14⟩ | ⟨k_11, t_12, hr15, hq13, hk16, ht17, h18⟩
  · skip
    refine ktopq hq13.symm ?_
    refine W.eq (g2 := F0 m 8 ls [.null]) rfl ?_
    refine lv_astore_nN (lv' := [(3, .null), (0, .ref a0), (1, .int p1), (2, .int p2)]) hx hb dX11_falls_8 rfl hl (by decide) rfl (fun ls hl19 => ?_)
    clear hl
    refine lv_aload_nN hx hb dX11_falls_9 rfl (lv_at hl19 0 rfl) ?_
    refine lv_ifnullN (tgt := 20) hx hb dX11_falls_10 (by decide) ?_
    refine lv_iconst (v := (-1)) hx hb dX11_falls_20 (by decide) ?_
    refine lv_goto (tgt := 33) hx hb dX11_falls_21 (by decide) ?_
    obtain ⟨q20, q21, q22⟩ := tup3_s h14
    clear h14
    exact hret _ () _ _ _ _ q20 rfl (by rw [← q21, ← q22]; exact hV10) dX11_falls_33
  · skip
    subst hr15
    refine ktopq hq13.symm ?_
    refine W.eq (g2 := F0 m 8 ls [.ref t_12.1.1]) rfl ?_
    refine lv_astore_n (lv' := [(3, .ref t_12.1.1), (0, .ref a0), (1, .int p1), (2, .int p2)]) hx hb dX11_falls_8 rfl hl (by decide) rfl (fun ls hl23 => ?_)
    clear hl
    refine lv_aload_n hx hb dX11_falls_9 rfl (lv_at hl23 0 rfl) ?_
    refine lv_ifnull hx hb dX11_falls_10 ?_
    refine lv_iload_n hx hb dX11_falls_13 rfl (lv_at hl23 3 rfl) ?_
    obtain ⟨r14_24, hc25, h26⟩ := cb1_s h18
    clear h18
    have hY27 : kV E A s.heap _ _ (([] ++ ([(a0, .inr (11, [w0_0, w0_1, w0_2, w0_3, w0_4, w0_5, w0_6, .ref a1, w0_8])), (a1, .inr (2, [.ref a2, .ref a4, w1_2, .ref a3, .ref a5, .int s_nights_many])), (a2, .inl (E.2 0, 30, .inl s_nights_days)), (a3, .inr (5, [.ref a6, .ref a7])), (a4, .inl (E.2 0, 30, .inl s_nights_shifts)), (a5, .inl (E.2 4, 6, .inr (.inr (.inr (.inr ((kgT G))))))), (a6, .inl (E.2 0, 128, .inl s_nights_reckoner_letters)), (a7, .inl (E.2 0, 32, .inl s_nights_reckoner_values))] : va_W)) ++ kpool E G) := hV10.subP [0, 1, 2, 3, 4, 5, 6, 7] rfl rfl
    have hY28 := hY27.swapT
    clear hY27
    refine kgoiT (krunS (rest := []) X hY28 (List.range _) (c_X11_isNightError l E _ p2 r14_24 hc25) mw_1146 kb_X11_isNightError (kndR _) (krg _ _) rfl hl23.1 rfl (Nat.le_of_ble_eq_true rfl) dX11_falls_14 (by decide)) X hY28 (fun u32 H locs hV29 => ?_)
    clear hY28 hV10
    have hV33 : kV E A s.heap H locs (([(a0, .inr (11, [w0_0, w0_1, w0_2, w0_3, w0_4, w0_5, w0_6, .ref a1, w0_8])), (a1, .inr (2, [.ref a2, .ref a4, w1_2, .ref a3, .ref a5, .int s_nights_many])), (a2, .inl (E.2 0, 30, .inl s_nights_days)), (a3, .inr (5, [.ref a6, .ref a7])), (a4, .inl (E.2 0, 30, .inl s_nights_shifts)), (a5, .inl (E.2 4, 6, .inr (.inr (.inr (.inr ((kgT G))))))), (a6, .inl (E.2 0, 128, .inl s_nights_reckoner_letters)), (a7, .inl (E.2 0, 32, .inl s_nights_reckoner_values))] : va_W) ++ kpool E G) := hV29.subP [0, 1, 2, 3, 4, 5, 6, 7] rfl rfl
    clear hV29
    refine lv_if_ne (tgt := 24) hx hb dX11_falls_17 (by decide) (fun c34 => ?_) (fun c34 => ?_)
    · have h35 := ieS c34 h26
      clear h26 c34
      refine lv_aload_n hx hb dX11_falls_24 rfl (lv_at hl23 1 rfl) ?_
      refine kget X hV33 (ci := 11) inlX11 rfl 0 rfl 7 (by decide) mw_41 rfl dX11_falls_25 ?_
      refine lv_aload_n hx hb dX11_falls_28 rfl (lv_at hl23 0 rfl) ?_
      refine lv_iload_n hx hb dX11_falls_29 rfl (lv_at hl23 3 rfl) ?_
      have hV37 := kopT (X := [(a0, .inr (11, [w0_0, w0_1, w0_2, w0_3, w0_4, w0_5, w0_6, .ref a1, w0_8])), (a1, .inr (2, [.ref a2, .ref a4, w1_2, .ref a3, .ref a5, .int s_nights_many])), (a2, .inl (E.2 0, 30, .inl s_nights_days)), (a3, .inr (5, [.ref a6, .ref a7])), (a4, .inl (E.2 0, 30, .inl s_nights_shifts)), (a5, .inl (E.2 4, 6, .inr (.inr (.inr (.inr ((kgT G))))))), (a6, .inl (E.2 0, 128, .inl s_nights_reckoner_letters)), (a7, .inl (E.2 0, 32, .inl s_nights_reckoner_values))]) hk16 ht17 hV33
      have hV37 : kV E A s.heap _ _ (([(a0, .inr (11, [w0_0, w0_1, w0_2, w0_3, w0_4, w0_5, w0_6, .ref a1, w0_8])), (a1, .inr (2, [.ref a2, .ref a4, w1_2, .ref a3, .ref a5, .int s_nights_many])), (a2, .inl (E.2 0, 30, .inl s_nights_days)), (a3, .inr (5, [.ref a6, .ref a7])), (a4, .inl (E.2 0, 30, .inl s_nights_shifts)), (a5, .inl (E.2 4, 6, .inr (.inr (.inr (.inr ((kgT G))))))), (a6, .inl (E.2 0, 128, .inl s_nights_reckoner_letters)), (a7, .inl (E.2 0, 32, .inl s_nights_reckoner_values)), ((t_12.1.1), .inr (10, [.int (t_12.2.1), .ref (t_12.1.2.1), .ref (t_12.1.2.2.1), .ref (t_12.1.2.2.2)])), ((t_12.1.2.1), .inl (E.2 0, (t_12.2.2.1.1), .inl ((t_12.2.2.1.2)))), ((t_12.1.2.2.1), .inl (E.2 0, (t_12.2.2.2.1.1), .inl ((t_12.2.2.2.1.2)))), ((t_12.1.2.2.2), .inl (E.2 0, (t_12.2.2.2.2.1), .inl ((t_12.2.2.2.2.2))))] : va_W) ++ kpoolT E G k_11) := hV37
      clear hV33
      obtain ⟨r30_38, o_reckoner_letters30_39, o_reckoner_values30_40, hc41, h42⟩ := cb3_s h35
      clear h35
      have hY43 : kV E A s.heap _ _ ((([(a1, .inr (2, [.ref a2, .ref a4, w1_2, .ref a3, .ref a5, .int s_nights_many])), ((t_12.1.1), .inr (10, [.int (t_12.2.1), .ref (t_12.1.2.1), .ref (t_12.1.2.2.1), .ref (t_12.1.2.2.2)])), ((t_12.1.2.1), .inl (E.2 0, (t_12.2.2.1.1), .inl ((t_12.2.2.1.2)))), ((t_12.1.2.2.2), .inl (E.2 0, (t_12.2.2.2.2.1), .inl ((t_12.2.2.2.2.2)))), ((t_12.1.2.2.1), .inl (E.2 0, (t_12.2.2.2.1.1), .inl ((t_12.2.2.2.1.2)))), (a2, .inl (E.2 0, 30, .inl s_nights_days)), (a3, .inr (5, [.ref a6, .ref a7])), (a4, .inl (E.2 0, 30, .inl s_nights_shifts)), (a6, .inl (E.2 0, 128, .inl s_nights_reckoner_letters)), (a7, .inl (E.2 0, 32, .inl s_nights_reckoner_values))] : va_W) ++ ([(a0, .inr (11, [w0_0, w0_1, w0_2, w0_3, w0_4, w0_5, w0_6, .ref a1, w0_8])), (a5, .inl (E.2 4, 6, .inr (.inr (.inr (.inr ((kgT G)))))))] : va_W)) ++ kpoolT E G k_11) := hV37.subP [1, 8, 9, 11, 10, 2, 3, 4, 6, 7, 0, 5] rfl rfl
      have hY44 := hY43.swapT
      clear hY43
      refine kgoiT (krunV (rest := []) X hY44 (List.range _) (c_X2_fallOf l E _ a1 (t_12.1.1) (t_12.1.2.1) (t_12.1.2.2.2) (t_12.1.2.2.1) a2 a3 a4 a6 a7 (w1_2) (.ref a5) (.int (t_12.2.1)) (t_12.2.2.1.1) (t_12.2.2.2.2.1) (t_12.2.2.2.1.1) s_nights_many (t_12.2.2.1.2) (t_12.2.2.2.2.2) (t_12.2.2.2.1.2) s_nights_days s_nights_shifts s_nights_reckoner_letters s_nights_reckoner_values p2 r30_38 o_reckoner_letters30_39 o_reckoner_values30_40 hc41) mw_1149 kb_X2_fallOf (ci := 2) rfl rfl (kndR _) (krg _ _) rfl hl23.1 rfl (Nat.le_of_ble_eq_true rfl) dX11_falls_30 (by decide)) X hY44 (fun u48 H locs hV45 => ?_)
      clear hY44 hV37
      have hV50 : kV E A s.heap H locs ((([(a0, .inr (11, [w0_0, w0_1, w0_2, w0_3, w0_4, w0_5, w0_6, .ref a1, w0_8])), (a1, .inr (2, [.ref a2, .ref a4, w1_2, .ref a3, .ref a5, .int s_nights_many])), (a2, .inl (E.2 0, 30, .inl s_nights_days)), (a3, .inr (5, [.ref a6, .ref a7])), (a4, .inl (E.2 0, 30, .inl s_nights_shifts)), (a5, .inl (E.2 4, 6, .inr (.inr (.inr (.inr ((kgT G))))))), (a6, .inl (E.2 0, 128, .inl o_reckoner_letters30_39)), (a7, .inl (E.2 0, 32, .inl o_reckoner_values30_40))] : va_W) ++ (ktc E t_12)) ++ kpoolT E G k_11) := hV45.subP [0, 2, 7, 8, 9, 1, 10, 11, 3, 4, 6, 5] rfl rfl
      have hV49 : kV E A s.heap H locs (([(a0, .inr (11, [w0_0, w0_1, w0_2, w0_3, w0_4, w0_5, w0_6, .ref a1, w0_8])), (a1, .inr (2, [.ref a2, .ref a4, w1_2, .ref a3, .ref a5, .int s_nights_many])), (a2, .inl (E.2 0, 30, .inl s_nights_days)), (a3, .inr (5, [.ref a6, .ref a7])), (a4, .inl (E.2 0, 30, .inl s_nights_shifts)), (a5, .inl (E.2 4, 6, .inr (.inr (.inr (.inr ((kgT G))))))), (a6, .inl (E.2 0, 128, .inl o_reckoner_letters30_39)), (a7, .inl (E.2 0, 32, .inl o_reckoner_values30_40))] : va_W) ++ kpool E G) := kclT hk16 ht17 hV50
      clear hV50
      clear hV45
      obtain ⟨q51, q52, q53⟩ := tup3_s h42
      clear h42
      exact hret _ () _ _ _ _ q51 rfl (by rw [← q52, ← q53]; exact hV49) dX11_falls_33
    · have h36 := itS c34 h26
      clear h26 c34
      refine lv_iconst (v := (-1)) hx hb dX11_falls_20 (by decide) ?_
      refine lv_goto (tgt := 33) hx hb dX11_falls_21 (by decide) ?_
      obtain ⟨q54, q55, q56⟩ := tup3_s h36
      clear h36
      exact hret _ () _ _ _ _ q54 rfl (by rw [← q55, ← q56]; exact hV33) dX11_falls_33
noncomputable def f_X11_told (G : kG) (s_nights_many : Int32) (s_nights_days : Nat → Int32) (s_nights_fallen : Nat → Int32) (s_nights_shifts : Nat → Int32) (s_nights_reckoner_letters : Nat → Int32) (s_nights_reckoner_values : Nat → Int32) (p1 : Int32) (p2 : Int32) : Option (Int32 × (Nat → Int32) × (Nat → Int32) × (Nat → Int32)) :=
    cb1 (f_X11_isNightError p1) fun r1_1 =>
    if r1_1 = 0 then
    (some ((-1), s_nights_fallen, s_nights_reckoner_letters, s_nights_reckoner_values))
    else
    (cb1 (f_X11_isWithin p2 0 1) fun r10_18 =>
      if r10_18 = 0 then
      (some ((-1), s_nights_fallen, s_nights_reckoner_letters, s_nights_reckoner_values))
      else
      (cb4 (f_X2_alone G s_nights_many s_nights_days s_nights_fallen s_nights_shifts s_nights_reckoner_letters s_nights_reckoner_values p1 p2) fun r22_35 o_fallen22_36 o_reckoner_letters22_37 o_reckoner_values22_38 =>
        some (r22_35, o_fallen22_36, o_reckoner_letters22_37, o_reckoner_values22_38)))
abbrev r_X11_told : Room := { frames := 6, cells := 0, slots := 0, locals := 143 }
set_option maxHeartbeats 4000000 in
set_option maxRecDepth 100000 in
theorem c_X11_told (l : Launch) (E : kE) (sz : Nat) (a0 a1 a2 a3 a4 a5 a6 a7 a8 : Nat) (w0_0 w0_1 w0_2 w0_3 w0_4 w0_5 w0_6 w0_8 : Value) (G : kG) (s_nights_many : Int32) (s_nights_days : Nat → Int32) (s_nights_fallen : Nat → Int32) (s_nights_shifts : Nat → Int32) (s_nights_reckoner_letters : Nat → Int32) (s_nights_reckoner_values : Nat → Int32) (p1 : Int32) (p2 : Int32) (r : Int32) (o_nights_fallen : Nat → Int32) (o_nights_reckoner_letters : Nat → Int32) (o_nights_reckoner_values : Nat → Int32) (h : f_X11_told G s_nights_many s_nights_days s_nights_fallen s_nights_shifts s_nights_reckoner_letters s_nights_reckoner_values p1 p2 = some (r, o_nights_fallen, o_nights_reckoner_letters, o_nights_reckoner_values)) : kMi l yX11_told cX11_told 3 (some .int) r_X11_told [.ref a0, .int p1, .int p2] E (([(a0, .inr (11, [w0_0, w0_1, w0_2, w0_3, w0_4, w0_5, w0_6, .ref a1, w0_8])), (a1, .inr (2, [.ref a2, .ref a5, .ref a3, .ref a4, .ref a6, .int s_nights_many])), (a2, .inl (E.2 0, 30, .inl s_nights_days)), (a3, .inl (E.2 0, 6, .inl s_nights_fallen)), (a4, .inr (5, [.ref a7, .ref a8])), (a5, .inl (E.2 0, 30, .inl s_nights_shifts)), (a6, .inl (E.2 4, 6, .inr (.inr (.inr (.inr ((kgT G))))))), (a7, .inl (E.2 0, 128, .inl s_nights_reckoner_letters)), (a8, .inl (E.2 0, 32, .inl s_nights_reckoner_values))] : va_W) ++ kpool E G) sz 0 0 (fun x (_ : Unit) => x = r) (fun _ => (([(a0, .inr (11, [w0_0, w0_1, w0_2, w0_3, w0_4, w0_5, w0_6, .ref a1, w0_8])), (a1, .inr (2, [.ref a2, .ref a5, .ref a3, .ref a4, .ref a6, .int s_nights_many])), (a2, .inl (E.2 0, 30, .inl s_nights_days)), (a3, .inl (E.2 0, 6, .inl o_nights_fallen)), (a4, .inr (5, [.ref a7, .ref a8])), (a5, .inl (E.2 0, 30, .inl s_nights_shifts)), (a6, .inl (E.2 4, 6, .inr (.inr (.inr (.inr ((kgT G))))))), (a7, .inl (E.2 0, 128, .inl o_nights_reckoner_letters)), (a8, .inl (E.2 0, 32, .inl o_nights_reckoner_values))] : va_W) ++ kpool E G)) := by
  refine kmeti rfl (Nat.le_of_ble_eq_true rfl) ?_
  intro p e s m args below meth c ls A Q X hV hret hl
  have X : kC p s m c cX11_told 3 RX11 args E A := X
  have hx := X.1
  have hb := X.2.1
  have hl : lv_has ls 3 [(0, .ref a0), (1, .int p1), (2, .int p2)] := hl
  rw [f_X11_told] at h
  refine lv_iload_n hx hb dX11_told_0 rfl (lv_at hl 1 rfl) ?_
  obtain ⟨r1_1, hc2, h3⟩ := cb1_s h
  clear h
  have hY4 : kV E A s.heap _ _ (([] ++ ([(a0, .inr (11, [w0_0, w0_1, w0_2, w0_3, w0_4, w0_5, w0_6, .ref a1, w0_8])), (a1, .inr (2, [.ref a2, .ref a5, .ref a3, .ref a4, .ref a6, .int s_nights_many])), (a2, .inl (E.2 0, 30, .inl s_nights_days)), (a3, .inl (E.2 0, 6, .inl s_nights_fallen)), (a4, .inr (5, [.ref a7, .ref a8])), (a5, .inl (E.2 0, 30, .inl s_nights_shifts)), (a6, .inl (E.2 4, 6, .inr (.inr (.inr (.inr ((kgT G))))))), (a7, .inl (E.2 0, 128, .inl s_nights_reckoner_letters)), (a8, .inl (E.2 0, 32, .inl s_nights_reckoner_values))] : va_W)) ++ kpool E G) := hV.subP [0, 1, 2, 3, 4, 5, 6, 7, 8] rfl rfl
  have hY5 := hY4.swapT
  clear hY4
  refine kgoiT (krunS (rest := []) X hY5 (List.range _) (c_X11_isNightError l E _ p1 r1_1 hc2) mw_1146 kb_X11_isNightError (kndR _) (krg _ _) rfl hl.1 rfl (Nat.le_of_ble_eq_true rfl) dX11_told_1 (by decide)) X hY5 (fun u9 H locs hV6 => ?_)
  clear hY5 hV
  have hV10 : kV E A s.heap H locs (([(a0, .inr (11, [w0_0, w0_1, w0_2, w0_3, w0_4, w0_5, w0_6, .ref a1, w0_8])), (a1, .inr (2, [.ref a2, .ref a5, .ref a3, .ref a4, .ref a6, .int s_nights_many])), (a2, .inl (E.2 0, 30, .inl s_nights_days)), (a3, .inl (E.2 0, 6, .inl s_nights_fallen)), (a4, .inr (5, [.ref a7, .ref a8])), (a5, .inl (E.2 0, 30, .inl s_nights_shifts)), (a6, .inl (E.2 4, 6, .inr (.inr (.inr (.inr ((kgT G))))))), (a7, .inl (E.2 0, 128, .inl s_nights_reckoner_letters)), (a8, .inl (E.2 0, 32, .inl s_nights_reckoner_values))] : va_W) ++ kpool E G) := hV6.subP [0, 1, 2, 3, 4, 5, 6, 7, 8] rfl rfl
  clear hV6
  refine lv_if_eq (tgt := 28) hx hb dX11_told_4 (by decide) (fun c11 => ?_) (fun c11 => ?_)
  · have h12 := itS c11 h3
    clear h3 c11
    refine lv_iconst (v := (-1)) hx hb dX11_told_28 (by decide) ?_
    obtain ⟨q14, q15, q16, q17⟩ := tup4_s h12
    clear h12
    exact hret _ () _ _ _ _ q14 rfl (by rw [← q15, ← q16, ← q17]; exact hV10) dX11_told_29
  · have h13 := ieS c11 h3
    clear h3 c11
    refine lv_iload_n hx hb dX11_told_7 rfl (lv_at hl 2 rfl) ?_
    refine lv_iconst (v := 0) hx hb dX11_told_8 (by decide) ?_
    refine lv_iconst (v := 1) hx hb dX11_told_9 (by decide) ?_
    obtain ⟨r10_18, hc19, h20⟩ := cb1_s h13
    clear h13
    have hY21 : kV E A s.heap _ _ (([] ++ ([(a0, .inr (11, [w0_0, w0_1, w0_2, w0_3, w0_4, w0_5, w0_6, .ref a1, w0_8])), (a1, .inr (2, [.ref a2, .ref a5, .ref a3, .ref a4, .ref a6, .int s_nights_many])), (a2, .inl (E.2 0, 30, .inl s_nights_days)), (a3, .inl (E.2 0, 6, .inl s_nights_fallen)), (a4, .inr (5, [.ref a7, .ref a8])), (a5, .inl (E.2 0, 30, .inl s_nights_shifts)), (a6, .inl (E.2 4, 6, .inr (.inr (.inr (.inr ((kgT G))))))), (a7, .inl (E.2 0, 128, .inl s_nights_reckoner_letters)), (a8, .inl (E.2 0, 32, .inl s_nights_reckoner_values))] : va_W)) ++ kpool E G) := hV10.subP [0, 1, 2, 3, 4, 5, 6, 7, 8] rfl rfl
    have hY22 := hY21.swapT
    clear hY21
    refine kgoiT (krunS (rest := []) X hY22 (List.range _) (c_X11_isWithin l E _ p2 0 1 r10_18 hc19) mw_187 kb_X11_isWithin (kndR _) (krg _ _) rfl hl.1 rfl (Nat.le_of_ble_eq_true rfl) dX11_told_10 (by decide)) X hY22 (fun u26 H locs hV23 => ?_)
    clear hY22 hV10
    have hV27 : kV E A s.heap H locs (([(a0, .inr (11, [w0_0, w0_1, w0_2, w0_3, w0_4, w0_5, w0_6, .ref a1, w0_8])), (a1, .inr (2, [.ref a2, .ref a5, .ref a3, .ref a4, .ref a6, .int s_nights_many])), (a2, .inl (E.2 0, 30, .inl s_nights_days)), (a3, .inl (E.2 0, 6, .inl s_nights_fallen)), (a4, .inr (5, [.ref a7, .ref a8])), (a5, .inl (E.2 0, 30, .inl s_nights_shifts)), (a6, .inl (E.2 4, 6, .inr (.inr (.inr (.inr ((kgT G))))))), (a7, .inl (E.2 0, 128, .inl s_nights_reckoner_letters)), (a8, .inl (E.2 0, 32, .inl s_nights_reckoner_values))] : va_W) ++ kpool E G) := hV23.subP [0, 1, 2, 3, 4, 5, 6, 7, 8] rfl rfl
    clear hV23
    refine lv_if_eq (tgt := 28) hx hb dX11_told_13 (by decide) (fun c28 => ?_) (fun c28 => ?_)
    · have h29 := itS c28 h20
      clear h20 c28
      refine lv_iconst (v := (-1)) hx hb dX11_told_28 (by decide) ?_
      obtain ⟨q31, q32, q33, q34⟩ := tup4_s h29
      clear h29
      exact hret _ () _ _ _ _ q31 rfl (by rw [← q32, ← q33, ← q34]; exact hV27) dX11_told_29
    · have h30 := ieS c28 h20
      clear h20 c28
      refine lv_aload_n hx hb dX11_told_16 rfl (lv_at hl 0 rfl) ?_
      refine kget X hV27 (ci := 11) inlX11 rfl 0 rfl 7 (by decide) mw_41 rfl dX11_told_17 ?_
      refine lv_iload_n hx hb dX11_told_20 rfl (lv_at hl 1 rfl) ?_
      refine lv_iload_n hx hb dX11_told_21 rfl (lv_at hl 2 rfl) ?_
      obtain ⟨r22_35, o_fallen22_36, o_reckoner_letters22_37, o_reckoner_values22_38, hc39, h40⟩ := cb4_s h30
      clear h30
      have hY41 : kV E A s.heap _ _ ((([(a1, .inr (2, [.ref a2, .ref a5, .ref a3, .ref a4, .ref a6, .int s_nights_many])), (a2, .inl (E.2 0, 30, .inl s_nights_days)), (a3, .inl (E.2 0, 6, .inl s_nights_fallen)), (a4, .inr (5, [.ref a7, .ref a8])), (a5, .inl (E.2 0, 30, .inl s_nights_shifts)), (a6, .inl (E.2 4, 6, .inr (.inr (.inr (.inr ((kgT G))))))), (a7, .inl (E.2 0, 128, .inl s_nights_reckoner_letters)), (a8, .inl (E.2 0, 32, .inl s_nights_reckoner_values))] : va_W) ++ ([(a0, .inr (11, [w0_0, w0_1, w0_2, w0_3, w0_4, w0_5, w0_6, .ref a1, w0_8]))] : va_W)) ++ kpool E G) := hV27.subP [1, 2, 3, 4, 5, 6, 7, 8, 0] rfl rfl
      have hY42 := hY41.swap
      clear hY41
      refine kgoiP (krunV (rest := []) X hY42 (List.range _) (c_X2_alone l E _ a1 a2 a3 a4 a5 a6 a7 a8 G s_nights_many s_nights_days s_nights_fallen s_nights_shifts s_nights_reckoner_letters s_nights_reckoner_values p1 p2 r22_35 o_fallen22_36 o_reckoner_letters22_37 o_reckoner_values22_38 hc39) mw_1172 kb_X2_alone (ci := 2) rfl rfl (kndR _) (krg _ _) rfl hl.1 rfl (Nat.le_of_ble_eq_true rfl) dX11_told_22 (by decide)) X hY42 (fun u46 H locs hV43 => ?_)
      clear hY42 hV27
      have hV47 : kV E A s.heap H locs (([(a0, .inr (11, [w0_0, w0_1, w0_2, w0_3, w0_4, w0_5, w0_6, .ref a1, w0_8])), (a1, .inr (2, [.ref a2, .ref a5, .ref a3, .ref a4, .ref a6, .int s_nights_many])), (a2, .inl (E.2 0, 30, .inl s_nights_days)), (a3, .inl (E.2 0, 6, .inl o_fallen22_36)), (a4, .inr (5, [.ref a7, .ref a8])), (a5, .inl (E.2 0, 30, .inl s_nights_shifts)), (a6, .inl (E.2 4, 6, .inr (.inr (.inr (.inr ((kgT G))))))), (a7, .inl (E.2 0, 128, .inl o_reckoner_letters22_37)), (a8, .inl (E.2 0, 32, .inl o_reckoner_values22_38))] : va_W) ++ kpool E G) := kV.subP (X := (([(a0, .inr (11, [w0_0, w0_1, w0_2, w0_3, w0_4, w0_5, w0_6, .ref a1, w0_8]))] : va_W) ++ ([(a1, .inr (2, [.ref a2, .ref a5, .ref a3, .ref a4, .ref a6, .int s_nights_many])), (a2, .inl (E.2 0, 30, .inl s_nights_days)), (a3, .inl (E.2 0, 6, .inl o_fallen22_36)), (a4, .inr (5, [.ref a7, .ref a8])), (a5, .inl (E.2 0, 30, .inl s_nights_shifts)), (a6, .inl (E.2 4, 6, .inr (.inr (.inr (.inr ((kgT G))))))), (a7, .inl (E.2 0, 128, .inl o_reckoner_letters22_37)), (a8, .inl (E.2 0, 32, .inl o_reckoner_values22_38))] : va_W))) (P := kpool E G) hV43 [0, 1, 2, 3, 4, 5, 6, 7, 8] rfl rfl
      clear hV43
      refine lv_goto (tgt := 29) hx hb dX11_told_25 (by decide) ?_
      obtain ⟨q48, q49, q50, q51⟩ := tup4_s h40
      clear h40
      exact hret _ () _ _ _ _ q48 rfl (by rw [← q49, ← q50, ← q51]; exact hV47) dX11_told_29
noncomputable def f_X11_check_J61 (s_tape_length : Int32) (s_tape_bytes : Nat → Int32) (p1 : Int32) (p3 : Int32) (o_p1_day44_65 : Int32) (o_p1_heights44_66 : Nat → Int32) (o_p1_highest44_67 : Nat → Int32) (o_p1_shapes44_68 : Nat → Int32) (o_reckoner_letters44_69 : Nat → Int32) (o_reckoner_values44_70 : Nat → Int32)  (page_readers__82 : Int32) (page_marked__83 : Nat → Int32) (page_reckoner_letters__84 : Nat → Int32) (page_reckoner_values__85 : Nat → Int32) : Option (Int32 × Int32 × Int32 × Int32 × (Nat → Int32) × (Nat → Int32) × (Nat → Int32) × (Nat → Int32) × (Nat → Int32) × (Nat → Int32) × (Nat → Int32) × (Nat → Int32)) :=
    cb1 (f_X4_firstWrong s_tape_length s_tape_bytes o_p1_heights44_66 page_marked__83 p1 p3) fun r71_86 =>
    cb1 (f_X9_clear s_tape_length) fun o_length80_97 =>
    some (r71_86, page_readers__82, o_p1_day44_65, o_length80_97, o_p1_heights44_66, o_p1_highest44_67, page_marked__83, o_p1_shapes44_68, page_reckoner_letters__84, page_reckoner_values__85, o_reckoner_letters44_69, o_reckoner_values44_70)
noncomputable def f_X11_check (G : kG) (s_page_readers : Int32) (s_page_day : Int32) (s_sky_many : Int32) (s_sky_seed : Int32) (s_tape_length : Int32) (s_page_heights : Nat → Int32) (s_page_highest : Nat → Int32) (s_page_marked : Nat → Int32) (s_page_shapes : Nat → Int32) (s_tape_bytes : Nat → Int32) (s_page_reckoner_letters : Nat → Int32) (s_page_reckoner_values : Nat → Int32) (s_sky_reckoner_letters : Nat → Int32) (s_sky_reckoner_values : Nat → Int32) (p1 : Int32) (p2 : Int32) (p3 : Int32) : Option (Int32 × Int32 × Int32 × Int32 × (Nat → Int32) × (Nat → Int32) × (Nat → Int32) × (Nat → Int32) × (Nat → Int32) × (Nat → Int32) × (Nat → Int32) × (Nat → Int32)) :=
    cb1 (f_X11_isReader p1) fun r1_1 =>
    if r1_1 = 0 then
    (some ((-2), s_page_readers, s_page_day, s_tape_length, s_page_heights, s_page_highest, s_page_marked, s_page_shapes, s_page_reckoner_letters, s_page_reckoner_values, s_sky_reckoner_letters, s_sky_reckoner_values))
    else
    (cb1 (f_X11_isDay p2) fun r8_26 =>
      if r8_26 = 0 then
      (some ((-2), s_page_readers, s_page_day, s_tape_length, s_page_heights, s_page_highest, s_page_marked, s_page_shapes, s_page_reckoner_letters, s_page_reckoner_values, s_sky_reckoner_letters, s_sky_reckoner_values))
      else
      (cb1 (f_X11_isWithin p3 0 (s_tape_length / 12)) fun r26_51 =>
        if r26_51 = 0 then
        (some ((-2), s_page_readers, s_page_day, s_tape_length, s_page_heights, s_page_highest, s_page_marked, s_page_shapes, s_page_reckoner_letters, s_page_reckoner_values, s_sky_reckoner_letters, s_sky_reckoner_values))
        else
        (cb7 (f_X7_lay G s_sky_many s_sky_seed s_page_readers s_page_day s_page_heights s_page_highest s_page_shapes s_sky_reckoner_letters s_sky_reckoner_values p2) fun o_p1_readers44_64 o_p1_day44_65 o_p1_heights44_66 o_p1_highest44_67 o_p1_shapes44_68 o_reckoner_letters44_69 o_reckoner_values44_70 =>
          gdN 4 p1 <|
          oT G (some (10 + (Int32.toNatClampNeg p1)))
          (cb3 (f_X4_read_N o_p1_readers44_64 o_p1_day44_65 o_p1_heights44_66 s_page_marked o_p1_shapes44_68 s_page_reckoner_letters p1) fun o_readers58_128 o_marked58_129 o_reckoner_letters58_130 =>
            (f_X11_check_J61 s_tape_length s_tape_bytes p1 p3 o_p1_day44_65 o_p1_heights44_66 o_p1_highest44_67 o_p1_shapes44_68 o_reckoner_letters44_69 o_reckoner_values44_70 ) o_readers58_128 o_marked58_129 o_reckoner_letters58_130 s_page_reckoner_values)
          fun _ t_120 =>
          (cb4 (f_X4_read (t_120.2.2.1.1) (t_120.2.2.2.2.1) (t_120.2.2.2.1.1) o_p1_readers44_64 o_p1_day44_65 (t_120.2.1) (t_120.2.2.1.2) (t_120.2.2.2.2.2) (t_120.2.2.2.1.2) o_p1_heights44_66 s_page_marked o_p1_shapes44_68 s_page_reckoner_letters s_page_reckoner_values p1) fun o_readers58_141 o_marked58_142 o_reckoner_letters58_143 o_reckoner_values58_144 =>
            (f_X11_check_J61 s_tape_length s_tape_bytes p1 p3 o_p1_day44_65 o_p1_heights44_66 o_p1_highest44_67 o_p1_shapes44_68 o_reckoner_letters44_69 o_reckoner_values44_70 ) o_readers58_141 o_marked58_142 o_reckoner_letters58_143 o_reckoner_values58_144))))
abbrev r_X11_check : Room := { frames := 6, cells := 0, slots := 0, locals := 148 }
set_option maxHeartbeats 4000000 in
set_option maxRecDepth 100000 in
theorem c_X11_check (l : Launch) (E : kE) (sz : Nat) (a0 a1 a2 a3 a4 a5 a6 a7 a8 a9 a10 a11 a12 a13 a14 a15 a16 : Nat) (w0_1 w0_5 w0_6 w0_7 w0_8 : Value) (G : kG) (s_page_readers : Int32) (s_page_day : Int32) (s_sky_many : Int32) (s_sky_seed : Int32) (s_tape_length : Int32) (s_page_heights : Nat → Int32) (s_page_highest : Nat → Int32) (s_page_marked : Nat → Int32) (s_page_shapes : Nat → Int32) (s_tape_bytes : Nat → Int32) (s_page_reckoner_letters : Nat → Int32) (s_page_reckoner_values : Nat → Int32) (s_sky_reckoner_letters : Nat → Int32) (s_sky_reckoner_values : Nat → Int32) (p1 : Int32) (p2 : Int32) (p3 : Int32) (r : Int32) (o_page_readers : Int32) (o_page_day : Int32) (o_tape_length : Int32) (o_page_heights : Nat → Int32) (o_page_highest : Nat → Int32) (o_page_marked : Nat → Int32) (o_page_shapes : Nat → Int32) (o_page_reckoner_letters : Nat → Int32) (o_page_reckoner_values : Nat → Int32) (o_sky_reckoner_letters : Nat → Int32) (o_sky_reckoner_values : Nat → Int32) (h : f_X11_check G s_page_readers s_page_day s_sky_many s_sky_seed s_tape_length s_page_heights s_page_highest s_page_marked s_page_shapes s_tape_bytes s_page_reckoner_letters s_page_reckoner_values s_sky_reckoner_letters s_sky_reckoner_values p1 p2 p3 = some (r, o_page_readers, o_page_day, o_tape_length, o_page_heights, o_page_highest, o_page_marked, o_page_shapes, o_page_reckoner_letters, o_page_reckoner_values, o_sky_reckoner_letters, o_sky_reckoner_values)) : kMi l yX11_check cX11_check 5 (some .int) r_X11_check [.ref a0, .int p1, .int p2, .int p3] E (([(a0, .inr (11, [.ref a3, w0_1, .ref a2, .ref a1, .ref a4, w0_5, w0_6, w0_7, w0_8])), (a1, .inr (4, [.ref a5, .ref a9, .ref a6, .ref a7, .ref a8, .int s_page_readers, .int s_page_day])), (a2, .inr (7, [.ref a11, .ref a10, .int s_sky_many, .int s_sky_seed])), (a3, .inr (9, [.ref a12, .int s_tape_length])), (a4, .inl (E.2 4, 4, .inr (.inr (.inr (.inr ((kgW G))))))), (a5, .inl (E.2 0, 1440, .inl s_page_heights)), (a6, .inl (E.2 0, 1440, .inl s_page_highest)), (a7, .inl (E.2 0, 1440, .inl s_page_marked)), (a8, .inr (5, [.ref a13, .ref a14])), (a9, .inl (E.2 0, 1440, .inl s_page_shapes)), (a10, .inr (5, [.ref a15, .ref a16])), (a11, .inl (E.2 3, 10, .inr (.inr (.inr (.inr ((kgA G))))))), (a12, .inl (E.2 0, 200, .inl s_tape_bytes)), (a13, .inl (E.2 0, 128, .inl s_page_reckoner_letters)), (a14, .inl (E.2 0, 32, .inl s_page_reckoner_values)), (a15, .inl (E.2 0, 128, .inl s_sky_reckoner_letters)), (a16, .inl (E.2 0, 32, .inl s_sky_reckoner_values))] : va_W) ++ kpool E G) sz 0 0 (fun x (_ : Unit) => x = r) (fun _ => (([(a0, .inr (11, [.ref a3, w0_1, .ref a2, .ref a1, .ref a4, w0_5, w0_6, w0_7, w0_8])), (a1, .inr (4, [.ref a5, .ref a9, .ref a6, .ref a7, .ref a8, .int o_page_readers, .int o_page_day])), (a2, .inr (7, [.ref a11, .ref a10, .int s_sky_many, .int s_sky_seed])), (a3, .inr (9, [.ref a12, .int o_tape_length])), (a4, .inl (E.2 4, 4, .inr (.inr (.inr (.inr ((kgW G))))))), (a5, .inl (E.2 0, 1440, .inl o_page_heights)), (a6, .inl (E.2 0, 1440, .inl o_page_highest)), (a7, .inl (E.2 0, 1440, .inl o_page_marked)), (a8, .inr (5, [.ref a13, .ref a14])), (a9, .inl (E.2 0, 1440, .inl o_page_shapes)), (a10, .inr (5, [.ref a15, .ref a16])), (a11, .inl (E.2 3, 10, .inr (.inr (.inr (.inr ((kgA G))))))), (a12, .inl (E.2 0, 200, .inl s_tape_bytes)), (a13, .inl (E.2 0, 128, .inl o_page_reckoner_letters)), (a14, .inl (E.2 0, 32, .inl o_page_reckoner_values)), (a15, .inl (E.2 0, 128, .inl o_sky_reckoner_letters)), (a16, .inl (E.2 0, 32, .inl o_sky_reckoner_values))] : va_W) ++ kpool E G)) := by
  refine kmeti rfl (Nat.le_of_ble_eq_true rfl) ?_
  intro p e s m args below meth c ls A Q X hV hret hl
  have X : kC p s m c cX11_check 5 RX11 args E A := X
  have hx := X.1
  have hb := X.2.1
  have hl : lv_has ls 5 [(0, .ref a0), (1, .int p1), (2, .int p2), (3, .int p3)] := hl
  rw [f_X11_check] at h
  refine lv_iload_n hx hb dX11_check_0 rfl (lv_at hl 1 rfl) ?_
  obtain ⟨r1_1, hc2, h3⟩ := cb1_s h
  clear h
  have hY4 : kV E A s.heap _ _ (([] ++ ([(a0, .inr (11, [.ref a3, w0_1, .ref a2, .ref a1, .ref a4, w0_5, w0_6, w0_7, w0_8])), (a1, .inr (4, [.ref a5, .ref a9, .ref a6, .ref a7, .ref a8, .int s_page_readers, .int s_page_day])), (a2, .inr (7, [.ref a11, .ref a10, .int s_sky_many, .int s_sky_seed])), (a3, .inr (9, [.ref a12, .int s_tape_length])), (a4, .inl (E.2 4, 4, .inr (.inr (.inr (.inr ((kgW G))))))), (a5, .inl (E.2 0, 1440, .inl s_page_heights)), (a6, .inl (E.2 0, 1440, .inl s_page_highest)), (a7, .inl (E.2 0, 1440, .inl s_page_marked)), (a8, .inr (5, [.ref a13, .ref a14])), (a9, .inl (E.2 0, 1440, .inl s_page_shapes)), (a10, .inr (5, [.ref a15, .ref a16])), (a11, .inl (E.2 3, 10, .inr (.inr (.inr (.inr ((kgA G))))))), (a12, .inl (E.2 0, 200, .inl s_tape_bytes)), (a13, .inl (E.2 0, 128, .inl s_page_reckoner_letters)), (a14, .inl (E.2 0, 32, .inl s_page_reckoner_values)), (a15, .inl (E.2 0, 128, .inl s_sky_reckoner_letters)), (a16, .inl (E.2 0, 32, .inl s_sky_reckoner_values))] : va_W)) ++ kpool E G) := hV.subP [0, 1, 2, 3, 4, 5, 6, 7, 8, 9, 10, 11, 12, 13, 14, 15, 16] rfl rfl
  have hY5 := hY4.swapT
  clear hY4
  refine kgoiT (krunS (rest := []) X hY5 (List.range _) (c_X11_isReader l E _ p1 r1_1 hc2) mw_584 kb_X11_isReader (kndR _) (krg _ _) rfl hl.1 rfl (Nat.le_of_ble_eq_true rfl) dX11_check_1 (by decide)) X hY5 (fun u9 H locs hV6 => ?_)
  clear hY5 hV
  have hV10 : kV E A s.heap H locs (([(a0, .inr (11, [.ref a3, w0_1, .ref a2, .ref a1, .ref a4, w0_5, w0_6, w0_7, w0_8])), (a1, .inr (4, [.ref a5, .ref a9, .ref a6, .ref a7, .ref a8, .int s_page_readers, .int s_page_day])), (a2, .inr (7, [.ref a11, .ref a10, .int s_sky_many, .int s_sky_seed])), (a3, .inr (9, [.ref a12, .int s_tape_length])), (a4, .inl (E.2 4, 4, .inr (.inr (.inr (.inr ((kgW G))))))), (a5, .inl (E.2 0, 1440, .inl s_page_heights)), (a6, .inl (E.2 0, 1440, .inl s_page_highest)), (a7, .inl (E.2 0, 1440, .inl s_page_marked)), (a8, .inr (5, [.ref a13, .ref a14])), (a9, .inl (E.2 0, 1440, .inl s_page_shapes)), (a10, .inr (5, [.ref a15, .ref a16])), (a11, .inl (E.2 3, 10, .inr (.inr (.inr (.inr ((kgA G))))))), (a12, .inl (E.2 0, 200, .inl s_tape_bytes)), (a13, .inl (E.2 0, 128, .inl s_page_reckoner_letters)), (a14, .inl (E.2 0, 32, .inl s_page_reckoner_values)), (a15, .inl (E.2 0, 128, .inl s_sky_reckoner_letters)), (a16, .inl (E.2 0, 32, .inl s_sky_reckoner_values))] : va_W) ++ kpool E G) := hV6.subP [0, 1, 2, 3, 4, 5, 6, 7, 8, 9, 10, 11, 12, 13, 14, 15, 16] rfl rfl
  clear hV6
  refine lv_if_eq (tgt := 32) hx hb dX11_check_4 (by decide) (fun c11 => ?_) (fun c11 => ?_)
  · have h12 := itS c11 h3
    clear h3 c11
    refine lv_bipush (v := (-2)) hx hb dX11_check_32 (by decide) ?_
    obtain ⟨q14, q15, q16, q17, q18, q19, q20, q21, q22, q23, q24, q25⟩ := tup12_s h12
    clear h12
    exact hret _ () _ _ _ _ q14 rfl (by rw [← q15, ← q16, ← q17, ← q18, ← q19, ← q20, ← q21, ← q22, ← q23, ← q24, ← q25]; exact hV10) dX11_check_34
  · have h13 := ieS c11 h3
    clear h3 c11
    refine lv_iload_n hx hb dX11_check_7 rfl (lv_at hl 2 rfl) ?_
    obtain ⟨r8_26, hc27, h28⟩ := cb1_s h13
    clear h13
    have hY29 : kV E A s.heap _ _ (([] ++ ([(a0, .inr (11, [.ref a3, w0_1, .ref a2, .ref a1, .ref a4, w0_5, w0_6, w0_7, w0_8])), (a1, .inr (4, [.ref a5, .ref a9, .ref a6, .ref a7, .ref a8, .int s_page_readers, .int s_page_day])), (a2, .inr (7, [.ref a11, .ref a10, .int s_sky_many, .int s_sky_seed])), (a3, .inr (9, [.ref a12, .int s_tape_length])), (a4, .inl (E.2 4, 4, .inr (.inr (.inr (.inr ((kgW G))))))), (a5, .inl (E.2 0, 1440, .inl s_page_heights)), (a6, .inl (E.2 0, 1440, .inl s_page_highest)), (a7, .inl (E.2 0, 1440, .inl s_page_marked)), (a8, .inr (5, [.ref a13, .ref a14])), (a9, .inl (E.2 0, 1440, .inl s_page_shapes)), (a10, .inr (5, [.ref a15, .ref a16])), (a11, .inl (E.2 3, 10, .inr (.inr (.inr (.inr ((kgA G))))))), (a12, .inl (E.2 0, 200, .inl s_tape_bytes)), (a13, .inl (E.2 0, 128, .inl s_page_reckoner_letters)), (a14, .inl (E.2 0, 32, .inl s_page_reckoner_values)), (a15, .inl (E.2 0, 128, .inl s_sky_reckoner_letters)), (a16, .inl (E.2 0, 32, .inl s_sky_reckoner_values))] : va_W)) ++ kpool E G) := hV10.subP [0, 1, 2, 3, 4, 5, 6, 7, 8, 9, 10, 11, 12, 13, 14, 15, 16] rfl rfl
    have hY30 := hY29.swapT
    clear hY29
    refine kgoiT (krunS (rest := []) X hY30 (List.range _) (c_X11_isDay l E _ p2 r8_26 hc27) mw_622 kb_X11_isDay (kndR _) (krg _ _) rfl hl.1 rfl (Nat.le_of_ble_eq_true rfl) dX11_check_8 (by decide)) X hY30 (fun u34 H locs hV31 => ?_)
    clear hY30 hV10
    have hV35 : kV E A s.heap H locs (([(a0, .inr (11, [.ref a3, w0_1, .ref a2, .ref a1, .ref a4, w0_5, w0_6, w0_7, w0_8])), (a1, .inr (4, [.ref a5, .ref a9, .ref a6, .ref a7, .ref a8, .int s_page_readers, .int s_page_day])), (a2, .inr (7, [.ref a11, .ref a10, .int s_sky_many, .int s_sky_seed])), (a3, .inr (9, [.ref a12, .int s_tape_length])), (a4, .inl (E.2 4, 4, .inr (.inr (.inr (.inr ((kgW G))))))), (a5, .inl (E.2 0, 1440, .inl s_page_heights)), (a6, .inl (E.2 0, 1440, .inl s_page_highest)), (a7, .inl (E.2 0, 1440, .inl s_page_marked)), (a8, .inr (5, [.ref a13, .ref a14])), (a9, .inl (E.2 0, 1440, .inl s_page_shapes)), (a10, .inr (5, [.ref a15, .ref a16])), (a11, .inl (E.2 3, 10, .inr (.inr (.inr (.inr ((kgA G))))))), (a12, .inl (E.2 0, 200, .inl s_tape_bytes)), (a13, .inl (E.2 0, 128, .inl s_page_reckoner_letters)), (a14, .inl (E.2 0, 32, .inl s_page_reckoner_values)), (a15, .inl (E.2 0, 128, .inl s_sky_reckoner_letters)), (a16, .inl (E.2 0, 32, .inl s_sky_reckoner_values))] : va_W) ++ kpool E G) := hV31.subP [0, 1, 2, 3, 4, 5, 6, 7, 8, 9, 10, 11, 12, 13, 14, 15, 16] rfl rfl
    clear hV31
    refine lv_if_eq (tgt := 32) hx hb dX11_check_11 (by decide) (fun c36 => ?_) (fun c36 => ?_)
    · have h37 := itS c36 h28
      clear h28 c36
      refine lv_bipush (v := (-2)) hx hb dX11_check_32 (by decide) ?_
      obtain ⟨q39, q40, q41, q42, q43, q44, q45, q46, q47, q48, q49, q50⟩ := tup12_s h37
      clear h37
      exact hret _ () _ _ _ _ q39 rfl (by rw [← q40, ← q41, ← q42, ← q43, ← q44, ← q45, ← q46, ← q47, ← q48, ← q49, ← q50]; exact hV35) dX11_check_34
    · have h38 := ieS c36 h28
      clear h28 c36
      refine lv_iload_n hx hb dX11_check_14 rfl (lv_at hl 3 rfl) ?_
      refine lv_iconst (v := 0) hx hb dX11_check_15 (by decide) ?_
      refine lv_aload_n hx hb dX11_check_16 rfl (lv_at hl 0 rfl) ?_
      refine kget X hV35 (ci := 11) inlX11 rfl 0 rfl 0 (by decide) mw_15 rfl dX11_check_17 ?_
      refine kget X hV35 (ci := 9) inlX9 rfl 3 rfl 1 (by decide) mw_242 rfl dX11_check_20 ?_
      refine lv_bipush (v := 12) hx hb dX11_check_23 (by decide) ?_
      refine lv_idiv hx hb dX11_check_25 (by decide) ?_
      obtain ⟨r26_51, hc52, h53⟩ := cb1_s h38
      clear h38
      have hY54 : kV E A s.heap _ _ (([] ++ ([(a0, .inr (11, [.ref a3, w0_1, .ref a2, .ref a1, .ref a4, w0_5, w0_6, w0_7, w0_8])), (a1, .inr (4, [.ref a5, .ref a9, .ref a6, .ref a7, .ref a8, .int s_page_readers, .int s_page_day])), (a2, .inr (7, [.ref a11, .ref a10, .int s_sky_many, .int s_sky_seed])), (a3, .inr (9, [.ref a12, .int s_tape_length])), (a4, .inl (E.2 4, 4, .inr (.inr (.inr (.inr ((kgW G))))))), (a5, .inl (E.2 0, 1440, .inl s_page_heights)), (a6, .inl (E.2 0, 1440, .inl s_page_highest)), (a7, .inl (E.2 0, 1440, .inl s_page_marked)), (a8, .inr (5, [.ref a13, .ref a14])), (a9, .inl (E.2 0, 1440, .inl s_page_shapes)), (a10, .inr (5, [.ref a15, .ref a16])), (a11, .inl (E.2 3, 10, .inr (.inr (.inr (.inr ((kgA G))))))), (a12, .inl (E.2 0, 200, .inl s_tape_bytes)), (a13, .inl (E.2 0, 128, .inl s_page_reckoner_letters)), (a14, .inl (E.2 0, 32, .inl s_page_reckoner_values)), (a15, .inl (E.2 0, 128, .inl s_sky_reckoner_letters)), (a16, .inl (E.2 0, 32, .inl s_sky_reckoner_values))] : va_W)) ++ kpool E G) := hV35.subP [0, 1, 2, 3, 4, 5, 6, 7, 8, 9, 10, 11, 12, 13, 14, 15, 16] rfl rfl
      have hY55 := hY54.swapT
      clear hY54
      refine kgoiT (krunS (rest := []) X hY55 (List.range _) (c_X11_isWithin l E _ p3 0 (s_tape_length / 12) r26_51 hc52) mw_187 kb_X11_isWithin (kndR _) (krg _ _) rfl hl.1 rfl (Nat.le_of_ble_eq_true rfl) dX11_check_26 (by decide)) X hY55 (fun u59 H locs hV56 => ?_)
      clear hY55 hV35
      have hV60 : kV E A s.heap H locs (([(a0, .inr (11, [.ref a3, w0_1, .ref a2, .ref a1, .ref a4, w0_5, w0_6, w0_7, w0_8])), (a1, .inr (4, [.ref a5, .ref a9, .ref a6, .ref a7, .ref a8, .int s_page_readers, .int s_page_day])), (a2, .inr (7, [.ref a11, .ref a10, .int s_sky_many, .int s_sky_seed])), (a3, .inr (9, [.ref a12, .int s_tape_length])), (a4, .inl (E.2 4, 4, .inr (.inr (.inr (.inr ((kgW G))))))), (a5, .inl (E.2 0, 1440, .inl s_page_heights)), (a6, .inl (E.2 0, 1440, .inl s_page_highest)), (a7, .inl (E.2 0, 1440, .inl s_page_marked)), (a8, .inr (5, [.ref a13, .ref a14])), (a9, .inl (E.2 0, 1440, .inl s_page_shapes)), (a10, .inr (5, [.ref a15, .ref a16])), (a11, .inl (E.2 3, 10, .inr (.inr (.inr (.inr ((kgA G))))))), (a12, .inl (E.2 0, 200, .inl s_tape_bytes)), (a13, .inl (E.2 0, 128, .inl s_page_reckoner_letters)), (a14, .inl (E.2 0, 32, .inl s_page_reckoner_values)), (a15, .inl (E.2 0, 128, .inl s_sky_reckoner_letters)), (a16, .inl (E.2 0, 32, .inl s_sky_reckoner_values))] : va_W) ++ kpool E G) := hV56.subP [0, 1, 2, 3, 4, 5, 6, 7, 8, 9, 10, 11, 12, 13, 14, 15, 16] rfl rfl
      clear hV56
      refine lv_if_ne (tgt := 35) hx hb dX11_check_29 (by decide) (fun c61 => ?_) (fun c61 => ?_)
      · have h62 := ieS c61 h53
        clear h53 c61
        refine lv_aload_n hx hb dX11_check_35 rfl (lv_at hl 0 rfl) ?_
        refine kget X hV60 (ci := 11) inlX11 rfl 0 rfl 2 (by decide) mw_23 rfl dX11_check_36 ?_
        refine lv_aload_n hx hb dX11_check_39 rfl (lv_at hl 0 rfl) ?_
        refine kget X hV60 (ci := 11) inlX11 rfl 0 rfl 3 (by decide) mw_27 rfl dX11_check_40 ?_
        refine lv_iload_n hx hb dX11_check_43 rfl (lv_at hl 2 rfl) ?_
        obtain ⟨o_p1_readers44_64, o_p1_day44_65, o_p1_heights44_66, o_p1_highest44_67, o_p1_shapes44_68, o_reckoner_letters44_69, o_reckoner_values44_70, hc71, h72⟩ := cb7_s h62
        clear h62
        have hY73 : kV E A s.heap _ _ ((([(a2, .inr (7, [.ref a11, .ref a10, .int s_sky_many, .int s_sky_seed])), (a1, .inr (4, [.ref a5, .ref a9, .ref a6, .ref a7, .ref a8, .int s_page_readers, .int s_page_day])), (a5, .inl (E.2 0, 1440, .inl s_page_heights)), (a6, .inl (E.2 0, 1440, .inl s_page_highest)), (a9, .inl (E.2 0, 1440, .inl s_page_shapes)), (a10, .inr (5, [.ref a15, .ref a16])), (a11, .inl (E.2 3, 10, .inr (.inr (.inr (.inr ((kgA G))))))), (a15, .inl (E.2 0, 128, .inl s_sky_reckoner_letters)), (a16, .inl (E.2 0, 32, .inl s_sky_reckoner_values))] : va_W) ++ ([(a0, .inr (11, [.ref a3, w0_1, .ref a2, .ref a1, .ref a4, w0_5, w0_6, w0_7, w0_8])), (a3, .inr (9, [.ref a12, .int s_tape_length])), (a4, .inl (E.2 4, 4, .inr (.inr (.inr (.inr ((kgW G))))))), (a7, .inl (E.2 0, 1440, .inl s_page_marked)), (a8, .inr (5, [.ref a13, .ref a14])), (a12, .inl (E.2 0, 200, .inl s_tape_bytes)), (a13, .inl (E.2 0, 128, .inl s_page_reckoner_letters)), (a14, .inl (E.2 0, 32, .inl s_page_reckoner_values))] : va_W)) ++ kpool E G) := hV60.subP [2, 1, 5, 6, 9, 10, 11, 15, 16, 0, 3, 4, 7, 8, 12, 13, 14] rfl rfl
        have hY74 := hY73.swap
        clear hY73
        refine kgovP (krunV (rest := []) X hY74 (List.range _) (c_X7_lay l E _ a2 a1 a5 a6 a9 a10 a11 a15 a16 (.ref a7) (.ref a8) G s_sky_many s_sky_seed s_page_readers s_page_day s_page_heights s_page_highest s_page_shapes s_sky_reckoner_letters s_sky_reckoner_values p2 o_p1_readers44_64 o_p1_day44_65 o_p1_heights44_66 o_p1_highest44_67 o_p1_shapes44_68 o_reckoner_letters44_69 o_reckoner_values44_70 hc71) mw_767 kb_X7_lay (ci := 7) rfl rfl (kndR _) (krg _ _) rfl hl.1 rfl (Nat.le_of_ble_eq_true rfl) dX11_check_44 (by decide)) X hY74 (fun u78 H locs hV75 => ?_)
        clear hY74 hV60
        have hV79 : kV E A s.heap H locs (([(a0, .inr (11, [.ref a3, w0_1, .ref a2, .ref a1, .ref a4, w0_5, w0_6, w0_7, w0_8])), (a1, .inr (4, [.ref a5, .ref a9, .ref a6, .ref a7, .ref a8, .int o_p1_readers44_64, .int o_p1_day44_65])), (a2, .inr (7, [.ref a11, .ref a10, .int s_sky_many, .int s_sky_seed])), (a3, .inr (9, [.ref a12, .int s_tape_length])), (a4, .inl (E.2 4, 4, .inr (.inr (.inr (.inr ((kgW G))))))), (a5, .inl (E.2 0, 1440, .inl o_p1_heights44_66)), (a6, .inl (E.2 0, 1440, .inl o_p1_highest44_67)), (a7, .inl (E.2 0, 1440, .inl s_page_marked)), (a8, .inr (5, [.ref a13, .ref a14])), (a9, .inl (E.2 0, 1440, .inl o_p1_shapes44_68)), (a10, .inr (5, [.ref a15, .ref a16])), (a11, .inl (E.2 3, 10, .inr (.inr (.inr (.inr ((kgA G))))))), (a12, .inl (E.2 0, 200, .inl s_tape_bytes)), (a13, .inl (E.2 0, 128, .inl s_page_reckoner_letters)), (a14, .inl (E.2 0, 32, .inl s_page_reckoner_values)), (a15, .inl (E.2 0, 128, .inl o_reckoner_letters44_69)), (a16, .inl (E.2 0, 32, .inl o_reckoner_values44_70))] : va_W) ++ kpool E G) := kV.subP (X := (([(a0, .inr (11, [.ref a3, w0_1, .ref a2, .ref a1, .ref a4, w0_5, w0_6, w0_7, w0_8])), (a3, .inr (9, [.ref a12, .int s_tape_length])), (a4, .inl (E.2 4, 4, .inr (.inr (.inr (.inr ((kgW G))))))), (a7, .inl (E.2 0, 1440, .inl s_page_marked)), (a8, .inr (5, [.ref a13, .ref a14])), (a12, .inl (E.2 0, 200, .inl s_tape_bytes)), (a13, .inl (E.2 0, 128, .inl s_page_reckoner_letters)), (a14, .inl (E.2 0, 32, .inl s_page_reckoner_values))] : va_W) ++ ([(a2, .inr (7, [.ref a11, .ref a10, .int s_sky_many, .int s_sky_seed])), (a1, .inr (4, [.ref a5, .ref a9, .ref a6, .ref a7, .ref a8, .int o_p1_readers44_64, .int o_p1_day44_65])), (a5, .inl (E.2 0, 1440, .inl o_p1_heights44_66)), (a6, .inl (E.2 0, 1440, .inl o_p1_highest44_67)), (a9, .inl (E.2 0, 1440, .inl o_p1_shapes44_68)), (a10, .inr (5, [.ref a15, .ref a16])), (a11, .inl (E.2 3, 10, .inr (.inr (.inr (.inr ((kgA G))))))), (a15, .inl (E.2 0, 128, .inl o_reckoner_letters44_69)), (a16, .inl (E.2 0, 32, .inl o_reckoner_values44_70))] : va_W))) (P := kpool E G) hV75 [0, 9, 8, 1, 2, 10, 11, 3, 4, 12, 13, 14, 5, 6, 7, 15, 16] rfl rfl
        clear hV75
        refine lv_aload_n hx hb dX11_check_47 rfl (lv_at hl 0 rfl) ?_
        refine kget X hV79 (ci := 11) inlX11 rfl 0 rfl 3 (by decide) mw_27 rfl dX11_check_48 ?_
        refine lv_iload_n hx hb dX11_check_51 rfl (lv_at hl 1 rfl) ?_
        refine lv_aload_n hx hb dX11_check_52 rfl (lv_at hl 0 rfl) ?_
        refine kget X hV79 (ci := 11) inlX11 rfl 0 rfl 4 (by decide) mw_29 rfl dX11_check_53 ?_
        refine lv_iload_n hx hb dX11_check_56 rfl (lv_at hl 1 rfl) ?_
        obtain ⟨hi80, h81⟩ := gdN_s h72
        clear h72
        refine kaald X hV79 4 4 rfl rfl hi80 rfl dX11_check_57 ?_
        clear hi80
        refine W.eq (g2 := F0 m 58 ls [va_rf ((some (10 + (Int32.toNatClampNeg p1))).bind (kgX G)), .int p1, .ref a1]) rfl ?_
        have J61 : ∀ (page_readers__82 : Int32) (page_marked__83 : Nat → Int32) (page_reckoner_letters__84 : Nat → Int32) (page_reckoner_values__85 : Nat → Int32) (H : Heap) (locs : List Loc) (ls : Array Slot), (f_X11_check_J61 s_tape_length s_tape_bytes p1 p3 o_p1_day44_65 o_p1_heights44_66 o_p1_highest44_67 o_p1_shapes44_68 o_reckoner_letters44_69 o_reckoner_values44_70 ) page_readers__82 page_marked__83 page_reckoner_letters__84 page_reckoner_values__85 = some (r, o_page_readers, o_page_day, o_tape_length, o_page_heights, o_page_highest, o_page_marked, o_page_shapes, o_page_reckoner_letters, o_page_reckoner_values, o_sky_reckoner_letters, o_sky_reckoner_values) → kV E A s.heap H locs (([(a0, .inr (11, [.ref a3, w0_1, .ref a2, .ref a1, .ref a4, w0_5, w0_6, w0_7, w0_8])), (a1, .inr (4, [.ref a5, .ref a9, .ref a6, .ref a7, .ref a8, .int page_readers__82, .int o_p1_day44_65])), (a2, .inr (7, [.ref a11, .ref a10, .int s_sky_many, .int s_sky_seed])), (a3, .inr (9, [.ref a12, .int s_tape_length])), (a4, .inl (E.2 4, 4, .inr (.inr (.inr (.inr ((kgW G))))))), (a5, .inl (E.2 0, 1440, .inl o_p1_heights44_66)), (a6, .inl (E.2 0, 1440, .inl o_p1_highest44_67)), (a7, .inl (E.2 0, 1440, .inl page_marked__83)), (a8, .inr (5, [.ref a13, .ref a14])), (a9, .inl (E.2 0, 1440, .inl o_p1_shapes44_68)), (a10, .inr (5, [.ref a15, .ref a16])), (a11, .inl (E.2 3, 10, .inr (.inr (.inr (.inr ((kgA G))))))), (a12, .inl (E.2 0, 200, .inl s_tape_bytes)), (a13, .inl (E.2 0, 128, .inl page_reckoner_letters__84)), (a14, .inl (E.2 0, 32, .inl page_reckoner_values__85)), (a15, .inl (E.2 0, 128, .inl o_reckoner_letters44_69)), (a16, .inl (E.2 0, 32, .inl o_reckoner_values44_70))] : va_W) ++ kpool E G) → lv_has ls 5 [(0, .ref a0), (1, .int p1), (3, .int p3)] → W p l e r_X11_check s m args below meth c H locs 0 0 Q (F0 m 61 ls []) := by
          intro page_readers__82 page_marked__83 page_reckoner_letters__84 page_reckoner_values__85 H locs ls hB61 hVB61 hlB61
          rw [f_X11_check_J61] at hB61
          refine lv_aload_n hx hb dX11_check_61 rfl (lv_at hlB61 0 rfl) ?_
          refine kget X hVB61 (ci := 11) inlX11 rfl 0 rfl 3 (by decide) mw_27 rfl dX11_check_62 ?_
          refine lv_iload_n hx hb dX11_check_65 rfl (lv_at hlB61 1 rfl) ?_
          refine lv_aload_n hx hb dX11_check_66 rfl (lv_at hlB61 0 rfl) ?_
          refine kget X hVB61 (ci := 11) inlX11 rfl 0 rfl 0 (by decide) mw_15 rfl dX11_check_67 ?_
          refine lv_iload_n hx hb dX11_check_70 rfl (lv_at hlB61 2 rfl) ?_
          obtain ⟨r71_86, hc87, h88⟩ := cb1_s hB61
          clear hB61
          have hY89 : kV E A s.heap _ _ ((([(a1, .inr (4, [.ref a5, .ref a9, .ref a6, .ref a7, .ref a8, .int page_readers__82, .int o_p1_day44_65])), (a3, .inr (9, [.ref a12, .int s_tape_length])), (a12, .inl (E.2 0, 200, .inl s_tape_bytes)), (a5, .inl (E.2 0, 1440, .inl o_p1_heights44_66)), (a7, .inl (E.2 0, 1440, .inl page_marked__83))] : va_W) ++ ([(a0, .inr (11, [.ref a3, w0_1, .ref a2, .ref a1, .ref a4, w0_5, w0_6, w0_7, w0_8])), (a2, .inr (7, [.ref a11, .ref a10, .int s_sky_many, .int s_sky_seed])), (a4, .inl (E.2 4, 4, .inr (.inr (.inr (.inr ((kgW G))))))), (a6, .inl (E.2 0, 1440, .inl o_p1_highest44_67)), (a8, .inr (5, [.ref a13, .ref a14])), (a9, .inl (E.2 0, 1440, .inl o_p1_shapes44_68)), (a10, .inr (5, [.ref a15, .ref a16])), (a11, .inl (E.2 3, 10, .inr (.inr (.inr (.inr ((kgA G))))))), (a13, .inl (E.2 0, 128, .inl page_reckoner_letters__84)), (a14, .inl (E.2 0, 32, .inl page_reckoner_values__85)), (a15, .inl (E.2 0, 128, .inl o_reckoner_letters44_69)), (a16, .inl (E.2 0, 32, .inl o_reckoner_values44_70))] : va_W)) ++ kpool E G) := hVB61.subP [1, 3, 12, 5, 7, 0, 2, 4, 6, 8, 9, 10, 11, 13, 14, 15, 16] rfl rfl
          have hY90 := hY89.swapT
          clear hY89
          refine kgoiT (krunV (rest := []) X hY90 (List.range _) (c_X4_firstWrong l E _ a1 a3 a12 a5 a7 (.ref a9) (.ref a6) (.ref a8) (.int page_readers__82) (.int o_p1_day44_65) s_tape_length s_tape_bytes o_p1_heights44_66 page_marked__83 p1 p3 r71_86 hc87) mw_1308 kb_X4_firstWrong (ci := 4) rfl rfl (kndR _) (krg _ _) rfl hlB61.1 rfl (Nat.le_of_ble_eq_true rfl) dX11_check_71 (by decide)) X hY90 (fun u94 H locs hV91 => ?_)
          clear hY90 hVB61
          have hV95 : kV E A s.heap H locs (([(a0, .inr (11, [.ref a3, w0_1, .ref a2, .ref a1, .ref a4, w0_5, w0_6, w0_7, w0_8])), (a1, .inr (4, [.ref a5, .ref a9, .ref a6, .ref a7, .ref a8, .int page_readers__82, .int o_p1_day44_65])), (a2, .inr (7, [.ref a11, .ref a10, .int s_sky_many, .int s_sky_seed])), (a3, .inr (9, [.ref a12, .int s_tape_length])), (a4, .inl (E.2 4, 4, .inr (.inr (.inr (.inr ((kgW G))))))), (a5, .inl (E.2 0, 1440, .inl o_p1_heights44_66)), (a6, .inl (E.2 0, 1440, .inl o_p1_highest44_67)), (a7, .inl (E.2 0, 1440, .inl page_marked__83)), (a8, .inr (5, [.ref a13, .ref a14])), (a9, .inl (E.2 0, 1440, .inl o_p1_shapes44_68)), (a10, .inr (5, [.ref a15, .ref a16])), (a11, .inl (E.2 3, 10, .inr (.inr (.inr (.inr ((kgA G))))))), (a12, .inl (E.2 0, 200, .inl s_tape_bytes)), (a13, .inl (E.2 0, 128, .inl page_reckoner_letters__84)), (a14, .inl (E.2 0, 32, .inl page_reckoner_values__85)), (a15, .inl (E.2 0, 128, .inl o_reckoner_letters44_69)), (a16, .inl (E.2 0, 32, .inl o_reckoner_values44_70))] : va_W) ++ kpool E G) := hV91.subP [0, 12, 1, 13, 2, 15, 3, 16, 4, 5, 6, 7, 14, 8, 9, 10, 11] rfl rfl
          clear hV91
          refine lv_istore (lv' := [(4, .int r71_86), (0, .ref a0), (1, .int p1), (3, .int p3)]) hx hb dX11_check_74 hlB61 (by decide) rfl (fun ls hl96 => ?_)
          clear hlB61
          refine lv_aload_n hx hb dX11_check_76 rfl (lv_at hl96 1 rfl) ?_
          refine kget X hV95 (ci := 11) inlX11 rfl 0 rfl 0 (by decide) mw_15 rfl dX11_check_77 ?_
          obtain ⟨o_length80_97, hc98, h99⟩ := cb1_s h88
          clear h88
          have hY100 : kV E A s.heap _ _ ((([(a3, .inr (9, [.ref a12, .int s_tape_length]))] : va_W) ++ ([(a0, .inr (11, [.ref a3, w0_1, .ref a2, .ref a1, .ref a4, w0_5, w0_6, w0_7, w0_8])), (a1, .inr (4, [.ref a5, .ref a9, .ref a6, .ref a7, .ref a8, .int page_readers__82, .int o_p1_day44_65])), (a2, .inr (7, [.ref a11, .ref a10, .int s_sky_many, .int s_sky_seed])), (a4, .inl (E.2 4, 4, .inr (.inr (.inr (.inr ((kgW G))))))), (a5, .inl (E.2 0, 1440, .inl o_p1_heights44_66)), (a6, .inl (E.2 0, 1440, .inl o_p1_highest44_67)), (a7, .inl (E.2 0, 1440, .inl page_marked__83)), (a8, .inr (5, [.ref a13, .ref a14])), (a9, .inl (E.2 0, 1440, .inl o_p1_shapes44_68)), (a10, .inr (5, [.ref a15, .ref a16])), (a11, .inl (E.2 3, 10, .inr (.inr (.inr (.inr ((kgA G))))))), (a12, .inl (E.2 0, 200, .inl s_tape_bytes)), (a13, .inl (E.2 0, 128, .inl page_reckoner_letters__84)), (a14, .inl (E.2 0, 32, .inl page_reckoner_values__85)), (a15, .inl (E.2 0, 128, .inl o_reckoner_letters44_69)), (a16, .inl (E.2 0, 32, .inl o_reckoner_values44_70))] : va_W)) ++ kpool E G) := hV95.subP [3, 0, 1, 2, 4, 5, 6, 7, 8, 9, 10, 11, 12, 13, 14, 15, 16] rfl rfl
          have hY101 := hY100.swapT
          clear hY100
          refine kgovT (krunV (rest := []) X hY101 (List.range _) (c_X9_clear l E _ a3 (.ref a12) s_tape_length o_length80_97 hc98) mw_449 kb_X9_clear (ci := 9) rfl rfl (kndR _) (krg _ _) rfl hl96.1 rfl (Nat.le_of_ble_eq_true rfl) dX11_check_80 (by decide)) X hY101 (fun u105 H locs hV102 => ?_)
          clear hY101 hV95
          have hV106 : kV E A s.heap H locs (([(a0, .inr (11, [.ref a3, w0_1, .ref a2, .ref a1, .ref a4, w0_5, w0_6, w0_7, w0_8])), (a1, .inr (4, [.ref a5, .ref a9, .ref a6, .ref a7, .ref a8, .int page_readers__82, .int o_p1_day44_65])), (a2, .inr (7, [.ref a11, .ref a10, .int s_sky_many, .int s_sky_seed])), (a3, .inr (9, [.ref a12, .int o_length80_97])), (a4, .inl (E.2 4, 4, .inr (.inr (.inr (.inr ((kgW G))))))), (a5, .inl (E.2 0, 1440, .inl o_p1_heights44_66)), (a6, .inl (E.2 0, 1440, .inl o_p1_highest44_67)), (a7, .inl (E.2 0, 1440, .inl page_marked__83)), (a8, .inr (5, [.ref a13, .ref a14])), (a9, .inl (E.2 0, 1440, .inl o_p1_shapes44_68)), (a10, .inr (5, [.ref a15, .ref a16])), (a11, .inl (E.2 3, 10, .inr (.inr (.inr (.inr ((kgA G))))))), (a12, .inl (E.2 0, 200, .inl s_tape_bytes)), (a13, .inl (E.2 0, 128, .inl page_reckoner_letters__84)), (a14, .inl (E.2 0, 32, .inl page_reckoner_values__85)), (a15, .inl (E.2 0, 128, .inl o_reckoner_letters44_69)), (a16, .inl (E.2 0, 32, .inl o_reckoner_values44_70))] : va_W) ++ kpool E G) := hV102.subP [0, 1, 2, 16, 3, 4, 5, 6, 7, 8, 9, 10, 11, 12, 13, 14, 15] rfl rfl
          clear hV102
          refine lv_iload hx hb dX11_check_83 (lv_at hl96 0 rfl) ?_
          obtain ⟨q107, q108, q109, q110, q111, q112, q113, q114, q115, q116, q117, q118⟩ := tup12_s h99
          clear h99
          exact hret _ () _ _ _ _ q107 rfl (by rw [← q108, ← q109, ← q110, ← q111, ← q112, ← q113, ← q114, ← q115, ← q116, ← q117, ← q118]; exact hV106) dX11_check_85
        rcases oT_s h81 with ⟨hq121, h122⟩ | ⟨k119, t_120, hr123, hq121, hk124, ht125, h126⟩
        · skip
          refine ktopq hq121.symm ?_
          refine W.eq (g2 := F0 m 58 ls [.null, .int p1, .ref a1]) rfl ?_
          have hn127 := kgXn hq121
          obtain ⟨o_readers58_128, o_marked58_129, o_reckoner_letters58_130, hc131, h132⟩ := cb3_s h122
          clear h122
          have hY133 : kV E A s.heap _ _ ((([(a1, .inr (4, [.ref a5, .ref a9, .ref a6, .ref a7, .ref a8, .int o_p1_readers44_64, .int o_p1_day44_65])), (a5, .inl (E.2 0, 1440, .inl o_p1_heights44_66)), (a7, .inl (E.2 0, 1440, .inl s_page_marked)), (a8, .inr (5, [.ref a13, .ref a14])), (a9, .inl (E.2 0, 1440, .inl o_p1_shapes44_68)), (a13, .inl (E.2 0, 128, .inl s_page_reckoner_letters))] : va_W) ++ ([(a0, .inr (11, [.ref a3, w0_1, .ref a2, .ref a1, .ref a4, w0_5, w0_6, w0_7, w0_8])), (a2, .inr (7, [.ref a11, .ref a10, .int s_sky_many, .int s_sky_seed])), (a3, .inr (9, [.ref a12, .int s_tape_length])), (a4, .inl (E.2 4, 4, .inr (.inr (.inr (.inr ((kgW G))))))), (a6, .inl (E.2 0, 1440, .inl o_p1_highest44_67)), (a10, .inr (5, [.ref a15, .ref a16])), (a11, .inl (E.2 3, 10, .inr (.inr (.inr (.inr ((kgA G))))))), (a12, .inl (E.2 0, 200, .inl s_tape_bytes)), (a14, .inl (E.2 0, 32, .inl s_page_reckoner_values)), (a15, .inl (E.2 0, 128, .inl o_reckoner_letters44_69)), (a16, .inl (E.2 0, 32, .inl o_reckoner_values44_70))] : va_W)) ++ kpool E G) := hV79.subP [1, 5, 7, 8, 9, 13, 0, 2, 3, 4, 6, 10, 11, 12, 14, 15, 16] rfl rfl
          have hY134 := hY133.swapT
          clear hY133
          refine kgovT (krunV (rest := []) X hY134 (List.range _) (c_X4_read_N l E _ a1 a5 a7 a8 a9 a13 (.ref a6) (.ref a14) o_p1_readers44_64 o_p1_day44_65 o_p1_heights44_66 s_page_marked o_p1_shapes44_68 s_page_reckoner_letters p1 o_readers58_128 o_marked58_129 o_reckoner_letters58_130 hc131) mw_807 kb_X4_read (ci := 4) rfl rfl (kndR _) (krg _ _) rfl hl.1 rfl (Nat.le_of_ble_eq_true rfl) dX11_check_58 (by decide)) X hY134 (fun u138 H locs hV135 => ?_)
          clear hY134 hV79
          have hV139 : kV E A s.heap H locs (([(a0, .inr (11, [.ref a3, w0_1, .ref a2, .ref a1, .ref a4, w0_5, w0_6, w0_7, w0_8])), (a1, .inr (4, [.ref a5, .ref a9, .ref a6, .ref a7, .ref a8, .int o_readers58_128, .int o_p1_day44_65])), (a2, .inr (7, [.ref a11, .ref a10, .int s_sky_many, .int s_sky_seed])), (a3, .inr (9, [.ref a12, .int s_tape_length])), (a4, .inl (E.2 4, 4, .inr (.inr (.inr (.inr ((kgW G))))))), (a5, .inl (E.2 0, 1440, .inl o_p1_heights44_66)), (a6, .inl (E.2 0, 1440, .inl o_p1_highest44_67)), (a7, .inl (E.2 0, 1440, .inl o_marked58_129)), (a8, .inr (5, [.ref a13, .ref a14])), (a9, .inl (E.2 0, 1440, .inl o_p1_shapes44_68)), (a10, .inr (5, [.ref a15, .ref a16])), (a11, .inl (E.2 3, 10, .inr (.inr (.inr (.inr ((kgA G))))))), (a12, .inl (E.2 0, 200, .inl s_tape_bytes)), (a13, .inl (E.2 0, 128, .inl o_reckoner_letters58_130)), (a14, .inl (E.2 0, 32, .inl s_page_reckoner_values)), (a15, .inl (E.2 0, 128, .inl o_reckoner_letters44_69)), (a16, .inl (E.2 0, 32, .inl o_reckoner_values44_70))] : va_W) ++ kpool E G) := hV135.subP [0, 11, 1, 2, 3, 12, 4, 13, 14, 15, 5, 6, 7, 16, 8, 9, 10] rfl rfl
          clear hV135
          exact J61 o_readers58_128 o_marked58_129 o_reckoner_letters58_130 s_page_reckoner_values _ _ _ h132 hV139 (lv_sub hl [0, 1, 3] rfl)
        · skip
          obtain rfl := Option.some.inj hr123
          refine ktopq hq121.symm ?_
          refine W.eq (g2 := F0 m 58 ls [.ref t_120.1.1, .int p1, .ref a1]) rfl ?_
          have hV140 := kopT (X := [(a0, .inr (11, [.ref a3, w0_1, .ref a2, .ref a1, .ref a4, w0_5, w0_6, w0_7, w0_8])), (a1, .inr (4, [.ref a5, .ref a9, .ref a6, .ref a7, .ref a8, .int o_p1_readers44_64, .int o_p1_day44_65])), (a2, .inr (7, [.ref a11, .ref a10, .int s_sky_many, .int s_sky_seed])), (a3, .inr (9, [.ref a12, .int s_tape_length])), (a4, .inl (E.2 4, 4, .inr (.inr (.inr (.inr ((kgW G))))))), (a5, .inl (E.2 0, 1440, .inl o_p1_heights44_66)), (a6, .inl (E.2 0, 1440, .inl o_p1_highest44_67)), (a7, .inl (E.2 0, 1440, .inl s_page_marked)), (a8, .inr (5, [.ref a13, .ref a14])), (a9, .inl (E.2 0, 1440, .inl o_p1_shapes44_68)), (a10, .inr (5, [.ref a15, .ref a16])), (a11, .inl (E.2 3, 10, .inr (.inr (.inr (.inr ((kgA G))))))), (a12, .inl (E.2 0, 200, .inl s_tape_bytes)), (a13, .inl (E.2 0, 128, .inl s_page_reckoner_letters)), (a14, .inl (E.2 0, 32, .inl s_page_reckoner_values)), (a15, .inl (E.2 0, 128, .inl o_reckoner_letters44_69)), (a16, .inl (E.2 0, 32, .inl o_reckoner_values44_70))]) hk124 ht125 hV79
          have hV140 : kV E A s.heap _ _ (([(a0, .inr (11, [.ref a3, w0_1, .ref a2, .ref a1, .ref a4, w0_5, w0_6, w0_7, w0_8])), (a1, .inr (4, [.ref a5, .ref a9, .ref a6, .ref a7, .ref a8, .int o_p1_readers44_64, .int o_p1_day44_65])), (a2, .inr (7, [.ref a11, .ref a10, .int s_sky_many, .int s_sky_seed])), (a3, .inr (9, [.ref a12, .int s_tape_length])), (a4, .inl (E.2 4, 4, .inr (.inr (.inr (.inr ((kgW G))))))), (a5, .inl (E.2 0, 1440, .inl o_p1_heights44_66)), (a6, .inl (E.2 0, 1440, .inl o_p1_highest44_67)), (a7, .inl (E.2 0, 1440, .inl s_page_marked)), (a8, .inr (5, [.ref a13, .ref a14])), (a9, .inl (E.2 0, 1440, .inl o_p1_shapes44_68)), (a10, .inr (5, [.ref a15, .ref a16])), (a11, .inl (E.2 3, 10, .inr (.inr (.inr (.inr ((kgA G))))))), (a12, .inl (E.2 0, 200, .inl s_tape_bytes)), (a13, .inl (E.2 0, 128, .inl s_page_reckoner_letters)), (a14, .inl (E.2 0, 32, .inl s_page_reckoner_values)), (a15, .inl (E.2 0, 128, .inl o_reckoner_letters44_69)), (a16, .inl (E.2 0, 32, .inl o_reckoner_values44_70)), ((t_120.1.1), .inr (10, [.int (t_120.2.1), .ref (t_120.1.2.1), .ref (t_120.1.2.2.1), .ref (t_120.1.2.2.2)])), ((t_120.1.2.1), .inl (E.2 0, (t_120.2.2.1.1), .inl ((t_120.2.2.1.2)))), ((t_120.1.2.2.1), .inl (E.2 0, (t_120.2.2.2.1.1), .inl ((t_120.2.2.2.1.2)))), ((t_120.1.2.2.2), .inl (E.2 0, (t_120.2.2.2.2.1), .inl ((t_120.2.2.2.2.2))))] : va_W) ++ kpoolT E G (10 + (Int32.toNatClampNeg p1))) := hV140
          clear hV79
          obtain ⟨o_readers58_141, o_marked58_142, o_reckoner_letters58_143, o_reckoner_values58_144, hc145, h146⟩ := cb4_s h126
          clear h126
          have hY147 : kV E A s.heap _ _ ((([(a1, .inr (4, [.ref a5, .ref a9, .ref a6, .ref a7, .ref a8, .int o_p1_readers44_64, .int o_p1_day44_65])), ((t_120.1.1), .inr (10, [.int (t_120.2.1), .ref (t_120.1.2.1), .ref (t_120.1.2.2.1), .ref (t_120.1.2.2.2)])), ((t_120.1.2.1), .inl (E.2 0, (t_120.2.2.1.1), .inl ((t_120.2.2.1.2)))), ((t_120.1.2.2.2), .inl (E.2 0, (t_120.2.2.2.2.1), .inl ((t_120.2.2.2.2.2)))), ((t_120.1.2.2.1), .inl (E.2 0, (t_120.2.2.2.1.1), .inl ((t_120.2.2.2.1.2)))), (a5, .inl (E.2 0, 1440, .inl o_p1_heights44_66)), (a7, .inl (E.2 0, 1440, .inl s_page_marked)), (a8, .inr (5, [.ref a13, .ref a14])), (a9, .inl (E.2 0, 1440, .inl o_p1_shapes44_68)), (a13, .inl (E.2 0, 128, .inl s_page_reckoner_letters)), (a14, .inl (E.2 0, 32, .inl s_page_reckoner_values))] : va_W) ++ ([(a0, .inr (11, [.ref a3, w0_1, .ref a2, .ref a1, .ref a4, w0_5, w0_6, w0_7, w0_8])), (a2, .inr (7, [.ref a11, .ref a10, .int s_sky_many, .int s_sky_seed])), (a3, .inr (9, [.ref a12, .int s_tape_length])), (a4, .inl (E.2 4, 4, .inr (.inr (.inr (.inr ((kgW G))))))), (a6, .inl (E.2 0, 1440, .inl o_p1_highest44_67)), (a10, .inr (5, [.ref a15, .ref a16])), (a11, .inl (E.2 3, 10, .inr (.inr (.inr (.inr ((kgA G))))))), (a12, .inl (E.2 0, 200, .inl s_tape_bytes)), (a15, .inl (E.2 0, 128, .inl o_reckoner_letters44_69)), (a16, .inl (E.2 0, 32, .inl o_reckoner_values44_70))] : va_W)) ++ kpoolT E G (10 + (Int32.toNatClampNeg p1))) := hV140.subP [1, 17, 18, 20, 19, 5, 7, 8, 9, 13, 14, 0, 2, 3, 4, 6, 10, 11, 12, 15, 16] rfl rfl
          have hY148 := hY147.swapT
          clear hY147
          refine kgovT (krunV (rest := []) X hY148 (List.range _) (c_X4_read l E _ a1 (t_120.1.1) (t_120.1.2.1) (t_120.1.2.2.2) (t_120.1.2.2.1) a5 a7 a8 a9 a13 a14 (.ref a6) (t_120.2.2.1.1) (t_120.2.2.2.2.1) (t_120.2.2.2.1.1) o_p1_readers44_64 o_p1_day44_65 (t_120.2.1) (t_120.2.2.1.2) (t_120.2.2.2.2.2) (t_120.2.2.2.1.2) o_p1_heights44_66 s_page_marked o_p1_shapes44_68 s_page_reckoner_letters s_page_reckoner_values p1 o_readers58_141 o_marked58_142 o_reckoner_letters58_143 o_reckoner_values58_144 hc145) mw_807 kb_X4_read (ci := 4) rfl rfl (kndR _) (krg _ _) rfl hl.1 rfl (Nat.le_of_ble_eq_true rfl) dX11_check_58 (by decide)) X hY148 (fun u152 H locs hV149 => ?_)
          clear hY148 hV140
          have hV154 : kV E A s.heap H locs ((([(a0, .inr (11, [.ref a3, w0_1, .ref a2, .ref a1, .ref a4, w0_5, w0_6, w0_7, w0_8])), (a1, .inr (4, [.ref a5, .ref a9, .ref a6, .ref a7, .ref a8, .int o_readers58_141, .int o_p1_day44_65])), (a2, .inr (7, [.ref a11, .ref a10, .int s_sky_many, .int s_sky_seed])), (a3, .inr (9, [.ref a12, .int s_tape_length])), (a4, .inl (E.2 4, 4, .inr (.inr (.inr (.inr ((kgW G))))))), (a5, .inl (E.2 0, 1440, .inl o_p1_heights44_66)), (a6, .inl (E.2 0, 1440, .inl o_p1_highest44_67)), (a7, .inl (E.2 0, 1440, .inl o_marked58_142)), (a8, .inr (5, [.ref a13, .ref a14])), (a9, .inl (E.2 0, 1440, .inl o_p1_shapes44_68)), (a10, .inr (5, [.ref a15, .ref a16])), (a11, .inl (E.2 3, 10, .inr (.inr (.inr (.inr ((kgA G))))))), (a12, .inl (E.2 0, 200, .inl s_tape_bytes)), (a13, .inl (E.2 0, 128, .inl o_reckoner_letters58_143)), (a14, .inl (E.2 0, 32, .inl o_reckoner_values58_144)), (a15, .inl (E.2 0, 128, .inl o_reckoner_letters44_69)), (a16, .inl (E.2 0, 32, .inl o_reckoner_values44_70))] : va_W) ++ (ktc E t_120)) ++ kpoolT E G (10 + (Int32.toNatClampNeg p1))) := hV149.subP [0, 10, 1, 2, 3, 15, 4, 16, 17, 18, 5, 6, 7, 19, 20, 8, 9, 11, 12, 14, 13] rfl rfl
          have hV153 : kV E A s.heap H locs (([(a0, .inr (11, [.ref a3, w0_1, .ref a2, .ref a1, .ref a4, w0_5, w0_6, w0_7, w0_8])), (a1, .inr (4, [.ref a5, .ref a9, .ref a6, .ref a7, .ref a8, .int o_readers58_141, .int o_p1_day44_65])), (a2, .inr (7, [.ref a11, .ref a10, .int s_sky_many, .int s_sky_seed])), (a3, .inr (9, [.ref a12, .int s_tape_length])), (a4, .inl (E.2 4, 4, .inr (.inr (.inr (.inr ((kgW G))))))), (a5, .inl (E.2 0, 1440, .inl o_p1_heights44_66)), (a6, .inl (E.2 0, 1440, .inl o_p1_highest44_67)), (a7, .inl (E.2 0, 1440, .inl o_marked58_142)), (a8, .inr (5, [.ref a13, .ref a14])), (a9, .inl (E.2 0, 1440, .inl o_p1_shapes44_68)), (a10, .inr (5, [.ref a15, .ref a16])), (a11, .inl (E.2 3, 10, .inr (.inr (.inr (.inr ((kgA G))))))), (a12, .inl (E.2 0, 200, .inl s_tape_bytes)), (a13, .inl (E.2 0, 128, .inl o_reckoner_letters58_143)), (a14, .inl (E.2 0, 32, .inl o_reckoner_values58_144)), (a15, .inl (E.2 0, 128, .inl o_reckoner_letters44_69)), (a16, .inl (E.2 0, 32, .inl o_reckoner_values44_70))] : va_W) ++ kpool E G) := kclT hk124 ht125 hV154
          clear hV154
          clear hV149
          exact J61 o_readers58_141 o_marked58_142 o_reckoner_letters58_143 o_reckoner_values58_144 _ _ _ h146 hV153 (lv_sub hl [0, 1, 3] rfl)
      · have h63 := itS c61 h53
        clear h53 c61
        refine lv_bipush (v := (-2)) hx hb dX11_check_32 (by decide) ?_
        obtain ⟨q155, q156, q157, q158, q159, q160, q161, q162, q163, q164, q165, q166⟩ := tup12_s h63
        clear h63
        exact hret _ () _ _ _ _ q155 rfl (by rw [← q156, ← q157, ← q158, ← q159, ← q160, ← q161, ← q162, ← q163, ← q164, ← q165, ← q166]; exact hV60) dX11_check_34
