noncomputable def f_X1_choices_L5 (p1 : Int32) (p2 : Int32)  : Nat → Int64 → Int32 → Option (Int64)
  | 0, _, _ => none
  | n5 + 1, x2_3, x4_4 =>
    if p2 < x4_4 then
    (some (x2_3))
    else
    (dvL (Int32.toInt64 x4_4) <|
      nmL ((x2_3 * (Int32.toInt64 ((p1 - p2) + x4_4))) / (Int32.toInt64 x4_4)) fun v24_11 =>
      nmI (x4_4 + 1) fun v25_15 =>
      (f_X1_choices_L5 p1 p2  n5) v24_11 v25_15)
noncomputable def f_X1_choices (p1 : Int32) (p2 : Int32) : Option (Int64) :=
    (f_X1_choices_L5 p1 p2  FU) 1 1
abbrev r_X1_choices : Room := { frames := 0, cells := 0, slots := 0, locals := 0 }
set_option maxHeartbeats 4000000 in
set_option maxRecDepth 100000 in
theorem c_X1_choices (l : Launch) (E : kE) (sz : Nat) (p1 : Int32) (p2 : Int32) (r : Int64) (h : f_X1_choices p1 p2 = some (r)) : kMl l yX1_choices cX1_choices 5 (some .long) r_X1_choices [.int p1, .int p2] E [] sz 0 0 (fun x (_ : Unit) => x = r) (fun _ => []) := by
  refine kmetl rfl (Nat.le_of_ble_eq_true rfl) ?_
  intro p e s m args below meth c ls A Q X hV hret hl
  have X : kC p s m c cX1_choices 5 RX1 args E A := X
  have hx := X.1
  have hb := X.2.1
  have hl : lv_has ls 5 [(0, .int p1), (1, .int p2)] := hl
  rw [f_X1_choices] at h
  refine lv_lconst (v := 1) hx hb dX1_choices_0 (by decide) ?_
  refine lv_lstore_n (lv' := [(2, .long 1), (0, .int p1), (1, .int p2)]) hx hb dX1_choices_1 rfl hl (by decide) rfl (fun ls hl1 => ?_)
  clear hl
  refine lv_iconst (v := 1) hx hb dX1_choices_2 (by decide) ?_
  refine lv_istore (lv' := [(4, .int 1), (2, .long 1), (0, .int p1), (1, .int p2)]) hx hb dX1_choices_3 hl1 (by decide) rfl (fun ls hl2 => ?_)
  clear hl1
  have L5 : ∀ (n5 : Nat) (x2_3 : Int64) (x4_4 : Int32) (H : Heap) (locs : List Loc) (ls : Array Slot), (f_X1_choices_L5 p1 p2  n5) x2_3 x4_4 = some (r) → kV E A s.heap H locs [] → lv_has ls 5 [(0, .int p1), (1, .int p2), (2, .long x2_3), (4, .int x4_4)] → W p l e r_X1_choices s m args below meth c H locs 0 0 Q (F0 m 5 ls []) := by
    intro n5
    induction n5 with
    | zero =>
      intro x2_3 x4_4 H locs ls hB5 hVB5 hlB5
      rw [f_X1_choices_L5] at hB5
      exact nomatch hB5
    | succ n5 ih5 =>
      intro x2_3 x4_4 H locs ls hB5 hVB5 hlB5
      rw [f_X1_choices_L5] at hB5
      refine lv_iload hx hb dX1_choices_5 (lv_at hlB5 3 rfl) ?_
      refine lv_iload_n hx hb dX1_choices_7 rfl (lv_at hlB5 1 rfl) ?_
      refine lv_icmp_gt (tgt := 31) hx hb dX1_choices_8 (by decide) (fun c5 => ?_) (fun c5 => ?_)
      · have h6 := itS c5 hB5
        clear hB5 c5
        refine lv_lload_n hx hb dX1_choices_31 rfl (lv_at hlB5 2 rfl) ?_
        have q8 := tup1_s h6
        clear h6
        exact hret _ () _ _ _ _ q8 hVB5 dX1_choices_32
      · have h7 := ieS c5 hB5
        clear hB5 c5
        refine lv_lload_n hx hb dX1_choices_11 rfl (lv_at hlB5 2 rfl) ?_
        refine lv_iload_n hx hb dX1_choices_12 rfl (lv_at hlB5 0 rfl) ?_
        refine lv_iload_n hx hb dX1_choices_13 rfl (lv_at hlB5 1 rfl) ?_
        refine lv_isub hx hb dX1_choices_14 ?_
        refine lv_iload hx hb dX1_choices_15 (lv_at hlB5 3 rfl) ?_
        refine lv_iadd hx hb dX1_choices_17 ?_
        refine lv_i2l (v := Int32.toInt64 ((p1 - p2) + x4_4)) hx hb dX1_choices_18 rfl ?_
        refine lv_lmul hx hb dX1_choices_19 ?_
        refine lv_iload hx hb dX1_choices_20 (lv_at hlB5 3 rfl) ?_
        refine lv_i2l (v := Int32.toInt64 x4_4) hx hb dX1_choices_22 rfl ?_
        obtain ⟨hn9, h10⟩ := dvL_s h7
        clear h7
        refine lv_ldiv hx hb dX1_choices_23 hn9 ?_
        obtain ⟨v24_11, e12, h13⟩ := nmL_s h10
        clear h10
        refine ktopl e12 ?_
        clear e12
        refine lv_lstore_n (lv' := [(2, .long v24_11), (0, .int p1), (1, .int p2), (4, .int x4_4)]) hx hb dX1_choices_24 rfl hlB5 (by decide) rfl (fun ls hl14 => ?_)
        clear hlB5
        obtain ⟨v25_15, e16, h17⟩ := nmI_s h13
        clear h13
        refine lv_iinc (v := v25_15) (lv' := [(4, .int v25_15), (2, .long v24_11), (0, .int p1), (1, .int p2)]) hx hb dX1_choices_25 hl14 (k := 3) rfl (by rw [e16]; rfl) (by decide) rfl (fun ls hl18 => ?_)
        clear hl14 e16
        refine lv_goto (tgt := 5) hx hb dX1_choices_28 (by decide) ?_
        exact ih5 v24_11 v25_15 _ _ _ h17 hVB5 (lv_sub hl18 [2, 3, 1, 0] rfl)
  exact L5 FU 1 1 _ _ _ h hV (lv_sub hl2 [2, 3, 1, 0] rfl)
noncomputable def f_X1_drawsWith (p1 : Int32) (p2 : Int32) (p3 : Int32) (p4 : Int32) : Option (Int64) :=
    cb1 (f_X1_choices p1 p3) fun r2_1 =>
    cb1 (f_X1_choices (p4 - p1) (p2 - p3)) fun r11_6 =>
    some ((r2_1 * r11_6))
abbrev r_X1_drawsWith : Room := { frames := 1, cells := 0, slots := 0, locals := 24 }
set_option maxHeartbeats 4000000 in
set_option maxRecDepth 100000 in
theorem c_X1_drawsWith (l : Launch) (E : kE) (sz : Nat) (p1 : Int32) (p2 : Int32) (p3 : Int32) (p4 : Int32) (r : Int64) (h : f_X1_drawsWith p1 p2 p3 p4 = some (r)) : kMl l yX1_drawsWith cX1_drawsWith 4 (some .long) r_X1_drawsWith [.int p1, .int p2, .int p3, .int p4] E [] sz 0 0 (fun x (_ : Unit) => x = r) (fun _ => []) := by
  refine kmetl rfl (Nat.le_of_ble_eq_true rfl) ?_
  intro p e s m args below meth c ls A Q X hV hret hl
  have X : kC p s m c cX1_drawsWith 4 RX1 args E A := X
  have hx := X.1
  have hb := X.2.1
  have hl : lv_has ls 4 [(0, .int p1), (1, .int p2), (2, .int p3), (3, .int p4)] := hl
  rw [f_X1_drawsWith] at h
  refine lv_iload_n hx hb dX1_drawsWith_0 rfl (lv_at hl 0 rfl) ?_
  refine lv_iload_n hx hb dX1_drawsWith_1 rfl (lv_at hl 2 rfl) ?_
  obtain ⟨r2_1, hc2, h3⟩ := cb1_s h
  clear h
  refine kgolE (krunS (rest := []) X hV [] (c_X1_choices l E _ p1 p3 r2_1 hc2) mw_1266 kb_X1_choices (by decide) rfl rfl hl.1 rfl (Nat.le_of_ble_eq_true rfl) dX1_drawsWith_2 (by decide)) X hV [] [] rfl rfl rfl (by decide) (fun u H locs hV4 => ?_)
  have hV4 : kV E A s.heap H locs [] := hV4.sub [] rfl rfl
  clear hV
  refine lv_iload_n hx hb dX1_drawsWith_5 rfl (lv_at hl 3 rfl) ?_
  refine lv_iload_n hx hb dX1_drawsWith_6 rfl (lv_at hl 0 rfl) ?_
  refine lv_isub hx hb dX1_drawsWith_7 ?_
  refine lv_iload_n hx hb dX1_drawsWith_8 rfl (lv_at hl 1 rfl) ?_
  refine lv_iload_n hx hb dX1_drawsWith_9 rfl (lv_at hl 2 rfl) ?_
  refine lv_isub hx hb dX1_drawsWith_10 ?_
  obtain ⟨r11_6, hc7, h8⟩ := cb1_s h3
  clear h3
  refine kgolE (krunS (rest := [.long r2_1]) X hV4 [] (c_X1_choices l E _ (p4 - p1) (p2 - p3) r11_6 hc7) mw_1266 kb_X1_choices (by decide) rfl rfl hl.1 rfl (Nat.le_of_ble_eq_true rfl) dX1_drawsWith_11 (by decide)) X hV4 [] [] rfl rfl rfl (by decide) (fun u H locs hV9 => ?_)
  have hV9 : kV E A s.heap H locs [] := hV9.sub [] rfl rfl
  clear hV4
  refine lv_lmul hx hb dX1_drawsWith_14 ?_
  have q11 := tup1_s h8
  clear h8
  exact hret _ () _ _ _ _ q11 hV9 dX1_drawsWith_15
noncomputable def f_X1_commonDivisor_J44   (x4_4 : Int64) : Option (Int64) :=
    some ((jmaxL 1 x4_4))
noncomputable def f_X1_commonDivisor_L9  (K44 : Int64 → Option (Int64)) : Nat → Int64 → Int64 → Int32 → Option (Int64)
  | 0, _, _, _ => none
  | n9 + 1, x4_6, x6_7, x8_8 =>
    if 100 ≤ x8_8 then
    (K44 x4_6)
    else
    (if (lg_cmp x6_7 0) = 0 then
      (K44 x4_6)
      else
      (dvL x6_7 <|
        nmL (jremL x4_6 x6_7) fun v28_17 =>
        nmI (x8_8 + 1) fun v38_23 =>
        (f_X1_commonDivisor_L9  K44 n9) x6_7 v28_17 v38_23))
noncomputable def f_X1_commonDivisor (p1 : Int64) (p2 : Int64) : Option (Int64) :=
    (f_X1_commonDivisor_L9  f_X1_commonDivisor_J44 FU) p1 p2 0
abbrev r_X1_commonDivisor : Room := { frames := 1, cells := 0, slots := 0, locals := 23 }
set_option maxHeartbeats 4000000 in
set_option maxRecDepth 100000 in
theorem c_X1_commonDivisor (l : Launch) (E : kE) (sz : Nat) (p1 : Int64) (p2 : Int64) (r : Int64) (h : f_X1_commonDivisor p1 p2 = some (r)) : kMl l yX1_commonDivisor cX1_commonDivisor 11 (some .long) r_X1_commonDivisor [.long p1, .long p2] E [] sz 0 0 (fun x (_ : Unit) => x = r) (fun _ => []) := by
  refine kmetl rfl (Nat.le_of_ble_eq_true rfl) ?_
  intro p e s m args below meth c ls A Q X hV hret hl
  have X : kC p s m c cX1_commonDivisor 11 RX1 args E A := X
  have hx := X.1
  have hb := X.2.1
  have hl : lv_has ls 11 [(0, .long p1), (2, .long p2)] := hl
  rw [f_X1_commonDivisor] at h
  refine lv_lload_n hx hb dX1_commonDivisor_0 rfl (lv_at hl 0 rfl) ?_
  refine lv_lstore (lv' := [(4, .long p1), (0, .long p1), (2, .long p2)]) hx hb dX1_commonDivisor_1 hl (by decide) rfl (fun ls hl1 => ?_)
  clear hl
  refine lv_lload_n hx hb dX1_commonDivisor_3 rfl (lv_at hl1 2 rfl) ?_
  refine lv_lstore (lv' := [(6, .long p2), (4, .long p1), (0, .long p1), (2, .long p2)]) hx hb dX1_commonDivisor_4 hl1 (by decide) rfl (fun ls hl2 => ?_)
  clear hl1
  refine lv_iconst (v := 0) hx hb dX1_commonDivisor_6 (by decide) ?_
  refine lv_istore (lv' := [(8, .int 0), (6, .long p2), (4, .long p1), (0, .long p1), (2, .long p2)]) hx hb dX1_commonDivisor_7 hl2 (by decide) rfl (fun ls hl3 => ?_)
  clear hl2
  have J44 : ∀ (x4_4 : Int64) (H : Heap) (locs : List Loc) (ls : Array Slot), (f_X1_commonDivisor_J44  ) x4_4 = some (r) → kV E A s.heap H locs [] → lv_has ls 11 [(4, .long x4_4)] → W p l e r_X1_commonDivisor s m args below meth c H locs 0 0 Q (F0 m 44 ls []) := by
    intro x4_4 H locs ls hB44 hVB44 hlB44
    rw [f_X1_commonDivisor_J44] at hB44
    refine lv_lconst (v := 1) hx hb dX1_commonDivisor_44 (by decide) ?_
    refine lv_lload hx hb dX1_commonDivisor_45 (lv_at hlB44 0 rfl) ?_
    refine va_mmax_long hx hb (X.2.2.1.trans hlB44.1.symm) X.2.2.2.1 (X.2.2.2.2.1 _ mw_1273) (X.2.2.2.2.1 _ mw_1274) (X.2.2.2.2.1 _ mw_281) (X.2.2.2.2.1 _ mw_1275) (by decide) (Nat.le_of_ble_eq_true rfl) (by decide) (by decide) dX1_commonDivisor_47 ?_
    have q5 := tup1_s hB44
    clear hB44
    exact hret _ () _ _ _ _ q5 hVB44 dX1_commonDivisor_50
  have L9 : ∀ (n9 : Nat) (x4_6 : Int64) (x6_7 : Int64) (x8_8 : Int32) (H : Heap) (locs : List Loc) (ls : Array Slot), (f_X1_commonDivisor_L9  (f_X1_commonDivisor_J44  ) n9) x4_6 x6_7 x8_8 = some (r) → kV E A s.heap H locs [] → lv_has ls 11 [(4, .long x4_6), (6, .long x6_7), (8, .int x8_8)] → W p l e r_X1_commonDivisor s m args below meth c H locs 0 0 Q (F0 m 9 ls []) := by
    intro n9
    induction n9 with
    | zero =>
      intro x4_6 x6_7 x8_8 H locs ls hB9 hVB9 hlB9
      rw [f_X1_commonDivisor_L9] at hB9
      exact nomatch hB9
    | succ n9 ih9 =>
      intro x4_6 x6_7 x8_8 H locs ls hB9 hVB9 hlB9
      rw [f_X1_commonDivisor_L9] at hB9
      refine lv_iload hx hb dX1_commonDivisor_9 (lv_at hlB9 2 rfl) ?_
      refine lv_bipush (v := 100) hx hb dX1_commonDivisor_11 (by decide) ?_
      refine lv_icmp_ge (tgt := 44) hx hb dX1_commonDivisor_13 (by decide) (fun c9 => ?_) (fun c9 => ?_)
      · have h10 := itS c9 hB9
        clear hB9 c9
        exact J44 x4_6 _ _ _ h10 hVB9 (lv_sub hlB9 [0] rfl)
      · have h11 := ieS c9 hB9
        clear hB9 c9
        refine lv_lload hx hb dX1_commonDivisor_16 (lv_at hlB9 1 rfl) ?_
        refine lv_lconst (v := 0) hx hb dX1_commonDivisor_18 (by decide) ?_
        refine W.lcmp hx hb dX1_commonDivisor_19 ?_
        refine lv_if_eq (tgt := 44) hx hb dX1_commonDivisor_20 (by decide) (fun c12 => ?_) (fun c12 => ?_)
        · have h13 := itS c12 h11
          clear h11 c12
          exact J44 x4_6 _ _ _ h13 hVB9 (lv_sub hlB9 [0] rfl)
        · have h14 := ieS c12 h11
          clear h11 c12
          refine lv_lload hx hb dX1_commonDivisor_23 (lv_at hlB9 0 rfl) ?_
          refine lv_lload hx hb dX1_commonDivisor_25 (lv_at hlB9 1 rfl) ?_
          obtain ⟨hn15, h16⟩ := dvL_s h14
          clear h14
          refine lv_lrem hx hb dX1_commonDivisor_27 hn15 ?_
          obtain ⟨v28_17, e18, h19⟩ := nmL_s h16
          clear h16
          refine ktopl e18 ?_
          clear e18
          refine lv_lstore (lv' := [(9, .long v28_17), (4, .long x4_6), (6, .long x6_7), (8, .int x8_8)]) hx hb dX1_commonDivisor_28 hlB9 (by decide) rfl (fun ls hl20 => ?_)
          clear hlB9
          refine lv_lload hx hb dX1_commonDivisor_30 (lv_at hl20 2 rfl) ?_
          refine lv_lstore (lv' := [(4, .long x6_7), (9, .long v28_17), (6, .long x6_7), (8, .int x8_8)]) hx hb dX1_commonDivisor_32 hl20 (by decide) rfl (fun ls hl21 => ?_)
          clear hl20
          refine lv_lload hx hb dX1_commonDivisor_34 (lv_at hl21 1 rfl) ?_
          refine lv_lstore (lv' := [(6, .long v28_17), (4, .long x6_7), (9, .long v28_17), (8, .int x8_8)]) hx hb dX1_commonDivisor_36 hl21 (by decide) rfl (fun ls hl22 => ?_)
          clear hl21
          obtain ⟨v38_23, e24, h25⟩ := nmI_s h19
          clear h19
          refine lv_iinc (v := v38_23) (lv' := [(8, .int v38_23), (6, .long v28_17), (4, .long x6_7), (9, .long v28_17)]) hx hb dX1_commonDivisor_38 hl22 (k := 3) rfl (by rw [e24]; rfl) (by decide) rfl (fun ls hl26 => ?_)
          clear hl22 e24
          refine lv_goto (tgt := 9) hx hb dX1_commonDivisor_41 (by decide) ?_
          exact ih9 x6_7 v28_17 v38_23 _ _ _ h25 hVB9 (lv_sub hl26 [2, 1, 0] rfl)
  exact L9 FU p1 p2 0 _ _ _ h hV (lv_sub hl3 [2, 1, 0] rfl)
noncomputable def f_X11_tapeHas (s_tape_length : Int32) (p1 : Int32) (p2 : Int32) : Option (Int32) :=
    cb1 (f_X11_isWithin p1 1 p2) fun r3_1 =>
    if r3_1 = 0 then
    (some (0))
    else
    (if s_tape_length < p1 then
      (some (0))
      else
      (some (1)))
abbrev r_X11_tapeHas : Room := { frames := 1, cells := 0, slots := 0, locals := 22 }
set_option maxHeartbeats 4000000 in
set_option maxRecDepth 100000 in
theorem c_X11_tapeHas (l : Launch) (E : kE) (sz : Nat) (a0 a1 : Nat) (w0_1 w0_2 w0_3 w0_4 w0_5 w0_6 w0_7 w0_8 w1_0 : Value) (s_tape_length : Int32) (p1 : Int32) (p2 : Int32) (r : Int32) (h : f_X11_tapeHas s_tape_length p1 p2 = some (r)) : kMi l yX11_tapeHas cX11_tapeHas 3 (some .boolean) r_X11_tapeHas [.ref a0, .int p1, .int p2] E [(a0, .inr (11, [.ref a1, w0_1, w0_2, w0_3, w0_4, w0_5, w0_6, w0_7, w0_8])), (a1, .inr (9, [w1_0, .int s_tape_length]))] sz 0 0 (fun x (_ : Unit) => x = r) (fun _ => [(a0, .inr (11, [.ref a1, w0_1, w0_2, w0_3, w0_4, w0_5, w0_6, w0_7, w0_8])), (a1, .inr (9, [w1_0, .int s_tape_length]))]) := by
  refine kmeti rfl (Nat.le_of_ble_eq_true rfl) ?_
  intro p e s m args below meth c ls A Q X hV hret hl
  have X : kC p s m c cX11_tapeHas 3 RX11 args E A := X
  have hx := X.1
  have hb := X.2.1
  have hl : lv_has ls 3 [(0, .ref a0), (1, .int p1), (2, .int p2)] := hl
  rw [f_X11_tapeHas] at h
  refine lv_iload_n hx hb dX11_tapeHas_0 rfl (lv_at hl 1 rfl) ?_
  refine lv_iconst (v := 1) hx hb dX11_tapeHas_1 (by decide) ?_
  refine lv_iload_n hx hb dX11_tapeHas_2 rfl (lv_at hl 2 rfl) ?_
  obtain ⟨r3_1, hc2, h3⟩ := cb1_s h
  clear h
  refine kgoiE (krunS (rest := []) X hV [] (c_X11_isWithin l E _ p1 1 p2 r3_1 hc2) mw_187 kb_X11_isWithin (by decide) rfl rfl hl.1 rfl (Nat.le_of_ble_eq_true rfl) dX11_tapeHas_3 (by decide)) X hV [] [0, 1] rfl rfl rfl (by decide) (fun u H locs hV4 => ?_)
  have hV4 : kV E A s.heap H locs [(a0, .inr (11, [.ref a1, w0_1, w0_2, w0_3, w0_4, w0_5, w0_6, w0_7, w0_8])), (a1, .inr (9, [w1_0, .int s_tape_length]))] := hV4.sub [0, 1] rfl rfl
  clear hV
  refine lv_if_eq (tgt := 24) hx hb dX11_tapeHas_6 (by decide) (fun c6 => ?_) (fun c6 => ?_)
  · have h7 := itS c6 h3
    clear h3 c6
    refine lv_iconst (v := 0) hx hb dX11_tapeHas_24 (by decide) ?_
    have q9 := tup1_s h7
    clear h7
    exact hret _ () _ _ _ _ q9 rfl hV4 dX11_tapeHas_25
  · have h8 := ieS c6 h3
    clear h3 c6
    refine lv_iload_n hx hb dX11_tapeHas_9 rfl (lv_at hl 1 rfl) ?_
    refine lv_aload_n hx hb dX11_tapeHas_10 rfl (lv_at hl 0 rfl) ?_
    refine kget X hV4 (ci := 11) inlX11 rfl 0 rfl 0 (by decide) mw_15 rfl dX11_tapeHas_11 ?_
    refine kget X hV4 (ci := 9) inlX9 rfl 1 rfl 1 (by decide) mw_242 rfl dX11_tapeHas_14 ?_
    refine lv_icmp_gt (tgt := 24) hx hb dX11_tapeHas_17 (by decide) (fun c10 => ?_) (fun c10 => ?_)
    · have h11 := itS c10 h8
      clear h8 c10
      refine lv_iconst (v := 0) hx hb dX11_tapeHas_24 (by decide) ?_
      have q13 := tup1_s h11
      clear h11
      exact hret _ () _ _ _ _ q13 rfl hV4 dX11_tapeHas_25
    · have h12 := ieS c10 h8
      clear h8 c10
      refine lv_iconst (v := 1) hx hb dX11_tapeHas_20 (by decide) ?_
      refine lv_goto (tgt := 25) hx hb dX11_tapeHas_21 (by decide) ?_
      have q14 := tup1_s h12
      clear h12
      exact hret _ () _ _ _ _ q14 rfl hV4 dX11_tapeHas_25
noncomputable def f_X11_canScan_J30 (s_blips_many : Int32) (p1 : Int32) (p2 : Int32) (p3 : Int32)  (t0_6 : Int32) : Option (Int32) :=
    if t0_6 = 0 then
    (some (0))
    else
    (if p2 < p1 then
      (some (0))
      else
      (if 2000 < (p2 - p1) then
        (some (0))
        else
        (if p1 ≤ (2 * p3) then
          (some (0))
          else
          (if s_blips_many < 2 then
            (some (0))
            else
            (some (1))))))
noncomputable def f_X11_canScan (s_blips_many : Int32) (p1 : Int32) (p2 : Int32) (p3 : Int32) : Option (Int32) :=
    cb1 (f_X11_isBeat p1) fun r1_1 =>
    if r1_1 = 0 then
    ((f_X11_canScan_J30 s_blips_many p1 p2 p3 ) 0)
    else
    (cb1 (f_X11_isBeat p2) fun r8_32 =>
      if r8_32 = 0 then
      ((f_X11_canScan_J30 s_blips_many p1 p2 p3 ) 0)
      else
      (cb1 (f_X11_isWithin p3 0 1000) fun r19_40 =>
        if r19_40 = 0 then
        ((f_X11_canScan_J30 s_blips_many p1 p2 p3 ) 0)
        else
        ((f_X11_canScan_J30 s_blips_many p1 p2 p3 ) 1)))
abbrev r_X11_canScan : Room := { frames := 2, cells := 0, slots := 0, locals := 42 }
set_option maxHeartbeats 4000000 in
set_option maxRecDepth 100000 in
theorem c_X11_canScan (l : Launch) (E : kE) (sz : Nat) (a0 a1 : Nat) (w0_0 w0_1 w0_2 w0_3 w0_4 w0_5 w0_7 w0_8 w1_0 w1_1 w1_3 w1_4 w1_5 : Value) (s_blips_many : Int32) (p1 : Int32) (p2 : Int32) (p3 : Int32) (r : Int32) (h : f_X11_canScan s_blips_many p1 p2 p3 = some (r)) : kMi l yX11_canScan cX11_canScan 5 (some .boolean) r_X11_canScan [.ref a0, .int p1, .int p2, .int p3] E [(a0, .inr (11, [w0_0, w0_1, w0_2, w0_3, w0_4, w0_5, .ref a1, w0_7, w0_8])), (a1, .inr (0, [w1_0, w1_1, .int s_blips_many, w1_3, w1_4, w1_5]))] sz 0 0 (fun x (_ : Unit) => x = r) (fun _ => [(a0, .inr (11, [w0_0, w0_1, w0_2, w0_3, w0_4, w0_5, .ref a1, w0_7, w0_8])), (a1, .inr (0, [w1_0, w1_1, .int s_blips_many, w1_3, w1_4, w1_5]))]) := by
  refine kmeti rfl (Nat.le_of_ble_eq_true rfl) ?_
  intro p e s m args below meth c ls A Q X hV hret hl
  have X : kC p s m c cX11_canScan 5 RX11 args E A := X
  have hx := X.1
  have hb := X.2.1
  have hl : lv_has ls 5 [(0, .ref a0), (1, .int p1), (2, .int p2), (3, .int p3)] := hl
  rw [f_X11_canScan] at h
  refine lv_iload_n hx hb dX11_canScan_0 rfl (lv_at hl 1 rfl) ?_
  obtain ⟨r1_1, hc2, h3⟩ := cb1_s h
  clear h
  refine kgoiE (krunS (rest := []) X hV [] (c_X11_isBeat l E _ p1 r1_1 hc2) mw_998 kb_X11_isBeat (by decide) rfl rfl hl.1 rfl (Nat.le_of_ble_eq_true rfl) dX11_canScan_1 (by decide)) X hV [] [0, 1] rfl rfl rfl (by decide) (fun u H locs hV4 => ?_)
  have hV4 : kV E A s.heap H locs [(a0, .inr (11, [w0_0, w0_1, w0_2, w0_3, w0_4, w0_5, .ref a1, w0_7, w0_8])), (a1, .inr (0, [w1_0, w1_1, .int s_blips_many, w1_3, w1_4, w1_5]))] := hV4.sub [0, 1] rfl rfl
  clear hV
  have J30 : ∀ (t0_6 : Int32) (H : Heap) (locs : List Loc) (ls : Array Slot), (f_X11_canScan_J30 s_blips_many p1 p2 p3 ) t0_6 = some (r) → kV E A s.heap H locs [(a0, .inr (11, [w0_0, w0_1, w0_2, w0_3, w0_4, w0_5, .ref a1, w0_7, w0_8])), (a1, .inr (0, [w1_0, w1_1, .int s_blips_many, w1_3, w1_4, w1_5]))] → lv_has ls 5 [(0, .ref a0), (1, .int p1), (2, .int p2), (3, .int p3)] → W p l e r_X11_canScan s m args below meth c H locs 0 0 Q (F0 m 30 ls [.int t0_6]) := by
    intro t0_6 H locs ls hB30 hVB30 hlB30
    rw [f_X11_canScan_J30] at hB30
    refine lv_istore (lv' := [(4, .int t0_6), (0, .ref a0), (1, .int p1), (2, .int p2), (3, .int p3)]) hx hb dX11_canScan_30 hlB30 (by decide) rfl (fun ls hl7 => ?_)
    clear hlB30
    refine lv_iload hx hb dX11_canScan_32 (lv_at hl7 0 rfl) ?_
    refine lv_if_eq (tgt := 73) hx hb dX11_canScan_34 (by decide) (fun c8 => ?_) (fun c8 => ?_)
    · have h9 := itS c8 hB30
      clear hB30 c8
      refine lv_iconst (v := 0) hx hb dX11_canScan_73 (by decide) ?_
      have q11 := tup1_s h9
      clear h9
      exact hret _ () _ _ _ _ q11 rfl hVB30 dX11_canScan_74
    · have h10 := ieS c8 hB30
      clear hB30 c8
      refine lv_iload_n hx hb dX11_canScan_37 rfl (lv_at hl7 2 rfl) ?_
      refine lv_iload_n hx hb dX11_canScan_38 rfl (lv_at hl7 3 rfl) ?_
      refine lv_icmp_gt (tgt := 73) hx hb dX11_canScan_39 (by decide) (fun c12 => ?_) (fun c12 => ?_)
      · have h13 := itS c12 h10
        clear h10 c12
        refine lv_iconst (v := 0) hx hb dX11_canScan_73 (by decide) ?_
        have q15 := tup1_s h13
        clear h13
        exact hret _ () _ _ _ _ q15 rfl hVB30 dX11_canScan_74
      · have h14 := ieS c12 h10
        clear h10 c12
        refine lv_iload_n hx hb dX11_canScan_42 rfl (lv_at hl7 3 rfl) ?_
        refine lv_iload_n hx hb dX11_canScan_43 rfl (lv_at hl7 2 rfl) ?_
        refine lv_isub hx hb dX11_canScan_44 ?_
        refine lv_sipush (v := 2000) hx hb dX11_canScan_45 (by decide) ?_
        refine lv_icmp_gt (tgt := 73) hx hb dX11_canScan_48 (by decide) (fun c16 => ?_) (fun c16 => ?_)
        · have h17 := itS c16 h14
          clear h14 c16
          refine lv_iconst (v := 0) hx hb dX11_canScan_73 (by decide) ?_
          have q19 := tup1_s h17
          clear h17
          exact hret _ () _ _ _ _ q19 rfl hVB30 dX11_canScan_74
        · have h18 := ieS c16 h14
          clear h14 c16
          refine lv_iconst (v := 2) hx hb dX11_canScan_51 (by decide) ?_
          refine lv_iload_n hx hb dX11_canScan_52 rfl (lv_at hl7 4 rfl) ?_
          refine lv_imul hx hb dX11_canScan_53 ?_
          refine lv_iload_n hx hb dX11_canScan_54 rfl (lv_at hl7 2 rfl) ?_
          refine lv_icmp_ge (tgt := 73) hx hb dX11_canScan_55 (by decide) (fun c20 => ?_) (fun c20 => ?_)
          · have h21 := itS c20 h18
            clear h18 c20
            refine lv_iconst (v := 0) hx hb dX11_canScan_73 (by decide) ?_
            have q23 := tup1_s h21
            clear h21
            exact hret _ () _ _ _ _ q23 rfl hVB30 dX11_canScan_74
          · have h22 := ieS c20 h18
            clear h18 c20
            refine lv_aload_n hx hb dX11_canScan_58 rfl (lv_at hl7 1 rfl) ?_
            refine kget X hVB30 (ci := 11) inlX11 rfl 0 rfl 6 (by decide) mw_37 rfl dX11_canScan_59 ?_
            refine kget X hVB30 (ci := 0) inlX0 rfl 1 rfl 2 (by decide) mw_997 rfl dX11_canScan_62 ?_
            refine lv_iconst (v := 2) hx hb dX11_canScan_65 (by decide) ?_
            refine lv_icmp_lt (tgt := 73) hx hb dX11_canScan_66 (by decide) (fun c24 => ?_) (fun c24 => ?_)
            · have h25 := itS c24 h22
              clear h22 c24
              refine lv_iconst (v := 0) hx hb dX11_canScan_73 (by decide) ?_
              have q27 := tup1_s h25
              clear h25
              exact hret _ () _ _ _ _ q27 rfl hVB30 dX11_canScan_74
            · have h26 := ieS c24 h22
              clear h22 c24
              refine lv_iconst (v := 1) hx hb dX11_canScan_69 (by decide) ?_
              refine lv_goto (tgt := 74) hx hb dX11_canScan_70 (by decide) ?_
              have q28 := tup1_s h26
              clear h26
              exact hret _ () _ _ _ _ q28 rfl hVB30 dX11_canScan_74
  refine lv_if_eq (tgt := 29) hx hb dX11_canScan_4 (by decide) (fun c29 => ?_) (fun c29 => ?_)
  · have h30 := itS c29 h3
    clear h3 c29
    refine lv_iconst (v := 0) hx hb dX11_canScan_29 (by decide) ?_
    exact J30 0 _ _ _ h30 hV4 (lv_sub hl [0, 1, 2, 3] rfl)
  · have h31 := ieS c29 h3
    clear h3 c29
    refine lv_iload_n hx hb dX11_canScan_7 rfl (lv_at hl 2 rfl) ?_
    obtain ⟨r8_32, hc33, h34⟩ := cb1_s h31
    clear h31
    refine kgoiE (krunS (rest := []) X hV4 [] (c_X11_isBeat l E _ p2 r8_32 hc33) mw_998 kb_X11_isBeat (by decide) rfl rfl hl.1 rfl (Nat.le_of_ble_eq_true rfl) dX11_canScan_8 (by decide)) X hV4 [] [0, 1] rfl rfl rfl (by decide) (fun u H locs hV35 => ?_)
    have hV35 : kV E A s.heap H locs [(a0, .inr (11, [w0_0, w0_1, w0_2, w0_3, w0_4, w0_5, .ref a1, w0_7, w0_8])), (a1, .inr (0, [w1_0, w1_1, .int s_blips_many, w1_3, w1_4, w1_5]))] := hV35.sub [0, 1] rfl rfl
    clear hV4
    refine lv_if_eq (tgt := 29) hx hb dX11_canScan_11 (by decide) (fun c37 => ?_) (fun c37 => ?_)
    · have h38 := itS c37 h34
      clear h34 c37
      refine lv_iconst (v := 0) hx hb dX11_canScan_29 (by decide) ?_
      exact J30 0 _ _ _ h38 hV35 (lv_sub hl [0, 1, 2, 3] rfl)
    · have h39 := ieS c37 h34
      clear h34 c37
      refine lv_iload_n hx hb dX11_canScan_14 rfl (lv_at hl 3 rfl) ?_
      refine lv_iconst (v := 0) hx hb dX11_canScan_15 (by decide) ?_
      refine lv_sipush (v := 1000) hx hb dX11_canScan_16 (by decide) ?_
      obtain ⟨r19_40, hc41, h42⟩ := cb1_s h39
      clear h39
      refine kgoiE (krunS (rest := []) X hV35 [] (c_X11_isWithin l E _ p3 0 1000 r19_40 hc41) mw_187 kb_X11_isWithin (by decide) rfl rfl hl.1 rfl (Nat.le_of_ble_eq_true rfl) dX11_canScan_19 (by decide)) X hV35 [] [0, 1] rfl rfl rfl (by decide) (fun u H locs hV43 => ?_)
      have hV43 : kV E A s.heap H locs [(a0, .inr (11, [w0_0, w0_1, w0_2, w0_3, w0_4, w0_5, .ref a1, w0_7, w0_8])), (a1, .inr (0, [w1_0, w1_1, .int s_blips_many, w1_3, w1_4, w1_5]))] := hV43.sub [0, 1] rfl rfl
      clear hV35
      refine lv_if_eq (tgt := 29) hx hb dX11_canScan_22 (by decide) (fun c45 => ?_) (fun c45 => ?_)
      · have h46 := itS c45 h42
        clear h42 c45
        refine lv_iconst (v := 0) hx hb dX11_canScan_29 (by decide) ?_
        exact J30 0 _ _ _ h46 hV43 (lv_sub hl [0, 1, 2, 3] rfl)
      · have h47 := ieS c45 h42
        clear h42 c45
        refine lv_iconst (v := 1) hx hb dX11_canScan_25 (by decide) ?_
        refine lv_goto (tgt := 30) hx hb dX11_canScan_26 (by decide) ?_
        exact J30 1 _ _ _ h47 hV43 (lv_sub hl [0, 1, 2, 3] rfl)
noncomputable def f_X11_seed (s_page_day : Int32) (s_sky_seed : Int32) (p1 : Int32) : Option (Int32 × Int32 × Int32) :=
    cb1 (f_X11_isWithin p1 0 999) fun r5_1 =>
    if r5_1 = 0 then
    (some (0, s_page_day, s_sky_seed))
    else
    (cb1 (f_X4_forget s_page_day) fun o_day17_9 =>
      some (1, o_day17_9, p1))
abbrev r_X11_seed : Room := { frames := 1, cells := 0, slots := 0, locals := 22 }
set_option maxHeartbeats 4000000 in
set_option maxRecDepth 100000 in
theorem c_X11_seed (l : Launch) (E : kE) (sz : Nat) (a0 a1 a2 : Nat) (w0_0 w0_1 w0_4 w0_5 w0_6 w0_7 w0_8 w1_0 w1_1 w1_2 w1_3 w1_4 w1_5 w2_0 w2_1 w2_2 : Value) (s_page_day : Int32) (s_sky_seed : Int32) (p1 : Int32) (r : Int32) (o_page_day : Int32) (o_sky_seed : Int32) (h : f_X11_seed s_page_day s_sky_seed p1 = some (r, o_page_day, o_sky_seed)) : kMi l yX11_seed cX11_seed 2 (some .boolean) r_X11_seed [.ref a0, .int p1] E [(a0, .inr (11, [w0_0, w0_1, .ref a2, .ref a1, w0_4, w0_5, w0_6, w0_7, w0_8])), (a1, .inr (4, [w1_0, w1_1, w1_2, w1_3, w1_4, w1_5, .int s_page_day])), (a2, .inr (7, [w2_0, w2_1, w2_2, .int s_sky_seed]))] sz 0 0 (fun x (_ : Unit) => x = r) (fun _ => [(a0, .inr (11, [w0_0, w0_1, .ref a2, .ref a1, w0_4, w0_5, w0_6, w0_7, w0_8])), (a1, .inr (4, [w1_0, w1_1, w1_2, w1_3, w1_4, w1_5, .int o_page_day])), (a2, .inr (7, [w2_0, w2_1, w2_2, .int o_sky_seed]))]) := by
  refine kmeti rfl (Nat.le_of_ble_eq_true rfl) ?_
  intro p e s m args below meth c ls A Q X hV hret hl
  have X : kC p s m c cX11_seed 2 RX11 args E A := X
  have hx := X.1
  have hb := X.2.1
  have hl : lv_has ls 2 [(0, .ref a0), (1, .int p1)] := hl
  rw [f_X11_seed] at h
  refine lv_iload_n hx hb dX11_seed_0 rfl (lv_at hl 1 rfl) ?_
  refine lv_iconst (v := 0) hx hb dX11_seed_1 (by decide) ?_
  refine lv_sipush (v := 999) hx hb dX11_seed_2 (by decide) ?_
  obtain ⟨r5_1, hc2, h3⟩ := cb1_s h
  clear h
  refine kgoiE (krunS (rest := []) X hV [] (c_X11_isWithin l E _ p1 0 999 r5_1 hc2) mw_187 kb_X11_isWithin (by decide) rfl rfl hl.1 rfl (Nat.le_of_ble_eq_true rfl) dX11_seed_5 (by decide)) X hV [] [0, 1, 2] rfl rfl rfl (by decide) (fun u H locs hV4 => ?_)
  have hV4 : kV E A s.heap H locs [(a0, .inr (11, [w0_0, w0_1, .ref a2, .ref a1, w0_4, w0_5, w0_6, w0_7, w0_8])), (a1, .inr (4, [w1_0, w1_1, w1_2, w1_3, w1_4, w1_5, .int s_page_day])), (a2, .inr (7, [w2_0, w2_1, w2_2, .int s_sky_seed]))] := hV4.sub [0, 1, 2] rfl rfl
  clear hV
  refine lv_if_ne (tgt := 13) hx hb dX11_seed_8 (by decide) (fun c6 => ?_) (fun c6 => ?_)
  · have h7 := ieS c6 h3
    clear h3 c6
    refine lv_aload_n hx hb dX11_seed_13 rfl (lv_at hl 0 rfl) ?_
    refine kget X hV4 (ci := 11) inlX11 rfl 0 rfl 3 (by decide) mw_27 rfl dX11_seed_14 ?_
    obtain ⟨o_day17_9, hc10, h11⟩ := cb1_s h7
    clear h7
    refine kgov (krunV (rest := []) X hV4 [1] (c_X4_forget l E _ a1 (w1_0) (w1_1) (w1_2) (w1_3) (w1_4) (w1_5) s_page_day o_day17_9 hc10) mw_193 kb_X4_forget (ci := 4) rfl rfl (by decide) rfl rfl hl.1 rfl (Nat.le_of_ble_eq_true rfl) dX11_seed_17 (by decide)) X hV4 [1] [0, 2] rfl rfl rfl (by decide) (fun u H locs hp13 hV12 => ?_)
    have hV12 : kV E A s.heap H locs [(a0, .inr (11, [w0_0, w0_1, .ref a2, .ref a1, w0_4, w0_5, w0_6, w0_7, w0_8])), (a1, .inr (4, [w1_0, w1_1, w1_2, w1_3, w1_4, w1_5, .int o_day17_9])), (a2, .inr (7, [w2_0, w2_1, w2_2, .int s_sky_seed]))] := hV12.sub [0, 2, 1] rfl rfl
    clear hV4
    refine lv_aload_n hx hb dX11_seed_20 rfl (lv_at hl 0 rfl) ?_
    refine kget X hV12 (ci := 11) inlX11 rfl 0 rfl 2 (by decide) mw_23 rfl dX11_seed_21 ?_
    refine lv_iload_n hx hb dX11_seed_24 rfl (lv_at hl 1 rfl) ?_
    refine kput X hV12 (ci := 7) inlX7 rfl tyX7 tyX7_ok nmX7 2 rfl 3 (by decide) mw_231 rfl rfl rfl (Nat.le_of_ble_eq_true rfl) dX11_seed_25 (fun H locs hV14 => ?_)
    have hV14 : kV E A s.heap H locs [(a0, .inr (11, [w0_0, w0_1, .ref a2, .ref a1, w0_4, w0_5, w0_6, w0_7, w0_8])), (a1, .inr (4, [w1_0, w1_1, w1_2, w1_3, w1_4, w1_5, .int o_day17_9])), (a2, .inr (7, [w2_0, w2_1, w2_2, .int p1]))] := hV14
    clear hV12
    refine lv_iconst (v := 1) hx hb dX11_seed_28 (by decide) ?_
    obtain ⟨q15, q16, q17⟩ := tup3_s h11
    clear h11
    exact hret _ () _ _ _ _ q15 rfl (by rw [← q16, ← q17]; exact hV14) dX11_seed_29
  · have h8 := itS c6 h3
    clear h3 c6
    refine lv_iconst (v := 0) hx hb dX11_seed_11 (by decide) ?_
    obtain ⟨q18, q19, q20⟩ := tup3_s h8
    clear h8
    exact hret _ () _ _ _ _ q18 rfl (by rw [← q19, ← q20]; exact hV4) dX11_seed_12
noncomputable def f_X11_feed (s_tape_length : Int32) (s_tape_bytes : Nat → Int32) (p1 : Int32) (p2 : Int32) (p3 : Int32) (p4 : Int32) (p5 : Int32) : Option (Int32 × Int32 × (Nat → Int32)) :=
    if s_tape_length ≤ 180 then
    (cb2 (f_X9_put s_tape_length s_tape_bytes p1) fun o_length20_4 o_bytes20_5 =>
      cb2 (f_X9_put o_length20_4 o_bytes20_5 p2) fun o_length28_10 o_bytes28_11 =>
      cb2 (f_X9_put o_length28_10 o_bytes28_11 p3) fun o_length36_16 o_bytes36_17 =>
      cb2 (f_X9_put o_length36_16 o_bytes36_17 p4) fun o_length45_22 o_bytes45_23 =>
      cb2 (f_X9_put o_length45_22 o_bytes45_23 p5) fun o_length54_28 o_bytes54_29 =>
      some (o_length54_28, o_length54_28, o_bytes54_29))
    else
    (some ((-1), s_tape_length, s_tape_bytes))
abbrev r_X11_feed : Room := { frames := 1, cells := 0, slots := 0, locals := 22 }
set_option maxHeartbeats 4000000 in
set_option maxRecDepth 100000 in
theorem c_X11_feed (l : Launch) (E : kE) (sz : Nat) (a0 a1 a2 : Nat) (w0_1 w0_2 w0_3 w0_4 w0_5 w0_6 w0_7 w0_8 : Value) (s_tape_length : Int32) (s_tape_bytes : Nat → Int32) (p1 : Int32) (p2 : Int32) (p3 : Int32) (p4 : Int32) (p5 : Int32) (r : Int32) (o_tape_length : Int32) (o_tape_bytes : Nat → Int32) (h : f_X11_feed s_tape_length s_tape_bytes p1 p2 p3 p4 p5 = some (r, o_tape_length, o_tape_bytes)) : kMi l yX11_feed cX11_feed 6 (some .int) r_X11_feed [.ref a0, .int p1, .int p2, .int p3, .int p4, .int p5] E [(a0, .inr (11, [.ref a1, w0_1, w0_2, w0_3, w0_4, w0_5, w0_6, w0_7, w0_8])), (a1, .inr (9, [.ref a2, .int s_tape_length])), (a2, .inl (E.2 0, 200, .inl s_tape_bytes))] sz 0 0 (fun x (_ : Unit) => x = r) (fun _ => [(a0, .inr (11, [.ref a1, w0_1, w0_2, w0_3, w0_4, w0_5, w0_6, w0_7, w0_8])), (a1, .inr (9, [.ref a2, .int o_tape_length])), (a2, .inl (E.2 0, 200, .inl o_tape_bytes))]) := by
  refine kmeti rfl (Nat.le_of_ble_eq_true rfl) ?_
  intro p e s m args below meth c ls A Q X hV hret hl
  have X : kC p s m c cX11_feed 6 RX11 args E A := X
  have hx := X.1
  have hb := X.2.1
  have hl : lv_has ls 6 [(0, .ref a0), (1, .int p1), (2, .int p2), (3, .int p3), (4, .int p4), (5, .int p5)] := hl
  rw [f_X11_feed] at h
  refine lv_aload_n hx hb dX11_feed_0 rfl (lv_at hl 0 rfl) ?_
  refine kget X hV (ci := 11) inlX11 rfl 0 rfl 0 (by decide) mw_15 rfl dX11_feed_1 ?_
  refine kget X hV (ci := 9) inlX9 rfl 1 rfl 1 (by decide) mw_242 rfl dX11_feed_4 ?_
  refine lv_sipush (v := 180) hx hb dX11_feed_7 (by decide) ?_
  refine lv_icmp_le (tgt := 15) hx hb dX11_feed_10 (by decide) (fun c1 => ?_) (fun c1 => ?_)
  · have h2 := itS c1 h
    clear h c1
    refine lv_aload_n hx hb dX11_feed_15 rfl (lv_at hl 0 rfl) ?_
    refine kget X hV (ci := 11) inlX11 rfl 0 rfl 0 (by decide) mw_15 rfl dX11_feed_16 ?_
    refine lv_iload_n hx hb dX11_feed_19 rfl (lv_at hl 1 rfl) ?_
    obtain ⟨o_length20_4, o_bytes20_5, hc6, h7⟩ := cb2_s h2
    clear h2
    refine kgov (krunV (rest := []) X hV [1, 2] (c_X9_put l E _ a1 a2 s_tape_length s_tape_bytes p1 o_length20_4 o_bytes20_5 hc6) mw_243 kb_X9_put (ci := 9) rfl rfl (by decide) rfl rfl hl.1 rfl (Nat.le_of_ble_eq_true rfl) dX11_feed_20 (by decide)) X hV [1, 2] [0] rfl rfl rfl (by decide) (fun u H locs hp9 hV8 => ?_)
    have hV8 : kV E A s.heap H locs [(a0, .inr (11, [.ref a1, w0_1, w0_2, w0_3, w0_4, w0_5, w0_6, w0_7, w0_8])), (a1, .inr (9, [.ref a2, .int o_length20_4])), (a2, .inl (E.2 0, 200, .inl o_bytes20_5))] := hV8.sub [0, 1, 2] rfl rfl
    clear hV
    refine lv_aload_n hx hb dX11_feed_23 rfl (lv_at hl 0 rfl) ?_
    refine kget X hV8 (ci := 11) inlX11 rfl 0 rfl 0 (by decide) mw_15 rfl dX11_feed_24 ?_
    refine lv_iload_n hx hb dX11_feed_27 rfl (lv_at hl 2 rfl) ?_
    obtain ⟨o_length28_10, o_bytes28_11, hc12, h13⟩ := cb2_s h7
    clear h7
    refine kgov (krunV (rest := []) X hV8 [1, 2] (c_X9_put l E _ a1 a2 o_length20_4 o_bytes20_5 p2 o_length28_10 o_bytes28_11 hc12) mw_243 kb_X9_put (ci := 9) rfl rfl (by decide) rfl rfl hl.1 rfl (Nat.le_of_ble_eq_true rfl) dX11_feed_28 (by decide)) X hV8 [1, 2] [0] rfl rfl rfl (by decide) (fun u H locs hp15 hV14 => ?_)
    have hV14 : kV E A s.heap H locs [(a0, .inr (11, [.ref a1, w0_1, w0_2, w0_3, w0_4, w0_5, w0_6, w0_7, w0_8])), (a1, .inr (9, [.ref a2, .int o_length28_10])), (a2, .inl (E.2 0, 200, .inl o_bytes28_11))] := hV14.sub [0, 1, 2] rfl rfl
    clear hV8
    refine lv_aload_n hx hb dX11_feed_31 rfl (lv_at hl 0 rfl) ?_
    refine kget X hV14 (ci := 11) inlX11 rfl 0 rfl 0 (by decide) mw_15 rfl dX11_feed_32 ?_
    refine lv_iload_n hx hb dX11_feed_35 rfl (lv_at hl 3 rfl) ?_
    obtain ⟨o_length36_16, o_bytes36_17, hc18, h19⟩ := cb2_s h13
    clear h13
    refine kgov (krunV (rest := []) X hV14 [1, 2] (c_X9_put l E _ a1 a2 o_length28_10 o_bytes28_11 p3 o_length36_16 o_bytes36_17 hc18) mw_243 kb_X9_put (ci := 9) rfl rfl (by decide) rfl rfl hl.1 rfl (Nat.le_of_ble_eq_true rfl) dX11_feed_36 (by decide)) X hV14 [1, 2] [0] rfl rfl rfl (by decide) (fun u H locs hp21 hV20 => ?_)
    have hV20 : kV E A s.heap H locs [(a0, .inr (11, [.ref a1, w0_1, w0_2, w0_3, w0_4, w0_5, w0_6, w0_7, w0_8])), (a1, .inr (9, [.ref a2, .int o_length36_16])), (a2, .inl (E.2 0, 200, .inl o_bytes36_17))] := hV20.sub [0, 1, 2] rfl rfl
    clear hV14
    refine lv_aload_n hx hb dX11_feed_39 rfl (lv_at hl 0 rfl) ?_
    refine kget X hV20 (ci := 11) inlX11 rfl 0 rfl 0 (by decide) mw_15 rfl dX11_feed_40 ?_
    refine lv_iload hx hb dX11_feed_43 (lv_at hl 4 rfl) ?_
    obtain ⟨o_length45_22, o_bytes45_23, hc24, h25⟩ := cb2_s h19
    clear h19
    refine kgov (krunV (rest := []) X hV20 [1, 2] (c_X9_put l E _ a1 a2 o_length36_16 o_bytes36_17 p4 o_length45_22 o_bytes45_23 hc24) mw_243 kb_X9_put (ci := 9) rfl rfl (by decide) rfl rfl hl.1 rfl (Nat.le_of_ble_eq_true rfl) dX11_feed_45 (by decide)) X hV20 [1, 2] [0] rfl rfl rfl (by decide) (fun u H locs hp27 hV26 => ?_)
    have hV26 : kV E A s.heap H locs [(a0, .inr (11, [.ref a1, w0_1, w0_2, w0_3, w0_4, w0_5, w0_6, w0_7, w0_8])), (a1, .inr (9, [.ref a2, .int o_length45_22])), (a2, .inl (E.2 0, 200, .inl o_bytes45_23))] := hV26.sub [0, 1, 2] rfl rfl
    clear hV20
    refine lv_aload_n hx hb dX11_feed_48 rfl (lv_at hl 0 rfl) ?_
    refine kget X hV26 (ci := 11) inlX11 rfl 0 rfl 0 (by decide) mw_15 rfl dX11_feed_49 ?_
    refine lv_iload hx hb dX11_feed_52 (lv_at hl 5 rfl) ?_
    obtain ⟨o_length54_28, o_bytes54_29, hc30, h31⟩ := cb2_s h25
    clear h25
    refine kgov (krunV (rest := []) X hV26 [1, 2] (c_X9_put l E _ a1 a2 o_length45_22 o_bytes45_23 p5 o_length54_28 o_bytes54_29 hc30) mw_243 kb_X9_put (ci := 9) rfl rfl (by decide) rfl rfl hl.1 rfl (Nat.le_of_ble_eq_true rfl) dX11_feed_54 (by decide)) X hV26 [1, 2] [0] rfl rfl rfl (by decide) (fun u H locs hp33 hV32 => ?_)
    have hV32 : kV E A s.heap H locs [(a0, .inr (11, [.ref a1, w0_1, w0_2, w0_3, w0_4, w0_5, w0_6, w0_7, w0_8])), (a1, .inr (9, [.ref a2, .int o_length54_28])), (a2, .inl (E.2 0, 200, .inl o_bytes54_29))] := hV32.sub [0, 1, 2] rfl rfl
    clear hV26
    refine lv_aload_n hx hb dX11_feed_57 rfl (lv_at hl 0 rfl) ?_
    refine kget X hV32 (ci := 11) inlX11 rfl 0 rfl 0 (by decide) mw_15 rfl dX11_feed_58 ?_
    refine kget X hV32 (ci := 9) inlX9 rfl 1 rfl 1 (by decide) mw_242 rfl dX11_feed_61 ?_
    obtain ⟨q34, q35, q36⟩ := tup3_s h31
    clear h31
    exact hret _ () _ _ _ _ q34 rfl (by rw [← q35, ← q36]; exact hV32) dX11_feed_64
  · have h3 := ieS c1 h
    clear h c1
    refine lv_iconst (v := (-1)) hx hb dX11_feed_13 (by decide) ?_
    obtain ⟨q37, q38, q39⟩ := tup3_s h3
    clear h3
    exact hret _ () _ _ _ _ q37 rfl (by rw [← q38, ← q39]; exact hV) dX11_feed_14
noncomputable def f_X11_star (p1 : Int32) (p2 : Int32) : Option (Int32) :=
    cb1 (f_X11_isDay p1) fun r1_1 =>
    if r1_1 = 0 then
    (some ((-1)))
    else
    (cb1 (f_X11_isMinute p2) fun r8_10 =>
      if r8_10 = 0 then
      (some ((-1)))
      else
      (cb1 (f_X11_starMinute p1 p2) fun r16_19 =>
        some (r16_19)))
abbrev r_X11_star : Room := { frames := 2, cells := 0, slots := 0, locals := 42 }
set_option maxHeartbeats 4000000 in
set_option maxRecDepth 100000 in
theorem c_X11_star (l : Launch) (E : kE) (sz : Nat) (a0 : Nat) (w0_0 w0_1 w0_2 w0_3 w0_4 w0_5 w0_6 w0_7 w0_8 : Value) (p1 : Int32) (p2 : Int32) (r : Int32) (h : f_X11_star p1 p2 = some (r)) : kMi l yX11_star cX11_star 3 (some .int) r_X11_star [.ref a0, .int p1, .int p2] E [(a0, .inr (11, [w0_0, w0_1, w0_2, w0_3, w0_4, w0_5, w0_6, w0_7, w0_8]))] sz 0 0 (fun x (_ : Unit) => x = r) (fun _ => [(a0, .inr (11, [w0_0, w0_1, w0_2, w0_3, w0_4, w0_5, w0_6, w0_7, w0_8]))]) := by
  refine kmeti rfl (Nat.le_of_ble_eq_true rfl) ?_
  intro p e s m args below meth c ls A Q X hV hret hl
  have X : kC p s m c cX11_star 3 RX11 args E A := X
  have hx := X.1
  have hb := X.2.1
  have hl : lv_has ls 3 [(0, .ref a0), (1, .int p1), (2, .int p2)] := hl
  rw [f_X11_star] at h
  refine lv_iload_n hx hb dX11_star_0 rfl (lv_at hl 1 rfl) ?_
  obtain ⟨r1_1, hc2, h3⟩ := cb1_s h
  clear h
  refine kgoiE (krunS (rest := []) X hV [] (c_X11_isDay l E _ p1 r1_1 hc2) mw_622 kb_X11_isDay (by decide) rfl rfl hl.1 rfl (Nat.le_of_ble_eq_true rfl) dX11_star_1 (by decide)) X hV [] [0] rfl rfl rfl (by decide) (fun u H locs hV4 => ?_)
  have hV4 : kV E A s.heap H locs [(a0, .inr (11, [w0_0, w0_1, w0_2, w0_3, w0_4, w0_5, w0_6, w0_7, w0_8]))] := hV4.sub [0] rfl rfl
  clear hV
  refine lv_if_eq (tgt := 22) hx hb dX11_star_4 (by decide) (fun c6 => ?_) (fun c6 => ?_)
  · have h7 := itS c6 h3
    clear h3 c6
    refine lv_iconst (v := (-1)) hx hb dX11_star_22 (by decide) ?_
    have q9 := tup1_s h7
    clear h7
    exact hret _ () _ _ _ _ q9 rfl hV4 dX11_star_23
  · have h8 := ieS c6 h3
    clear h3 c6
    refine lv_iload_n hx hb dX11_star_7 rfl (lv_at hl 2 rfl) ?_
    obtain ⟨r8_10, hc11, h12⟩ := cb1_s h8
    clear h8
    refine kgoiE (krunS (rest := []) X hV4 [] (c_X11_isMinute l E _ p2 r8_10 hc11) mw_184 kb_X11_isMinute (by decide) rfl rfl hl.1 rfl (Nat.le_of_ble_eq_true rfl) dX11_star_8 (by decide)) X hV4 [] [0] rfl rfl rfl (by decide) (fun u H locs hV13 => ?_)
    have hV13 : kV E A s.heap H locs [(a0, .inr (11, [w0_0, w0_1, w0_2, w0_3, w0_4, w0_5, w0_6, w0_7, w0_8]))] := hV13.sub [0] rfl rfl
    clear hV4
    refine lv_if_eq (tgt := 22) hx hb dX11_star_11 (by decide) (fun c15 => ?_) (fun c15 => ?_)
    · have h16 := itS c15 h12
      clear h12 c15
      refine lv_iconst (v := (-1)) hx hb dX11_star_22 (by decide) ?_
      have q18 := tup1_s h16
      clear h16
      exact hret _ () _ _ _ _ q18 rfl hV13 dX11_star_23
    · have h17 := ieS c15 h12
      clear h12 c15
      refine lv_iload_n hx hb dX11_star_14 rfl (lv_at hl 1 rfl) ?_
      refine lv_iload_n hx hb dX11_star_15 rfl (lv_at hl 2 rfl) ?_
      obtain ⟨r16_19, hc20, h21⟩ := cb1_s h17
      clear h17
      refine kgoiE (krunS (rest := []) X hV13 [] (c_X11_starMinute l E _ p1 p2 r16_19 hc20) mw_625 kb_X11_starMinute (by decide) rfl rfl hl.1 rfl (Nat.le_of_ble_eq_true rfl) dX11_star_16 (by decide)) X hV13 [] [0] rfl rfl rfl (by decide) (fun u H locs hV22 => ?_)
      have hV22 : kV E A s.heap H locs [(a0, .inr (11, [w0_0, w0_1, w0_2, w0_3, w0_4, w0_5, w0_6, w0_7, w0_8]))] := hV22.sub [0] rfl rfl
      clear hV13
      refine lv_goto (tgt := 23) hx hb dX11_star_19 (by decide) ?_
      have q24 := tup1_s h21
      clear h21
      exact hret _ () _ _ _ _ q24 rfl hV22 dX11_star_23
noncomputable def f_X11_note_J26 (s_notes_many : Int32) (s_notes_days : Nat → Int32) (s_notes_minutes : Nat → Int32) (s_notes_shapes : Nat → Int32) (p1 : Int32) (p2 : Int32) (p3 : Int32)  (t0_6 : Int32) : Option (Int32 × Int32 × (Nat → Int32) × (Nat → Int32) × (Nat → Int32)) :=
    if t0_6 = 0 then
    (some ((-1), s_notes_many, s_notes_days, s_notes_minutes, s_notes_shapes))
    else
    (cb5 (f_X3_add s_notes_many s_notes_days s_notes_minutes s_notes_shapes p1 p2 p3) fun r40_16 o_many40_17 o_days40_18 o_minutes40_19 o_shapes40_20 =>
      some (r40_16, o_many40_17, o_days40_18, o_minutes40_19, o_shapes40_20))
noncomputable def f_X11_note (s_notes_many : Int32) (s_notes_days : Nat → Int32) (s_notes_minutes : Nat → Int32) (s_notes_shapes : Nat → Int32) (p1 : Int32) (p2 : Int32) (p3 : Int32) : Option (Int32 × Int32 × (Nat → Int32) × (Nat → Int32) × (Nat → Int32)) :=
    cb1 (f_X11_isDay p1) fun r1_1 =>
    if r1_1 = 0 then
    ((f_X11_note_J26 s_notes_many s_notes_days s_notes_minutes s_notes_shapes p1 p2 p3 ) 0)
    else
    (cb1 (f_X11_isMinute p2) fun r8_33 =>
      if r8_33 = 0 then
      ((f_X11_note_J26 s_notes_many s_notes_days s_notes_minutes s_notes_shapes p1 p2 p3 ) 0)
      else
      (cb1 (f_X11_isShape p3) fun r15_41 =>
        if r15_41 = 0 then
        ((f_X11_note_J26 s_notes_many s_notes_days s_notes_minutes s_notes_shapes p1 p2 p3 ) 0)
        else
        ((f_X11_note_J26 s_notes_many s_notes_days s_notes_minutes s_notes_shapes p1 p2 p3 ) 1)))
abbrev r_X11_note : Room := { frames := 2, cells := 0, slots := 0, locals := 42 }
set_option maxHeartbeats 4000000 in
set_option maxRecDepth 100000 in
theorem c_X11_note (l : Launch) (E : kE) (sz : Nat) (a0 a1 a2 a3 a4 : Nat) (w0_0 w0_1 w0_2 w0_3 w0_4 w0_6 w0_7 w0_8 w1_3 : Value) (s_notes_many : Int32) (s_notes_days : Nat → Int32) (s_notes_minutes : Nat → Int32) (s_notes_shapes : Nat → Int32) (p1 : Int32) (p2 : Int32) (p3 : Int32) (r : Int32) (o_notes_many : Int32) (o_notes_days : Nat → Int32) (o_notes_minutes : Nat → Int32) (o_notes_shapes : Nat → Int32) (h : f_X11_note s_notes_many s_notes_days s_notes_minutes s_notes_shapes p1 p2 p3 = some (r, o_notes_many, o_notes_days, o_notes_minutes, o_notes_shapes)) : kMi l yX11_note cX11_note 5 (some .int) r_X11_note [.ref a0, .int p1, .int p2, .int p3] E [(a0, .inr (11, [w0_0, w0_1, w0_2, w0_3, w0_4, .ref a1, w0_6, w0_7, w0_8])), (a1, .inr (3, [.ref a2, .ref a3, .ref a4, w1_3, .int s_notes_many])), (a2, .inl (E.2 0, 40, .inl s_notes_days)), (a3, .inl (E.2 0, 40, .inl s_notes_minutes)), (a4, .inl (E.2 0, 40, .inl s_notes_shapes))] sz 0 0 (fun x (_ : Unit) => x = r) (fun _ => [(a0, .inr (11, [w0_0, w0_1, w0_2, w0_3, w0_4, .ref a1, w0_6, w0_7, w0_8])), (a1, .inr (3, [.ref a2, .ref a3, .ref a4, w1_3, .int o_notes_many])), (a2, .inl (E.2 0, 40, .inl o_notes_days)), (a3, .inl (E.2 0, 40, .inl o_notes_minutes)), (a4, .inl (E.2 0, 40, .inl o_notes_shapes))]) := by
  refine kmeti rfl (Nat.le_of_ble_eq_true rfl) ?_
  intro p e s m args below meth c ls A Q X hV hret hl
  have X : kC p s m c cX11_note 5 RX11 args E A := X
  have hx := X.1
  have hb := X.2.1
  have hl : lv_has ls 5 [(0, .ref a0), (1, .int p1), (2, .int p2), (3, .int p3)] := hl
  rw [f_X11_note] at h
  refine lv_iload_n hx hb dX11_note_0 rfl (lv_at hl 1 rfl) ?_
  obtain ⟨r1_1, hc2, h3⟩ := cb1_s h
  clear h
  refine kgoiE (krunS (rest := []) X hV [] (c_X11_isDay l E _ p1 r1_1 hc2) mw_622 kb_X11_isDay (by decide) rfl rfl hl.1 rfl (Nat.le_of_ble_eq_true rfl) dX11_note_1 (by decide)) X hV [] [0, 1, 2, 3, 4] rfl rfl rfl (by decide) (fun u H locs hV4 => ?_)
  have hV4 : kV E A s.heap H locs [(a0, .inr (11, [w0_0, w0_1, w0_2, w0_3, w0_4, .ref a1, w0_6, w0_7, w0_8])), (a1, .inr (3, [.ref a2, .ref a3, .ref a4, w1_3, .int s_notes_many])), (a2, .inl (E.2 0, 40, .inl s_notes_days)), (a3, .inl (E.2 0, 40, .inl s_notes_minutes)), (a4, .inl (E.2 0, 40, .inl s_notes_shapes))] := hV4.sub [0, 1, 2, 3, 4] rfl rfl
  clear hV
  have J26 : ∀ (t0_6 : Int32) (H : Heap) (locs : List Loc) (ls : Array Slot), (f_X11_note_J26 s_notes_many s_notes_days s_notes_minutes s_notes_shapes p1 p2 p3 ) t0_6 = some (r, o_notes_many, o_notes_days, o_notes_minutes, o_notes_shapes) → kV E A s.heap H locs [(a0, .inr (11, [w0_0, w0_1, w0_2, w0_3, w0_4, .ref a1, w0_6, w0_7, w0_8])), (a1, .inr (3, [.ref a2, .ref a3, .ref a4, w1_3, .int s_notes_many])), (a2, .inl (E.2 0, 40, .inl s_notes_days)), (a3, .inl (E.2 0, 40, .inl s_notes_minutes)), (a4, .inl (E.2 0, 40, .inl s_notes_shapes))] → lv_has ls 5 [(0, .ref a0), (1, .int p1), (2, .int p2), (3, .int p3)] → W p l e r_X11_note s m args below meth c H locs 0 0 Q (F0 m 26 ls [.int t0_6]) := by
    intro t0_6 H locs ls hB26 hVB26 hlB26
    rw [f_X11_note_J26] at hB26
    refine lv_istore (lv' := [(4, .int t0_6), (0, .ref a0), (1, .int p1), (2, .int p2), (3, .int p3)]) hx hb dX11_note_26 hlB26 (by decide) rfl (fun ls hl7 => ?_)
    clear hlB26
    refine lv_iload hx hb dX11_note_28 (lv_at hl7 0 rfl) ?_
    refine lv_if_eq (tgt := 46) hx hb dX11_note_30 (by decide) (fun c8 => ?_) (fun c8 => ?_)
    · have h9 := itS c8 hB26
      clear hB26 c8
      refine lv_iconst (v := (-1)) hx hb dX11_note_46 (by decide) ?_
      obtain ⟨q11, q12, q13, q14, q15⟩ := tup5_s h9
      clear h9
      exact hret _ () _ _ _ _ q11 rfl (by rw [← q12, ← q13, ← q14, ← q15]; exact hVB26) dX11_note_47
    · have h10 := ieS c8 hB26
      clear hB26 c8
      refine lv_aload_n hx hb dX11_note_33 rfl (lv_at hl7 1 rfl) ?_
      refine kget X hVB26 (ci := 11) inlX11 rfl 0 rfl 5 (by decide) mw_33 rfl dX11_note_34 ?_
      refine lv_iload_n hx hb dX11_note_37 rfl (lv_at hl7 2 rfl) ?_
      refine lv_iload_n hx hb dX11_note_38 rfl (lv_at hl7 3 rfl) ?_
      refine lv_iload_n hx hb dX11_note_39 rfl (lv_at hl7 4 rfl) ?_
      obtain ⟨r40_16, o_many40_17, o_days40_18, o_minutes40_19, o_shapes40_20, hc21, h22⟩ := cb5_s h10
      clear h10
      refine kgoiE (krunV (rest := []) X hVB26 [1, 2, 3, 4] (c_X3_add l E _ a1 a2 a3 a4 (w1_3) s_notes_many s_notes_days s_notes_minutes s_notes_shapes p1 p2 p3 r40_16 o_many40_17 o_days40_18 o_minutes40_19 o_shapes40_20 hc21) mw_891 kb_X3_add (ci := 3) rfl rfl (by decide) rfl rfl hl7.1 rfl (Nat.le_of_ble_eq_true rfl) dX11_note_40 (by decide)) X hVB26 [1, 2, 3, 4] [0] rfl rfl rfl (by decide) (fun u H locs hV23 => ?_)
      have hV23 : kV E A s.heap H locs [(a0, .inr (11, [w0_0, w0_1, w0_2, w0_3, w0_4, .ref a1, w0_6, w0_7, w0_8])), (a1, .inr (3, [.ref a2, .ref a3, .ref a4, w1_3, .int o_many40_17])), (a2, .inl (E.2 0, 40, .inl o_days40_18)), (a3, .inl (E.2 0, 40, .inl o_minutes40_19)), (a4, .inl (E.2 0, 40, .inl o_shapes40_20))] := hV23.sub [0, 1, 2, 3, 4] rfl rfl
      clear hVB26
      refine lv_goto (tgt := 47) hx hb dX11_note_43 (by decide) ?_
      obtain ⟨q25, q26, q27, q28, q29⟩ := tup5_s h22
      clear h22
      exact hret _ () _ _ _ _ q25 rfl (by rw [← q26, ← q27, ← q28, ← q29]; exact hV23) dX11_note_47
  refine lv_if_eq (tgt := 25) hx hb dX11_note_4 (by decide) (fun c30 => ?_) (fun c30 => ?_)
  · have h31 := itS c30 h3
    clear h3 c30
    refine lv_iconst (v := 0) hx hb dX11_note_25 (by decide) ?_
    exact J26 0 _ _ _ h31 hV4 (lv_sub hl [0, 1, 2, 3] rfl)
  · have h32 := ieS c30 h3
    clear h3 c30
    refine lv_iload_n hx hb dX11_note_7 rfl (lv_at hl 2 rfl) ?_
    obtain ⟨r8_33, hc34, h35⟩ := cb1_s h32
    clear h32
    refine kgoiE (krunS (rest := []) X hV4 [] (c_X11_isMinute l E _ p2 r8_33 hc34) mw_184 kb_X11_isMinute (by decide) rfl rfl hl.1 rfl (Nat.le_of_ble_eq_true rfl) dX11_note_8 (by decide)) X hV4 [] [0, 1, 2, 3, 4] rfl rfl rfl (by decide) (fun u H locs hV36 => ?_)
    have hV36 : kV E A s.heap H locs [(a0, .inr (11, [w0_0, w0_1, w0_2, w0_3, w0_4, .ref a1, w0_6, w0_7, w0_8])), (a1, .inr (3, [.ref a2, .ref a3, .ref a4, w1_3, .int s_notes_many])), (a2, .inl (E.2 0, 40, .inl s_notes_days)), (a3, .inl (E.2 0, 40, .inl s_notes_minutes)), (a4, .inl (E.2 0, 40, .inl s_notes_shapes))] := hV36.sub [0, 1, 2, 3, 4] rfl rfl
    clear hV4
    refine lv_if_eq (tgt := 25) hx hb dX11_note_11 (by decide) (fun c38 => ?_) (fun c38 => ?_)
    · have h39 := itS c38 h35
      clear h35 c38
      refine lv_iconst (v := 0) hx hb dX11_note_25 (by decide) ?_
      exact J26 0 _ _ _ h39 hV36 (lv_sub hl [0, 1, 2, 3] rfl)
    · have h40 := ieS c38 h35
      clear h35 c38
      refine lv_iload_n hx hb dX11_note_14 rfl (lv_at hl 3 rfl) ?_
      obtain ⟨r15_41, hc42, h43⟩ := cb1_s h40
      clear h40
      refine kgoiE (krunS (rest := []) X hV36 [] (c_X11_isShape l E _ p3 r15_41 hc42) mw_190 kb_X11_isShape (by decide) rfl rfl hl.1 rfl (Nat.le_of_ble_eq_true rfl) dX11_note_15 (by decide)) X hV36 [] [0, 1, 2, 3, 4] rfl rfl rfl (by decide) (fun u H locs hV44 => ?_)
      have hV44 : kV E A s.heap H locs [(a0, .inr (11, [w0_0, w0_1, w0_2, w0_3, w0_4, .ref a1, w0_6, w0_7, w0_8])), (a1, .inr (3, [.ref a2, .ref a3, .ref a4, w1_3, .int s_notes_many])), (a2, .inl (E.2 0, 40, .inl s_notes_days)), (a3, .inl (E.2 0, 40, .inl s_notes_minutes)), (a4, .inl (E.2 0, 40, .inl s_notes_shapes))] := hV44.sub [0, 1, 2, 3, 4] rfl rfl
      clear hV36
      refine lv_if_eq (tgt := 25) hx hb dX11_note_18 (by decide) (fun c46 => ?_) (fun c46 => ?_)
      · have h47 := itS c46 h43
        clear h43 c46
        refine lv_iconst (v := 0) hx hb dX11_note_25 (by decide) ?_
        exact J26 0 _ _ _ h47 hV44 (lv_sub hl [0, 1, 2, 3] rfl)
      · have h48 := ieS c46 h43
        clear h43 c46
        refine lv_iconst (v := 1) hx hb dX11_note_21 (by decide) ?_
        refine lv_goto (tgt := 26) hx hb dX11_note_22 (by decide) ?_
        exact J26 1 _ _ _ h48 hV44 (lv_sub hl [0, 1, 2, 3] rfl)
noncomputable def f_X11_one (s_notes_many : Int32) (s_notes_days : Nat → Int32) (s_notes_gathered : Nat → Int32) (s_notes_minutes : Nat → Int32) (s_notes_shapes : Nat → Int32) (p1 : Int32) (p2 : Int32) : Option (Int32 × (Nat → Int32)) :=
    cb1 (f_X11_isShape p1) fun r1_1 =>
    if r1_1 = 0 then
    (some ((-1), s_notes_gathered))
    else
    (cb1 (f_X11_isWithin p2 0 700) fun r12_11 =>
      if r12_11 = 0 then
      (some ((-1), s_notes_gathered))
      else
      (cb2 (f_X3_oneBy s_notes_many s_notes_days s_notes_gathered s_notes_minutes s_notes_shapes p1 p2 400) fun r29_19 o_gathered29_20 =>
        some (r29_19, o_gathered29_20)))
abbrev r_X11_one : Room := { frames := 3, cells := 0, slots := 0, locals := 75 }
set_option maxHeartbeats 4000000 in
set_option maxRecDepth 100000 in
theorem c_X11_one (l : Launch) (E : kE) (sz : Nat) (a0 a1 a2 a3 a4 a5 : Nat) (w0_0 w0_1 w0_2 w0_3 w0_4 w0_6 w0_7 w0_8 : Value) (s_notes_many : Int32) (s_notes_days : Nat → Int32) (s_notes_gathered : Nat → Int32) (s_notes_minutes : Nat → Int32) (s_notes_shapes : Nat → Int32) (p1 : Int32) (p2 : Int32) (r : Int32) (o_notes_gathered : Nat → Int32) (h : f_X11_one s_notes_many s_notes_days s_notes_gathered s_notes_minutes s_notes_shapes p1 p2 = some (r, o_notes_gathered)) : kMi l yX11_one cX11_one 3 (some .int) r_X11_one [.ref a0, .int p1, .int p2] E [(a0, .inr (11, [w0_0, w0_1, w0_2, w0_3, w0_4, .ref a1, w0_6, w0_7, w0_8])), (a1, .inr (3, [.ref a2, .ref a4, .ref a5, .ref a3, .int s_notes_many])), (a2, .inl (E.2 0, 40, .inl s_notes_days)), (a3, .inl (E.2 0, 40, .inl s_notes_gathered)), (a4, .inl (E.2 0, 40, .inl s_notes_minutes)), (a5, .inl (E.2 0, 40, .inl s_notes_shapes))] sz 0 0 (fun x (_ : Unit) => x = r) (fun _ => [(a0, .inr (11, [w0_0, w0_1, w0_2, w0_3, w0_4, .ref a1, w0_6, w0_7, w0_8])), (a1, .inr (3, [.ref a2, .ref a4, .ref a5, .ref a3, .int s_notes_many])), (a2, .inl (E.2 0, 40, .inl s_notes_days)), (a3, .inl (E.2 0, 40, .inl o_notes_gathered)), (a4, .inl (E.2 0, 40, .inl s_notes_minutes)), (a5, .inl (E.2 0, 40, .inl s_notes_shapes))]) := by
  refine kmeti rfl (Nat.le_of_ble_eq_true rfl) ?_
  intro p e s m args below meth c ls A Q X hV hret hl
  have X : kC p s m c cX11_one 3 RX11 args E A := X
  have hx := X.1
  have hb := X.2.1
  have hl : lv_has ls 3 [(0, .ref a0), (1, .int p1), (2, .int p2)] := hl
  rw [f_X11_one] at h
  refine lv_iload_n hx hb dX11_one_0 rfl (lv_at hl 1 rfl) ?_
  obtain ⟨r1_1, hc2, h3⟩ := cb1_s h
  clear h
  refine kgoiE (krunS (rest := []) X hV [] (c_X11_isShape l E _ p1 r1_1 hc2) mw_190 kb_X11_isShape (by decide) rfl rfl hl.1 rfl (Nat.le_of_ble_eq_true rfl) dX11_one_1 (by decide)) X hV [] [0, 1, 2, 3, 4, 5] rfl rfl rfl (by decide) (fun u H locs hV4 => ?_)
  have hV4 : kV E A s.heap H locs [(a0, .inr (11, [w0_0, w0_1, w0_2, w0_3, w0_4, .ref a1, w0_6, w0_7, w0_8])), (a1, .inr (3, [.ref a2, .ref a4, .ref a5, .ref a3, .int s_notes_many])), (a2, .inl (E.2 0, 40, .inl s_notes_days)), (a3, .inl (E.2 0, 40, .inl s_notes_gathered)), (a4, .inl (E.2 0, 40, .inl s_notes_minutes)), (a5, .inl (E.2 0, 40, .inl s_notes_shapes))] := hV4.sub [0, 1, 2, 3, 4, 5] rfl rfl
  clear hV
  refine lv_if_eq (tgt := 18) hx hb dX11_one_4 (by decide) (fun c6 => ?_) (fun c6 => ?_)
  · have h7 := itS c6 h3
    clear h3 c6
    refine lv_iconst (v := (-1)) hx hb dX11_one_18 (by decide) ?_
    obtain ⟨q9, q10⟩ := tup2_s h7
    clear h7
    exact hret _ () _ _ _ _ q9 rfl (by rw [← q10]; exact hV4) dX11_one_19
  · have h8 := ieS c6 h3
    clear h3 c6
    refine lv_iload_n hx hb dX11_one_7 rfl (lv_at hl 2 rfl) ?_
    refine lv_iconst (v := 0) hx hb dX11_one_8 (by decide) ?_
    refine lv_sipush (v := 700) hx hb dX11_one_9 (by decide) ?_
    obtain ⟨r12_11, hc12, h13⟩ := cb1_s h8
    clear h8
    refine kgoiE (krunS (rest := []) X hV4 [] (c_X11_isWithin l E _ p2 0 700 r12_11 hc12) mw_187 kb_X11_isWithin (by decide) rfl rfl hl.1 rfl (Nat.le_of_ble_eq_true rfl) dX11_one_12 (by decide)) X hV4 [] [0, 1, 2, 3, 4, 5] rfl rfl rfl (by decide) (fun u H locs hV14 => ?_)
    have hV14 : kV E A s.heap H locs [(a0, .inr (11, [w0_0, w0_1, w0_2, w0_3, w0_4, .ref a1, w0_6, w0_7, w0_8])), (a1, .inr (3, [.ref a2, .ref a4, .ref a5, .ref a3, .int s_notes_many])), (a2, .inl (E.2 0, 40, .inl s_notes_days)), (a3, .inl (E.2 0, 40, .inl s_notes_gathered)), (a4, .inl (E.2 0, 40, .inl s_notes_minutes)), (a5, .inl (E.2 0, 40, .inl s_notes_shapes))] := hV14.sub [0, 1, 2, 3, 4, 5] rfl rfl
    clear hV4
    refine lv_if_ne (tgt := 20) hx hb dX11_one_15 (by decide) (fun c16 => ?_) (fun c16 => ?_)
    · have h17 := ieS c16 h13
      clear h13 c16
      refine lv_aload_n hx hb dX11_one_20 rfl (lv_at hl 0 rfl) ?_
      refine kget X hV14 (ci := 11) inlX11 rfl 0 rfl 5 (by decide) mw_33 rfl dX11_one_21 ?_
      refine lv_iload_n hx hb dX11_one_24 rfl (lv_at hl 1 rfl) ?_
      refine lv_iload_n hx hb dX11_one_25 rfl (lv_at hl 2 rfl) ?_
      refine lv_sipush (v := 400) hx hb dX11_one_26 (by decide) ?_
      obtain ⟨r29_19, o_gathered29_20, hc21, h22⟩ := cb2_s h17
      clear h17
      refine kgoiE (krunV (rest := []) X hV14 [1, 2, 3, 4, 5] (c_X3_oneBy l E _ a1 a2 a3 a4 a5 s_notes_many s_notes_days s_notes_gathered s_notes_minutes s_notes_shapes p1 p2 400 r29_19 o_gathered29_20 hc21) mw_904 kb_X3_oneBy (ci := 3) rfl rfl (by decide) rfl rfl hl.1 rfl (Nat.le_of_ble_eq_true rfl) dX11_one_29 (by decide)) X hV14 [1, 2, 3, 4, 5] [0] rfl rfl rfl (by decide) (fun u H locs hV23 => ?_)
      have hV23 : kV E A s.heap H locs [(a0, .inr (11, [w0_0, w0_1, w0_2, w0_3, w0_4, .ref a1, w0_6, w0_7, w0_8])), (a1, .inr (3, [.ref a2, .ref a4, .ref a5, .ref a3, .int s_notes_many])), (a2, .inl (E.2 0, 40, .inl s_notes_days)), (a3, .inl (E.2 0, 40, .inl o_gathered29_20)), (a4, .inl (E.2 0, 40, .inl s_notes_minutes)), (a5, .inl (E.2 0, 40, .inl s_notes_shapes))] := hV23.sub [0, 1, 2, 3, 4, 5] rfl rfl
      clear hV14
      obtain ⟨q25, q26⟩ := tup2_s h22
      clear h22
      exact hret _ () _ _ _ _ q25 rfl (by rw [← q26]; exact hV23) dX11_one_32
    · have h18 := itS c16 h13
      clear h13 c16
      refine lv_iconst (v := (-1)) hx hb dX11_one_18 (by decide) ?_
      obtain ⟨q27, q28⟩ := tup2_s h18
      clear h18
      exact hret _ () _ _ _ _ q27 rfl (by rw [← q28]; exact hV14) dX11_one_19
noncomputable def f_X11_known (s_notes_many : Int32) (s_notes_days : Nat → Int32) (s_notes_gathered : Nat → Int32) (s_notes_minutes : Nat → Int32) (s_notes_shapes : Nat → Int32) (p1 : Int32) (p2 : Int32) : Option (Int32 × (Nat → Int32)) :=
    cb1 (f_X11_isShape p1) fun r1_1 =>
    if r1_1 = 0 then
    (some ((-1), s_notes_gathered))
    else
    (cb1 (f_X11_isWithin p2 0 700) fun r12_11 =>
      if r12_11 = 0 then
      (some ((-1), s_notes_gathered))
      else
      (cb2 (f_X3_knownDay s_notes_many s_notes_days s_notes_gathered s_notes_minutes s_notes_shapes p1 p2) fun r26_19 o_gathered26_20 =>
        some (r26_19, o_gathered26_20)))
abbrev r_X11_known : Room := { frames := 4, cells := 0, slots := 0, locals := 99 }
set_option maxHeartbeats 4000000 in
set_option maxRecDepth 100000 in
theorem c_X11_known (l : Launch) (E : kE) (sz : Nat) (a0 a1 a2 a3 a4 a5 : Nat) (w0_0 w0_1 w0_2 w0_3 w0_4 w0_6 w0_7 w0_8 : Value) (s_notes_many : Int32) (s_notes_days : Nat → Int32) (s_notes_gathered : Nat → Int32) (s_notes_minutes : Nat → Int32) (s_notes_shapes : Nat → Int32) (p1 : Int32) (p2 : Int32) (r : Int32) (o_notes_gathered : Nat → Int32) (h : f_X11_known s_notes_many s_notes_days s_notes_gathered s_notes_minutes s_notes_shapes p1 p2 = some (r, o_notes_gathered)) : kMi l yX11_known cX11_known 3 (some .int) r_X11_known [.ref a0, .int p1, .int p2] E [(a0, .inr (11, [w0_0, w0_1, w0_2, w0_3, w0_4, .ref a1, w0_6, w0_7, w0_8])), (a1, .inr (3, [.ref a2, .ref a4, .ref a5, .ref a3, .int s_notes_many])), (a2, .inl (E.2 0, 40, .inl s_notes_days)), (a3, .inl (E.2 0, 40, .inl s_notes_gathered)), (a4, .inl (E.2 0, 40, .inl s_notes_minutes)), (a5, .inl (E.2 0, 40, .inl s_notes_shapes))] sz 0 0 (fun x (_ : Unit) => x = r) (fun _ => [(a0, .inr (11, [w0_0, w0_1, w0_2, w0_3, w0_4, .ref a1, w0_6, w0_7, w0_8])), (a1, .inr (3, [.ref a2, .ref a4, .ref a5, .ref a3, .int s_notes_many])), (a2, .inl (E.2 0, 40, .inl s_notes_days)), (a3, .inl (E.2 0, 40, .inl o_notes_gathered)), (a4, .inl (E.2 0, 40, .inl s_notes_minutes)), (a5, .inl (E.2 0, 40, .inl s_notes_shapes))]) := by
  refine kmeti rfl (Nat.le_of_ble_eq_true rfl) ?_
  intro p e s m args below meth c ls A Q X hV hret hl
  have X : kC p s m c cX11_known 3 RX11 args E A := X
  have hx := X.1
  have hb := X.2.1
  have hl : lv_has ls 3 [(0, .ref a0), (1, .int p1), (2, .int p2)] := hl
  rw [f_X11_known] at h
  refine lv_iload_n hx hb dX11_known_0 rfl (lv_at hl 1 rfl) ?_
  obtain ⟨r1_1, hc2, h3⟩ := cb1_s h
  clear h
  refine kgoiE (krunS (rest := []) X hV [] (c_X11_isShape l E _ p1 r1_1 hc2) mw_190 kb_X11_isShape (by decide) rfl rfl hl.1 rfl (Nat.le_of_ble_eq_true rfl) dX11_known_1 (by decide)) X hV [] [0, 1, 2, 3, 4, 5] rfl rfl rfl (by decide) (fun u H locs hV4 => ?_)
  have hV4 : kV E A s.heap H locs [(a0, .inr (11, [w0_0, w0_1, w0_2, w0_3, w0_4, .ref a1, w0_6, w0_7, w0_8])), (a1, .inr (3, [.ref a2, .ref a4, .ref a5, .ref a3, .int s_notes_many])), (a2, .inl (E.2 0, 40, .inl s_notes_days)), (a3, .inl (E.2 0, 40, .inl s_notes_gathered)), (a4, .inl (E.2 0, 40, .inl s_notes_minutes)), (a5, .inl (E.2 0, 40, .inl s_notes_shapes))] := hV4.sub [0, 1, 2, 3, 4, 5] rfl rfl
  clear hV
  refine lv_if_eq (tgt := 18) hx hb dX11_known_4 (by decide) (fun c6 => ?_) (fun c6 => ?_)
  · have h7 := itS c6 h3
    clear h3 c6
    refine lv_iconst (v := (-1)) hx hb dX11_known_18 (by decide) ?_
    obtain ⟨q9, q10⟩ := tup2_s h7
    clear h7
    exact hret _ () _ _ _ _ q9 rfl (by rw [← q10]; exact hV4) dX11_known_19
  · have h8 := ieS c6 h3
    clear h3 c6
    refine lv_iload_n hx hb dX11_known_7 rfl (lv_at hl 2 rfl) ?_
    refine lv_iconst (v := 0) hx hb dX11_known_8 (by decide) ?_
    refine lv_sipush (v := 700) hx hb dX11_known_9 (by decide) ?_
    obtain ⟨r12_11, hc12, h13⟩ := cb1_s h8
    clear h8
    refine kgoiE (krunS (rest := []) X hV4 [] (c_X11_isWithin l E _ p2 0 700 r12_11 hc12) mw_187 kb_X11_isWithin (by decide) rfl rfl hl.1 rfl (Nat.le_of_ble_eq_true rfl) dX11_known_12 (by decide)) X hV4 [] [0, 1, 2, 3, 4, 5] rfl rfl rfl (by decide) (fun u H locs hV14 => ?_)
    have hV14 : kV E A s.heap H locs [(a0, .inr (11, [w0_0, w0_1, w0_2, w0_3, w0_4, .ref a1, w0_6, w0_7, w0_8])), (a1, .inr (3, [.ref a2, .ref a4, .ref a5, .ref a3, .int s_notes_many])), (a2, .inl (E.2 0, 40, .inl s_notes_days)), (a3, .inl (E.2 0, 40, .inl s_notes_gathered)), (a4, .inl (E.2 0, 40, .inl s_notes_minutes)), (a5, .inl (E.2 0, 40, .inl s_notes_shapes))] := hV14.sub [0, 1, 2, 3, 4, 5] rfl rfl
    clear hV4
    refine lv_if_ne (tgt := 20) hx hb dX11_known_15 (by decide) (fun c16 => ?_) (fun c16 => ?_)
    · have h17 := ieS c16 h13
      clear h13 c16
      refine lv_aload_n hx hb dX11_known_20 rfl (lv_at hl 0 rfl) ?_
      refine kget X hV14 (ci := 11) inlX11 rfl 0 rfl 5 (by decide) mw_33 rfl dX11_known_21 ?_
      refine lv_iload_n hx hb dX11_known_24 rfl (lv_at hl 1 rfl) ?_
      refine lv_iload_n hx hb dX11_known_25 rfl (lv_at hl 2 rfl) ?_
      obtain ⟨r26_19, o_gathered26_20, hc21, h22⟩ := cb2_s h17
      clear h17
      refine kgoiE (krunV (rest := []) X hV14 [1, 2, 3, 4, 5] (c_X3_knownDay l E _ a1 a2 a3 a4 a5 s_notes_many s_notes_days s_notes_gathered s_notes_minutes s_notes_shapes p1 p2 r26_19 o_gathered26_20 hc21) mw_952 kb_X3_knownDay (ci := 3) rfl rfl (by decide) rfl rfl hl.1 rfl (Nat.le_of_ble_eq_true rfl) dX11_known_26 (by decide)) X hV14 [1, 2, 3, 4, 5] [0] rfl rfl rfl (by decide) (fun u H locs hV23 => ?_)
      have hV23 : kV E A s.heap H locs [(a0, .inr (11, [w0_0, w0_1, w0_2, w0_3, w0_4, .ref a1, w0_6, w0_7, w0_8])), (a1, .inr (3, [.ref a2, .ref a4, .ref a5, .ref a3, .int s_notes_many])), (a2, .inl (E.2 0, 40, .inl s_notes_days)), (a3, .inl (E.2 0, 40, .inl o_gathered26_20)), (a4, .inl (E.2 0, 40, .inl s_notes_minutes)), (a5, .inl (E.2 0, 40, .inl s_notes_shapes))] := hV23.sub [0, 1, 2, 3, 4, 5] rfl rfl
      clear hV14
      obtain ⟨q25, q26⟩ := tup2_s h22
      clear h22
      exact hret _ () _ _ _ _ q25 rfl (by rw [← q26]; exact hV23) dX11_known_29
    · have h18 := itS c16 h13
      clear h13 c16
      refine lv_iconst (v := (-1)) hx hb dX11_known_18 (by decide) ?_
      obtain ⟨q27, q28⟩ := tup2_s h18
      clear h18
      exact hret _ () _ _ _ _ q27 rfl (by rw [← q28]; exact hV14) dX11_known_19
noncomputable def f_X11_row (s_notes_many : Int32) (s_notes_days : Nat → Int32) (s_notes_gathered : Nat → Int32) (s_notes_minutes : Nat → Int32) (s_notes_shapes : Nat → Int32) (p1 : Int32) (p2 : Int32) (p3 : Int32) : Option (Int32 × (Nat → Int32)) :=
    cb1 (f_X11_isShape p1) fun r1_1 =>
    if r1_1 = 0 then
    (some ((-1), s_notes_gathered))
    else
    (cb1 (f_X11_isWithin p2 0 700) fun r12_11 =>
      if r12_11 = 0 then
      (some ((-1), s_notes_gathered))
      else
      (cb1 (f_X11_isWithin p3 0 1) fun r21_21 =>
        if r21_21 = 0 then
        (some ((-1), s_notes_gathered))
        else
        (cb2 (f_X3_longestRow s_notes_many s_notes_days s_notes_gathered s_notes_minutes s_notes_shapes p1 p2 p3) fun r36_29 o_gathered36_30 =>
          some (r36_29, o_gathered36_30))))
abbrev r_X11_row : Room := { frames := 3, cells := 0, slots := 0, locals := 75 }
set_option maxHeartbeats 4000000 in
set_option maxRecDepth 100000 in
theorem c_X11_row (l : Launch) (E : kE) (sz : Nat) (a0 a1 a2 a3 a4 a5 : Nat) (w0_0 w0_1 w0_2 w0_3 w0_4 w0_6 w0_7 w0_8 : Value) (s_notes_many : Int32) (s_notes_days : Nat → Int32) (s_notes_gathered : Nat → Int32) (s_notes_minutes : Nat → Int32) (s_notes_shapes : Nat → Int32) (p1 : Int32) (p2 : Int32) (p3 : Int32) (r : Int32) (o_notes_gathered : Nat → Int32) (h : f_X11_row s_notes_many s_notes_days s_notes_gathered s_notes_minutes s_notes_shapes p1 p2 p3 = some (r, o_notes_gathered)) : kMi l yX11_row cX11_row 4 (some .int) r_X11_row [.ref a0, .int p1, .int p2, .int p3] E [(a0, .inr (11, [w0_0, w0_1, w0_2, w0_3, w0_4, .ref a1, w0_6, w0_7, w0_8])), (a1, .inr (3, [.ref a2, .ref a4, .ref a5, .ref a3, .int s_notes_many])), (a2, .inl (E.2 0, 40, .inl s_notes_days)), (a3, .inl (E.2 0, 40, .inl s_notes_gathered)), (a4, .inl (E.2 0, 40, .inl s_notes_minutes)), (a5, .inl (E.2 0, 40, .inl s_notes_shapes))] sz 0 0 (fun x (_ : Unit) => x = r) (fun _ => [(a0, .inr (11, [w0_0, w0_1, w0_2, w0_3, w0_4, .ref a1, w0_6, w0_7, w0_8])), (a1, .inr (3, [.ref a2, .ref a4, .ref a5, .ref a3, .int s_notes_many])), (a2, .inl (E.2 0, 40, .inl s_notes_days)), (a3, .inl (E.2 0, 40, .inl o_notes_gathered)), (a4, .inl (E.2 0, 40, .inl s_notes_minutes)), (a5, .inl (E.2 0, 40, .inl s_notes_shapes))]) := by
  refine kmeti rfl (Nat.le_of_ble_eq_true rfl) ?_
  intro p e s m args below meth c ls A Q X hV hret hl
  have X : kC p s m c cX11_row 4 RX11 args E A := X
  have hx := X.1
  have hb := X.2.1
  have hl : lv_has ls 4 [(0, .ref a0), (1, .int p1), (2, .int p2), (3, .int p3)] := hl
  rw [f_X11_row] at h
  refine lv_iload_n hx hb dX11_row_0 rfl (lv_at hl 1 rfl) ?_
  obtain ⟨r1_1, hc2, h3⟩ := cb1_s h
  clear h
  refine kgoiE (krunS (rest := []) X hV [] (c_X11_isShape l E _ p1 r1_1 hc2) mw_190 kb_X11_isShape (by decide) rfl rfl hl.1 rfl (Nat.le_of_ble_eq_true rfl) dX11_row_1 (by decide)) X hV [] [0, 1, 2, 3, 4, 5] rfl rfl rfl (by decide) (fun u H locs hV4 => ?_)
  have hV4 : kV E A s.heap H locs [(a0, .inr (11, [w0_0, w0_1, w0_2, w0_3, w0_4, .ref a1, w0_6, w0_7, w0_8])), (a1, .inr (3, [.ref a2, .ref a4, .ref a5, .ref a3, .int s_notes_many])), (a2, .inl (E.2 0, 40, .inl s_notes_days)), (a3, .inl (E.2 0, 40, .inl s_notes_gathered)), (a4, .inl (E.2 0, 40, .inl s_notes_minutes)), (a5, .inl (E.2 0, 40, .inl s_notes_shapes))] := hV4.sub [0, 1, 2, 3, 4, 5] rfl rfl
  clear hV
  refine lv_if_eq (tgt := 27) hx hb dX11_row_4 (by decide) (fun c6 => ?_) (fun c6 => ?_)
  · have h7 := itS c6 h3
    clear h3 c6
    refine lv_iconst (v := (-1)) hx hb dX11_row_27 (by decide) ?_
    obtain ⟨q9, q10⟩ := tup2_s h7
    clear h7
    exact hret _ () _ _ _ _ q9 rfl (by rw [← q10]; exact hV4) dX11_row_28
  · have h8 := ieS c6 h3
    clear h3 c6
    refine lv_iload_n hx hb dX11_row_7 rfl (lv_at hl 2 rfl) ?_
    refine lv_iconst (v := 0) hx hb dX11_row_8 (by decide) ?_
    refine lv_sipush (v := 700) hx hb dX11_row_9 (by decide) ?_
    obtain ⟨r12_11, hc12, h13⟩ := cb1_s h8
    clear h8
    refine kgoiE (krunS (rest := []) X hV4 [] (c_X11_isWithin l E _ p2 0 700 r12_11 hc12) mw_187 kb_X11_isWithin (by decide) rfl rfl hl.1 rfl (Nat.le_of_ble_eq_true rfl) dX11_row_12 (by decide)) X hV4 [] [0, 1, 2, 3, 4, 5] rfl rfl rfl (by decide) (fun u H locs hV14 => ?_)
    have hV14 : kV E A s.heap H locs [(a0, .inr (11, [w0_0, w0_1, w0_2, w0_3, w0_4, .ref a1, w0_6, w0_7, w0_8])), (a1, .inr (3, [.ref a2, .ref a4, .ref a5, .ref a3, .int s_notes_many])), (a2, .inl (E.2 0, 40, .inl s_notes_days)), (a3, .inl (E.2 0, 40, .inl s_notes_gathered)), (a4, .inl (E.2 0, 40, .inl s_notes_minutes)), (a5, .inl (E.2 0, 40, .inl s_notes_shapes))] := hV14.sub [0, 1, 2, 3, 4, 5] rfl rfl
    clear hV4
    refine lv_if_eq (tgt := 27) hx hb dX11_row_15 (by decide) (fun c16 => ?_) (fun c16 => ?_)
    · have h17 := itS c16 h13
      clear h13 c16
      refine lv_iconst (v := (-1)) hx hb dX11_row_27 (by decide) ?_
      obtain ⟨q19, q20⟩ := tup2_s h17
      clear h17
      exact hret _ () _ _ _ _ q19 rfl (by rw [← q20]; exact hV14) dX11_row_28
    · have h18 := ieS c16 h13
      clear h13 c16
      refine lv_iload_n hx hb dX11_row_18 rfl (lv_at hl 3 rfl) ?_
      refine lv_iconst (v := 0) hx hb dX11_row_19 (by decide) ?_
      refine lv_iconst (v := 1) hx hb dX11_row_20 (by decide) ?_
      obtain ⟨r21_21, hc22, h23⟩ := cb1_s h18
      clear h18
      refine kgoiE (krunS (rest := []) X hV14 [] (c_X11_isWithin l E _ p3 0 1 r21_21 hc22) mw_187 kb_X11_isWithin (by decide) rfl rfl hl.1 rfl (Nat.le_of_ble_eq_true rfl) dX11_row_21 (by decide)) X hV14 [] [0, 1, 2, 3, 4, 5] rfl rfl rfl (by decide) (fun u H locs hV24 => ?_)
      have hV24 : kV E A s.heap H locs [(a0, .inr (11, [w0_0, w0_1, w0_2, w0_3, w0_4, .ref a1, w0_6, w0_7, w0_8])), (a1, .inr (3, [.ref a2, .ref a4, .ref a5, .ref a3, .int s_notes_many])), (a2, .inl (E.2 0, 40, .inl s_notes_days)), (a3, .inl (E.2 0, 40, .inl s_notes_gathered)), (a4, .inl (E.2 0, 40, .inl s_notes_minutes)), (a5, .inl (E.2 0, 40, .inl s_notes_shapes))] := hV24.sub [0, 1, 2, 3, 4, 5] rfl rfl
      clear hV14
      refine lv_if_ne (tgt := 29) hx hb dX11_row_24 (by decide) (fun c26 => ?_) (fun c26 => ?_)
      · have h27 := ieS c26 h23
        clear h23 c26
        refine lv_aload_n hx hb dX11_row_29 rfl (lv_at hl 0 rfl) ?_
        refine kget X hV24 (ci := 11) inlX11 rfl 0 rfl 5 (by decide) mw_33 rfl dX11_row_30 ?_
        refine lv_iload_n hx hb dX11_row_33 rfl (lv_at hl 1 rfl) ?_
        refine lv_iload_n hx hb dX11_row_34 rfl (lv_at hl 2 rfl) ?_
        refine lv_iload_n hx hb dX11_row_35 rfl (lv_at hl 3 rfl) ?_
        obtain ⟨r36_29, o_gathered36_30, hc31, h32⟩ := cb2_s h27
        clear h27
        refine kgoiE (krunV (rest := []) X hV24 [1, 2, 3, 4, 5] (c_X3_longestRow l E _ a1 a2 a3 a4 a5 s_notes_many s_notes_days s_notes_gathered s_notes_minutes s_notes_shapes p1 p2 p3 r36_29 o_gathered36_30 hc31) mw_965 kb_X3_longestRow (ci := 3) rfl rfl (by decide) rfl rfl hl.1 rfl (Nat.le_of_ble_eq_true rfl) dX11_row_36 (by decide)) X hV24 [1, 2, 3, 4, 5] [0] rfl rfl rfl (by decide) (fun u H locs hV33 => ?_)
        have hV33 : kV E A s.heap H locs [(a0, .inr (11, [w0_0, w0_1, w0_2, w0_3, w0_4, .ref a1, w0_6, w0_7, w0_8])), (a1, .inr (3, [.ref a2, .ref a4, .ref a5, .ref a3, .int s_notes_many])), (a2, .inl (E.2 0, 40, .inl s_notes_days)), (a3, .inl (E.2 0, 40, .inl o_gathered36_30)), (a4, .inl (E.2 0, 40, .inl s_notes_minutes)), (a5, .inl (E.2 0, 40, .inl s_notes_shapes))] := hV33.sub [0, 1, 2, 3, 4, 5] rfl rfl
        clear hV24
        obtain ⟨q35, q36⟩ := tup2_s h32
        clear h32
        exact hret _ () _ _ _ _ q35 rfl (by rw [← q36]; exact hV33) dX11_row_39
      · have h28 := itS c26 h23
        clear h23 c26
        refine lv_iconst (v := (-1)) hx hb dX11_row_27 (by decide) ?_
        obtain ⟨q37, q38⟩ := tup2_s h28
        clear h28
        exact hret _ () _ _ _ _ q37 rfl (by rw [← q38]; exact hV24) dX11_row_28
noncomputable def f_X11_blip (s_blips_many : Int32) (s_blips_times : Nat → Int32) (p1 : Int32) : Option (Int32 × Int32 × (Nat → Int32)) :=
    cb1 (f_X11_isWithin p1 0 1000000000) fun r4_1 =>
    if r4_1 = 0 then
    (some ((-1), s_blips_many, s_blips_times))
    else
    (cb3 (f_X0_add s_blips_many s_blips_times p1) fun r15_12 o_many15_13 o_times15_14 =>
      some (r15_12, o_many15_13, o_times15_14))
abbrev r_X11_blip : Room := { frames := 1, cells := 0, slots := 0, locals := 22 }
set_option maxHeartbeats 4000000 in
set_option maxRecDepth 100000 in
theorem c_X11_blip (l : Launch) (E : kE) (sz : Nat) (a0 a1 a2 : Nat) (w0_0 w0_1 w0_2 w0_3 w0_4 w0_5 w0_7 w0_8 w1_1 w1_3 w1_4 w1_5 : Value) (s_blips_many : Int32) (s_blips_times : Nat → Int32) (p1 : Int32) (r : Int32) (o_blips_many : Int32) (o_blips_times : Nat → Int32) (h : f_X11_blip s_blips_many s_blips_times p1 = some (r, o_blips_many, o_blips_times)) : kMi l yX11_blip cX11_blip 2 (some .int) r_X11_blip [.ref a0, .int p1] E [(a0, .inr (11, [w0_0, w0_1, w0_2, w0_3, w0_4, w0_5, .ref a1, w0_7, w0_8])), (a1, .inr (0, [.ref a2, w1_1, .int s_blips_many, w1_3, w1_4, w1_5])), (a2, .inl (E.2 0, 40, .inl s_blips_times))] sz 0 0 (fun x (_ : Unit) => x = r) (fun _ => [(a0, .inr (11, [w0_0, w0_1, w0_2, w0_3, w0_4, w0_5, .ref a1, w0_7, w0_8])), (a1, .inr (0, [.ref a2, w1_1, .int o_blips_many, w1_3, w1_4, w1_5])), (a2, .inl (E.2 0, 40, .inl o_blips_times))]) := by
  refine kmeti rfl (Nat.le_of_ble_eq_true rfl) ?_
  intro p e s m args below meth c ls A Q X hV hret hl
  have X : kC p s m c cX11_blip 2 RX11 args E A := X
  have hx := X.1
  have hb := X.2.1
  have hl : lv_has ls 2 [(0, .ref a0), (1, .int p1)] := hl
  rw [f_X11_blip] at h
  refine lv_iload_n hx hb dX11_blip_0 rfl (lv_at hl 1 rfl) ?_
  refine lv_iconst (v := 0) hx hb dX11_blip_1 (by decide) ?_
  refine lv_ldc (v := 1000000000) hx hb X.2.2.2.1 (X.2.2.2.2.1 _ mw_982) dX11_blip_2 ?_
  obtain ⟨r4_1, hc2, h3⟩ := cb1_s h
  clear h
  refine kgoiE (krunS (rest := []) X hV [] (c_X11_isWithin l E _ p1 0 1000000000 r4_1 hc2) mw_187 kb_X11_isWithin (by decide) rfl rfl hl.1 rfl (Nat.le_of_ble_eq_true rfl) dX11_blip_4 (by decide)) X hV [] [0, 1, 2] rfl rfl rfl (by decide) (fun u H locs hV4 => ?_)
  have hV4 : kV E A s.heap H locs [(a0, .inr (11, [w0_0, w0_1, w0_2, w0_3, w0_4, w0_5, .ref a1, w0_7, w0_8])), (a1, .inr (0, [.ref a2, w1_1, .int s_blips_many, w1_3, w1_4, w1_5])), (a2, .inl (E.2 0, 40, .inl s_blips_times))] := hV4.sub [0, 1, 2] rfl rfl
  clear hV
  refine lv_if_eq (tgt := 21) hx hb dX11_blip_7 (by decide) (fun c6 => ?_) (fun c6 => ?_)
  · have h7 := itS c6 h3
    clear h3 c6
    refine lv_iconst (v := (-1)) hx hb dX11_blip_21 (by decide) ?_
    obtain ⟨q9, q10, q11⟩ := tup3_s h7
    clear h7
    exact hret _ () _ _ _ _ q9 rfl (by rw [← q10, ← q11]; exact hV4) dX11_blip_22
  · have h8 := ieS c6 h3
    clear h3 c6
    refine lv_aload_n hx hb dX11_blip_10 rfl (lv_at hl 0 rfl) ?_
    refine kget X hV4 (ci := 11) inlX11 rfl 0 rfl 6 (by decide) mw_37 rfl dX11_blip_11 ?_
    refine lv_iload_n hx hb dX11_blip_14 rfl (lv_at hl 1 rfl) ?_
    obtain ⟨r15_12, o_many15_13, o_times15_14, hc15, h16⟩ := cb3_s h8
    clear h8
    refine kgoiE (krunV (rest := []) X hV4 [1, 2] (c_X0_add l E _ a1 a2 (w1_1) (w1_3) (w1_4) (w1_5) s_blips_many s_blips_times p1 r15_12 o_many15_13 o_times15_14 hc15) mw_983 kb_X0_add (ci := 0) rfl rfl (by decide) rfl rfl hl.1 rfl (Nat.le_of_ble_eq_true rfl) dX11_blip_15 (by decide)) X hV4 [1, 2] [0] rfl rfl rfl (by decide) (fun u H locs hV17 => ?_)
    have hV17 : kV E A s.heap H locs [(a0, .inr (11, [w0_0, w0_1, w0_2, w0_3, w0_4, w0_5, .ref a1, w0_7, w0_8])), (a1, .inr (0, [.ref a2, w1_1, .int o_many15_13, w1_3, w1_4, w1_5])), (a2, .inl (E.2 0, 40, .inl o_times15_14))] := hV17.sub [0, 1, 2] rfl rfl
    clear hV4
    refine lv_goto (tgt := 22) hx hb dX11_blip_18 (by decide) ?_
    obtain ⟨q19, q20, q21⟩ := tup3_s h16
    clear h16
    exact hret _ () _ _ _ _ q19 rfl (by rw [← q20, ← q21]; exact hV17) dX11_blip_22
noncomputable def f_X11_fits (s_blips_many : Int32) (s_blips_rests : Nat → Int32) (s_blips_times : Nat → Int32) (p1 : Int32) (p2 : Int32) : Option (Int32 × (Nat → Int32)) :=
    cb1 (f_X11_isBeat p1) fun r1_1 =>
    if r1_1 = 0 then
    (some ((-1), s_blips_rests))
    else
    (cb1 (f_X11_isWithin p2 0 1000) fun r12_11 =>
      if r12_11 = 0 then
      (some ((-1), s_blips_rests))
      else
      (if p1 ≤ (2 * p2) then
        (some ((-1), s_blips_rests))
        else
        (if 2 ≤ s_blips_many then
          (cb2 (f_X0_fitTo s_blips_many s_blips_rests s_blips_times p1 p2) fun r44_29 o_rests44_30 =>
            if r44_29 = 0 then
            (some (0, o_rests44_30))
            else
            (some (1, o_rests44_30)))
          else
          (some ((-1), s_blips_rests)))))
abbrev r_X11_fits : Room := { frames := 3, cells := 0, slots := 0, locals := 73 }
set_option maxHeartbeats 4000000 in
set_option maxRecDepth 100000 in
theorem c_X11_fits (l : Launch) (E : kE) (sz : Nat) (a0 a1 a2 a3 : Nat) (w0_0 w0_1 w0_2 w0_3 w0_4 w0_5 w0_7 w0_8 w1_3 w1_4 w1_5 : Value) (s_blips_many : Int32) (s_blips_rests : Nat → Int32) (s_blips_times : Nat → Int32) (p1 : Int32) (p2 : Int32) (r : Int32) (o_blips_rests : Nat → Int32) (h : f_X11_fits s_blips_many s_blips_rests s_blips_times p1 p2 = some (r, o_blips_rests)) : kMi l yX11_fits cX11_fits 3 (some .int) r_X11_fits [.ref a0, .int p1, .int p2] E [(a0, .inr (11, [w0_0, w0_1, w0_2, w0_3, w0_4, w0_5, .ref a1, w0_7, w0_8])), (a1, .inr (0, [.ref a3, .ref a2, .int s_blips_many, w1_3, w1_4, w1_5])), (a2, .inl (E.2 0, 40, .inl s_blips_rests)), (a3, .inl (E.2 0, 40, .inl s_blips_times))] sz 0 0 (fun x (_ : Unit) => x = r) (fun _ => [(a0, .inr (11, [w0_0, w0_1, w0_2, w0_3, w0_4, w0_5, .ref a1, w0_7, w0_8])), (a1, .inr (0, [.ref a3, .ref a2, .int s_blips_many, w1_3, w1_4, w1_5])), (a2, .inl (E.2 0, 40, .inl o_blips_rests)), (a3, .inl (E.2 0, 40, .inl s_blips_times))]) := by
  refine kmeti rfl (Nat.le_of_ble_eq_true rfl) ?_
  intro p e s m args below meth c ls A Q X hV hret hl
  have X : kC p s m c cX11_fits 3 RX11 args E A := X
  have hx := X.1
  have hb := X.2.1
  have hl : lv_has ls 3 [(0, .ref a0), (1, .int p1), (2, .int p2)] := hl
  rw [f_X11_fits] at h
  refine lv_iload_n hx hb dX11_fits_0 rfl (lv_at hl 1 rfl) ?_
  obtain ⟨r1_1, hc2, h3⟩ := cb1_s h
  clear h
  refine kgoiE (krunS (rest := []) X hV [] (c_X11_isBeat l E _ p1 r1_1 hc2) mw_998 kb_X11_isBeat (by decide) rfl rfl hl.1 rfl (Nat.le_of_ble_eq_true rfl) dX11_fits_1 (by decide)) X hV [] [0, 1, 2, 3] rfl rfl rfl (by decide) (fun u H locs hV4 => ?_)
  have hV4 : kV E A s.heap H locs [(a0, .inr (11, [w0_0, w0_1, w0_2, w0_3, w0_4, w0_5, .ref a1, w0_7, w0_8])), (a1, .inr (0, [.ref a3, .ref a2, .int s_blips_many, w1_3, w1_4, w1_5])), (a2, .inl (E.2 0, 40, .inl s_blips_rests)), (a3, .inl (E.2 0, 40, .inl s_blips_times))] := hV4.sub [0, 1, 2, 3] rfl rfl
  clear hV
  refine lv_if_eq (tgt := 36) hx hb dX11_fits_4 (by decide) (fun c6 => ?_) (fun c6 => ?_)
  · have h7 := itS c6 h3
    clear h3 c6
    refine lv_iconst (v := (-1)) hx hb dX11_fits_36 (by decide) ?_
    obtain ⟨q9, q10⟩ := tup2_s h7
    clear h7
    exact hret _ () _ _ _ _ q9 rfl (by rw [← q10]; exact hV4) dX11_fits_37
  · have h8 := ieS c6 h3
    clear h3 c6
    refine lv_iload_n hx hb dX11_fits_7 rfl (lv_at hl 2 rfl) ?_
    refine lv_iconst (v := 0) hx hb dX11_fits_8 (by decide) ?_
    refine lv_sipush (v := 1000) hx hb dX11_fits_9 (by decide) ?_
    obtain ⟨r12_11, hc12, h13⟩ := cb1_s h8
    clear h8
    refine kgoiE (krunS (rest := []) X hV4 [] (c_X11_isWithin l E _ p2 0 1000 r12_11 hc12) mw_187 kb_X11_isWithin (by decide) rfl rfl hl.1 rfl (Nat.le_of_ble_eq_true rfl) dX11_fits_12 (by decide)) X hV4 [] [0, 1, 2, 3] rfl rfl rfl (by decide) (fun u H locs hV14 => ?_)
    have hV14 : kV E A s.heap H locs [(a0, .inr (11, [w0_0, w0_1, w0_2, w0_3, w0_4, w0_5, .ref a1, w0_7, w0_8])), (a1, .inr (0, [.ref a3, .ref a2, .int s_blips_many, w1_3, w1_4, w1_5])), (a2, .inl (E.2 0, 40, .inl s_blips_rests)), (a3, .inl (E.2 0, 40, .inl s_blips_times))] := hV14.sub [0, 1, 2, 3] rfl rfl
    clear hV4
    refine lv_if_eq (tgt := 36) hx hb dX11_fits_15 (by decide) (fun c16 => ?_) (fun c16 => ?_)
    · have h17 := itS c16 h13
      clear h13 c16
      refine lv_iconst (v := (-1)) hx hb dX11_fits_36 (by decide) ?_
      obtain ⟨q19, q20⟩ := tup2_s h17
      clear h17
      exact hret _ () _ _ _ _ q19 rfl (by rw [← q20]; exact hV14) dX11_fits_37
    · have h18 := ieS c16 h13
      clear h13 c16
      refine lv_iconst (v := 2) hx hb dX11_fits_18 (by decide) ?_
      refine lv_iload_n hx hb dX11_fits_19 rfl (lv_at hl 2 rfl) ?_
      refine lv_imul hx hb dX11_fits_20 ?_
      refine lv_iload_n hx hb dX11_fits_21 rfl (lv_at hl 1 rfl) ?_
      refine lv_icmp_ge (tgt := 36) hx hb dX11_fits_22 (by decide) (fun c21 => ?_) (fun c21 => ?_)
      · have h22 := itS c21 h18
        clear h18 c21
        refine lv_iconst (v := (-1)) hx hb dX11_fits_36 (by decide) ?_
        obtain ⟨q24, q25⟩ := tup2_s h22
        clear h22
        exact hret _ () _ _ _ _ q24 rfl (by rw [← q25]; exact hV14) dX11_fits_37
      · have h23 := ieS c21 h18
        clear h18 c21
        refine lv_aload_n hx hb dX11_fits_25 rfl (lv_at hl 0 rfl) ?_
        refine kget X hV14 (ci := 11) inlX11 rfl 0 rfl 6 (by decide) mw_37 rfl dX11_fits_26 ?_
        refine kget X hV14 (ci := 0) inlX0 rfl 1 rfl 2 (by decide) mw_997 rfl dX11_fits_29 ?_
        refine lv_iconst (v := 2) hx hb dX11_fits_32 (by decide) ?_
        refine lv_icmp_ge (tgt := 38) hx hb dX11_fits_33 (by decide) (fun c26 => ?_) (fun c26 => ?_)
        · have h27 := itS c26 h23
          clear h23 c26
          refine lv_aload_n hx hb dX11_fits_38 rfl (lv_at hl 0 rfl) ?_
          refine kget X hV14 (ci := 11) inlX11 rfl 0 rfl 6 (by decide) mw_37 rfl dX11_fits_39 ?_
          refine lv_iload_n hx hb dX11_fits_42 rfl (lv_at hl 1 rfl) ?_
          refine lv_iload_n hx hb dX11_fits_43 rfl (lv_at hl 2 rfl) ?_
          obtain ⟨r44_29, o_rests44_30, hc31, h32⟩ := cb2_s h27
          clear h27
          refine kgoiE (krunV (rest := []) X hV14 [1, 2, 3] (c_X0_fitTo l E _ a1 a2 a3 (w1_3) (w1_4) (w1_5) s_blips_many s_blips_rests s_blips_times p1 p2 r44_29 o_rests44_30 hc31) mw_1002 kb_X0_fitTo (ci := 0) rfl rfl (by decide) rfl rfl hl.1 rfl (Nat.le_of_ble_eq_true rfl) dX11_fits_44 (by decide)) X hV14 [1, 2, 3] [0] rfl rfl rfl (by decide) (fun u H locs hV33 => ?_)
          have hV33 : kV E A s.heap H locs [(a0, .inr (11, [w0_0, w0_1, w0_2, w0_3, w0_4, w0_5, .ref a1, w0_7, w0_8])), (a1, .inr (0, [.ref a3, .ref a2, .int s_blips_many, w1_3, w1_4, w1_5])), (a2, .inl (E.2 0, 40, .inl o_rests44_30)), (a3, .inl (E.2 0, 40, .inl s_blips_times))] := hV33.sub [0, 1, 2, 3] rfl rfl
          clear hV14
          refine lv_if_eq (tgt := 54) hx hb dX11_fits_47 (by decide) (fun c35 => ?_) (fun c35 => ?_)
          · have h36 := itS c35 h32
            clear h32 c35
            refine lv_iconst (v := 0) hx hb dX11_fits_54 (by decide) ?_
            obtain ⟨q38, q39⟩ := tup2_s h36
            clear h36
            exact hret _ () _ _ _ _ q38 rfl (by rw [← q39]; exact hV33) dX11_fits_55
          · have h37 := ieS c35 h32
            clear h32 c35
            refine lv_iconst (v := 1) hx hb dX11_fits_50 (by decide) ?_
            refine lv_goto (tgt := 55) hx hb dX11_fits_51 (by decide) ?_
            obtain ⟨q40, q41⟩ := tup2_s h37
            clear h37
            exact hret _ () _ _ _ _ q40 rfl (by rw [← q41]; exact hV33) dX11_fits_55
        · have h28 := ieS c26 h23
          clear h23 c26
          refine lv_iconst (v := (-1)) hx hb dX11_fits_36 (by decide) ?_
          obtain ⟨q42, q43⟩ := tup2_s h28
          clear h28
          exact hret _ () _ _ _ _ q42 rfl (by rw [← q43]; exact hV14) dX11_fits_37
noncomputable def f_X11_beats (s_blips_many : Int32) (s_blips_fitting : Int32) (s_blips_least : Int32) (s_blips_greatest : Int32) (s_blips_rests : Nat → Int32) (s_blips_times : Nat → Int32) (p1 : Int32) (p2 : Int32) (p3 : Int32) (p4 : Int32) : Option (Int32 × Int32 × Int32 × Int32 × (Nat → Int32)) :=
    cb1 (f_X11_canScan s_blips_many p1 p2 p3) fun r4_1 =>
    if r4_1 = 0 then
    (some ((-1), s_blips_fitting, s_blips_least, s_blips_greatest, s_blips_rests))
    else
    (cb1 (f_X11_isWithin p4 0 2) fun r14_14 =>
      if r14_14 = 0 then
      (some ((-1), s_blips_fitting, s_blips_least, s_blips_greatest, s_blips_rests))
      else
      (cb4 (f_X0_scan s_blips_many s_blips_fitting s_blips_least s_blips_greatest s_blips_rests s_blips_times p1 p2 p3) fun o_fitting29_22 o_least29_23 o_greatest29_24 o_rests29_25 =>
        if p4 = 0 then
        (some (o_fitting29_22, o_fitting29_22, o_least29_23, o_greatest29_24, o_rests29_25))
        else
        (if p4 = 1 then
          (some (o_least29_23, o_fitting29_22, o_least29_23, o_greatest29_24, o_rests29_25))
          else
          (some (o_greatest29_24, o_fitting29_22, o_least29_23, o_greatest29_24, o_rests29_25)))))
abbrev r_X11_beats : Room := { frames := 4, cells := 0, slots := 0, locals := 97 }
set_option maxHeartbeats 4000000 in
set_option maxRecDepth 100000 in
theorem c_X11_beats (l : Launch) (E : kE) (sz : Nat) (a0 a1 a2 a3 : Nat) (w0_0 w0_1 w0_2 w0_3 w0_4 w0_5 w0_7 w0_8 : Value) (s_blips_many : Int32) (s_blips_fitting : Int32) (s_blips_least : Int32) (s_blips_greatest : Int32) (s_blips_rests : Nat → Int32) (s_blips_times : Nat → Int32) (p1 : Int32) (p2 : Int32) (p3 : Int32) (p4 : Int32) (r : Int32) (o_blips_fitting : Int32) (o_blips_least : Int32) (o_blips_greatest : Int32) (o_blips_rests : Nat → Int32) (h : f_X11_beats s_blips_many s_blips_fitting s_blips_least s_blips_greatest s_blips_rests s_blips_times p1 p2 p3 p4 = some (r, o_blips_fitting, o_blips_least, o_blips_greatest, o_blips_rests)) : kMi l yX11_beats cX11_beats 5 (some .int) r_X11_beats [.ref a0, .int p1, .int p2, .int p3, .int p4] E [(a0, .inr (11, [w0_0, w0_1, w0_2, w0_3, w0_4, w0_5, .ref a1, w0_7, w0_8])), (a1, .inr (0, [.ref a3, .ref a2, .int s_blips_many, .int s_blips_fitting, .int s_blips_least, .int s_blips_greatest])), (a2, .inl (E.2 0, 40, .inl s_blips_rests)), (a3, .inl (E.2 0, 40, .inl s_blips_times))] sz 0 0 (fun x (_ : Unit) => x = r) (fun _ => [(a0, .inr (11, [w0_0, w0_1, w0_2, w0_3, w0_4, w0_5, .ref a1, w0_7, w0_8])), (a1, .inr (0, [.ref a3, .ref a2, .int s_blips_many, .int o_blips_fitting, .int o_blips_least, .int o_blips_greatest])), (a2, .inl (E.2 0, 40, .inl o_blips_rests)), (a3, .inl (E.2 0, 40, .inl s_blips_times))]) := by
  refine kmeti rfl (Nat.le_of_ble_eq_true rfl) ?_
  intro p e s m args below meth c ls A Q X hV hret hl
  have X : kC p s m c cX11_beats 5 RX11 args E A := X
  have hx := X.1
  have hb := X.2.1
  have hl : lv_has ls 5 [(0, .ref a0), (1, .int p1), (2, .int p2), (3, .int p3), (4, .int p4)] := hl
  rw [f_X11_beats] at h
  refine lv_aload_n hx hb dX11_beats_0 rfl (lv_at hl 0 rfl) ?_
  refine lv_iload_n hx hb dX11_beats_1 rfl (lv_at hl 1 rfl) ?_
  refine lv_iload_n hx hb dX11_beats_2 rfl (lv_at hl 2 rfl) ?_
  refine lv_iload_n hx hb dX11_beats_3 rfl (lv_at hl 3 rfl) ?_
  obtain ⟨r4_1, hc2, h3⟩ := cb1_s h
  clear h
  refine kgoiE (krunV (rest := []) X hV [0, 1] (c_X11_canScan l E _ a0 a1 (w0_0) (w0_1) (w0_2) (w0_3) (w0_4) (w0_5) (w0_7) (w0_8) (.ref a3) (.ref a2) (.int s_blips_fitting) (.int s_blips_least) (.int s_blips_greatest) s_blips_many p1 p2 p3 r4_1 hc2) mw_1026 kb_X11_canScan (ci := 11) rfl rfl (by decide) rfl rfl hl.1 rfl (Nat.le_of_ble_eq_true rfl) dX11_beats_4 (by decide)) X hV [0, 1] [2, 3] rfl rfl rfl (by decide) (fun u H locs hV4 => ?_)
  have hV4 : kV E A s.heap H locs [(a0, .inr (11, [w0_0, w0_1, w0_2, w0_3, w0_4, w0_5, .ref a1, w0_7, w0_8])), (a1, .inr (0, [.ref a3, .ref a2, .int s_blips_many, .int s_blips_fitting, .int s_blips_least, .int s_blips_greatest])), (a2, .inl (E.2 0, 40, .inl s_blips_rests)), (a3, .inl (E.2 0, 40, .inl s_blips_times))] := hV4.sub [2, 3, 0, 1] rfl rfl
  clear hV
  refine lv_if_eq (tgt := 20) hx hb dX11_beats_7 (by decide) (fun c6 => ?_) (fun c6 => ?_)
  · have h7 := itS c6 h3
    clear h3 c6
    refine lv_iconst (v := (-1)) hx hb dX11_beats_20 (by decide) ?_
    obtain ⟨q9, q10, q11, q12, q13⟩ := tup5_s h7
    clear h7
    exact hret _ () _ _ _ _ q9 rfl (by rw [← q10, ← q11, ← q12, ← q13]; exact hV4) dX11_beats_21
  · have h8 := ieS c6 h3
    clear h3 c6
    refine lv_iload hx hb dX11_beats_10 (lv_at hl 4 rfl) ?_
    refine lv_iconst (v := 0) hx hb dX11_beats_12 (by decide) ?_
    refine lv_iconst (v := 2) hx hb dX11_beats_13 (by decide) ?_
    obtain ⟨r14_14, hc15, h16⟩ := cb1_s h8
    clear h8
    refine kgoiE (krunS (rest := []) X hV4 [] (c_X11_isWithin l E _ p4 0 2 r14_14 hc15) mw_187 kb_X11_isWithin (by decide) rfl rfl hl.1 rfl (Nat.le_of_ble_eq_true rfl) dX11_beats_14 (by decide)) X hV4 [] [0, 1, 2, 3] rfl rfl rfl (by decide) (fun u H locs hV17 => ?_)
    have hV17 : kV E A s.heap H locs [(a0, .inr (11, [w0_0, w0_1, w0_2, w0_3, w0_4, w0_5, .ref a1, w0_7, w0_8])), (a1, .inr (0, [.ref a3, .ref a2, .int s_blips_many, .int s_blips_fitting, .int s_blips_least, .int s_blips_greatest])), (a2, .inl (E.2 0, 40, .inl s_blips_rests)), (a3, .inl (E.2 0, 40, .inl s_blips_times))] := hV17.sub [0, 1, 2, 3] rfl rfl
    clear hV4
    refine lv_if_ne (tgt := 22) hx hb dX11_beats_17 (by decide) (fun c19 => ?_) (fun c19 => ?_)
    · have h20 := ieS c19 h16
      clear h16 c19
      refine lv_aload_n hx hb dX11_beats_22 rfl (lv_at hl 0 rfl) ?_
      refine kget X hV17 (ci := 11) inlX11 rfl 0 rfl 6 (by decide) mw_37 rfl dX11_beats_23 ?_
      refine lv_iload_n hx hb dX11_beats_26 rfl (lv_at hl 1 rfl) ?_
      refine lv_iload_n hx hb dX11_beats_27 rfl (lv_at hl 2 rfl) ?_
      refine lv_iload_n hx hb dX11_beats_28 rfl (lv_at hl 3 rfl) ?_
      obtain ⟨o_fitting29_22, o_least29_23, o_greatest29_24, o_rests29_25, hc26, h27⟩ := cb4_s h20
      clear h20
      refine kgov (krunV (rest := []) X hV17 [1, 2, 3] (c_X0_scan l E _ a1 a2 a3 s_blips_many s_blips_fitting s_blips_least s_blips_greatest s_blips_rests s_blips_times p1 p2 p3 o_fitting29_22 o_least29_23 o_greatest29_24 o_rests29_25 hc26) mw_1030 kb_X0_scan (ci := 0) rfl rfl (by decide) rfl rfl hl.1 rfl (Nat.le_of_ble_eq_true rfl) dX11_beats_29 (by decide)) X hV17 [1, 2, 3] [0] rfl rfl rfl (by decide) (fun u H locs hp29 hV28 => ?_)
      have hV28 : kV E A s.heap H locs [(a0, .inr (11, [w0_0, w0_1, w0_2, w0_3, w0_4, w0_5, .ref a1, w0_7, w0_8])), (a1, .inr (0, [.ref a3, .ref a2, .int s_blips_many, .int o_fitting29_22, .int o_least29_23, .int o_greatest29_24])), (a2, .inl (E.2 0, 40, .inl o_rests29_25)), (a3, .inl (E.2 0, 40, .inl s_blips_times))] := hV28.sub [0, 1, 2, 3] rfl rfl
      clear hV17
      refine lv_iload hx hb dX11_beats_32 (lv_at hl 4 rfl) ?_
      refine lv_if_ne (tgt := 45) hx hb dX11_beats_34 (by decide) (fun c30 => ?_) (fun c30 => ?_)
      · have h31 := ieS c30 h27
        clear h27 c30
        refine lv_iload hx hb dX11_beats_45 (lv_at hl 4 rfl) ?_
        refine lv_iconst (v := 1) hx hb dX11_beats_47 (by decide) ?_
        refine lv_icmp_ne (tgt := 61) hx hb dX11_beats_48 (by decide) (fun c33 => ?_) (fun c33 => ?_)
        · have h34 := ieS c33 h31
          clear h31 c33
          refine lv_aload_n hx hb dX11_beats_61 rfl (lv_at hl 0 rfl) ?_
          refine kget X hV28 (ci := 11) inlX11 rfl 0 rfl 6 (by decide) mw_37 rfl dX11_beats_62 ?_
          refine kget X hV28 (ci := 0) inlX0 rfl 1 rfl 5 (by decide) mw_1025 rfl dX11_beats_65 ?_
          obtain ⟨q36, q37, q38, q39, q40⟩ := tup5_s h34
          clear h34
          exact hret _ () _ _ _ _ q36 rfl (by rw [← q37, ← q38, ← q39, ← q40]; exact hV28) dX11_beats_68
        · have h35 := itS c33 h31
          clear h31 c33
          refine lv_aload_n hx hb dX11_beats_51 rfl (lv_at hl 0 rfl) ?_
          refine kget X hV28 (ci := 11) inlX11 rfl 0 rfl 6 (by decide) mw_37 rfl dX11_beats_52 ?_
          refine kget X hV28 (ci := 0) inlX0 rfl 1 rfl 4 (by decide) mw_1024 rfl dX11_beats_55 ?_
          refine lv_goto (tgt := 68) hx hb dX11_beats_58 (by decide) ?_
          obtain ⟨q41, q42, q43, q44, q45⟩ := tup5_s h35
          clear h35
          exact hret _ () _ _ _ _ q41 rfl (by rw [← q42, ← q43, ← q44, ← q45]; exact hV28) dX11_beats_68
      · have h32 := itS c30 h27
        clear h27 c30
        refine lv_aload_n hx hb dX11_beats_37 rfl (lv_at hl 0 rfl) ?_
        refine kget X hV28 (ci := 11) inlX11 rfl 0 rfl 6 (by decide) mw_37 rfl dX11_beats_38 ?_
        refine kget X hV28 (ci := 0) inlX0 rfl 1 rfl 3 (by decide) mw_1023 rfl dX11_beats_41 ?_
        obtain ⟨q46, q47, q48, q49, q50⟩ := tup5_s h32
        clear h32
        exact hret _ () _ _ _ _ q46 rfl (by rw [← q47, ← q48, ← q49, ← q50]; exact hV28) dX11_beats_44
    · have h21 := itS c19 h16
      clear h16 c19
      refine lv_iconst (v := (-1)) hx hb dX11_beats_20 (by decide) ?_
      obtain ⟨q51, q52, q53, q54, q55⟩ := tup5_s h21
      clear h21
      exact hret _ () _ _ _ _ q51 rfl (by rw [← q52, ← q53, ← q54, ← q55]; exact hV17) dX11_beats_21
noncomputable def f_X11_counted (s_blips_many : Int32) (s_blips_times : Nat → Int32) (p1 : Int32) (p2 : Int32) : Option (Int32) :=
    cb1 (f_X11_isBeat p2) fun r1_1 =>
    if r1_1 = 0 then
    (some ((-1)))
    else
    (cb1 (f_X11_isWithin p1 0 (s_blips_many - 1)) fun r18_10 =>
      if r18_10 = 0 then
      (some ((-1)))
      else
      (cb1 (f_X0_beatsTo s_blips_times p1 p2) fun r30_19 =>
        some (r30_19)))
abbrev r_X11_counted : Room := { frames := 2, cells := 0, slots := 0, locals := 42 }
set_option maxHeartbeats 4000000 in
set_option maxRecDepth 100000 in
theorem c_X11_counted (l : Launch) (E : kE) (sz : Nat) (a0 a1 a2 : Nat) (w0_0 w0_1 w0_2 w0_3 w0_4 w0_5 w0_7 w0_8 w1_1 w1_3 w1_4 w1_5 : Value) (s_blips_many : Int32) (s_blips_times : Nat → Int32) (p1 : Int32) (p2 : Int32) (r : Int32) (h : f_X11_counted s_blips_many s_blips_times p1 p2 = some (r)) : kMi l yX11_counted cX11_counted 3 (some .int) r_X11_counted [.ref a0, .int p1, .int p2] E [(a0, .inr (11, [w0_0, w0_1, w0_2, w0_3, w0_4, w0_5, .ref a1, w0_7, w0_8])), (a1, .inr (0, [.ref a2, w1_1, .int s_blips_many, w1_3, w1_4, w1_5])), (a2, .inl (E.2 0, 40, .inl s_blips_times))] sz 0 0 (fun x (_ : Unit) => x = r) (fun _ => [(a0, .inr (11, [w0_0, w0_1, w0_2, w0_3, w0_4, w0_5, .ref a1, w0_7, w0_8])), (a1, .inr (0, [.ref a2, w1_1, .int s_blips_many, w1_3, w1_4, w1_5])), (a2, .inl (E.2 0, 40, .inl s_blips_times))]) := by
  refine kmeti rfl (Nat.le_of_ble_eq_true rfl) ?_
  intro p e s m args below meth c ls A Q X hV hret hl
  have X : kC p s m c cX11_counted 3 RX11 args E A := X
  have hx := X.1
  have hb := X.2.1
  have hl : lv_has ls 3 [(0, .ref a0), (1, .int p1), (2, .int p2)] := hl
  rw [f_X11_counted] at h
  refine lv_iload_n hx hb dX11_counted_0 rfl (lv_at hl 2 rfl) ?_
  obtain ⟨r1_1, hc2, h3⟩ := cb1_s h
  clear h
  refine kgoiE (krunS (rest := []) X hV [] (c_X11_isBeat l E _ p2 r1_1 hc2) mw_998 kb_X11_isBeat (by decide) rfl rfl hl.1 rfl (Nat.le_of_ble_eq_true rfl) dX11_counted_1 (by decide)) X hV [] [0, 1, 2] rfl rfl rfl (by decide) (fun u H locs hV4 => ?_)
  have hV4 : kV E A s.heap H locs [(a0, .inr (11, [w0_0, w0_1, w0_2, w0_3, w0_4, w0_5, .ref a1, w0_7, w0_8])), (a1, .inr (0, [.ref a2, w1_1, .int s_blips_many, w1_3, w1_4, w1_5])), (a2, .inl (E.2 0, 40, .inl s_blips_times))] := hV4.sub [0, 1, 2] rfl rfl
  clear hV
  refine lv_if_eq (tgt := 36) hx hb dX11_counted_4 (by decide) (fun c6 => ?_) (fun c6 => ?_)
  · have h7 := itS c6 h3
    clear h3 c6
    refine lv_iconst (v := (-1)) hx hb dX11_counted_36 (by decide) ?_
    have q9 := tup1_s h7
    clear h7
    exact hret _ () _ _ _ _ q9 rfl hV4 dX11_counted_37
  · have h8 := ieS c6 h3
    clear h3 c6
    refine lv_iload_n hx hb dX11_counted_7 rfl (lv_at hl 1 rfl) ?_
    refine lv_iconst (v := 0) hx hb dX11_counted_8 (by decide) ?_
    refine lv_aload_n hx hb dX11_counted_9 rfl (lv_at hl 0 rfl) ?_
    refine kget X hV4 (ci := 11) inlX11 rfl 0 rfl 6 (by decide) mw_37 rfl dX11_counted_10 ?_
    refine kget X hV4 (ci := 0) inlX0 rfl 1 rfl 2 (by decide) mw_997 rfl dX11_counted_13 ?_
    refine lv_iconst (v := 1) hx hb dX11_counted_16 (by decide) ?_
    refine lv_isub hx hb dX11_counted_17 ?_
    obtain ⟨r18_10, hc11, h12⟩ := cb1_s h8
    clear h8
    refine kgoiE (krunS (rest := []) X hV4 [] (c_X11_isWithin l E _ p1 0 (s_blips_many - 1) r18_10 hc11) mw_187 kb_X11_isWithin (by decide) rfl rfl hl.1 rfl (Nat.le_of_ble_eq_true rfl) dX11_counted_18 (by decide)) X hV4 [] [0, 1, 2] rfl rfl rfl (by decide) (fun u H locs hV13 => ?_)
    have hV13 : kV E A s.heap H locs [(a0, .inr (11, [w0_0, w0_1, w0_2, w0_3, w0_4, w0_5, .ref a1, w0_7, w0_8])), (a1, .inr (0, [.ref a2, w1_1, .int s_blips_many, w1_3, w1_4, w1_5])), (a2, .inl (E.2 0, 40, .inl s_blips_times))] := hV13.sub [0, 1, 2] rfl rfl
    clear hV4
    refine lv_if_eq (tgt := 36) hx hb dX11_counted_21 (by decide) (fun c15 => ?_) (fun c15 => ?_)
    · have h16 := itS c15 h12
      clear h12 c15
      refine lv_iconst (v := (-1)) hx hb dX11_counted_36 (by decide) ?_
      have q18 := tup1_s h16
      clear h16
      exact hret _ () _ _ _ _ q18 rfl hV13 dX11_counted_37
    · have h17 := ieS c15 h12
      clear h12 c15
      refine lv_aload_n hx hb dX11_counted_24 rfl (lv_at hl 0 rfl) ?_
      refine kget X hV13 (ci := 11) inlX11 rfl 0 rfl 6 (by decide) mw_37 rfl dX11_counted_25 ?_
      refine lv_iload_n hx hb dX11_counted_28 rfl (lv_at hl 1 rfl) ?_
      refine lv_iload_n hx hb dX11_counted_29 rfl (lv_at hl 2 rfl) ?_
      obtain ⟨r30_19, hc20, h21⟩ := cb1_s h17
      clear h17
      refine kgoiE (krunV (rest := []) X hV13 [1, 2] (c_X0_beatsTo l E _ a1 a2 (w1_1) (.int s_blips_many) (w1_3) (w1_4) (w1_5) s_blips_times p1 p2 r30_19 hc20) mw_1054 kb_X0_beatsTo (ci := 0) rfl rfl (by decide) rfl rfl hl.1 rfl (Nat.le_of_ble_eq_true rfl) dX11_counted_30 (by decide)) X hV13 [1, 2] [0] rfl rfl rfl (by decide) (fun u H locs hV22 => ?_)
      have hV22 : kV E A s.heap H locs [(a0, .inr (11, [w0_0, w0_1, w0_2, w0_3, w0_4, w0_5, .ref a1, w0_7, w0_8])), (a1, .inr (0, [.ref a2, w1_1, .int s_blips_many, w1_3, w1_4, w1_5])), (a2, .inl (E.2 0, 40, .inl s_blips_times))] := hV22.sub [0, 1, 2] rfl rfl
      clear hV13
      refine lv_goto (tgt := 37) hx hb dX11_counted_33 (by decide) ?_
      have q24 := tup1_s h21
      clear h21
      exact hret _ () _ _ _ _ q24 rfl hV22 dX11_counted_37
noncomputable def f_X11_sure (s_blips_many : Int32) (s_blips_fitting : Int32) (s_blips_least : Int32) (s_blips_greatest : Int32) (s_blips_rests : Nat → Int32) (s_blips_times : Nat → Int32) (p1 : Int32) (p2 : Int32) (p3 : Int32) : Option (Int32 × Int32 × Int32 × Int32 × (Nat → Int32)) :=
    cb1 (f_X11_canScan s_blips_many p1 p2 p3) fun r4_1 =>
    if r4_1 = 0 then
    (some ((-1), s_blips_fitting, s_blips_least, s_blips_greatest, s_blips_rests))
    else
    (cb4 (f_X0_scan s_blips_many s_blips_fitting s_blips_least s_blips_greatest s_blips_rests s_blips_times p1 p2 p3) fun o_fitting19_9 o_least19_10 o_greatest19_11 o_rests19_12 =>
      if o_fitting19_9 = 0 then
      (some ((-2), o_fitting19_9, o_least19_10, o_greatest19_11, o_rests19_12))
      else
      (cb1 (f_X0_countAlike s_blips_many s_blips_times o_least19_10 o_greatest19_11) fun r53_20 =>
        if r53_20 = 0 then
        (some (0, o_fitting19_9, o_least19_10, o_greatest19_11, o_rests19_12))
        else
        (some (1, o_fitting19_9, o_least19_10, o_greatest19_11, o_rests19_12))))
abbrev r_X11_sure : Room := { frames := 4, cells := 0, slots := 0, locals := 97 }
set_option maxHeartbeats 4000000 in
set_option maxRecDepth 100000 in
theorem c_X11_sure (l : Launch) (E : kE) (sz : Nat) (a0 a1 a2 a3 : Nat) (w0_0 w0_1 w0_2 w0_3 w0_4 w0_5 w0_7 w0_8 : Value) (s_blips_many : Int32) (s_blips_fitting : Int32) (s_blips_least : Int32) (s_blips_greatest : Int32) (s_blips_rests : Nat → Int32) (s_blips_times : Nat → Int32) (p1 : Int32) (p2 : Int32) (p3 : Int32) (r : Int32) (o_blips_fitting : Int32) (o_blips_least : Int32) (o_blips_greatest : Int32) (o_blips_rests : Nat → Int32) (h : f_X11_sure s_blips_many s_blips_fitting s_blips_least s_blips_greatest s_blips_rests s_blips_times p1 p2 p3 = some (r, o_blips_fitting, o_blips_least, o_blips_greatest, o_blips_rests)) : kMi l yX11_sure cX11_sure 4 (some .int) r_X11_sure [.ref a0, .int p1, .int p2, .int p3] E [(a0, .inr (11, [w0_0, w0_1, w0_2, w0_3, w0_4, w0_5, .ref a1, w0_7, w0_8])), (a1, .inr (0, [.ref a3, .ref a2, .int s_blips_many, .int s_blips_fitting, .int s_blips_least, .int s_blips_greatest])), (a2, .inl (E.2 0, 40, .inl s_blips_rests)), (a3, .inl (E.2 0, 40, .inl s_blips_times))] sz 0 0 (fun x (_ : Unit) => x = r) (fun _ => [(a0, .inr (11, [w0_0, w0_1, w0_2, w0_3, w0_4, w0_5, .ref a1, w0_7, w0_8])), (a1, .inr (0, [.ref a3, .ref a2, .int s_blips_many, .int o_blips_fitting, .int o_blips_least, .int o_blips_greatest])), (a2, .inl (E.2 0, 40, .inl o_blips_rests)), (a3, .inl (E.2 0, 40, .inl s_blips_times))]) := by
  refine kmeti rfl (Nat.le_of_ble_eq_true rfl) ?_
  intro p e s m args below meth c ls A Q X hV hret hl
  have X : kC p s m c cX11_sure 4 RX11 args E A := X
  have hx := X.1
  have hb := X.2.1
  have hl : lv_has ls 4 [(0, .ref a0), (1, .int p1), (2, .int p2), (3, .int p3)] := hl
  rw [f_X11_sure] at h
  refine lv_aload_n hx hb dX11_sure_0 rfl (lv_at hl 0 rfl) ?_
  refine lv_iload_n hx hb dX11_sure_1 rfl (lv_at hl 1 rfl) ?_
  refine lv_iload_n hx hb dX11_sure_2 rfl (lv_at hl 2 rfl) ?_
  refine lv_iload_n hx hb dX11_sure_3 rfl (lv_at hl 3 rfl) ?_
  obtain ⟨r4_1, hc2, h3⟩ := cb1_s h
  clear h
  refine kgoiE (krunV (rest := []) X hV [0, 1] (c_X11_canScan l E _ a0 a1 (w0_0) (w0_1) (w0_2) (w0_3) (w0_4) (w0_5) (w0_7) (w0_8) (.ref a3) (.ref a2) (.int s_blips_fitting) (.int s_blips_least) (.int s_blips_greatest) s_blips_many p1 p2 p3 r4_1 hc2) mw_1026 kb_X11_canScan (ci := 11) rfl rfl (by decide) rfl rfl hl.1 rfl (Nat.le_of_ble_eq_true rfl) dX11_sure_4 (by decide)) X hV [0, 1] [2, 3] rfl rfl rfl (by decide) (fun u H locs hV4 => ?_)
  have hV4 : kV E A s.heap H locs [(a0, .inr (11, [w0_0, w0_1, w0_2, w0_3, w0_4, w0_5, .ref a1, w0_7, w0_8])), (a1, .inr (0, [.ref a3, .ref a2, .int s_blips_many, .int s_blips_fitting, .int s_blips_least, .int s_blips_greatest])), (a2, .inl (E.2 0, 40, .inl s_blips_rests)), (a3, .inl (E.2 0, 40, .inl s_blips_times))] := hV4.sub [2, 3, 0, 1] rfl rfl
  clear hV
  refine lv_if_ne (tgt := 12) hx hb dX11_sure_7 (by decide) (fun c6 => ?_) (fun c6 => ?_)
  · have h7 := ieS c6 h3
    clear h3 c6
    refine lv_aload_n hx hb dX11_sure_12 rfl (lv_at hl 0 rfl) ?_
    refine kget X hV4 (ci := 11) inlX11 rfl 0 rfl 6 (by decide) mw_37 rfl dX11_sure_13 ?_
    refine lv_iload_n hx hb dX11_sure_16 rfl (lv_at hl 1 rfl) ?_
    refine lv_iload_n hx hb dX11_sure_17 rfl (lv_at hl 2 rfl) ?_
    refine lv_iload_n hx hb dX11_sure_18 rfl (lv_at hl 3 rfl) ?_
    obtain ⟨o_fitting19_9, o_least19_10, o_greatest19_11, o_rests19_12, hc13, h14⟩ := cb4_s h7
    clear h7
    refine kgov (krunV (rest := []) X hV4 [1, 2, 3] (c_X0_scan l E _ a1 a2 a3 s_blips_many s_blips_fitting s_blips_least s_blips_greatest s_blips_rests s_blips_times p1 p2 p3 o_fitting19_9 o_least19_10 o_greatest19_11 o_rests19_12 hc13) mw_1030 kb_X0_scan (ci := 0) rfl rfl (by decide) rfl rfl hl.1 rfl (Nat.le_of_ble_eq_true rfl) dX11_sure_19 (by decide)) X hV4 [1, 2, 3] [0] rfl rfl rfl (by decide) (fun u H locs hp16 hV15 => ?_)
    have hV15 : kV E A s.heap H locs [(a0, .inr (11, [w0_0, w0_1, w0_2, w0_3, w0_4, w0_5, .ref a1, w0_7, w0_8])), (a1, .inr (0, [.ref a3, .ref a2, .int s_blips_many, .int o_fitting19_9, .int o_least19_10, .int o_greatest19_11])), (a2, .inl (E.2 0, 40, .inl o_rests19_12)), (a3, .inl (E.2 0, 40, .inl s_blips_times))] := hV15.sub [0, 1, 2, 3] rfl rfl
    clear hV4
    refine lv_aload_n hx hb dX11_sure_22 rfl (lv_at hl 0 rfl) ?_
    refine kget X hV15 (ci := 11) inlX11 rfl 0 rfl 6 (by decide) mw_37 rfl dX11_sure_23 ?_
    refine kget X hV15 (ci := 0) inlX0 rfl 1 rfl 3 (by decide) mw_1023 rfl dX11_sure_26 ?_
    refine lv_if_ne (tgt := 35) hx hb dX11_sure_29 (by decide) (fun c17 => ?_) (fun c17 => ?_)
    · have h18 := ieS c17 h14
      clear h14 c17
      refine lv_aload_n hx hb dX11_sure_35 rfl (lv_at hl 0 rfl) ?_
      refine kget X hV15 (ci := 11) inlX11 rfl 0 rfl 6 (by decide) mw_37 rfl dX11_sure_36 ?_
      refine lv_aload_n hx hb dX11_sure_39 rfl (lv_at hl 0 rfl) ?_
      refine kget X hV15 (ci := 11) inlX11 rfl 0 rfl 6 (by decide) mw_37 rfl dX11_sure_40 ?_
      refine kget X hV15 (ci := 0) inlX0 rfl 1 rfl 4 (by decide) mw_1024 rfl dX11_sure_43 ?_
      refine lv_aload_n hx hb dX11_sure_46 rfl (lv_at hl 0 rfl) ?_
      refine kget X hV15 (ci := 11) inlX11 rfl 0 rfl 6 (by decide) mw_37 rfl dX11_sure_47 ?_
      refine kget X hV15 (ci := 0) inlX0 rfl 1 rfl 5 (by decide) mw_1025 rfl dX11_sure_50 ?_
      obtain ⟨r53_20, hc21, h22⟩ := cb1_s h18
      clear h18
      refine kgoiE (krunV (rest := []) X hV15 [1, 3] (c_X0_countAlike l E _ a1 a3 (.ref a2) (.int o_fitting19_9) (.int o_least19_10) (.int o_greatest19_11) s_blips_many s_blips_times o_least19_10 o_greatest19_11 r53_20 hc21) mw_1071 kb_X0_countAlike (ci := 0) rfl rfl (by decide) rfl rfl hl.1 rfl (Nat.le_of_ble_eq_true rfl) dX11_sure_53 (by decide)) X hV15 [1, 3] [0, 2] rfl rfl rfl (by decide) (fun u H locs hV23 => ?_)
      have hV23 : kV E A s.heap H locs [(a0, .inr (11, [w0_0, w0_1, w0_2, w0_3, w0_4, w0_5, .ref a1, w0_7, w0_8])), (a1, .inr (0, [.ref a3, .ref a2, .int s_blips_many, .int o_fitting19_9, .int o_least19_10, .int o_greatest19_11])), (a2, .inl (E.2 0, 40, .inl o_rests19_12)), (a3, .inl (E.2 0, 40, .inl s_blips_times))] := hV23.sub [0, 2, 1, 3] rfl rfl
      clear hV15
      refine lv_if_eq (tgt := 63) hx hb dX11_sure_56 (by decide) (fun c25 => ?_) (fun c25 => ?_)
      · have h26 := itS c25 h22
        clear h22 c25
        refine lv_iconst (v := 0) hx hb dX11_sure_63 (by decide) ?_
        obtain ⟨q28, q29, q30, q31, q32⟩ := tup5_s h26
        clear h26
        exact hret _ () _ _ _ _ q28 rfl (by rw [← q29, ← q30, ← q31, ← q32]; exact hV23) dX11_sure_64
      · have h27 := ieS c25 h22
        clear h22 c25
        refine lv_iconst (v := 1) hx hb dX11_sure_59 (by decide) ?_
        refine lv_goto (tgt := 64) hx hb dX11_sure_60 (by decide) ?_
        obtain ⟨q33, q34, q35, q36, q37⟩ := tup5_s h27
        clear h27
        exact hret _ () _ _ _ _ q33 rfl (by rw [← q34, ← q35, ← q36, ← q37]; exact hV23) dX11_sure_64
    · have h19 := itS c17 h14
      clear h14 c17
      refine lv_bipush (v := (-2)) hx hb dX11_sure_32 (by decide) ?_
      obtain ⟨q38, q39, q40, q41, q42⟩ := tup5_s h19
      clear h19
      exact hret _ () _ _ _ _ q38 rfl (by rw [← q39, ← q40, ← q41, ← q42]; exact hV15) dX11_sure_34
  · have h8 := itS c6 h3
    clear h3 c6
    refine lv_iconst (v := (-1)) hx hb dX11_sure_10 (by decide) ?_
    obtain ⟨q43, q44, q45, q46, q47⟩ := tup5_s h8
    clear h8
    exact hret _ () _ _ _ _ q43 rfl (by rw [← q44, ← q45, ← q46, ← q47]; exact hV4) dX11_sure_11
noncomputable def f_X11_lost (s_blips_many : Int32) (s_blips_fitting : Int32) (s_blips_least : Int32) (s_blips_greatest : Int32) (s_blips_rests : Nat → Int32) (s_blips_times : Nat → Int32) (p1 : Int32) (p2 : Int32) (p3 : Int32) : Option (Int32 × Int32 × Int32 × Int32 × (Nat → Int32)) :=
    cb1 (f_X11_canScan s_blips_many p1 p2 p3) fun r4_1 =>
    if r4_1 = 0 then
    (some ((-1), s_blips_fitting, s_blips_least, s_blips_greatest, s_blips_rests))
    else
    (cb4 (f_X0_scan s_blips_many s_blips_fitting s_blips_least s_blips_greatest s_blips_rests s_blips_times p1 p2 p3) fun o_fitting19_9 o_least19_10 o_greatest19_11 o_rests19_12 =>
      cb1 (f_X0_beatsTillLost o_least19_10 o_greatest19_11) fun r26_17 =>
      some (r26_17, o_fitting19_9, o_least19_10, o_greatest19_11, o_rests19_12))
abbrev r_X11_lost : Room := { frames := 4, cells := 0, slots := 0, locals := 97 }
set_option maxHeartbeats 4000000 in
set_option maxRecDepth 100000 in
theorem c_X11_lost (l : Launch) (E : kE) (sz : Nat) (a0 a1 a2 a3 : Nat) (w0_0 w0_1 w0_2 w0_3 w0_4 w0_5 w0_7 w0_8 : Value) (s_blips_many : Int32) (s_blips_fitting : Int32) (s_blips_least : Int32) (s_blips_greatest : Int32) (s_blips_rests : Nat → Int32) (s_blips_times : Nat → Int32) (p1 : Int32) (p2 : Int32) (p3 : Int32) (r : Int32) (o_blips_fitting : Int32) (o_blips_least : Int32) (o_blips_greatest : Int32) (o_blips_rests : Nat → Int32) (h : f_X11_lost s_blips_many s_blips_fitting s_blips_least s_blips_greatest s_blips_rests s_blips_times p1 p2 p3 = some (r, o_blips_fitting, o_blips_least, o_blips_greatest, o_blips_rests)) : kMi l yX11_lost cX11_lost 4 (some .int) r_X11_lost [.ref a0, .int p1, .int p2, .int p3] E [(a0, .inr (11, [w0_0, w0_1, w0_2, w0_3, w0_4, w0_5, .ref a1, w0_7, w0_8])), (a1, .inr (0, [.ref a3, .ref a2, .int s_blips_many, .int s_blips_fitting, .int s_blips_least, .int s_blips_greatest])), (a2, .inl (E.2 0, 40, .inl s_blips_rests)), (a3, .inl (E.2 0, 40, .inl s_blips_times))] sz 0 0 (fun x (_ : Unit) => x = r) (fun _ => [(a0, .inr (11, [w0_0, w0_1, w0_2, w0_3, w0_4, w0_5, .ref a1, w0_7, w0_8])), (a1, .inr (0, [.ref a3, .ref a2, .int s_blips_many, .int o_blips_fitting, .int o_blips_least, .int o_blips_greatest])), (a2, .inl (E.2 0, 40, .inl o_blips_rests)), (a3, .inl (E.2 0, 40, .inl s_blips_times))]) := by
  refine kmeti rfl (Nat.le_of_ble_eq_true rfl) ?_
  intro p e s m args below meth c ls A Q X hV hret hl
  have X : kC p s m c cX11_lost 4 RX11 args E A := X
  have hx := X.1
  have hb := X.2.1
  have hl : lv_has ls 4 [(0, .ref a0), (1, .int p1), (2, .int p2), (3, .int p3)] := hl
  rw [f_X11_lost] at h
  refine lv_aload_n hx hb dX11_lost_0 rfl (lv_at hl 0 rfl) ?_
  refine lv_iload_n hx hb dX11_lost_1 rfl (lv_at hl 1 rfl) ?_
  refine lv_iload_n hx hb dX11_lost_2 rfl (lv_at hl 2 rfl) ?_
  refine lv_iload_n hx hb dX11_lost_3 rfl (lv_at hl 3 rfl) ?_
  obtain ⟨r4_1, hc2, h3⟩ := cb1_s h
  clear h
  refine kgoiE (krunV (rest := []) X hV [0, 1] (c_X11_canScan l E _ a0 a1 (w0_0) (w0_1) (w0_2) (w0_3) (w0_4) (w0_5) (w0_7) (w0_8) (.ref a3) (.ref a2) (.int s_blips_fitting) (.int s_blips_least) (.int s_blips_greatest) s_blips_many p1 p2 p3 r4_1 hc2) mw_1026 kb_X11_canScan (ci := 11) rfl rfl (by decide) rfl rfl hl.1 rfl (Nat.le_of_ble_eq_true rfl) dX11_lost_4 (by decide)) X hV [0, 1] [2, 3] rfl rfl rfl (by decide) (fun u H locs hV4 => ?_)
  have hV4 : kV E A s.heap H locs [(a0, .inr (11, [w0_0, w0_1, w0_2, w0_3, w0_4, w0_5, .ref a1, w0_7, w0_8])), (a1, .inr (0, [.ref a3, .ref a2, .int s_blips_many, .int s_blips_fitting, .int s_blips_least, .int s_blips_greatest])), (a2, .inl (E.2 0, 40, .inl s_blips_rests)), (a3, .inl (E.2 0, 40, .inl s_blips_times))] := hV4.sub [2, 3, 0, 1] rfl rfl
  clear hV
  refine lv_if_ne (tgt := 12) hx hb dX11_lost_7 (by decide) (fun c6 => ?_) (fun c6 => ?_)
  · have h7 := ieS c6 h3
    clear h3 c6
    refine lv_aload_n hx hb dX11_lost_12 rfl (lv_at hl 0 rfl) ?_
    refine kget X hV4 (ci := 11) inlX11 rfl 0 rfl 6 (by decide) mw_37 rfl dX11_lost_13 ?_
    refine lv_iload_n hx hb dX11_lost_16 rfl (lv_at hl 1 rfl) ?_
    refine lv_iload_n hx hb dX11_lost_17 rfl (lv_at hl 2 rfl) ?_
    refine lv_iload_n hx hb dX11_lost_18 rfl (lv_at hl 3 rfl) ?_
    obtain ⟨o_fitting19_9, o_least19_10, o_greatest19_11, o_rests19_12, hc13, h14⟩ := cb4_s h7
    clear h7
    refine kgov (krunV (rest := []) X hV4 [1, 2, 3] (c_X0_scan l E _ a1 a2 a3 s_blips_many s_blips_fitting s_blips_least s_blips_greatest s_blips_rests s_blips_times p1 p2 p3 o_fitting19_9 o_least19_10 o_greatest19_11 o_rests19_12 hc13) mw_1030 kb_X0_scan (ci := 0) rfl rfl (by decide) rfl rfl hl.1 rfl (Nat.le_of_ble_eq_true rfl) dX11_lost_19 (by decide)) X hV4 [1, 2, 3] [0] rfl rfl rfl (by decide) (fun u H locs hp16 hV15 => ?_)
    have hV15 : kV E A s.heap H locs [(a0, .inr (11, [w0_0, w0_1, w0_2, w0_3, w0_4, w0_5, .ref a1, w0_7, w0_8])), (a1, .inr (0, [.ref a3, .ref a2, .int s_blips_many, .int o_fitting19_9, .int o_least19_10, .int o_greatest19_11])), (a2, .inl (E.2 0, 40, .inl o_rests19_12)), (a3, .inl (E.2 0, 40, .inl s_blips_times))] := hV15.sub [0, 1, 2, 3] rfl rfl
    clear hV4
    refine lv_aload_n hx hb dX11_lost_22 rfl (lv_at hl 0 rfl) ?_
    refine kget X hV15 (ci := 11) inlX11 rfl 0 rfl 6 (by decide) mw_37 rfl dX11_lost_23 ?_
    obtain ⟨r26_17, hc18, h19⟩ := cb1_s h14
    clear h14
    refine kgoiE (krunV (rest := []) X hV15 [1] (c_X0_beatsTillLost l E _ a1 (.ref a3) (.ref a2) (.int s_blips_many) (.int o_fitting19_9) o_least19_10 o_greatest19_11 r26_17 hc18) mw_1084 kb_X0_beatsTillLost (ci := 0) rfl rfl (by decide) rfl rfl hl.1 rfl (Nat.le_of_ble_eq_true rfl) dX11_lost_26 (by decide)) X hV15 [1] [0, 2, 3] rfl rfl rfl (by decide) (fun u H locs hV20 => ?_)
    have hV20 : kV E A s.heap H locs [(a0, .inr (11, [w0_0, w0_1, w0_2, w0_3, w0_4, w0_5, .ref a1, w0_7, w0_8])), (a1, .inr (0, [.ref a3, .ref a2, .int s_blips_many, .int o_fitting19_9, .int o_least19_10, .int o_greatest19_11])), (a2, .inl (E.2 0, 40, .inl o_rests19_12)), (a3, .inl (E.2 0, 40, .inl s_blips_times))] := hV20.sub [0, 3, 1, 2] rfl rfl
    clear hV15
    obtain ⟨q22, q23, q24, q25, q26⟩ := tup5_s h19
    clear h19
    exact hret _ () _ _ _ _ q22 rfl (by rw [← q23, ← q24, ← q25, ← q26]; exact hV20) dX11_lost_29
  · have h8 := itS c6 h3
    clear h3 c6
    refine lv_iconst (v := (-1)) hx hb dX11_lost_10 (by decide) ?_
    obtain ⟨q27, q28, q29, q30, q31⟩ := tup5_s h8
    clear h8
    exact hret _ () _ _ _ _ q27 rfl (by rw [← q28, ← q29, ← q30, ← q31]; exact hV4) dX11_lost_11
noncomputable def f_X11_night (s_nights_many : Int32) (s_nights_days : Nat → Int32) (s_nights_shifts : Nat → Int32) (p1 : Int32) (p2 : Int32) : Option (Int32 × Int32 × (Nat → Int32) × (Nat → Int32)) :=
    cb1 (f_X11_isDay p1) fun r1_1 =>
    if r1_1 = 0 then
    (some ((-1), s_nights_many, s_nights_days, s_nights_shifts))
    else
    (cb1 (f_X11_isWithin p2 (-100000) 100000) fun r12_13 =>
      if r12_13 = 0 then
      (some ((-1), s_nights_many, s_nights_days, s_nights_shifts))
      else
      (cb4 (f_X2_add s_nights_many s_nights_days s_nights_shifts p1 p2) fun r24_25 o_many24_26 o_days24_27 o_shifts24_28 =>
        some (r24_25, o_many24_26, o_days24_27, o_shifts24_28)))
abbrev r_X11_night : Room := { frames := 2, cells := 0, slots := 0, locals := 42 }
set_option maxHeartbeats 4000000 in
set_option maxRecDepth 100000 in
theorem c_X11_night (l : Launch) (E : kE) (sz : Nat) (a0 a1 a2 a3 : Nat) (w0_0 w0_1 w0_2 w0_3 w0_4 w0_5 w0_6 w0_8 w1_2 w1_3 w1_4 : Value) (s_nights_many : Int32) (s_nights_days : Nat → Int32) (s_nights_shifts : Nat → Int32) (p1 : Int32) (p2 : Int32) (r : Int32) (o_nights_many : Int32) (o_nights_days : Nat → Int32) (o_nights_shifts : Nat → Int32) (h : f_X11_night s_nights_many s_nights_days s_nights_shifts p1 p2 = some (r, o_nights_many, o_nights_days, o_nights_shifts)) : kMi l yX11_night cX11_night 3 (some .int) r_X11_night [.ref a0, .int p1, .int p2] E [(a0, .inr (11, [w0_0, w0_1, w0_2, w0_3, w0_4, w0_5, w0_6, .ref a1, w0_8])), (a1, .inr (2, [.ref a2, .ref a3, w1_2, w1_3, w1_4, .int s_nights_many])), (a2, .inl (E.2 0, 30, .inl s_nights_days)), (a3, .inl (E.2 0, 30, .inl s_nights_shifts))] sz 0 0 (fun x (_ : Unit) => x = r) (fun _ => [(a0, .inr (11, [w0_0, w0_1, w0_2, w0_3, w0_4, w0_5, w0_6, .ref a1, w0_8])), (a1, .inr (2, [.ref a2, .ref a3, w1_2, w1_3, w1_4, .int o_nights_many])), (a2, .inl (E.2 0, 30, .inl o_nights_days)), (a3, .inl (E.2 0, 30, .inl o_nights_shifts))]) := by
  refine kmeti rfl (Nat.le_of_ble_eq_true rfl) ?_
  intro p e s m args below meth c ls A Q X hV hret hl
  have X : kC p s m c cX11_night 3 RX11 args E A := X
  have hx := X.1
  have hb := X.2.1
  have hl : lv_has ls 3 [(0, .ref a0), (1, .int p1), (2, .int p2)] := hl
  rw [f_X11_night] at h
  refine lv_iload_n hx hb dX11_night_0 rfl (lv_at hl 1 rfl) ?_
  obtain ⟨r1_1, hc2, h3⟩ := cb1_s h
  clear h
  refine kgoiE (krunS (rest := []) X hV [] (c_X11_isDay l E _ p1 r1_1 hc2) mw_622 kb_X11_isDay (by decide) rfl rfl hl.1 rfl (Nat.le_of_ble_eq_true rfl) dX11_night_1 (by decide)) X hV [] [0, 1, 2, 3] rfl rfl rfl (by decide) (fun u H locs hV4 => ?_)
  have hV4 : kV E A s.heap H locs [(a0, .inr (11, [w0_0, w0_1, w0_2, w0_3, w0_4, w0_5, w0_6, .ref a1, w0_8])), (a1, .inr (2, [.ref a2, .ref a3, w1_2, w1_3, w1_4, .int s_nights_many])), (a2, .inl (E.2 0, 30, .inl s_nights_days)), (a3, .inl (E.2 0, 30, .inl s_nights_shifts))] := hV4.sub [0, 1, 2, 3] rfl rfl
  clear hV
  refine lv_if_eq (tgt := 30) hx hb dX11_night_4 (by decide) (fun c6 => ?_) (fun c6 => ?_)
  · have h7 := itS c6 h3
    clear h3 c6
    refine lv_iconst (v := (-1)) hx hb dX11_night_30 (by decide) ?_
    obtain ⟨q9, q10, q11, q12⟩ := tup4_s h7
    clear h7
    exact hret _ () _ _ _ _ q9 rfl (by rw [← q10, ← q11, ← q12]; exact hV4) dX11_night_31
  · have h8 := ieS c6 h3
    clear h3 c6
    refine lv_iload_n hx hb dX11_night_7 rfl (lv_at hl 2 rfl) ?_
    refine lv_ldc (v := (-100000)) hx hb X.2.2.2.1 (X.2.2.2.2.1 _ mw_1096) dX11_night_8 ?_
    refine lv_ldc (v := 100000) hx hb X.2.2.2.1 (X.2.2.2.2.1 _ mw_1097) dX11_night_10 ?_
    obtain ⟨r12_13, hc14, h15⟩ := cb1_s h8
    clear h8
    refine kgoiE (krunS (rest := []) X hV4 [] (c_X11_isWithin l E _ p2 (-100000) 100000 r12_13 hc14) mw_187 kb_X11_isWithin (by decide) rfl rfl hl.1 rfl (Nat.le_of_ble_eq_true rfl) dX11_night_12 (by decide)) X hV4 [] [0, 1, 2, 3] rfl rfl rfl (by decide) (fun u H locs hV16 => ?_)
    have hV16 : kV E A s.heap H locs [(a0, .inr (11, [w0_0, w0_1, w0_2, w0_3, w0_4, w0_5, w0_6, .ref a1, w0_8])), (a1, .inr (2, [.ref a2, .ref a3, w1_2, w1_3, w1_4, .int s_nights_many])), (a2, .inl (E.2 0, 30, .inl s_nights_days)), (a3, .inl (E.2 0, 30, .inl s_nights_shifts))] := hV16.sub [0, 1, 2, 3] rfl rfl
    clear hV4
    refine lv_if_eq (tgt := 30) hx hb dX11_night_15 (by decide) (fun c18 => ?_) (fun c18 => ?_)
    · have h19 := itS c18 h15
      clear h15 c18
      refine lv_iconst (v := (-1)) hx hb dX11_night_30 (by decide) ?_
      obtain ⟨q21, q22, q23, q24⟩ := tup4_s h19
      clear h19
      exact hret _ () _ _ _ _ q21 rfl (by rw [← q22, ← q23, ← q24]; exact hV16) dX11_night_31
    · have h20 := ieS c18 h15
      clear h15 c18
      refine lv_aload_n hx hb dX11_night_18 rfl (lv_at hl 0 rfl) ?_
      refine kget X hV16 (ci := 11) inlX11 rfl 0 rfl 7 (by decide) mw_41 rfl dX11_night_19 ?_
      refine lv_iload_n hx hb dX11_night_22 rfl (lv_at hl 1 rfl) ?_
      refine lv_iload_n hx hb dX11_night_23 rfl (lv_at hl 2 rfl) ?_
      obtain ⟨r24_25, o_many24_26, o_days24_27, o_shifts24_28, hc29, h30⟩ := cb4_s h20
      clear h20
      refine kgoiE (krunV (rest := []) X hV16 [1, 2, 3] (c_X2_add l E _ a1 a2 a3 (w1_2) (w1_3) (w1_4) s_nights_many s_nights_days s_nights_shifts p1 p2 r24_25 o_many24_26 o_days24_27 o_shifts24_28 hc29) mw_1098 kb_X2_add (ci := 2) rfl rfl (by decide) rfl rfl hl.1 rfl (Nat.le_of_ble_eq_true rfl) dX11_night_24 (by decide)) X hV16 [1, 2, 3] [0] rfl rfl rfl (by decide) (fun u H locs hV31 => ?_)
      have hV31 : kV E A s.heap H locs [(a0, .inr (11, [w0_0, w0_1, w0_2, w0_3, w0_4, w0_5, w0_6, .ref a1, w0_8])), (a1, .inr (2, [.ref a2, .ref a3, w1_2, w1_3, w1_4, .int o_many24_26])), (a2, .inl (E.2 0, 30, .inl o_days24_27)), (a3, .inl (E.2 0, 30, .inl o_shifts24_28))] := hV31.sub [0, 1, 2, 3] rfl rfl
      clear hV16
      refine lv_goto (tgt := 31) hx hb dX11_night_27 (by decide) ?_
      obtain ⟨q33, q34, q35, q36⟩ := tup4_s h30
      clear h30
      exact hret _ () _ _ _ _ q33 rfl (by rw [← q34, ← q35, ← q36]; exact hV31) dX11_night_31
noncomputable def f_X11_bound (s_nights_many : Int32) (s_nights_days : Nat → Int32) (s_nights_shifts : Nat → Int32) (p1 : Int32) (p2 : Int32) : Option (Int32) :=
    cb1 (f_X11_isWithin p1 4 400) fun r5_1 =>
    if r5_1 = 0 then
    (some ((-1)))
    else
    (cb1 (f_X11_isNightError p2) fun r12_10 =>
      if r12_10 = 0 then
      (some ((-1)))
      else
      (cb1 (f_X2_greatestOrbit s_nights_many s_nights_days s_nights_shifts p1 p2) fun r26_18 =>
        some (r26_18)))
abbrev r_X11_bound : Room := { frames := 3, cells := 0, slots := 0, locals := 78 }
set_option maxHeartbeats 4000000 in
set_option maxRecDepth 100000 in
theorem c_X11_bound (l : Launch) (E : kE) (sz : Nat) (a0 a1 a2 a3 : Nat) (w0_0 w0_1 w0_2 w0_3 w0_4 w0_5 w0_6 w0_8 w1_2 w1_3 w1_4 : Value) (s_nights_many : Int32) (s_nights_days : Nat → Int32) (s_nights_shifts : Nat → Int32) (p1 : Int32) (p2 : Int32) (r : Int32) (h : f_X11_bound s_nights_many s_nights_days s_nights_shifts p1 p2 = some (r)) : kMi l yX11_bound cX11_bound 3 (some .int) r_X11_bound [.ref a0, .int p1, .int p2] E [(a0, .inr (11, [w0_0, w0_1, w0_2, w0_3, w0_4, w0_5, w0_6, .ref a1, w0_8])), (a1, .inr (2, [.ref a2, .ref a3, w1_2, w1_3, w1_4, .int s_nights_many])), (a2, .inl (E.2 0, 30, .inl s_nights_days)), (a3, .inl (E.2 0, 30, .inl s_nights_shifts))] sz 0 0 (fun x (_ : Unit) => x = r) (fun _ => [(a0, .inr (11, [w0_0, w0_1, w0_2, w0_3, w0_4, w0_5, w0_6, .ref a1, w0_8])), (a1, .inr (2, [.ref a2, .ref a3, w1_2, w1_3, w1_4, .int s_nights_many])), (a2, .inl (E.2 0, 30, .inl s_nights_days)), (a3, .inl (E.2 0, 30, .inl s_nights_shifts))]) := by
  refine kmeti rfl (Nat.le_of_ble_eq_true rfl) ?_
  intro p e s m args below meth c ls A Q X hV hret hl
  have X : kC p s m c cX11_bound 3 RX11 args E A := X
  have hx := X.1
  have hb := X.2.1
  have hl : lv_has ls 3 [(0, .ref a0), (1, .int p1), (2, .int p2)] := hl
  rw [f_X11_bound] at h
  refine lv_iload_n hx hb dX11_bound_0 rfl (lv_at hl 1 rfl) ?_
  refine lv_iconst (v := 4) hx hb dX11_bound_1 (by decide) ?_
  refine lv_sipush (v := 400) hx hb dX11_bound_2 (by decide) ?_
  obtain ⟨r5_1, hc2, h3⟩ := cb1_s h
  clear h
  refine kgoiE (krunS (rest := []) X hV [] (c_X11_isWithin l E _ p1 4 400 r5_1 hc2) mw_187 kb_X11_isWithin (by decide) rfl rfl hl.1 rfl (Nat.le_of_ble_eq_true rfl) dX11_bound_5 (by decide)) X hV [] [0, 1, 2, 3] rfl rfl rfl (by decide) (fun u H locs hV4 => ?_)
  have hV4 : kV E A s.heap H locs [(a0, .inr (11, [w0_0, w0_1, w0_2, w0_3, w0_4, w0_5, w0_6, .ref a1, w0_8])), (a1, .inr (2, [.ref a2, .ref a3, w1_2, w1_3, w1_4, .int s_nights_many])), (a2, .inl (E.2 0, 30, .inl s_nights_days)), (a3, .inl (E.2 0, 30, .inl s_nights_shifts))] := hV4.sub [0, 1, 2, 3] rfl rfl
  clear hV
  refine lv_if_eq (tgt := 18) hx hb dX11_bound_8 (by decide) (fun c6 => ?_) (fun c6 => ?_)
  · have h7 := itS c6 h3
    clear h3 c6
    refine lv_iconst (v := (-1)) hx hb dX11_bound_18 (by decide) ?_
    have q9 := tup1_s h7
    clear h7
    exact hret _ () _ _ _ _ q9 rfl hV4 dX11_bound_19
  · have h8 := ieS c6 h3
    clear h3 c6
    refine lv_iload_n hx hb dX11_bound_11 rfl (lv_at hl 2 rfl) ?_
    obtain ⟨r12_10, hc11, h12⟩ := cb1_s h8
    clear h8
    refine kgoiE (krunS (rest := []) X hV4 [] (c_X11_isNightError l E _ p2 r12_10 hc11) mw_1146 kb_X11_isNightError (by decide) rfl rfl hl.1 rfl (Nat.le_of_ble_eq_true rfl) dX11_bound_12 (by decide)) X hV4 [] [0, 1, 2, 3] rfl rfl rfl (by decide) (fun u H locs hV13 => ?_)
    have hV13 : kV E A s.heap H locs [(a0, .inr (11, [w0_0, w0_1, w0_2, w0_3, w0_4, w0_5, w0_6, .ref a1, w0_8])), (a1, .inr (2, [.ref a2, .ref a3, w1_2, w1_3, w1_4, .int s_nights_many])), (a2, .inl (E.2 0, 30, .inl s_nights_days)), (a3, .inl (E.2 0, 30, .inl s_nights_shifts))] := hV13.sub [0, 1, 2, 3] rfl rfl
    clear hV4
    refine lv_if_ne (tgt := 20) hx hb dX11_bound_15 (by decide) (fun c15 => ?_) (fun c15 => ?_)
    · have h16 := ieS c15 h12
      clear h12 c15
      refine lv_aload_n hx hb dX11_bound_20 rfl (lv_at hl 0 rfl) ?_
      refine kget X hV13 (ci := 11) inlX11 rfl 0 rfl 7 (by decide) mw_41 rfl dX11_bound_21 ?_
      refine lv_iload_n hx hb dX11_bound_24 rfl (lv_at hl 1 rfl) ?_
      refine lv_iload_n hx hb dX11_bound_25 rfl (lv_at hl 2 rfl) ?_
      obtain ⟨r26_18, hc19, h20⟩ := cb1_s h16
      clear h16
      refine kgoiE (krunV (rest := []) X hV13 [1, 2, 3] (c_X2_greatestOrbit l E _ a1 a2 a3 (w1_2) (w1_3) (w1_4) s_nights_many s_nights_days s_nights_shifts p1 p2 r26_18 hc19) mw_1185 kb_X2_greatestOrbit (ci := 2) rfl rfl (by decide) rfl rfl hl.1 rfl (Nat.le_of_ble_eq_true rfl) dX11_bound_26 (by decide)) X hV13 [1, 2, 3] [0] rfl rfl rfl (by decide) (fun u H locs hV21 => ?_)
      have hV21 : kV E A s.heap H locs [(a0, .inr (11, [w0_0, w0_1, w0_2, w0_3, w0_4, w0_5, w0_6, .ref a1, w0_8])), (a1, .inr (2, [.ref a2, .ref a3, w1_2, w1_3, w1_4, .int s_nights_many])), (a2, .inl (E.2 0, 30, .inl s_nights_days)), (a3, .inl (E.2 0, 30, .inl s_nights_shifts))] := hV21.sub [0, 1, 2, 3] rfl rfl
      clear hV13
      have q23 := tup1_s h20
      clear h20
      exact hret _ () _ _ _ _ q23 rfl hV21 dX11_bound_29
    · have h17 := itS c15 h12
      clear h12 c15
      refine lv_iconst (v := (-1)) hx hb dX11_bound_18 (by decide) ?_
      have q24 := tup1_s h17
      clear h17
      exact hret _ () _ _ _ _ q24 rfl hV13 dX11_bound_19
noncomputable def f_X11_there (s_lots_tens : Nat → Int32) (p1 : Int32) (p2 : Int32) : Option (Int32 × (Nat → Int32)) :=
    cb1 (f_X11_isWithin p1 0 39) fun r4_1 =>
    if r4_1 = 0 then
    (some (0, s_lots_tens))
    else
    (cb1 (f_X11_isWithin p2 0 10) fun r14_11 =>
      if r14_11 = 0 then
      (some (0, s_lots_tens))
      else
      (wrI s_lots_tens 40 p1 p2 fun g31_19 =>
        some (1, g31_19)))
abbrev r_X11_there : Room := { frames := 1, cells := 0, slots := 0, locals := 22 }
set_option maxHeartbeats 4000000 in
set_option maxRecDepth 100000 in
theorem c_X11_there (l : Launch) (E : kE) (sz : Nat) (a0 a1 a2 : Nat) (w0_0 w0_1 w0_2 w0_3 w0_4 w0_5 w0_6 w0_7 w1_1 w1_2 w1_3 : Value) (s_lots_tens : Nat → Int32) (p1 : Int32) (p2 : Int32) (r : Int32) (o_lots_tens : Nat → Int32) (h : f_X11_there s_lots_tens p1 p2 = some (r, o_lots_tens)) : kMi l yX11_there cX11_there 3 (some .boolean) r_X11_there [.ref a0, .int p1, .int p2] E [(a0, .inr (11, [w0_0, w0_1, w0_2, w0_3, w0_4, w0_5, w0_6, w0_7, .ref a1])), (a1, .inr (1, [.ref a2, w1_1, w1_2, w1_3])), (a2, .inl (E.2 0, 40, .inl s_lots_tens))] sz 0 0 (fun x (_ : Unit) => x = r) (fun _ => [(a0, .inr (11, [w0_0, w0_1, w0_2, w0_3, w0_4, w0_5, w0_6, w0_7, .ref a1])), (a1, .inr (1, [.ref a2, w1_1, w1_2, w1_3])), (a2, .inl (E.2 0, 40, .inl o_lots_tens))]) := by
  refine kmeti rfl (Nat.le_of_ble_eq_true rfl) ?_
  intro p e s m args below meth c ls A Q X hV hret hl
  have X : kC p s m c cX11_there 3 RX11 args E A := X
  have hx := X.1
  have hb := X.2.1
  have hl : lv_has ls 3 [(0, .ref a0), (1, .int p1), (2, .int p2)] := hl
  rw [f_X11_there] at h
  refine lv_iload_n hx hb dX11_there_0 rfl (lv_at hl 1 rfl) ?_
  refine lv_iconst (v := 0) hx hb dX11_there_1 (by decide) ?_
  refine lv_bipush (v := 39) hx hb dX11_there_2 (by decide) ?_
  obtain ⟨r4_1, hc2, h3⟩ := cb1_s h
  clear h
  refine kgoiE (krunS (rest := []) X hV [] (c_X11_isWithin l E _ p1 0 39 r4_1 hc2) mw_187 kb_X11_isWithin (by decide) rfl rfl hl.1 rfl (Nat.le_of_ble_eq_true rfl) dX11_there_4 (by decide)) X hV [] [0, 1, 2] rfl rfl rfl (by decide) (fun u H locs hV4 => ?_)
  have hV4 : kV E A s.heap H locs [(a0, .inr (11, [w0_0, w0_1, w0_2, w0_3, w0_4, w0_5, w0_6, w0_7, .ref a1])), (a1, .inr (1, [.ref a2, w1_1, w1_2, w1_3])), (a2, .inl (E.2 0, 40, .inl s_lots_tens))] := hV4.sub [0, 1, 2] rfl rfl
  clear hV
  refine lv_if_eq (tgt := 20) hx hb dX11_there_7 (by decide) (fun c6 => ?_) (fun c6 => ?_)
  · have h7 := itS c6 h3
    clear h3 c6
    refine lv_iconst (v := 0) hx hb dX11_there_20 (by decide) ?_
    obtain ⟨q9, q10⟩ := tup2_s h7
    clear h7
    exact hret _ () _ _ _ _ q9 rfl (by rw [← q10]; exact hV4) dX11_there_21
  · have h8 := ieS c6 h3
    clear h3 c6
    refine lv_iload_n hx hb dX11_there_10 rfl (lv_at hl 2 rfl) ?_
    refine lv_iconst (v := 0) hx hb dX11_there_11 (by decide) ?_
    refine lv_bipush (v := 10) hx hb dX11_there_12 (by decide) ?_
    obtain ⟨r14_11, hc12, h13⟩ := cb1_s h8
    clear h8
    refine kgoiE (krunS (rest := []) X hV4 [] (c_X11_isWithin l E _ p2 0 10 r14_11 hc12) mw_187 kb_X11_isWithin (by decide) rfl rfl hl.1 rfl (Nat.le_of_ble_eq_true rfl) dX11_there_14 (by decide)) X hV4 [] [0, 1, 2] rfl rfl rfl (by decide) (fun u H locs hV14 => ?_)
    have hV14 : kV E A s.heap H locs [(a0, .inr (11, [w0_0, w0_1, w0_2, w0_3, w0_4, w0_5, w0_6, w0_7, .ref a1])), (a1, .inr (1, [.ref a2, w1_1, w1_2, w1_3])), (a2, .inl (E.2 0, 40, .inl s_lots_tens))] := hV14.sub [0, 1, 2] rfl rfl
    clear hV4
    refine lv_if_ne (tgt := 22) hx hb dX11_there_17 (by decide) (fun c16 => ?_) (fun c16 => ?_)
    · have h17 := ieS c16 h13
      clear h13 c16
      refine lv_aload_n hx hb dX11_there_22 rfl (lv_at hl 0 rfl) ?_
      refine kget X hV14 (ci := 11) inlX11 rfl 0 rfl 8 (by decide) mw_45 rfl dX11_there_23 ?_
      refine kget X hV14 (ci := 1) inlX1 rfl 1 rfl 0 (by decide) mw_1216 rfl dX11_there_26 ?_
      refine lv_iload_n hx hb dX11_there_29 rfl (lv_at hl 1 rfl) ?_
      refine lv_iload_n hx hb dX11_there_30 rfl (lv_at hl 2 rfl) ?_
      obtain ⟨hi20, g31_19, e21, h22⟩ := wrI_s h17
      clear h17
      refine kiast X hV14 2 rfl hi20 e21 dX11_there_31 (fun H locs hV23 => ?_)
      have hV23 : kV E A s.heap H locs [(a0, .inr (11, [w0_0, w0_1, w0_2, w0_3, w0_4, w0_5, w0_6, w0_7, .ref a1])), (a1, .inr (1, [.ref a2, w1_1, w1_2, w1_3])), (a2, .inl (E.2 0, 40, .inl g31_19))] := hV23
      clear hV14 hi20 e21
      refine lv_iconst (v := 1) hx hb dX11_there_32 (by decide) ?_
      obtain ⟨q24, q25⟩ := tup2_s h22
      clear h22
      exact hret _ () _ _ _ _ q24 rfl (by rw [← q25]; exact hV23) dX11_there_33
    · have h18 := itS c16 h13
      clear h13 c16
      refine lv_iconst (v := 0) hx hb dX11_there_20 (by decide) ?_
      obtain ⟨q26, q27⟩ := tup2_s h18
      clear h18
      exact hret _ () _ _ _ _ q26 rfl (by rw [← q27]; exact hV14) dX11_there_21
