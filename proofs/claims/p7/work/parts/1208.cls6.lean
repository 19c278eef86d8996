noncomputable def f_X11_pen_J42 (s_lots_unseen : Int32) (s_lots_best : Nat → Int32) (s_lots_chosen : Nat → Int32) (s_lots_tens : Nat → Int32) (p1 : Int32) (p2 : Int32) (p3 : Int32)  (t0_6 : Int32) : Option (Int32 × Int32 × (Nat → Int32) × (Nat → Int32)) :=
    if t0_6 = 0 then
    (some ((-1), s_lots_unseen, s_lots_best, s_lots_chosen))
    else
    (if ((p1 - 1) * p2) < 40 then
      (cb3 (f_X1_choose s_lots_unseen s_lots_best s_lots_chosen s_lots_tens p1 p2) fun o_unseen67_18 o_best67_19 o_chosen67_20 =>
        if p3 = 6 then
        (some (o_unseen67_18, o_unseen67_18, o_best67_19, o_chosen67_20))
        else
        (rdI o_chosen67_20 6 p3 fun v94_28 =>
          some (v94_28, o_unseen67_18, o_best67_19, o_chosen67_20)))
      else
      (some ((-1), s_lots_unseen, s_lots_best, s_lots_chosen)))
noncomputable def f_X11_pen (s_lots_unseen : Int32) (s_lots_best : Nat → Int32) (s_lots_chosen : Nat → Int32) (s_lots_tens : Nat → Int32) (p1 : Int32) (p2 : Int32) (p3 : Int32) : Option (Int32 × Int32 × (Nat → Int32) × (Nat → Int32)) :=
    cb1 (f_X11_isWithin p1 1 6) fun r4_1 =>
    if r4_1 = 0 then
    ((f_X11_pen_J42 s_lots_unseen s_lots_best s_lots_chosen s_lots_tens p1 p2 p3 ) 0)
    else
    (cb1 (f_X11_isWithin p2 1 10) fun r14_47 =>
      if r14_47 = 0 then
      ((f_X11_pen_J42 s_lots_unseen s_lots_best s_lots_chosen s_lots_tens p1 p2 p3 ) 0)
      else
      (if p3 = 6 then
        ((f_X11_pen_J42 s_lots_unseen s_lots_best s_lots_chosen s_lots_tens p1 p2 p3 ) 1)
        else
        (cb1 (f_X11_isWithin p3 0 (p1 - 1)) fun r31_58 =>
          if r31_58 = 0 then
          ((f_X11_pen_J42 s_lots_unseen s_lots_best s_lots_chosen s_lots_tens p1 p2 p3 ) 0)
          else
          ((f_X11_pen_J42 s_lots_unseen s_lots_best s_lots_chosen s_lots_tens p1 p2 p3 ) 1))))
abbrev r_X11_pen : Room := { frames := 4, cells := 0, slots := 0, locals := 100 }
set_option maxHeartbeats 4000000 in
set_option maxRecDepth 100000 in
theorem c_X11_pen (l : Launch) (E : kE) (sz : Nat) (a0 a1 a2 a3 a4 : Nat) (w0_0 w0_1 w0_2 w0_3 w0_4 w0_5 w0_6 w0_7 : Value) (s_lots_unseen : Int32) (s_lots_best : Nat → Int32) (s_lots_chosen : Nat → Int32) (s_lots_tens : Nat → Int32) (p1 : Int32) (p2 : Int32) (p3 : Int32) (r : Int32) (o_lots_unseen : Int32) (o_lots_best : Nat → Int32) (o_lots_chosen : Nat → Int32) (h : f_X11_pen s_lots_unseen s_lots_best s_lots_chosen s_lots_tens p1 p2 p3 = some (r, o_lots_unseen, o_lots_best, o_lots_chosen)) : kMi l yX11_pen cX11_pen 5 (some .int) r_X11_pen [.ref a0, .int p1, .int p2, .int p3] E [(a0, .inr (11, [w0_0, w0_1, w0_2, w0_3, w0_4, w0_5, w0_6, w0_7, .ref a1])), (a1, .inr (1, [.ref a4, .ref a3, .ref a2, .int s_lots_unseen])), (a2, .inl (E.2 0, 287, .inl s_lots_best)), (a3, .inl (E.2 0, 6, .inl s_lots_chosen)), (a4, .inl (E.2 0, 40, .inl s_lots_tens))] sz 0 0 (fun x (_ : Unit) => x = r) (fun _ => [(a0, .inr (11, [w0_0, w0_1, w0_2, w0_3, w0_4, w0_5, w0_6, w0_7, .ref a1])), (a1, .inr (1, [.ref a4, .ref a3, .ref a2, .int o_lots_unseen])), (a2, .inl (E.2 0, 287, .inl o_lots_best)), (a3, .inl (E.2 0, 6, .inl o_lots_chosen)), (a4, .inl (E.2 0, 40, .inl s_lots_tens))]) := by
  refine kmeti rfl (Nat.le_of_ble_eq_true rfl) ?_
  intro p e s m args below meth c ls A Q X hV hret hl
  have X : kC p s m c cX11_pen 5 RX11 args E A := X
  have hx := X.1
  have hb := X.2.1
  have hl : lv_has ls 5 [(0, .ref a0), (1, .int p1), (2, .int p2), (3, .int p3)] := hl
  rw [f_X11_pen] at h
  refine lv_iload_n hx hb dX11_pen_0 rfl (lv_at hl 1 rfl) ?_
  refine lv_iconst (v := 1) hx hb dX11_pen_1 (by decide) ?_
  refine lv_bipush (v := 6) hx hb dX11_pen_2 (by decide) ?_
  obtain ⟨r4_1, hc2, h3⟩ := cb1_s h
  clear h
  refine kgoiE (krunS (rest := []) X hV [] (c_X11_isWithin l E _ p1 1 6 r4_1 hc2) mw_187 kb_X11_isWithin (by decide) rfl rfl hl.1 rfl (Nat.le_of_ble_eq_true rfl) dX11_pen_4 (by decide)) X hV [] [0, 1, 2, 3, 4] rfl rfl rfl (by decide) (fun u H locs hV4 => ?_)
  have hV4 : kV E A s.heap H locs [(a0, .inr (11, [w0_0, w0_1, w0_2, w0_3, w0_4, w0_5, w0_6, w0_7, .ref a1])), (a1, .inr (1, [.ref a4, .ref a3, .ref a2, .int s_lots_unseen])), (a2, .inl (E.2 0, 287, .inl s_lots_best)), (a3, .inl (E.2 0, 6, .inl s_lots_chosen)), (a4, .inl (E.2 0, 40, .inl s_lots_tens))] := hV4.sub [0, 1, 2, 3, 4] rfl rfl
  clear hV
  have J42 : ∀ (t0_6 : Int32) (H : Heap) (locs : List Loc) (ls : Array Slot), (f_X11_pen_J42 s_lots_unseen s_lots_best s_lots_chosen s_lots_tens p1 p2 p3 ) t0_6 = some (r, o_lots_unseen, o_lots_best, o_lots_chosen) → kV E A s.heap H locs [(a0, .inr (11, [w0_0, w0_1, w0_2, w0_3, w0_4, w0_5, w0_6, w0_7, .ref a1])), (a1, .inr (1, [.ref a4, .ref a3, .ref a2, .int s_lots_unseen])), (a2, .inl (E.2 0, 287, .inl s_lots_best)), (a3, .inl (E.2 0, 6, .inl s_lots_chosen)), (a4, .inl (E.2 0, 40, .inl s_lots_tens))] → lv_has ls 5 [(0, .ref a0), (1, .int p1), (2, .int p2), (3, .int p3)] → W p l e r_X11_pen s m args below meth c H locs 0 0 Q (F0 m 42 ls [.int t0_6]) := by
    intro t0_6 H locs ls hB42 hVB42 hlB42
    rw [f_X11_pen_J42] at hB42
    refine lv_istore (lv' := [(4, .int t0_6), (0, .ref a0), (1, .int p1), (2, .int p2), (3, .int p3)]) hx hb dX11_pen_42 hlB42 (by decide) rfl (fun ls hl7 => ?_)
    clear hlB42
    refine lv_iload hx hb dX11_pen_44 (lv_at hl7 0 rfl) ?_
    refine lv_if_eq (tgt := 59) hx hb dX11_pen_46 (by decide) (fun c8 => ?_) (fun c8 => ?_)
    · have h9 := itS c8 hB42
      clear hB42 c8
      refine lv_iconst (v := (-1)) hx hb dX11_pen_59 (by decide) ?_
      obtain ⟨q11, q12, q13, q14⟩ := tup4_s h9
      clear h9
      exact hret _ () _ _ _ _ q11 rfl (by rw [← q12, ← q13, ← q14]; exact hVB42) dX11_pen_60
    · have h10 := ieS c8 hB42
      clear hB42 c8
      refine lv_iload_n hx hb dX11_pen_49 rfl (lv_at hl7 2 rfl) ?_
      refine lv_iconst (v := 1) hx hb dX11_pen_50 (by decide) ?_
      refine lv_isub hx hb dX11_pen_51 ?_
      refine lv_iload_n hx hb dX11_pen_52 rfl (lv_at hl7 3 rfl) ?_
      refine lv_imul hx hb dX11_pen_53 ?_
      refine lv_bipush (v := 40) hx hb dX11_pen_54 (by decide) ?_
      refine lv_icmp_lt (tgt := 61) hx hb dX11_pen_56 (by decide) (fun c15 => ?_) (fun c15 => ?_)
      · have h16 := itS c15 h10
        clear h10 c15
        refine lv_aload_n hx hb dX11_pen_61 rfl (lv_at hl7 1 rfl) ?_
        refine kget X hVB42 (ci := 11) inlX11 rfl 0 rfl 8 (by decide) mw_45 rfl dX11_pen_62 ?_
        refine lv_iload_n hx hb dX11_pen_65 rfl (lv_at hl7 2 rfl) ?_
        refine lv_iload_n hx hb dX11_pen_66 rfl (lv_at hl7 3 rfl) ?_
        obtain ⟨o_unseen67_18, o_best67_19, o_chosen67_20, hc21, h22⟩ := cb3_s h16
        clear h16
        refine kgov (krunV (rest := []) X hVB42 [1, 2, 3, 4] (c_X1_choose l E _ a1 a2 a3 a4 s_lots_unseen s_lots_best s_lots_chosen s_lots_tens p1 p2 o_unseen67_18 o_best67_19 o_chosen67_20 hc21) mw_1229 kb_X1_choose (ci := 1) rfl rfl (by decide) rfl rfl hl7.1 rfl (Nat.le_of_ble_eq_true rfl) dX11_pen_67 (by decide)) X hVB42 [1, 2, 3, 4] [0] rfl rfl rfl (by decide) (fun u H locs hp24 hV23 => ?_)
        have hV23 : kV E A s.heap H locs [(a0, .inr (11, [w0_0, w0_1, w0_2, w0_3, w0_4, w0_5, w0_6, w0_7, .ref a1])), (a1, .inr (1, [.ref a4, .ref a3, .ref a2, .int o_unseen67_18])), (a2, .inl (E.2 0, 287, .inl o_best67_19)), (a3, .inl (E.2 0, 6, .inl o_chosen67_20)), (a4, .inl (E.2 0, 40, .inl s_lots_tens))] := hV23.sub [0, 1, 2, 3, 4] rfl rfl
        clear hVB42
        refine lv_iload_n hx hb dX11_pen_70 rfl (lv_at hl7 4 rfl) ?_
        refine lv_bipush (v := 6) hx hb dX11_pen_71 (by decide) ?_
        refine lv_icmp_ne (tgt := 86) hx hb dX11_pen_73 (by decide) (fun c25 => ?_) (fun c25 => ?_)
        · have h26 := ieS c25 h22
          clear h22 c25
          refine lv_aload_n hx hb dX11_pen_86 rfl (lv_at hl7 1 rfl) ?_
          refine kget X hV23 (ci := 11) inlX11 rfl 0 rfl 8 (by decide) mw_45 rfl dX11_pen_87 ?_
          refine kget X hV23 (ci := 1) inlX1 rfl 1 rfl 1 (by decide) mw_1228 rfl dX11_pen_90 ?_
          refine lv_iload_n hx hb dX11_pen_93 rfl (lv_at hl7 4 rfl) ?_
          obtain ⟨hi29, v94_28, e30, h31⟩ := rdI_s h26
          clear h26
          refine kiald X hV23 3 rfl hi29 e30 dX11_pen_94 ?_
          clear hi29 e30
          obtain ⟨q32, q33, q34, q35⟩ := tup4_s h31
          clear h31
          exact hret _ () _ _ _ _ q32 rfl (by rw [← q33, ← q34, ← q35]; exact hV23) dX11_pen_95
        · have h27 := itS c25 h22
          clear h22 c25
          refine lv_aload_n hx hb dX11_pen_76 rfl (lv_at hl7 1 rfl) ?_
          refine kget X hV23 (ci := 11) inlX11 rfl 0 rfl 8 (by decide) mw_45 rfl dX11_pen_77 ?_
          refine kget X hV23 (ci := 1) inlX1 rfl 1 rfl 3 (by decide) mw_1227 rfl dX11_pen_80 ?_
          refine lv_goto (tgt := 95) hx hb dX11_pen_83 (by decide) ?_
          obtain ⟨q36, q37, q38, q39⟩ := tup4_s h27
          clear h27
          exact hret _ () _ _ _ _ q36 rfl (by rw [← q37, ← q38, ← q39]; exact hV23) dX11_pen_95
      · have h17 := ieS c15 h10
        clear h10 c15
        refine lv_iconst (v := (-1)) hx hb dX11_pen_59 (by decide) ?_
        obtain ⟨q40, q41, q42, q43⟩ := tup4_s h17
        clear h17
        exact hret _ () _ _ _ _ q40 rfl (by rw [← q41, ← q42, ← q43]; exact hVB42) dX11_pen_60
  refine lv_if_eq (tgt := 41) hx hb dX11_pen_7 (by decide) (fun c44 => ?_) (fun c44 => ?_)
  · have h45 := itS c44 h3
    clear h3 c44
    refine lv_iconst (v := 0) hx hb dX11_pen_41 (by decide) ?_
    exact J42 0 _ _ _ h45 hV4 (lv_sub hl [0, 1, 2, 3] rfl)
  · have h46 := ieS c44 h3
    clear h3 c44
    refine lv_iload_n hx hb dX11_pen_10 rfl (lv_at hl 2 rfl) ?_
    refine lv_iconst (v := 1) hx hb dX11_pen_11 (by decide) ?_
    refine lv_bipush (v := 10) hx hb dX11_pen_12 (by decide) ?_
    obtain ⟨r14_47, hc48, h49⟩ := cb1_s h46
    clear h46
    refine kgoiE (krunS (rest := []) X hV4 [] (c_X11_isWithin l E _ p2 1 10 r14_47 hc48) mw_187 kb_X11_isWithin (by decide) rfl rfl hl.1 rfl (Nat.le_of_ble_eq_true rfl) dX11_pen_14 (by decide)) X hV4 [] [0, 1, 2, 3, 4] rfl rfl rfl (by decide) (fun u H locs hV50 => ?_)
    have hV50 : kV E A s.heap H locs [(a0, .inr (11, [w0_0, w0_1, w0_2, w0_3, w0_4, w0_5, w0_6, w0_7, .ref a1])), (a1, .inr (1, [.ref a4, .ref a3, .ref a2, .int s_lots_unseen])), (a2, .inl (E.2 0, 287, .inl s_lots_best)), (a3, .inl (E.2 0, 6, .inl s_lots_chosen)), (a4, .inl (E.2 0, 40, .inl s_lots_tens))] := hV50.sub [0, 1, 2, 3, 4] rfl rfl
    clear hV4
    refine lv_if_eq (tgt := 41) hx hb dX11_pen_17 (by decide) (fun c52 => ?_) (fun c52 => ?_)
    · have h53 := itS c52 h49
      clear h49 c52
      refine lv_iconst (v := 0) hx hb dX11_pen_41 (by decide) ?_
      exact J42 0 _ _ _ h53 hV50 (lv_sub hl [0, 1, 2, 3] rfl)
    · have h54 := ieS c52 h49
      clear h49 c52
      refine lv_iload_n hx hb dX11_pen_20 rfl (lv_at hl 3 rfl) ?_
      refine lv_bipush (v := 6) hx hb dX11_pen_21 (by decide) ?_
      refine lv_icmp_eq (tgt := 37) hx hb dX11_pen_23 (by decide) (fun c55 => ?_) (fun c55 => ?_)
      · have h56 := itS c55 h54
        clear h54 c55
        refine lv_iconst (v := 1) hx hb dX11_pen_37 (by decide) ?_
        refine lv_goto (tgt := 42) hx hb dX11_pen_38 (by decide) ?_
        exact J42 1 _ _ _ h56 hV50 (lv_sub hl [0, 1, 2, 3] rfl)
      · have h57 := ieS c55 h54
        clear h54 c55
        refine lv_iload_n hx hb dX11_pen_26 rfl (lv_at hl 3 rfl) ?_
        refine lv_iconst (v := 0) hx hb dX11_pen_27 (by decide) ?_
        refine lv_iload_n hx hb dX11_pen_28 rfl (lv_at hl 1 rfl) ?_
        refine lv_iconst (v := 1) hx hb dX11_pen_29 (by decide) ?_
        refine lv_isub hx hb dX11_pen_30 ?_
        obtain ⟨r31_58, hc59, h60⟩ := cb1_s h57
        clear h57
        refine kgoiE (krunS (rest := []) X hV50 [] (c_X11_isWithin l E _ p3 0 (p1 - 1) r31_58 hc59) mw_187 kb_X11_isWithin (by decide) rfl rfl hl.1 rfl (Nat.le_of_ble_eq_true rfl) dX11_pen_31 (by decide)) X hV50 [] [0, 1, 2, 3, 4] rfl rfl rfl (by decide) (fun u H locs hV61 => ?_)
        have hV61 : kV E A s.heap H locs [(a0, .inr (11, [w0_0, w0_1, w0_2, w0_3, w0_4, w0_5, w0_6, w0_7, .ref a1])), (a1, .inr (1, [.ref a4, .ref a3, .ref a2, .int s_lots_unseen])), (a2, .inl (E.2 0, 287, .inl s_lots_best)), (a3, .inl (E.2 0, 6, .inl s_lots_chosen)), (a4, .inl (E.2 0, 40, .inl s_lots_tens))] := hV61.sub [0, 1, 2, 3, 4] rfl rfl
        clear hV50
        refine lv_if_eq (tgt := 41) hx hb dX11_pen_34 (by decide) (fun c63 => ?_) (fun c63 => ?_)
        · have h64 := itS c63 h60
          clear h60 c63
          refine lv_iconst (v := 0) hx hb dX11_pen_41 (by decide) ?_
          exact J42 0 _ _ _ h64 hV61 (lv_sub hl [0, 1, 2, 3] rfl)
        · have h65 := ieS c63 h60
          clear h60 c63
          refine lv_iconst (v := 1) hx hb dX11_pen_37 (by decide) ?_
          refine lv_goto (tgt := 42) hx hb dX11_pen_38 (by decide) ?_
          exact J42 1 _ _ _ h65 hV61 (lv_sub hl [0, 1, 2, 3] rfl)
noncomputable def f_X11_odds (p1 : Int32) (p2 : Int32) (p3 : Int32) (p4 : Int32) (p5 : Int32) : Option (Int64) :=
    cb1 (f_X11_isLook p1 p2 p3) fun r3_1 =>
    if r3_1 = 0 then
    (some ((-1)))
    else
    (cb1 (f_X11_isWithin p4 ((p1 + p2) - p3) 40) fun r18_10 =>
      if r18_10 = 0 then
      (some ((-1)))
      else
      (cb1 (f_X11_isWithin p5 0 1) fun r28_19 =>
        if r28_19 = 0 then
        (some ((-1)))
        else
        (cb1 (f_X1_drawsWith p1 p2 p3 p4) fun r43_27 =>
          cb1 (f_X1_choices p4 p2) fun r51_33 =>
          cb1 (f_X1_commonDivisor r43_27 r51_33) fun r60_39 =>
          if p5 = 0 then
          (dvL r60_39 <|
            some ((r43_27 / r60_39)))
          else
          (dvL r60_39 <|
            some ((r51_33 / r60_39))))))
abbrev r_X11_odds : Room := { frames := 2, cells := 0, slots := 0, locals := 53 }
set_option maxHeartbeats 4000000 in
set_option maxRecDepth 100000 in
theorem c_X11_odds (l : Launch) (E : kE) (sz : Nat) (a0 : Nat) (w0_0 w0_1 w0_2 w0_3 w0_4 w0_5 w0_6 w0_7 w0_8 : Value) (p1 : Int32) (p2 : Int32) (p3 : Int32) (p4 : Int32) (p5 : Int32) (r : Int64) (h : f_X11_odds p1 p2 p3 p4 p5 = some (r)) : kMl l yX11_odds cX11_odds 12 (some .long) r_X11_odds [.ref a0, .int p1, .int p2, .int p3, .int p4, .int p5] E [(a0, .inr (11, [w0_0, w0_1, w0_2, w0_3, w0_4, w0_5, w0_6, w0_7, w0_8]))] sz 0 0 (fun x (_ : Unit) => x = r) (fun _ => [(a0, .inr (11, [w0_0, w0_1, w0_2, w0_3, w0_4, w0_5, w0_6, w0_7, w0_8]))]) := by
  refine kmetl rfl (Nat.le_of_ble_eq_true rfl) ?_
  intro p e s m args below meth c ls A Q X hV hret hl
  have X : kC p s m c cX11_odds 12 RX11 args E A := X
  have hx := X.1
  have hb := X.2.1
  have hl : lv_has ls 12 [(0, .ref a0), (1, .int p1), (2, .int p2), (3, .int p3), (4, .int p4), (5, .int p5)] := hl
  rw [f_X11_odds] at h
  refine lv_iload_n hx hb dX11_odds_0 rfl (lv_at hl 1 rfl) ?_
  refine lv_iload_n hx hb dX11_odds_1 rfl (lv_at hl 2 rfl) ?_
  refine lv_iload_n hx hb dX11_odds_2 rfl (lv_at hl 3 rfl) ?_
  obtain ⟨r3_1, hc2, h3⟩ := cb1_s h
  clear h
  refine kgoiE (krunS (rest := []) X hV [] (c_X11_isLook l E _ p1 p2 p3 r3_1 hc2) mw_1260 kb_X11_isLook (by decide) rfl rfl hl.1 rfl (Nat.le_of_ble_eq_true rfl) dX11_odds_3 (by decide)) X hV [] [0] rfl rfl rfl (by decide) (fun u H locs hV4 => ?_)
  have hV4 : kV E A s.heap H locs [(a0, .inr (11, [w0_0, w0_1, w0_2, w0_3, w0_4, w0_5, w0_6, w0_7, w0_8]))] := hV4.sub [0] rfl rfl
  clear hV
  refine lv_if_eq (tgt := 34) hx hb dX11_odds_6 (by decide) (fun c6 => ?_) (fun c6 => ?_)
  · have h7 := itS c6 h3
    clear h3 c6
    refine lv_ldc2 (v := (-1)) hx hb X.2.2.2.1 (X.2.2.2.2.1 _ mw_1259) dX11_odds_34 ?_
    have q9 := tup1_s h7
    clear h7
    exact hret _ () _ _ _ _ q9 hV4 dX11_odds_37
  · have h8 := ieS c6 h3
    clear h3 c6
    refine lv_iload hx hb dX11_odds_9 (lv_at hl 4 rfl) ?_
    refine lv_iload_n hx hb dX11_odds_11 rfl (lv_at hl 1 rfl) ?_
    refine lv_iload_n hx hb dX11_odds_12 rfl (lv_at hl 2 rfl) ?_
    refine lv_iadd hx hb dX11_odds_13 ?_
    refine lv_iload_n hx hb dX11_odds_14 rfl (lv_at hl 3 rfl) ?_
    refine lv_isub hx hb dX11_odds_15 ?_
    refine lv_bipush (v := 40) hx hb dX11_odds_16 (by decide) ?_
    obtain ⟨r18_10, hc11, h12⟩ := cb1_s h8
    clear h8
    refine kgoiE (krunS (rest := []) X hV4 [] (c_X11_isWithin l E _ p4 ((p1 + p2) - p3) 40 r18_10 hc11) mw_187 kb_X11_isWithin (by decide) rfl rfl hl.1 rfl (Nat.le_of_ble_eq_true rfl) dX11_odds_18 (by decide)) X hV4 [] [0] rfl rfl rfl (by decide) (fun u H locs hV13 => ?_)
    have hV13 : kV E A s.heap H locs [(a0, .inr (11, [w0_0, w0_1, w0_2, w0_3, w0_4, w0_5, w0_6, w0_7, w0_8]))] := hV13.sub [0] rfl rfl
    clear hV4
    refine lv_if_eq (tgt := 34) hx hb dX11_odds_21 (by decide) (fun c15 => ?_) (fun c15 => ?_)
    · have h16 := itS c15 h12
      clear h12 c15
      refine lv_ldc2 (v := (-1)) hx hb X.2.2.2.1 (X.2.2.2.2.1 _ mw_1259) dX11_odds_34 ?_
      have q18 := tup1_s h16
      clear h16
      exact hret _ () _ _ _ _ q18 hV13 dX11_odds_37
    · have h17 := ieS c15 h12
      clear h12 c15
      refine lv_iload hx hb dX11_odds_24 (lv_at hl 5 rfl) ?_
      refine lv_iconst (v := 0) hx hb dX11_odds_26 (by decide) ?_
      refine lv_iconst (v := 1) hx hb dX11_odds_27 (by decide) ?_
      obtain ⟨r28_19, hc20, h21⟩ := cb1_s h17
      clear h17
      refine kgoiE (krunS (rest := []) X hV13 [] (c_X11_isWithin l E _ p5 0 1 r28_19 hc20) mw_187 kb_X11_isWithin (by decide) rfl rfl hl.1 rfl (Nat.le_of_ble_eq_true rfl) dX11_odds_28 (by decide)) X hV13 [] [0] rfl rfl rfl (by decide) (fun u H locs hV22 => ?_)
      have hV22 : kV E A s.heap H locs [(a0, .inr (11, [w0_0, w0_1, w0_2, w0_3, w0_4, w0_5, w0_6, w0_7, w0_8]))] := hV22.sub [0] rfl rfl
      clear hV13
      refine lv_if_ne (tgt := 38) hx hb dX11_odds_31 (by decide) (fun c24 => ?_) (fun c24 => ?_)
      · have h25 := ieS c24 h21
        clear h21 c24
        refine lv_iload_n hx hb dX11_odds_38 rfl (lv_at hl 1 rfl) ?_
        refine lv_iload_n hx hb dX11_odds_39 rfl (lv_at hl 2 rfl) ?_
        refine lv_iload_n hx hb dX11_odds_40 rfl (lv_at hl 3 rfl) ?_
        refine lv_iload hx hb dX11_odds_41 (lv_at hl 4 rfl) ?_
        obtain ⟨r43_27, hc28, h29⟩ := cb1_s h25
        clear h25
        refine kgolE (krunS (rest := []) X hV22 [] (c_X1_drawsWith l E _ p1 p2 p3 p4 r43_27 hc28) mw_1263 kb_X1_drawsWith (by decide) rfl rfl hl.1 rfl (Nat.le_of_ble_eq_true rfl) dX11_odds_43 (by decide)) X hV22 [] [0] rfl rfl rfl (by decide) (fun u H locs hV30 => ?_)
        have hV30 : kV E A s.heap H locs [(a0, .inr (11, [w0_0, w0_1, w0_2, w0_3, w0_4, w0_5, w0_6, w0_7, w0_8]))] := hV30.sub [0] rfl rfl
        clear hV22
        refine lv_lstore (lv' := [(6, .long r43_27), (0, .ref a0), (1, .int p1), (2, .int p2), (3, .int p3), (4, .int p4), (5, .int p5)]) hx hb dX11_odds_46 hl (by decide) rfl (fun ls hl32 => ?_)
        clear hl
        refine lv_iload hx hb dX11_odds_48 (lv_at hl32 5 rfl) ?_
        refine lv_iload_n hx hb dX11_odds_50 rfl (lv_at hl32 3 rfl) ?_
        obtain ⟨r51_33, hc34, h35⟩ := cb1_s h29
        clear h29
        refine kgolE (krunS (rest := []) X hV30 [] (c_X1_choices l E _ p4 p2 r51_33 hc34) mw_1269 kb_X1_choices (by decide) rfl rfl hl32.1 rfl (Nat.le_of_ble_eq_true rfl) dX11_odds_51 (by decide)) X hV30 [] [0] rfl rfl rfl (by decide) (fun u H locs hV36 => ?_)
        have hV36 : kV E A s.heap H locs [(a0, .inr (11, [w0_0, w0_1, w0_2, w0_3, w0_4, w0_5, w0_6, w0_7, w0_8]))] := hV36.sub [0] rfl rfl
        clear hV30
        refine lv_lstore (lv' := [(8, .long r51_33), (6, .long r43_27), (0, .ref a0), (1, .int p1), (2, .int p2), (3, .int p3), (4, .int p4), (5, .int p5)]) hx hb dX11_odds_54 hl32 (by decide) rfl (fun ls hl38 => ?_)
        clear hl32
        refine lv_lload hx hb dX11_odds_56 (lv_at hl38 1 rfl) ?_
        refine lv_lload hx hb dX11_odds_58 (lv_at hl38 0 rfl) ?_
        obtain ⟨r60_39, hc40, h41⟩ := cb1_s h35
        clear h35
        refine kgolE (krunS (rest := []) X hV36 [] (c_X1_commonDivisor l E _ r43_27 r51_33 r60_39 hc40) mw_1270 kb_X1_commonDivisor (by decide) rfl rfl hl38.1 rfl (Nat.le_of_ble_eq_true rfl) dX11_odds_60 (by decide)) X hV36 [] [0] rfl rfl rfl (by decide) (fun u H locs hV42 => ?_)
        have hV42 : kV E A s.heap H locs [(a0, .inr (11, [w0_0, w0_1, w0_2, w0_3, w0_4, w0_5, w0_6, w0_7, w0_8]))] := hV42.sub [0] rfl rfl
        clear hV36
        refine lv_lstore (lv' := [(10, .long r60_39), (8, .long r51_33), (6, .long r43_27), (0, .ref a0), (1, .int p1), (2, .int p2), (3, .int p3), (4, .int p4), (5, .int p5)]) hx hb dX11_odds_63 hl38 (by decide) rfl (fun ls hl44 => ?_)
        clear hl38
        refine lv_iload hx hb dX11_odds_65 (lv_at hl44 8 rfl) ?_
        refine lv_if_ne (tgt := 75) hx hb dX11_odds_67 (by decide) (fun c45 => ?_) (fun c45 => ?_)
        · have h46 := ieS c45 h41
          clear h41 c45
          refine lv_lload hx hb dX11_odds_75 (lv_at hl44 1 rfl) ?_
          refine lv_lload hx hb dX11_odds_77 (lv_at hl44 0 rfl) ?_
          obtain ⟨hn48, h49⟩ := dvL_s h46
          clear h46
          refine lv_ldiv hx hb dX11_odds_79 hn48 ?_
          have q50 := tup1_s h49
          clear h49
          exact hret _ () _ _ _ _ q50 hV42 dX11_odds_80
        · have h47 := itS c45 h41
          clear h41 c45
          refine lv_lload hx hb dX11_odds_70 (lv_at hl44 2 rfl) ?_
          refine lv_goto (tgt := 77) hx hb dX11_odds_72 (by decide) ?_
          refine lv_lload hx hb dX11_odds_77 (lv_at hl44 0 rfl) ?_
          obtain ⟨hn51, h52⟩ := dvL_s h47
          clear h47
          refine lv_ldiv hx hb dX11_odds_79 hn51 ?_
          have q53 := tup1_s h52
          clear h52
          exact hret _ () _ _ _ _ q53 hV42 dX11_odds_80
      · have h26 := itS c24 h21
        clear h21 c24
        refine lv_ldc2 (v := (-1)) hx hb X.2.2.2.1 (X.2.2.2.2.1 _ mw_1259) dX11_odds_34 ?_
        have q54 := tup1_s h26
        clear h26
        exact hret _ () _ _ _ _ q54 hV22 dX11_odds_37
noncomputable def f_X11_more_L44 (p1 : Int32) (p2 : Int32) (p3 : Int32) (p4 : Int32) (p5 : Int32)  : Nat → Int32 → Int32 → Option (Int32)
  | 0, _, _ => none
  | n44 + 1, x6_32, x7_33 =>
    if 40 < x7_33 then
    (some (x6_32))
    else
    (cb1 (f_X1_drawsWith p1 p2 p3 x7_33) fun r56_38 =>
      cb1 (f_X1_choices x7_33 p2) fun r66_43 =>
      if (lg_cmp (r56_38 * 1000) (r66_43 * (Int32.toInt64 p4))) < 0 then
      (nmI (x7_33 + 1) fun v89_51 =>
        (f_X11_more_L44 p1 p2 p3 p4 p5  n44) x6_32 v89_51)
      else
      (if p5 = 0 then
        (some (x7_33))
        else
        (nmI (x7_33 + 1) fun v89_59 =>
          (f_X11_more_L44 p1 p2 p3 p4 p5  n44) x7_33 v89_59)))
noncomputable def f_X11_more (p1 : Int32) (p2 : Int32) (p3 : Int32) (p4 : Int32) (p5 : Int32) : Option (Int32) :=
    cb1 (f_X11_isLook p1 p2 p3) fun r3_1 =>
    if r3_1 = 0 then
    (some ((-1)))
    else
    (cb1 (f_X11_isWithin p4 1 1000) fun r15_10 =>
      if r15_10 = 0 then
      (some ((-1)))
      else
      (cb1 (f_X11_isWithin p5 0 1) fun r25_19 =>
        if r25_19 = 0 then
        (some ((-1)))
        else
        (nmI ((p1 + p2) - p3) fun v42_28 =>
          (f_X11_more_L44 p1 p2 p3 p4 p5  FU) (-2) v42_28)))
abbrev r_X11_more : Room := { frames := 2, cells := 0, slots := 0, locals := 47 }
set_option maxHeartbeats 4000000 in
set_option maxRecDepth 100000 in
theorem c_X11_more (l : Launch) (E : kE) (sz : Nat) (a0 : Nat) (w0_0 w0_1 w0_2 w0_3 w0_4 w0_5 w0_6 w0_7 w0_8 : Value) (p1 : Int32) (p2 : Int32) (p3 : Int32) (p4 : Int32) (p5 : Int32) (r : Int32) (h : f_X11_more p1 p2 p3 p4 p5 = some (r)) : kMi l yX11_more cX11_more 8 (some .int) r_X11_more [.ref a0, .int p1, .int p2, .int p3, .int p4, .int p5] E [(a0, .inr (11, [w0_0, w0_1, w0_2, w0_3, w0_4, w0_5, w0_6, w0_7, w0_8]))] sz 0 0 (fun x (_ : Unit) => x = r) (fun _ => [(a0, .inr (11, [w0_0, w0_1, w0_2, w0_3, w0_4, w0_5, w0_6, w0_7, w0_8]))]) := by
  refine kmeti rfl (Nat.le_of_ble_eq_true rfl) ?_
  intro p e s m args below meth c ls A Q X hV hret hl
  have X : kC p s m c cX11_more 8 RX11 args E A := X
  have hx := X.1
  have hb := X.2.1
  have hl : lv_has ls 8 [(0, .ref a0), (1, .int p1), (2, .int p2), (3, .int p3), (4, .int p4), (5, .int p5)] := hl
  rw [f_X11_more] at h
  refine lv_iload_n hx hb dX11_more_0 rfl (lv_at hl 1 rfl) ?_
  refine lv_iload_n hx hb dX11_more_1 rfl (lv_at hl 2 rfl) ?_
  refine lv_iload_n hx hb dX11_more_2 rfl (lv_at hl 3 rfl) ?_
  obtain ⟨r3_1, hc2, h3⟩ := cb1_s h
  clear h
  refine kgoiE (krunS (rest := []) X hV [] (c_X11_isLook l E _ p1 p2 p3 r3_1 hc2) mw_1260 kb_X11_isLook (by decide) rfl rfl hl.1 rfl (Nat.le_of_ble_eq_true rfl) dX11_more_3 (by decide)) X hV [] [0] rfl rfl rfl (by decide) (fun u H locs hV4 => ?_)
  have hV4 : kV E A s.heap H locs [(a0, .inr (11, [w0_0, w0_1, w0_2, w0_3, w0_4, w0_5, w0_6, w0_7, w0_8]))] := hV4.sub [0] rfl rfl
  clear hV
  refine lv_if_eq (tgt := 31) hx hb dX11_more_6 (by decide) (fun c6 => ?_) (fun c6 => ?_)
  · have h7 := itS c6 h3
    clear h3 c6
    refine lv_iconst (v := (-1)) hx hb dX11_more_31 (by decide) ?_
    have q9 := tup1_s h7
    clear h7
    exact hret _ () _ _ _ _ q9 rfl hV4 dX11_more_32
  · have h8 := ieS c6 h3
    clear h3 c6
    refine lv_iload hx hb dX11_more_9 (lv_at hl 4 rfl) ?_
    refine lv_iconst (v := 1) hx hb dX11_more_11 (by decide) ?_
    refine lv_sipush (v := 1000) hx hb dX11_more_12 (by decide) ?_
    obtain ⟨r15_10, hc11, h12⟩ := cb1_s h8
    clear h8
    refine kgoiE (krunS (rest := []) X hV4 [] (c_X11_isWithin l E _ p4 1 1000 r15_10 hc11) mw_187 kb_X11_isWithin (by decide) rfl rfl hl.1 rfl (Nat.le_of_ble_eq_true rfl) dX11_more_15 (by decide)) X hV4 [] [0] rfl rfl rfl (by decide) (fun u H locs hV13 => ?_)
    have hV13 : kV E A s.heap H locs [(a0, .inr (11, [w0_0, w0_1, w0_2, w0_3, w0_4, w0_5, w0_6, w0_7, w0_8]))] := hV13.sub [0] rfl rfl
    clear hV4
    refine lv_if_eq (tgt := 31) hx hb dX11_more_18 (by decide) (fun c15 => ?_) (fun c15 => ?_)
    · have h16 := itS c15 h12
      clear h12 c15
      refine lv_iconst (v := (-1)) hx hb dX11_more_31 (by decide) ?_
      have q18 := tup1_s h16
      clear h16
      exact hret _ () _ _ _ _ q18 rfl hV13 dX11_more_32
    · have h17 := ieS c15 h12
      clear h12 c15
      refine lv_iload hx hb dX11_more_21 (lv_at hl 5 rfl) ?_
      refine lv_iconst (v := 0) hx hb dX11_more_23 (by decide) ?_
      refine lv_iconst (v := 1) hx hb dX11_more_24 (by decide) ?_
      obtain ⟨r25_19, hc20, h21⟩ := cb1_s h17
      clear h17
      refine kgoiE (krunS (rest := []) X hV13 [] (c_X11_isWithin l E _ p5 0 1 r25_19 hc20) mw_187 kb_X11_isWithin (by decide) rfl rfl hl.1 rfl (Nat.le_of_ble_eq_true rfl) dX11_more_25 (by decide)) X hV13 [] [0] rfl rfl rfl (by decide) (fun u H locs hV22 => ?_)
      have hV22 : kV E A s.heap H locs [(a0, .inr (11, [w0_0, w0_1, w0_2, w0_3, w0_4, w0_5, w0_6, w0_7, w0_8]))] := hV22.sub [0] rfl rfl
      clear hV13
      refine lv_if_ne (tgt := 33) hx hb dX11_more_28 (by decide) (fun c24 => ?_) (fun c24 => ?_)
      · have h25 := ieS c24 h21
        clear h21 c24
        refine lv_bipush (v := (-2)) hx hb dX11_more_33 (by decide) ?_
        refine lv_istore (lv' := [(6, .int (-2)), (0, .ref a0), (1, .int p1), (2, .int p2), (3, .int p3), (4, .int p4), (5, .int p5)]) hx hb dX11_more_35 hl (by decide) rfl (fun ls hl27 => ?_)
        clear hl
        refine lv_iload_n hx hb dX11_more_37 rfl (lv_at hl27 2 rfl) ?_
        refine lv_iload_n hx hb dX11_more_38 rfl (lv_at hl27 3 rfl) ?_
        refine lv_iadd hx hb dX11_more_39 ?_
        refine lv_iload_n hx hb dX11_more_40 rfl (lv_at hl27 4 rfl) ?_
        refine lv_isub hx hb dX11_more_41 ?_
        obtain ⟨v42_28, e29, h30⟩ := nmI_s h25
        clear h25
        refine ktopi e29 ?_
        clear e29
        refine lv_istore (lv' := [(7, .int v42_28), (6, .int (-2)), (0, .ref a0), (1, .int p1), (2, .int p2), (3, .int p3), (4, .int p4), (5, .int p5)]) hx hb dX11_more_42 hl27 (by decide) rfl (fun ls hl31 => ?_)
        clear hl27
        have L44 : ∀ (n44 : Nat) (x6_32 : Int32) (x7_33 : Int32) (H : Heap) (locs : List Loc) (ls : Array Slot), (f_X11_more_L44 p1 p2 p3 p4 p5  n44) x6_32 x7_33 = some (r) → kV E A s.heap H locs [(a0, .inr (11, [w0_0, w0_1, w0_2, w0_3, w0_4, w0_5, w0_6, w0_7, w0_8]))] → lv_has ls 8 [(1, .int p1), (2, .int p2), (3, .int p3), (4, .int p4), (5, .int p5), (6, .int x6_32), (7, .int x7_33)] → W p l e r_X11_more s m args below meth c H locs 0 0 Q (F0 m 44 ls []) := by
          intro n44
          induction n44 with
          | zero =>
            intro x6_32 x7_33 H locs ls hB44 hVB44 hlB44
            rw [f_X11_more_L44] at hB44
            exact nomatch hB44
          | succ n44 ih44 =>
            intro x6_32 x7_33 H locs ls hB44 hVB44 hlB44
            rw [f_X11_more_L44] at hB44
            refine lv_iload hx hb dX11_more_44 (lv_at hlB44 6 rfl) ?_
            refine lv_bipush (v := 40) hx hb dX11_more_46 (by decide) ?_
            refine lv_icmp_gt (tgt := 95) hx hb dX11_more_48 (by decide) (fun c34 => ?_) (fun c34 => ?_)
            · have h35 := itS c34 hB44
              clear hB44 c34
              refine lv_iload hx hb dX11_more_95 (lv_at hlB44 5 rfl) ?_
              have q37 := tup1_s h35
              clear h35
              exact hret _ () _ _ _ _ q37 rfl hVB44 dX11_more_97
            · have h36 := ieS c34 hB44
              clear hB44 c34
              refine lv_iload_n hx hb dX11_more_51 rfl (lv_at hlB44 0 rfl) ?_
              refine lv_iload_n hx hb dX11_more_52 rfl (lv_at hlB44 1 rfl) ?_
              refine lv_iload_n hx hb dX11_more_53 rfl (lv_at hlB44 2 rfl) ?_
              refine lv_iload hx hb dX11_more_54 (lv_at hlB44 6 rfl) ?_
              obtain ⟨r56_38, hc39, h40⟩ := cb1_s h36
              clear h36
              refine kgolE (krunS (rest := []) X hVB44 [] (c_X1_drawsWith l E _ p1 p2 p3 x7_33 r56_38 hc39) mw_1263 kb_X1_drawsWith (by decide) rfl rfl hlB44.1 rfl (Nat.le_of_ble_eq_true rfl) dX11_more_56 (by decide)) X hVB44 [] [0] rfl rfl rfl (by decide) (fun u H locs hV41 => ?_)
              have hV41 : kV E A s.heap H locs [(a0, .inr (11, [w0_0, w0_1, w0_2, w0_3, w0_4, w0_5, w0_6, w0_7, w0_8]))] := hV41.sub [0] rfl rfl
              clear hVB44
              refine lv_ldc2 (v := 1000) hx hb X.2.2.2.1 (X.2.2.2.2.1 _ mw_1299) dX11_more_59 ?_
              refine lv_lmul hx hb dX11_more_62 ?_
              refine lv_iload hx hb dX11_more_63 (lv_at hlB44 6 rfl) ?_
              refine lv_iload_n hx hb dX11_more_65 rfl (lv_at hlB44 1 rfl) ?_
              obtain ⟨r66_43, hc44, h45⟩ := cb1_s h40
              clear h40
              refine kgolE (krunS (rest := [.long (r56_38 * 1000)]) X hV41 [] (c_X1_choices l E _ x7_33 p2 r66_43 hc44) mw_1269 kb_X1_choices (by decide) rfl rfl hlB44.1 rfl (Nat.le_of_ble_eq_true rfl) dX11_more_66 (by decide)) X hV41 [] [0] rfl rfl rfl (by decide) (fun u H locs hV46 => ?_)
              have hV46 : kV E A s.heap H locs [(a0, .inr (11, [w0_0, w0_1, w0_2, w0_3, w0_4, w0_5, w0_6, w0_7, w0_8]))] := hV46.sub [0] rfl rfl
              clear hV41
              refine lv_iload hx hb dX11_more_69 (lv_at hlB44 3 rfl) ?_
              refine lv_i2l (v := Int32.toInt64 p4) hx hb dX11_more_71 rfl ?_
              refine lv_lmul hx hb dX11_more_72 ?_
              refine W.lcmp hx hb dX11_more_73 ?_
              refine lv_if_lt (tgt := 89) hx hb dX11_more_74 (by decide) (fun c48 => ?_) (fun c48 => ?_)
              · have h49 := itS c48 h45
                clear h45 c48
                obtain ⟨v89_51, e52, h53⟩ := nmI_s h49
                clear h49
                refine lv_iinc (v := v89_51) (lv' := [(7, .int v89_51), (1, .int p1), (2, .int p2), (3, .int p3), (4, .int p4), (5, .int p5), (6, .int x6_32)]) hx hb dX11_more_89 hlB44 (k := 6) rfl (by rw [e52]; rfl) (by decide) rfl (fun ls hl54 => ?_)
                clear hlB44 e52
                refine lv_goto (tgt := 44) hx hb dX11_more_92 (by decide) ?_
                exact ih44 x6_32 v89_51 _ _ _ h53 hV46 (lv_sub hl54 [1, 2, 3, 4, 5, 6, 0] rfl)
              · have h50 := ieS c48 h45
                clear h45 c48
                refine lv_iload hx hb dX11_more_77 (lv_at hlB44 4 rfl) ?_
                refine lv_if_ne (tgt := 85) hx hb dX11_more_79 (by decide) (fun c55 => ?_) (fun c55 => ?_)
                · have h56 := ieS c55 h50
                  clear h50 c55
                  refine lv_iload hx hb dX11_more_85 (lv_at hlB44 6 rfl) ?_
                  refine lv_istore (lv' := [(6, .int x7_33), (1, .int p1), (2, .int p2), (3, .int p3), (4, .int p4), (5, .int p5), (7, .int x7_33)]) hx hb dX11_more_87 hlB44 (by decide) rfl (fun ls hl58 => ?_)
                  clear hlB44
                  obtain ⟨v89_59, e60, h61⟩ := nmI_s h56
                  clear h56
                  refine lv_iinc (v := v89_59) (lv' := [(7, .int v89_59), (6, .int x7_33), (1, .int p1), (2, .int p2), (3, .int p3), (4, .int p4), (5, .int p5)]) hx hb dX11_more_89 hl58 (k := 6) rfl (by rw [e60]; rfl) (by decide) rfl (fun ls hl62 => ?_)
                  clear hl58 e60
                  refine lv_goto (tgt := 44) hx hb dX11_more_92 (by decide) ?_
                  exact ih44 x7_33 v89_59 _ _ _ h61 hV46 (lv_sub hl62 [2, 3, 4, 5, 6, 1, 0] rfl)
                · have h57 := itS c55 h50
                  clear h50 c55
                  refine lv_iload hx hb dX11_more_82 (lv_at hlB44 6 rfl) ?_
                  have q63 := tup1_s h57
                  clear h57
                  exact hret _ () _ _ _ _ q63 rfl hV46 dX11_more_84
        exact L44 FU (-2) v42_28 _ _ _ h30 hV22 (lv_sub hl31 [3, 4, 5, 6, 7, 1, 0] rfl)
      · have h26 := itS c24 h21
        clear h21 c24
        refine lv_iconst (v := (-1)) hx hb dX11_more_31 (by decide) ?_
        have q64 := tup1_s h26
        clear h26
        exact hret _ () _ _ _ _ q64 rfl hV22 dX11_more_32
